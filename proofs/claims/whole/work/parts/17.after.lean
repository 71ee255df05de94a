/-! ===== what a PULL does ===== -/
theorem sd_sd (s : Int) (a b : Nat) : sd (sd s a) b = sd s (a + b) := by
  induction b with
  | zero => rw [sd_0]; rfl
  | succ b ih => rw [sd_succ, ih, ← sd_succ]; rfl
theorem sd_lt {s : Int} {n d : Nat} (h : s < p3 n) (hd : d ≤ n) : sd s d < p3 (n - d) := by
  unfold sd
  apply Int.ediv_lt_of_lt_mul (p3_pos d)
  have e : p3 (n - d) * p3 d = p3 n := by
    unfold p3
    rw [← Int.pow_add]
    congr 1
    omega
  rw [e]; exact h
theorem mv_eq (s : Int) (d : Nat) (v : Int) : mv s d v = s % p3 d + (3 * (sd s d / 3) + max 0 (min 2 (dg s d + v))) * p3 d := by
  have h1 : s % p3 d + p3 d * (s / p3 d) = s := Int.emod_add_mul_ediv s (p3 d)
  have h2 : dg s d + 3 * (sd s d / 3) = sd s d := Int.emod_add_mul_ediv (sd s d) 3
  have h3 : s / p3 d = sd s d := rfl
  unfold mv
  generalize max 0 (min 2 (dg s d + v)) = x
  rw [h3] at h1
  generalize dg s d = g at *
  generalize sd s d / 3 = k at *
  have h4 : sd s d = g + 3 * k := by omega
  rw [h4] at h1
  have e1 : (x - g) * p3 d = x * p3 d - g * p3 d := Int.sub_mul _ _ _
  have e2 : (3 * k + x) * p3 d = 3 * k * p3 d + x * p3 d := Int.add_mul _ _ _
  have e3 : p3 d * (g + 3 * k) = g * p3 d + 3 * k * p3 d := by rw [Int.mul_comm, Int.add_mul]
  rw [e1, e2]
  rw [e3] at h1
  omega
theorem mv_lo (s : Int) (d : Nat) : 0 ≤ s % p3 d ∧ s % p3 d < p3 d := ⟨Int.emod_nonneg _ (by have := p3_pos d; omega), Int.emod_lt_of_pos _ (p3_pos d)⟩
theorem mv_sd (s : Int) (d : Nat) (v : Int) : sd (mv s d v) d = 3 * (sd s d / 3) + max 0 (min 2 (dg s d + v)) := by
  have h := mv_lo s d
  rw [mv_eq]
  unfold sd
  rw [Int.add_mul_ediv_right _ _ (by have := p3_pos d; omega), Int.ediv_eq_zero_of_lt h.1 h.2, Int.zero_add]
theorem mv_rng {s : Int} {n d : Nat} (v : Int) (h0 : 0 ≤ s) (h : s < p3 n) (hd : d < n) : 0 ≤ mv s d v ∧ mv s d v < p3 n := by
  have h1 := mv_lo s d
  have h2 := (sd_rng h0 d).1
  have h3 := sd_lt h (d := d) (by omega)
  have e : p3 (n - d) = p3 (n - d - 1) * 3 := by rw [← p3_succ]; congr 1; omega
  rw [e] at h3
  have hx : 0 ≤ max 0 (min 2 (dg s d + v)) ∧ max 0 (min 2 (dg s d + v)) ≤ 2 := by omega
  have hk : 0 ≤ sd s d / 3 ∧ sd s d / 3 < p3 (n - d - 1) := by omega
  rw [mv_eq]
  generalize max 0 (min 2 (dg s d + v)) = x at *
  generalize sd s d / 3 = k at *
  have hq0 : 0 ≤ 3 * k + x := by omega
  have hq : 3 * k + x ≤ p3 (n - d - 1) * 3 - 1 := by omega
  have hp := p3_pos d
  have e2 : p3 n = p3 (n - d - 1) * 3 * p3 d := by
    rw [← p3_succ]
    unfold p3
    rw [← Int.pow_add]
    congr 1
    omega
  constructor
  · have := Int.mul_nonneg hq0 (Int.le_of_lt hp); omega
  · have h5 := Int.mul_le_mul_of_nonneg_right hq (Int.le_of_lt hp)
    rw [Int.sub_mul, ← e2, Int.one_mul] at h5
    omega
theorem dg_mv_same (s : Int) (d : Nat) (v : Int) : dg (mv s d v) d = max 0 (min 2 (dg s d + v)) := by
  have hx : 0 ≤ max 0 (min 2 (dg s d + v)) ∧ max 0 (min 2 (dg s d + v)) ≤ 2 := by omega
  show sd (mv s d v) d % 3 = _
  rw [mv_sd]
  omega
theorem dg_mv_ne {s : Int} {d e : Nat} (v : Int) (h : e ≠ d) : dg (mv s d v) e = dg s e := by
  rcases Nat.lt_or_ge e d with q | q
  · show sd (mv s d v) e % 3 = sd s e % 3
    unfold mv
    have e1 : p3 d = p3 e * (p3 (d - e - 1) * 3) := by
      rw [← p3_succ]
      unfold p3
      rw [← Int.pow_add]
      congr 1
      omega
    unfold sd
    rw [e1, show (max 0 (min 2 (dg s d + v)) - dg s d) * (p3 e * (p3 (d - e - 1) * 3)) = (max 0 (min 2 (dg s d + v)) - dg s d) * (p3 (d - e - 1) * 3) * p3 e by rw [Int.mul_comm (p3 e), ← Int.mul_assoc]]
    rw [Int.add_mul_ediv_right _ _ (by have := p3_pos e; omega)]
    rw [← Int.mul_assoc]
    omega
  · have e1 : e = d + (1 + (e - d - 1)) := by omega
    show sd (mv s d v) e % 3 = sd s e % 3
    rw [e1, ← sd_sd, ← sd_sd, ← sd_sd s, ← sd_sd, mv_sd]
    have hx : 0 ≤ max 0 (min 2 (dg s d + v)) ∧ max 0 (min 2 (dg s d + v)) ≤ 2 := by omega
    have e2 : sd (3 * (sd s d / 3) + max 0 (min 2 (dg s d + v))) 1 = sd (sd s d) 1 := by
      show (3 * (sd s d / 3) + max 0 (min 2 (dg s d + v))) / 3 = sd s d / 3
      omega
    rw [e2]
/-- two states with the same digits are one -/
theorem dg_ext : ∀ (n : Nat) {s t : Int}, 0 ≤ s → s < p3 n → 0 ≤ t → t < p3 n → (∀ d, d < n → dg s d = dg t d) → s = t
  | 0, s, t, h1, h2, h3, h4, _ => by
    have : p3 0 = 1 := rfl
    omega
  | n + 1, s, t, h1, h2, h3, h4, h => by
    have h0 : s % 3 = t % 3 := by have := h 0 (by omega); unfold dg at this; rw [sd_0, sd_0] at this; exact this
    rw [p3_succ] at h2 h4
    have ih := dg_ext n (s := s / 3) (t := t / 3) (by omega) (by omega) (by omega) (by omega) (fun d hd => by
      have := h (d + 1) (by omega)
      unfold dg at this ⊢
      have e : ∀ x : Int, sd x (d + 1) = sd (x / 3) d := fun x => by rw [show d + 1 = 1 + d by omega, ← sd_sd]; rfl
      rw [e, e] at this
      exact this)
    omega
theorem V_drop {Y : vMeth} {R : Room} {Q : vPost} {pc : Nat} {lv : vLs} {st : List Value} {n : Nat} {w : vWd} {kc ks : Nat} (i : Nat) (k : V Y R Q pc (lv.set i none) st n w kc ks) : V Y R Q pc lv st n w kc ks := by
  intro p l e s m args below meth c b sa cA D H locs ls E hw hS hb hl
  refine k p l e s m args below meth c b sa cA D H locs ls E hw hS hb ⟨hl.1, hl.2.1, fun j v hj => hl.2.2 j v ?_⟩
  by_cases h : j = i
  · subst h
    by_cases h2 : j < lv.length
    · rw [List.getElem?_set_self h2] at hj; cases hj
    · rw [List.getElem?_eq_none (by rw [List.length_set]; omega)] at hj; cases hj
  · rw [List.getElem?_set_ne (Ne.symm h)] at hj; exact hj
def bitOn (x : Int32) (i : Int) : Prop := (x >>> (iI i &&& 31)) &&& iI 1 = iI 1
theorem bit_and (y : Int32) : y &&& iI 1 = iI 1 ∨ y &&& iI 1 = iI 0 := by
  obtain ⟨j, hj, e⟩ := pk_andE y (m := iI 1) 1 rfl
  rw [e]
  rcases (show j = 0 ∨ j = 1 by omega) with rfl | rfl
  · right; rfl
  · left; rfl
theorem bit_cases (x : Int32) (i : Int) : (bitOn x i ∧ (x >>> (iI i &&& 31)) &&& iI 1 = iI 1) ∨ (¬ bitOn x i ∧ (x >>> (iI i &&& 31)) &&& iI 1 = iI 0) := by
  rcases bit_and (x >>> (iI i &&& 31)) with h | h
  · exact Or.inl ⟨h, h⟩
  · refine Or.inr ⟨fun q => ?_, h⟩
    unfold bitOn at q
    rw [h] at q
    exact absurd q (by decide)
def cvOK (n : Int) (rs : Nat → List Int) : Prop := ((rs 2).length = (rs 1).length ∧ (rs 3).length = (rs 1).length ∧ (rs 4).length = (rs 1).length) ∧ ∀ c : Int, 0 ≤ c → c < (rs 1).length → okCord n (rAt (rs 1) c) (rAt (rs 2) c) (rAt (rs 3) c) (rAt (rs 4) c)
def cAmt (rs : Nat → List Int) (c s o : Int) : Int :=
  if rAt (rs 3) c = 1 then (if dg s (rAt (rs 2) c).toNat = 0 then rAt (rs 4) c else 0)
  else if rAt (rs 3) c = 2 then (if o = 0 then -rAt (rs 4) c else rAt (rs 4) c)
  else if rAt (rs 3) c = 3 then (if opB s (rAt (rs 2) c).toNat then 0 else rAt (rs 4) c)
  else if rAt (rs 3) c = 4 then max 0 (if o = 0 then -rAt (rs 4) c else rAt (rs 4) c)
  else if rAt (rs 3) c = 5 then max (-1) (min 1 (if dg s (rAt (rs 2) c).toNat = 0 then rAt (rs 4) c else 0))
  else rAt (rs 4) c
theorem cAmt_rng {n : Int} {rs : Nat → List Int} {c : Int} (h : okCord n (rAt (rs 1) c) (rAt (rs 2) c) (rAt (rs 3) c) (rAt (rs 4) c)) (s o : Int) : -2 ≤ cAmt rs c s o ∧ cAmt rs c s o ≤ 2 := by
  have h1 := h.2.2.2.2.2.1
  have h2 := h.2.2.2.2.2.2.1
  unfold cAmt
  generalize rAt (rs 4) c = v at *
  repeat' split
  all_goals omega

noncomputable def cStep (rs : Nat → List Int) (x : Int32) (d o c t : Int) : Int := @ite Int (bitOn x c ∧ rAt (rs 1) c = d) (Classical.propDecidable _) (mv t (rAt (rs 2) c).toNat (cAmt rs c t o)) t
theorem cStep_t {rs : Nat → List Int} {x : Int32} {d o c t : Int} (h : bitOn x c ∧ rAt (rs 1) c = d) : cStep rs x d o c t = mv t (rAt (rs 2) c).toNat (cAmt rs c t o) := if_pos h
theorem cStep_f {rs : Nat → List Int} {x : Int32} {d o c t : Int} (h : ¬ (bitOn x c ∧ rAt (rs 1) c = d)) : cStep rs x d o c t = t := if_neg h
noncomputable def cRun (rs : Nat → List Int) (x : Int32) (d o t0 : Int) : Nat → Int
  | 0 => t0
  | m + 1 => cStep rs x d o (m : Int) (cRun rs x d o t0 m)
theorem cRun_rng {n : Int} {rs : Nat → List Int} (hn : 0 ≤ n) (hcv : cvOK n rs) (x : Int32) (d o : Int) {t0 : Int} (h0 : 0 ≤ t0) (h : t0 < p3 n.toNat) : ∀ m : Nat, m ≤ (rs 1).length → 0 ≤ cRun rs x d o t0 m ∧ cRun rs x d o t0 m < p3 n.toNat
  | 0, _ => ⟨h0, h⟩
  | m + 1, hm => by
    have ih := cRun_rng hn hcv x d o h0 h m (by omega)
    have hc := hcv.2 m (by omega) (by omega)
    rw [cRun]
    by_cases hb : bitOn x m ∧ rAt (rs 1) m = d
    · rw [cStep_t hb]
      exact mv_rng _ ih.1 ih.2 (by have := hc.2.1; omega)
    · rw [cStep_f hb]; exact ih
def aft0 (s d : Int) : Int := mv s d.toNat (if dg s d.toNat = 2 then -2 else 1)
noncomputable def aft (ca : Nat) (rs : Nat → List Int) (s d : Int) (x : Int32) : Int := if ca.testBit d.toNat = true ∧ opB s d.toNat then s else cRun rs x d (if dg s d.toNat = 2 then 0 else 1) (aft0 s d) (rs 1).length
theorem aft_rng {n : Int} {rs : Nat → List Int} (ca : Nat) (hcv : cvOK n rs) (x : Int32) {s d : Int} (hs : isS n s) (hd : isD n d) : isS n (aft ca rs s d x) := by
  unfold aft
  split
  · exact hs
  · have h1 := mv_rng (if dg s d.toNat = 2 then -2 else 1) hs.1 hs.2 (d := d.toNat) (by omega)
    exact cRun_rng (by omega) hcv x d _ h1.1 h1.2 _ (Nat.le_refl _)
set_option maxRecDepth 100000 in
theorem c_amount {nn : Nat} {w : vWd} {p : Nat} {n now c s o : Int} {ca po fo : Nat} {rs : Nat → List Int} (h : WallAt w p (n, now, ca, po, fo, rs)) (hn : 0 ≤ n ∧ n ≤ 7) (hcv : cvOK n rs) (hc : 0 ≤ c ∧ c < (rs 1).length) (hs : 0 ≤ s) (hs2 : inR s) (ho2 : inR o) : Ctr mX4_amountOf (rm 2) [.ref p, vI c, vI s, vI o] nn w (pR (vI (cAmt rs c s o)) nn w) := by
  refine Ctr_of (lv := [some (.ref p), some (vI c), some (vI s), some (vI o), none, none, none, none]) (by decide +kernel) rfl rfl ?_
  have ho := h.obj
  have hl := h.r1.len
  have hk := hcv.2 c hc.1 hc.2
  have k1 := hk.2.1
  have k2 := hk.2.2.2
  have hg := dg_rng s (rAt (rs 2) c).toNat
  refine V_aload_n (Y := mX4_amountOf) (pc := 0) dX4_amountOf_0 rfl ?_
  apply V_get (Y := mX4_amountOf) (pc := 1) dX4_amountOf_1 fl_X4_45
  · assumption
  · rfl
  refine V_iload_n (Y := mX4_amountOf) (pc := 4) dX4_amountOf_4 rfl ?_
  apply V_vR (Y := mX4_amountOf) (pc := 5) dX4_amountOf_5 ok_X2_at ov_X2_at ln_X4_85 (c_Row_at (i := c) h.r4 ⟨by omega, by omega⟩)
  · exact h.r4.obj
  · rfl
  · rfl
  · rfl
  · rfl
  · rfl
  refine V_istore (Y := mX4_amountOf) (pc := 8) dX4_amountOf_8 rfl ?_
  refine V_aload_n (Y := mX4_amountOf) (pc := 10) dX4_amountOf_10 rfl ?_
  apply V_get (Y := mX4_amountOf) (pc := 11) dX4_amountOf_11 fl_X4_39
  · assumption
  · rfl
  refine V_iload_n (Y := mX4_amountOf) (pc := 14) dX4_amountOf_14 rfl ?_
  apply V_vR (Y := mX4_amountOf) (pc := 15) dX4_amountOf_15 ok_X2_at ov_X2_at ln_X4_85 (c_Row_at (i := c) h.r2 ⟨by omega, by omega⟩)
  · exact h.r2.obj
  · rfl
  · rfl
  · rfl
  · rfl
  · rfl
  refine V_istore (Y := mX4_amountOf) (pc := 18) dX4_amountOf_18 rfl ?_
  refine V_iload_n (Y := mX4_amountOf) (pc := 20) dX4_amountOf_20 rfl ?_
  refine V_if_eq (tgt := 29) (Y := mX4_amountOf) (pc := 21) dX4_amountOf_21 (by decide) ⟨by omega, by omega⟩ (fun h_21 => ?_) (fun h_21 => ?_)
  · refine V_iload (Y := mX4_amountOf) (pc := 29) dX4_amountOf_29 rfl ?_
    refine V_ineg (Y := mX4_amountOf) (pc := 31) dX4_amountOf_31 ?_
    refine V_istore (Y := mX4_amountOf) (pc := 32) dX4_amountOf_32 rfl ?_
    refine V_iload_n (Y := mX4_amountOf) (pc := 34) dX4_amountOf_34 rfl ?_
    refine V_iload (Y := mX4_amountOf) (pc := 35) dX4_amountOf_35 rfl ?_
    apply V_sR (Y := mX4_amountOf) (pc := 37) dX4_amountOf_37 ok_X5_outIn os_X5_outIn ln_X4_106 (c_outIn (d := rAt (rs 2) c) hs hs2 ⟨by omega, by omega⟩)
    · rfl
    · rfl
    · rfl
    refine V_if_ne (tgt := 48) (Y := mX4_amountOf) (pc := 40) dX4_amountOf_40 (by decide) ⟨by omega, by omega⟩ (fun h_40 => ?_) (fun h_40 => ?_)
    · refine V_iconst (Y := mX4_amountOf) (pc := 48) dX4_amountOf_48 ?_
      refine V_istore (Y := mX4_amountOf) (pc := 49) dX4_amountOf_49 rfl ?_
      refine V_aload_n (Y := mX4_amountOf) (pc := 51) dX4_amountOf_51 rfl ?_
      apply V_get (Y := mX4_amountOf) (pc := 52) dX4_amountOf_52 fl_X4_42
      · assumption
      · rfl
      refine V_iload_n (Y := mX4_amountOf) (pc := 55) dX4_amountOf_55 rfl ?_
      apply V_vR (Y := mX4_amountOf) (pc := 56) dX4_amountOf_56 ok_X2_at ov_X2_at ln_X4_85 (c_Row_at (i := c) h.r3 ⟨by omega, by omega⟩)
      · exact h.r3.obj
      · rfl
      · rfl
      · rfl
      · rfl
      · rfl
      rcases ((show rAt (rs 3) c = 0 ∨ rAt (rs 3) c = 1 ∨ rAt (rs 3) c = 2 ∨ rAt (rs 3) c = 3 ∨ rAt (rs 3) c = 4 ∨ rAt (rs 3) c = 5 by omega)) with e_59 | e_59 | e_59 | e_59 | e_59 | e_59
      · rw [e_59]
        refine V_tableOut (tgt := 132) (Y := mX4_amountOf) (pc := 59) dX4_amountOf_59 ⟨by decide, by decide⟩ (by decide) (by decide) ?_
        refine V_iload (Y := mX4_amountOf) (pc := 132) dX4_amountOf_132 rfl ?_
        refine V_iret (Y := mX4_amountOf) (pc := 134) dX4_amountOf_134 rfl (Nat.le_of_ble_eq_true rfl) (Nat.le_of_ble_eq_true rfl) ?_
        exact pR_I (by simp [cAmt, *])
      · rw [e_59]
        refine V_tableIn (off := 33) (tgt := 92) (Y := mX4_amountOf) (pc := 59) dX4_amountOf_59 ⟨by decide, by decide⟩ (by decide) (by decide) rfl (by decide) ?_
        refine V_iload (Y := mX4_amountOf) (pc := 92) dX4_amountOf_92 rfl ?_
        refine V_iret (Y := mX4_amountOf) (pc := 94) dX4_amountOf_94 rfl (Nat.le_of_ble_eq_true rfl) (Nat.le_of_ble_eq_true rfl) ?_
        exact pR_I (by simp [cAmt, *])
      · rw [e_59]
        refine V_tableIn (off := 36) (tgt := 95) (Y := mX4_amountOf) (pc := 59) dX4_amountOf_59 ⟨by decide, by decide⟩ (by decide) (by decide) rfl (by decide) ?_
        refine V_iload (Y := mX4_amountOf) (pc := 95) dX4_amountOf_95 rfl ?_
        refine V_iret (Y := mX4_amountOf) (pc := 97) dX4_amountOf_97 rfl (Nat.le_of_ble_eq_true rfl) (Nat.le_of_ble_eq_true rfl) ?_
        exact pR_I (by simp [cAmt, *])
      · rw [e_59]
        refine V_tableIn (off := 39) (tgt := 98) (Y := mX4_amountOf) (pc := 59) dX4_amountOf_59 ⟨by decide, by decide⟩ (by decide) (by decide) rfl (by decide) ?_
        refine V_iload_n (Y := mX4_amountOf) (pc := 98) dX4_amountOf_98 rfl ?_
        refine V_iload (Y := mX4_amountOf) (pc := 99) dX4_amountOf_99 rfl ?_
        apply V_sR (Y := mX4_amountOf) (pc := 101) dX4_amountOf_101 ok_X5_isOpenBeside os_X5_isOpenBeside ln_X4_102 (c_isOpenBeside (d := rAt (rs 2) c) hs hs2 ⟨by omega, by omega⟩)
        · rfl
        · rfl
        · rfl
        refine V_if_eqB (tgt := 111) (Y := mX4_amountOf) (pc := 104) dX4_amountOf_104 (by decide) (fun h_104 => ?_) (fun h_104 => ?_)
        · refine V_iload (Y := mX4_amountOf) (pc := 111) dX4_amountOf_111 rfl ?_
          refine V_iret (Y := mX4_amountOf) (pc := 113) dX4_amountOf_113 rfl (Nat.le_of_ble_eq_true rfl) (Nat.le_of_ble_eq_true rfl) ?_
          exact pR_I (by simp [cAmt, *])
        · refine V_iconst (Y := mX4_amountOf) (pc := 107) dX4_amountOf_107 ?_
          refine V_goto (tgt := 113) (Y := mX4_amountOf) (pc := 108) dX4_amountOf_108 (by decide) ?_
          refine V_iret (Y := mX4_amountOf) (pc := 113) dX4_amountOf_113 rfl (Nat.le_of_ble_eq_true rfl) (Nat.le_of_ble_eq_true rfl) ?_
          exact pR_I (by simp [cAmt, *])
      · rw [e_59]
        refine V_tableIn (off := 55) (tgt := 114) (Y := mX4_amountOf) (pc := 59) dX4_amountOf_59 ⟨by decide, by decide⟩ (by decide) (by decide) rfl (by decide) ?_
        refine V_iconst (Y := mX4_amountOf) (pc := 114) dX4_amountOf_114 ?_
        refine V_iload (Y := mX4_amountOf) (pc := 115) dX4_amountOf_115 rfl ?_
        refine V_max (Y := mX4_amountOf) (pc := 117) dX4_amountOf_117 ln_X4_118 ⟨by omega, by omega⟩ ⟨by omega, by omega⟩ rfl ?_
        refine V_iret (Y := mX4_amountOf) (pc := 120) dX4_amountOf_120 rfl (Nat.le_of_ble_eq_true rfl) (Nat.le_of_ble_eq_true rfl) ?_
        exact pR_I (by simp [cAmt, *])
      · rw [e_59]
        refine V_tableIn (off := 62) (tgt := 121) (Y := mX4_amountOf) (pc := 59) dX4_amountOf_59 ⟨by decide, by decide⟩ (by decide) (by decide) rfl (by decide) ?_
        refine V_iconst (Y := mX4_amountOf) (pc := 121) dX4_amountOf_121 ?_
        refine V_iconst (Y := mX4_amountOf) (pc := 122) dX4_amountOf_122 ?_
        refine V_iload (Y := mX4_amountOf) (pc := 123) dX4_amountOf_123 rfl ?_
        refine V_min (Y := mX4_amountOf) (pc := 125) dX4_amountOf_125 ln_X4_123 ⟨by omega, by omega⟩ ⟨by omega, by omega⟩ rfl ?_
        refine V_max (Y := mX4_amountOf) (pc := 128) dX4_amountOf_128 ln_X4_118 ⟨by omega, by omega⟩ ⟨by omega, by omega⟩ rfl ?_
        refine V_iret (Y := mX4_amountOf) (pc := 131) dX4_amountOf_131 rfl (Nat.le_of_ble_eq_true rfl) (Nat.le_of_ble_eq_true rfl) ?_
        exact pR_I (by simp [cAmt, *])
    · refine V_iload (Y := mX4_amountOf) (pc := 43) dX4_amountOf_43 rfl ?_
      refine V_goto (tgt := 49) (Y := mX4_amountOf) (pc := 45) dX4_amountOf_45 (by decide) ?_
      refine V_istore (Y := mX4_amountOf) (pc := 49) dX4_amountOf_49 rfl ?_
      refine V_aload_n (Y := mX4_amountOf) (pc := 51) dX4_amountOf_51 rfl ?_
      apply V_get (Y := mX4_amountOf) (pc := 52) dX4_amountOf_52 fl_X4_42
      · assumption
      · rfl
      refine V_iload_n (Y := mX4_amountOf) (pc := 55) dX4_amountOf_55 rfl ?_
      apply V_vR (Y := mX4_amountOf) (pc := 56) dX4_amountOf_56 ok_X2_at ov_X2_at ln_X4_85 (c_Row_at (i := c) h.r3 ⟨by omega, by omega⟩)
      · exact h.r3.obj
      · rfl
      · rfl
      · rfl
      · rfl
      · rfl
      rcases ((show rAt (rs 3) c = 0 ∨ rAt (rs 3) c = 1 ∨ rAt (rs 3) c = 2 ∨ rAt (rs 3) c = 3 ∨ rAt (rs 3) c = 4 ∨ rAt (rs 3) c = 5 by omega)) with e_59 | e_59 | e_59 | e_59 | e_59 | e_59
      · rw [e_59]
        refine V_tableOut (tgt := 132) (Y := mX4_amountOf) (pc := 59) dX4_amountOf_59 ⟨by decide, by decide⟩ (by decide) (by decide) ?_
        refine V_iload (Y := mX4_amountOf) (pc := 132) dX4_amountOf_132 rfl ?_
        refine V_iret (Y := mX4_amountOf) (pc := 134) dX4_amountOf_134 rfl (Nat.le_of_ble_eq_true rfl) (Nat.le_of_ble_eq_true rfl) ?_
        exact pR_I (by simp [cAmt, *])
      · rw [e_59]
        refine V_tableIn (off := 33) (tgt := 92) (Y := mX4_amountOf) (pc := 59) dX4_amountOf_59 ⟨by decide, by decide⟩ (by decide) (by decide) rfl (by decide) ?_
        refine V_iload (Y := mX4_amountOf) (pc := 92) dX4_amountOf_92 rfl ?_
        refine V_iret (Y := mX4_amountOf) (pc := 94) dX4_amountOf_94 rfl (Nat.le_of_ble_eq_true rfl) (Nat.le_of_ble_eq_true rfl) ?_
        exact pR_I (by simp [cAmt, *])
      · rw [e_59]
        refine V_tableIn (off := 36) (tgt := 95) (Y := mX4_amountOf) (pc := 59) dX4_amountOf_59 ⟨by decide, by decide⟩ (by decide) (by decide) rfl (by decide) ?_
        refine V_iload (Y := mX4_amountOf) (pc := 95) dX4_amountOf_95 rfl ?_
        refine V_iret (Y := mX4_amountOf) (pc := 97) dX4_amountOf_97 rfl (Nat.le_of_ble_eq_true rfl) (Nat.le_of_ble_eq_true rfl) ?_
        exact pR_I (by simp [cAmt, *])
      · rw [e_59]
        refine V_tableIn (off := 39) (tgt := 98) (Y := mX4_amountOf) (pc := 59) dX4_amountOf_59 ⟨by decide, by decide⟩ (by decide) (by decide) rfl (by decide) ?_
        refine V_iload_n (Y := mX4_amountOf) (pc := 98) dX4_amountOf_98 rfl ?_
        refine V_iload (Y := mX4_amountOf) (pc := 99) dX4_amountOf_99 rfl ?_
        apply V_sR (Y := mX4_amountOf) (pc := 101) dX4_amountOf_101 ok_X5_isOpenBeside os_X5_isOpenBeside ln_X4_102 (c_isOpenBeside (d := rAt (rs 2) c) hs hs2 ⟨by omega, by omega⟩)
        · rfl
        · rfl
        · rfl
        refine V_if_eqB (tgt := 111) (Y := mX4_amountOf) (pc := 104) dX4_amountOf_104 (by decide) (fun h_104 => ?_) (fun h_104 => ?_)
        · refine V_iload (Y := mX4_amountOf) (pc := 111) dX4_amountOf_111 rfl ?_
          refine V_iret (Y := mX4_amountOf) (pc := 113) dX4_amountOf_113 rfl (Nat.le_of_ble_eq_true rfl) (Nat.le_of_ble_eq_true rfl) ?_
          exact pR_I (by simp [cAmt, *])
        · refine V_iconst (Y := mX4_amountOf) (pc := 107) dX4_amountOf_107 ?_
          refine V_goto (tgt := 113) (Y := mX4_amountOf) (pc := 108) dX4_amountOf_108 (by decide) ?_
          refine V_iret (Y := mX4_amountOf) (pc := 113) dX4_amountOf_113 rfl (Nat.le_of_ble_eq_true rfl) (Nat.le_of_ble_eq_true rfl) ?_
          exact pR_I (by simp [cAmt, *])
      · rw [e_59]
        refine V_tableIn (off := 55) (tgt := 114) (Y := mX4_amountOf) (pc := 59) dX4_amountOf_59 ⟨by decide, by decide⟩ (by decide) (by decide) rfl (by decide) ?_
        refine V_iconst (Y := mX4_amountOf) (pc := 114) dX4_amountOf_114 ?_
        refine V_iload (Y := mX4_amountOf) (pc := 115) dX4_amountOf_115 rfl ?_
        refine V_max (Y := mX4_amountOf) (pc := 117) dX4_amountOf_117 ln_X4_118 ⟨by omega, by omega⟩ ⟨by omega, by omega⟩ rfl ?_
        refine V_iret (Y := mX4_amountOf) (pc := 120) dX4_amountOf_120 rfl (Nat.le_of_ble_eq_true rfl) (Nat.le_of_ble_eq_true rfl) ?_
        exact pR_I (by simp [cAmt, *])
      · rw [e_59]
        refine V_tableIn (off := 62) (tgt := 121) (Y := mX4_amountOf) (pc := 59) dX4_amountOf_59 ⟨by decide, by decide⟩ (by decide) (by decide) rfl (by decide) ?_
        refine V_iconst (Y := mX4_amountOf) (pc := 121) dX4_amountOf_121 ?_
        refine V_iconst (Y := mX4_amountOf) (pc := 122) dX4_amountOf_122 ?_
        refine V_iload (Y := mX4_amountOf) (pc := 123) dX4_amountOf_123 rfl ?_
        refine V_min (Y := mX4_amountOf) (pc := 125) dX4_amountOf_125 ln_X4_123 ⟨by omega, by omega⟩ ⟨by omega, by omega⟩ rfl ?_
        refine V_max (Y := mX4_amountOf) (pc := 128) dX4_amountOf_128 ln_X4_118 ⟨by omega, by omega⟩ ⟨by omega, by omega⟩ rfl ?_
        refine V_iret (Y := mX4_amountOf) (pc := 131) dX4_amountOf_131 rfl (Nat.le_of_ble_eq_true rfl) (Nat.le_of_ble_eq_true rfl) ?_
        exact pR_I (by simp [cAmt, *])
  · refine V_iload (Y := mX4_amountOf) (pc := 24) dX4_amountOf_24 rfl ?_
    refine V_goto (tgt := 32) (Y := mX4_amountOf) (pc := 26) dX4_amountOf_26 (by decide) ?_
    refine V_istore (Y := mX4_amountOf) (pc := 32) dX4_amountOf_32 rfl ?_
    refine V_iload_n (Y := mX4_amountOf) (pc := 34) dX4_amountOf_34 rfl ?_
    refine V_iload (Y := mX4_amountOf) (pc := 35) dX4_amountOf_35 rfl ?_
    apply V_sR (Y := mX4_amountOf) (pc := 37) dX4_amountOf_37 ok_X5_outIn os_X5_outIn ln_X4_106 (c_outIn (d := rAt (rs 2) c) hs hs2 ⟨by omega, by omega⟩)
    · rfl
    · rfl
    · rfl
    refine V_if_ne (tgt := 48) (Y := mX4_amountOf) (pc := 40) dX4_amountOf_40 (by decide) ⟨by omega, by omega⟩ (fun h_40 => ?_) (fun h_40 => ?_)
    · refine V_iconst (Y := mX4_amountOf) (pc := 48) dX4_amountOf_48 ?_
      refine V_istore (Y := mX4_amountOf) (pc := 49) dX4_amountOf_49 rfl ?_
      refine V_aload_n (Y := mX4_amountOf) (pc := 51) dX4_amountOf_51 rfl ?_
      apply V_get (Y := mX4_amountOf) (pc := 52) dX4_amountOf_52 fl_X4_42
      · assumption
      · rfl
      refine V_iload_n (Y := mX4_amountOf) (pc := 55) dX4_amountOf_55 rfl ?_
      apply V_vR (Y := mX4_amountOf) (pc := 56) dX4_amountOf_56 ok_X2_at ov_X2_at ln_X4_85 (c_Row_at (i := c) h.r3 ⟨by omega, by omega⟩)
      · exact h.r3.obj
      · rfl
      · rfl
      · rfl
      · rfl
      · rfl
      rcases ((show rAt (rs 3) c = 0 ∨ rAt (rs 3) c = 1 ∨ rAt (rs 3) c = 2 ∨ rAt (rs 3) c = 3 ∨ rAt (rs 3) c = 4 ∨ rAt (rs 3) c = 5 by omega)) with e_59 | e_59 | e_59 | e_59 | e_59 | e_59
      · rw [e_59]
        refine V_tableOut (tgt := 132) (Y := mX4_amountOf) (pc := 59) dX4_amountOf_59 ⟨by decide, by decide⟩ (by decide) (by decide) ?_
        refine V_iload (Y := mX4_amountOf) (pc := 132) dX4_amountOf_132 rfl ?_
        refine V_iret (Y := mX4_amountOf) (pc := 134) dX4_amountOf_134 rfl (Nat.le_of_ble_eq_true rfl) (Nat.le_of_ble_eq_true rfl) ?_
        exact pR_I (by simp [cAmt, *])
      · rw [e_59]
        refine V_tableIn (off := 33) (tgt := 92) (Y := mX4_amountOf) (pc := 59) dX4_amountOf_59 ⟨by decide, by decide⟩ (by decide) (by decide) rfl (by decide) ?_
        refine V_iload (Y := mX4_amountOf) (pc := 92) dX4_amountOf_92 rfl ?_
        refine V_iret (Y := mX4_amountOf) (pc := 94) dX4_amountOf_94 rfl (Nat.le_of_ble_eq_true rfl) (Nat.le_of_ble_eq_true rfl) ?_
        exact pR_I (by simp [cAmt, *])
      · rw [e_59]
        refine V_tableIn (off := 36) (tgt := 95) (Y := mX4_amountOf) (pc := 59) dX4_amountOf_59 ⟨by decide, by decide⟩ (by decide) (by decide) rfl (by decide) ?_
        refine V_iload (Y := mX4_amountOf) (pc := 95) dX4_amountOf_95 rfl ?_
        refine V_iret (Y := mX4_amountOf) (pc := 97) dX4_amountOf_97 rfl (Nat.le_of_ble_eq_true rfl) (Nat.le_of_ble_eq_true rfl) ?_
        exact pR_I (by simp [cAmt, *])
      · rw [e_59]
        refine V_tableIn (off := 39) (tgt := 98) (Y := mX4_amountOf) (pc := 59) dX4_amountOf_59 ⟨by decide, by decide⟩ (by decide) (by decide) rfl (by decide) ?_
        refine V_iload_n (Y := mX4_amountOf) (pc := 98) dX4_amountOf_98 rfl ?_
        refine V_iload (Y := mX4_amountOf) (pc := 99) dX4_amountOf_99 rfl ?_
        apply V_sR (Y := mX4_amountOf) (pc := 101) dX4_amountOf_101 ok_X5_isOpenBeside os_X5_isOpenBeside ln_X4_102 (c_isOpenBeside (d := rAt (rs 2) c) hs hs2 ⟨by omega, by omega⟩)
        · rfl
        · rfl
        · rfl
        refine V_if_eqB (tgt := 111) (Y := mX4_amountOf) (pc := 104) dX4_amountOf_104 (by decide) (fun h_104 => ?_) (fun h_104 => ?_)
        · refine V_iload (Y := mX4_amountOf) (pc := 111) dX4_amountOf_111 rfl ?_
          refine V_iret (Y := mX4_amountOf) (pc := 113) dX4_amountOf_113 rfl (Nat.le_of_ble_eq_true rfl) (Nat.le_of_ble_eq_true rfl) ?_
          exact pR_I (by simp [cAmt, *])
        · refine V_iconst (Y := mX4_amountOf) (pc := 107) dX4_amountOf_107 ?_
          refine V_goto (tgt := 113) (Y := mX4_amountOf) (pc := 108) dX4_amountOf_108 (by decide) ?_
          refine V_iret (Y := mX4_amountOf) (pc := 113) dX4_amountOf_113 rfl (Nat.le_of_ble_eq_true rfl) (Nat.le_of_ble_eq_true rfl) ?_
          exact pR_I (by simp [cAmt, *])
      · rw [e_59]
        refine V_tableIn (off := 55) (tgt := 114) (Y := mX4_amountOf) (pc := 59) dX4_amountOf_59 ⟨by decide, by decide⟩ (by decide) (by decide) rfl (by decide) ?_
        refine V_iconst (Y := mX4_amountOf) (pc := 114) dX4_amountOf_114 ?_
        refine V_iload (Y := mX4_amountOf) (pc := 115) dX4_amountOf_115 rfl ?_
        refine V_max (Y := mX4_amountOf) (pc := 117) dX4_amountOf_117 ln_X4_118 ⟨by omega, by omega⟩ ⟨by omega, by omega⟩ rfl ?_
        refine V_iret (Y := mX4_amountOf) (pc := 120) dX4_amountOf_120 rfl (Nat.le_of_ble_eq_true rfl) (Nat.le_of_ble_eq_true rfl) ?_
        exact pR_I (by simp [cAmt, *])
      · rw [e_59]
        refine V_tableIn (off := 62) (tgt := 121) (Y := mX4_amountOf) (pc := 59) dX4_amountOf_59 ⟨by decide, by decide⟩ (by decide) (by decide) rfl (by decide) ?_
        refine V_iconst (Y := mX4_amountOf) (pc := 121) dX4_amountOf_121 ?_
        refine V_iconst (Y := mX4_amountOf) (pc := 122) dX4_amountOf_122 ?_
        refine V_iload (Y := mX4_amountOf) (pc := 123) dX4_amountOf_123 rfl ?_
        refine V_min (Y := mX4_amountOf) (pc := 125) dX4_amountOf_125 ln_X4_123 ⟨by omega, by omega⟩ ⟨by omega, by omega⟩ rfl ?_
        refine V_max (Y := mX4_amountOf) (pc := 128) dX4_amountOf_128 ln_X4_118 ⟨by omega, by omega⟩ ⟨by omega, by omega⟩ rfl ?_
        refine V_iret (Y := mX4_amountOf) (pc := 131) dX4_amountOf_131 rfl (Nat.le_of_ble_eq_true rfl) (Nat.le_of_ble_eq_true rfl) ?_
        exact pR_I (by simp [cAmt, *])
    · refine V_iload (Y := mX4_amountOf) (pc := 43) dX4_amountOf_43 rfl ?_
      refine V_goto (tgt := 49) (Y := mX4_amountOf) (pc := 45) dX4_amountOf_45 (by decide) ?_
      refine V_istore (Y := mX4_amountOf) (pc := 49) dX4_amountOf_49 rfl ?_
      refine V_aload_n (Y := mX4_amountOf) (pc := 51) dX4_amountOf_51 rfl ?_
      apply V_get (Y := mX4_amountOf) (pc := 52) dX4_amountOf_52 fl_X4_42
      · assumption
      · rfl
      refine V_iload_n (Y := mX4_amountOf) (pc := 55) dX4_amountOf_55 rfl ?_
      apply V_vR (Y := mX4_amountOf) (pc := 56) dX4_amountOf_56 ok_X2_at ov_X2_at ln_X4_85 (c_Row_at (i := c) h.r3 ⟨by omega, by omega⟩)
      · exact h.r3.obj
      · rfl
      · rfl
      · rfl
      · rfl
      · rfl
      rcases ((show rAt (rs 3) c = 0 ∨ rAt (rs 3) c = 1 ∨ rAt (rs 3) c = 2 ∨ rAt (rs 3) c = 3 ∨ rAt (rs 3) c = 4 ∨ rAt (rs 3) c = 5 by omega)) with e_59 | e_59 | e_59 | e_59 | e_59 | e_59
      · rw [e_59]
        refine V_tableOut (tgt := 132) (Y := mX4_amountOf) (pc := 59) dX4_amountOf_59 ⟨by decide, by decide⟩ (by decide) (by decide) ?_
        refine V_iload (Y := mX4_amountOf) (pc := 132) dX4_amountOf_132 rfl ?_
        refine V_iret (Y := mX4_amountOf) (pc := 134) dX4_amountOf_134 rfl (Nat.le_of_ble_eq_true rfl) (Nat.le_of_ble_eq_true rfl) ?_
        exact pR_I (by simp [cAmt, *])
      · rw [e_59]
        refine V_tableIn (off := 33) (tgt := 92) (Y := mX4_amountOf) (pc := 59) dX4_amountOf_59 ⟨by decide, by decide⟩ (by decide) (by decide) rfl (by decide) ?_
        refine V_iload (Y := mX4_amountOf) (pc := 92) dX4_amountOf_92 rfl ?_
        refine V_iret (Y := mX4_amountOf) (pc := 94) dX4_amountOf_94 rfl (Nat.le_of_ble_eq_true rfl) (Nat.le_of_ble_eq_true rfl) ?_
        exact pR_I (by simp [cAmt, *])
      · rw [e_59]
        refine V_tableIn (off := 36) (tgt := 95) (Y := mX4_amountOf) (pc := 59) dX4_amountOf_59 ⟨by decide, by decide⟩ (by decide) (by decide) rfl (by decide) ?_
        refine V_iload (Y := mX4_amountOf) (pc := 95) dX4_amountOf_95 rfl ?_
        refine V_iret (Y := mX4_amountOf) (pc := 97) dX4_amountOf_97 rfl (Nat.le_of_ble_eq_true rfl) (Nat.le_of_ble_eq_true rfl) ?_
        exact pR_I (by simp [cAmt, *])
      · rw [e_59]
        refine V_tableIn (off := 39) (tgt := 98) (Y := mX4_amountOf) (pc := 59) dX4_amountOf_59 ⟨by decide, by decide⟩ (by decide) (by decide) rfl (by decide) ?_
        refine V_iload_n (Y := mX4_amountOf) (pc := 98) dX4_amountOf_98 rfl ?_
        refine V_iload (Y := mX4_amountOf) (pc := 99) dX4_amountOf_99 rfl ?_
        apply V_sR (Y := mX4_amountOf) (pc := 101) dX4_amountOf_101 ok_X5_isOpenBeside os_X5_isOpenBeside ln_X4_102 (c_isOpenBeside (d := rAt (rs 2) c) hs hs2 ⟨by omega, by omega⟩)
        · rfl
        · rfl
        · rfl
        refine V_if_eqB (tgt := 111) (Y := mX4_amountOf) (pc := 104) dX4_amountOf_104 (by decide) (fun h_104 => ?_) (fun h_104 => ?_)
        · refine V_iload (Y := mX4_amountOf) (pc := 111) dX4_amountOf_111 rfl ?_
          refine V_iret (Y := mX4_amountOf) (pc := 113) dX4_amountOf_113 rfl (Nat.le_of_ble_eq_true rfl) (Nat.le_of_ble_eq_true rfl) ?_
          exact pR_I (by simp [cAmt, *])
        · refine V_iconst (Y := mX4_amountOf) (pc := 107) dX4_amountOf_107 ?_
          refine V_goto (tgt := 113) (Y := mX4_amountOf) (pc := 108) dX4_amountOf_108 (by decide) ?_
          refine V_iret (Y := mX4_amountOf) (pc := 113) dX4_amountOf_113 rfl (Nat.le_of_ble_eq_true rfl) (Nat.le_of_ble_eq_true rfl) ?_
          exact pR_I (by simp [cAmt, *])
      · rw [e_59]
        refine V_tableIn (off := 55) (tgt := 114) (Y := mX4_amountOf) (pc := 59) dX4_amountOf_59 ⟨by decide, by decide⟩ (by decide) (by decide) rfl (by decide) ?_
        refine V_iconst (Y := mX4_amountOf) (pc := 114) dX4_amountOf_114 ?_
        refine V_iload (Y := mX4_amountOf) (pc := 115) dX4_amountOf_115 rfl ?_
        refine V_max (Y := mX4_amountOf) (pc := 117) dX4_amountOf_117 ln_X4_118 ⟨by omega, by omega⟩ ⟨by omega, by omega⟩ rfl ?_
        refine V_iret (Y := mX4_amountOf) (pc := 120) dX4_amountOf_120 rfl (Nat.le_of_ble_eq_true rfl) (Nat.le_of_ble_eq_true rfl) ?_
        exact pR_I (by simp [cAmt, *])
      · rw [e_59]
        refine V_tableIn (off := 62) (tgt := 121) (Y := mX4_amountOf) (pc := 59) dX4_amountOf_59 ⟨by decide, by decide⟩ (by decide) (by decide) rfl (by decide) ?_
        refine V_iconst (Y := mX4_amountOf) (pc := 121) dX4_amountOf_121 ?_
        refine V_iconst (Y := mX4_amountOf) (pc := 122) dX4_amountOf_122 ?_
        refine V_iload (Y := mX4_amountOf) (pc := 123) dX4_amountOf_123 rfl ?_
        refine V_min (Y := mX4_amountOf) (pc := 125) dX4_amountOf_125 ln_X4_123 ⟨by omega, by omega⟩ ⟨by omega, by omega⟩ rfl ?_
        refine V_max (Y := mX4_amountOf) (pc := 128) dX4_amountOf_128 ln_X4_118 ⟨by omega, by omega⟩ ⟨by omega, by omega⟩ rfl ?_
        refine V_iret (Y := mX4_amountOf) (pc := 131) dX4_amountOf_131 rfl (Nat.le_of_ble_eq_true rfl) (Nat.le_of_ble_eq_true rfl) ?_
        exact pR_I (by simp [cAmt, *])
noncomputable def cI (p : Prop) : Int := @bI p (Classical.propDecidable p)
theorem cI_1 {p : Prop} : cI p = 1 ↔ p := by
  unfold cI
  constructor
  · intro h
    exact Classical.byContradiction fun hp => by rw [@bI_f p (Classical.propDecidable p) hp] at h; cases h
  · intro h; exact @bI_t p (Classical.propDecidable p) h
theorem cI_R (p : Prop) : inR (cI p) := @bI_R p (Classical.propDecidable p)
theorem bit_iI (x : Int32) (i : Int) : (x >>> (iI i &&& 31)) &&& iI 1 = iI (cI (bitOn x i)) := by
  rcases bit_cases x i with ⟨hb, e⟩ | ⟨hb, e⟩
  · rw [e, cI_1.mpr hb]
  · rw [e]; unfold cI; rw [@bI_f _ (Classical.propDecidable _) hb]
set_option maxRecDepth 100000 in
theorem lp_after {nn : Nat} {w : vWd} {p : Nat} {n now s d o t0 : Int} {x : Int32} {ca po fo : Nat} {rs : Nat → List Int} (h : WallAt w p (n, now, ca, po, fo, rs)) (hn : 0 ≤ n ∧ n ≤ 7) (hcv : cvOK n rs) (hd : isD n d) (ho2 : inR o) (ht0 : isS n t0) : ∀ (m : Nat) (i : Int), 0 ≤ i → i ≤ (rs 1).length → ((rs 1).length - i).toNat < m →
    V mX4_after (rm 3) (pR (vI (cRun rs x d o t0 (rs 1).length)) nn w) 55 [some (.ref p), some (vI s), some (vI d), some (.int x), some (vI o), some (vI (cRun rs x d o t0 i.toNat)), some (vI i), none] [] nn w 0 0 := by
  intro m
  induction m with
  | zero => intro i h1 h2 h3; omega
  | succ m ih =>
    intro i hi hi2 hm
    have ho := h.obj
    have hl := h.r1.len
    have hr := cRun_rng hn.1 hcv x d o ht0.1 ht0.2 i.toNat (by omega)
    have hp := p3_le n.toNat (by omega)
    have k := ih (i + 1) (by omega)
    rw [show (i + 1).toNat = i.toNat + 1 by omega, cRun, show ((i.toNat : Nat) : Int) = i by omega] at k
    generalize hT : cRun rs x d o t0 i.toNat = t at *
    have hck := hcv.2 i hi
    refine V_iload (Y := mX4_after) (pc := 55) dX4_after_55 rfl ?_
    refine V_aload_n (Y := mX4_after) (pc := 57) dX4_after_57 rfl ?_
    apply V_get (Y := mX4_after) (pc := 58) dX4_after_58 fl_X4_36
    · assumption
    · rfl
    apply V_vR (Y := mX4_after) (pc := 61) dX4_after_61 ok_X2_size ov_X2_size ln_X4_78 (c_Row_size h.r1)
    · exact h.r1.obj
    · rfl
    · rfl
    · rfl
    · rfl
    · rfl
    
    refine V_icmp_ge (tgt := 134) (Y := mX4_after) (pc := 64) dX4_after_64 (by decide) ⟨by omega, by omega⟩ ⟨by omega, by omega⟩ (fun h_64 => ?_) (fun h_64 => ?_)
    · refine V_iload (Y := mX4_after) (pc := 134) dX4_after_134 rfl ?_
      refine V_iret (Y := mX4_after) (pc := 136) dX4_after_136 rfl (Nat.le_of_ble_eq_true rfl) (Nat.le_of_ble_eq_true rfl) ?_
      exact pR_I (by rw [← hT, show i.toNat = (rs 1).length by omega])
    · refine V_iload_n (Y := mX4_after) (pc := 67) dX4_after_67 rfl ?_
      refine V_iload (Y := mX4_after) (pc := 68) dX4_after_68 rfl ?_
      refine V_ishr (Y := mX4_after) (pc := 70) dX4_after_70 (rfl) ?_
      refine V_iconst (Y := mX4_after) (pc := 71) dX4_after_71 ?_
      refine V_iand (Y := mX4_after) (pc := 72) dX4_after_72 (bit_iI x i) ?_
      refine V_iconst (Y := mX4_after) (pc := 73) dX4_after_73 ?_
      refine V_icmp_ne (tgt := 94) (Y := mX4_after) (pc := 74) dX4_after_74 (by decide) (cI_R _) ⟨by omega, by omega⟩ (fun h_74 => ?_) (fun h_74 => ?_)
      · have hc := hck (by omega)
        have hc1 := hc.1
        have hto := hc.2.1
        have ha := cAmt_rng hc t o
        refine V_iconst (Y := mX4_after) (pc := 94) dX4_after_94 ?_
        refine V_istore (Y := mX4_after) (pc := 95) dX4_after_95 rfl ?_
        refine V_iload (Y := mX4_after) (pc := 97) dX4_after_97 rfl ?_
        refine V_if_eq (tgt := 128) (Y := mX4_after) (pc := 99) dX4_after_99 (by decide) ⟨by omega, by omega⟩ (fun h_99 => ?_) (fun h_99 => ?_)
        · refine V_iinc (Y := mX4_after) (pc := 128) dX4_after_128 rfl rfl ?_
          refine V_goto (tgt := 55) (Y := mX4_after) (pc := 131) dX4_after_131 (by decide) ?_
          refine V_drop 7 ?_
          first
            | (exfalso; omega)
            | (have e : cStep rs x d o i t = mv t (rAt (rs 2) i).toNat (cAmt rs i t o) := cStep_t ⟨cI_1.mp h_74, h_87⟩
               rw [e] at k; exact k (by omega) (by omega))
            | (have e : cStep rs x d o i t = t := cStep_f (fun q => h_87 q.2)
               rw [e] at k; exact k (by omega) (by omega))
            | (have e : cStep rs x d o i t = t := cStep_f (fun q => h_74 (cI_1.mpr q.1))
               rw [e] at k; exact k (by omega) (by omega))
        · refine V_iload (Y := mX4_after) (pc := 102) dX4_after_102 rfl ?_
          refine V_aload_n (Y := mX4_after) (pc := 104) dX4_after_104 rfl ?_
          apply V_get (Y := mX4_after) (pc := 105) dX4_after_105 fl_X4_39
          · assumption
          · rfl
          refine V_iload (Y := mX4_after) (pc := 108) dX4_after_108 rfl ?_
          apply V_vR (Y := mX4_after) (pc := 110) dX4_after_110 ok_X2_at ov_X2_at ln_X4_85 (c_Row_at (i := i) h.r2 ⟨by omega, by omega⟩)
          · exact h.r2.obj
          · rfl
          · rfl
          · rfl
          · rfl
          · rfl
          refine V_aload_n (Y := mX4_after) (pc := 113) dX4_after_113 rfl ?_
          refine V_iload (Y := mX4_after) (pc := 114) dX4_after_114 rfl ?_
          refine V_iload (Y := mX4_after) (pc := 116) dX4_after_116 rfl ?_
          refine V_iload (Y := mX4_after) (pc := 118) dX4_after_118 rfl ?_
          apply V_vR (Y := mX4_after) (pc := 120) dX4_after_120 ok_X4_amountOf ov_X4_amountOf ln_X4_114 (c_amount (c := i) (s := t) (o := o) h hn hcv ⟨by omega, by omega⟩ (by omega) ⟨by omega, by omega⟩ ho2)
          · assumption
          · rfl
          · rfl
          · rfl
          · rfl
          · rfl
          refine V_moved (Y := mX4_after) (pc := 123) dX4_after_123 ln_X4_110 (by omega) ⟨by omega, by omega⟩ ⟨by omega, by omega⟩ ⟨by omega, by omega⟩ rfl ?_
          refine V_istore (Y := mX4_after) (pc := 126) dX4_after_126 rfl ?_
          refine V_iinc (Y := mX4_after) (pc := 128) dX4_after_128 rfl rfl ?_
          refine V_goto (tgt := 55) (Y := mX4_after) (pc := 131) dX4_after_131 (by decide) ?_
          refine V_drop 7 ?_
          first
            | (exfalso; omega)
            | (have e : cStep rs x d o i t = mv t (rAt (rs 2) i).toNat (cAmt rs i t o) := cStep_t ⟨cI_1.mp h_74, h_87⟩
               rw [e] at k; exact k (by omega) (by omega))
            | (have e : cStep rs x d o i t = t := cStep_f (fun q => h_87 q.2)
               rw [e] at k; exact k (by omega) (by omega))
            | (have e : cStep rs x d o i t = t := cStep_f (fun q => h_74 (cI_1.mpr q.1))
               rw [e] at k; exact k (by omega) (by omega))
      · have hc := hck (by omega)
        have hc1 := hc.1
        have hto := hc.2.1
        have ha := cAmt_rng hc t o
        refine V_aload_n (Y := mX4_after) (pc := 77) dX4_after_77 rfl ?_
        apply V_get (Y := mX4_after) (pc := 78) dX4_after_78 fl_X4_36
        · assumption
        · rfl
        refine V_iload (Y := mX4_after) (pc := 81) dX4_after_81 rfl ?_
        apply V_vR (Y := mX4_after) (pc := 83) dX4_after_83 ok_X2_at ov_X2_at ln_X4_85 (c_Row_at (i := i) h.r1 ⟨by omega, by omega⟩)
        · exact h.r1.obj
        · rfl
        · rfl
        · rfl
        · rfl
        · rfl
        refine V_iload_n (Y := mX4_after) (pc := 86) dX4_after_86 rfl ?_
        refine V_icmp_ne (tgt := 94) (Y := mX4_after) (pc := 87) dX4_after_87 (by decide) ⟨by omega, by omega⟩ ⟨by omega, by omega⟩ (fun h_87 => ?_) (fun h_87 => ?_)
        · refine V_iconst (Y := mX4_after) (pc := 94) dX4_after_94 ?_
          refine V_istore (Y := mX4_after) (pc := 95) dX4_after_95 rfl ?_
          refine V_iload (Y := mX4_after) (pc := 97) dX4_after_97 rfl ?_
          refine V_if_eq (tgt := 128) (Y := mX4_after) (pc := 99) dX4_after_99 (by decide) ⟨by omega, by omega⟩ (fun h_99 => ?_) (fun h_99 => ?_)
          · refine V_iinc (Y := mX4_after) (pc := 128) dX4_after_128 rfl rfl ?_
            refine V_goto (tgt := 55) (Y := mX4_after) (pc := 131) dX4_after_131 (by decide) ?_
            refine V_drop 7 ?_
            first
              | (exfalso; omega)
              | (have e : cStep rs x d o i t = mv t (rAt (rs 2) i).toNat (cAmt rs i t o) := cStep_t ⟨cI_1.mp h_74, h_87⟩
                 rw [e] at k; exact k (by omega) (by omega))
              | (have e : cStep rs x d o i t = t := cStep_f (fun q => h_87 q.2)
                 rw [e] at k; exact k (by omega) (by omega))
              | (have e : cStep rs x d o i t = t := cStep_f (fun q => h_74 (cI_1.mpr q.1))
                 rw [e] at k; exact k (by omega) (by omega))
          · refine V_iload (Y := mX4_after) (pc := 102) dX4_after_102 rfl ?_
            refine V_aload_n (Y := mX4_after) (pc := 104) dX4_after_104 rfl ?_
            apply V_get (Y := mX4_after) (pc := 105) dX4_after_105 fl_X4_39
            · assumption
            · rfl
            refine V_iload (Y := mX4_after) (pc := 108) dX4_after_108 rfl ?_
            apply V_vR (Y := mX4_after) (pc := 110) dX4_after_110 ok_X2_at ov_X2_at ln_X4_85 (c_Row_at (i := i) h.r2 ⟨by omega, by omega⟩)
            · exact h.r2.obj
            · rfl
            · rfl
            · rfl
            · rfl
            · rfl
            refine V_aload_n (Y := mX4_after) (pc := 113) dX4_after_113 rfl ?_
            refine V_iload (Y := mX4_after) (pc := 114) dX4_after_114 rfl ?_
            refine V_iload (Y := mX4_after) (pc := 116) dX4_after_116 rfl ?_
            refine V_iload (Y := mX4_after) (pc := 118) dX4_after_118 rfl ?_
            apply V_vR (Y := mX4_after) (pc := 120) dX4_after_120 ok_X4_amountOf ov_X4_amountOf ln_X4_114 (c_amount (c := i) (s := t) (o := o) h hn hcv ⟨by omega, by omega⟩ (by omega) ⟨by omega, by omega⟩ ho2)
            · assumption
            · rfl
            · rfl
            · rfl
            · rfl
            · rfl
            refine V_moved (Y := mX4_after) (pc := 123) dX4_after_123 ln_X4_110 (by omega) ⟨by omega, by omega⟩ ⟨by omega, by omega⟩ ⟨by omega, by omega⟩ rfl ?_
            refine V_istore (Y := mX4_after) (pc := 126) dX4_after_126 rfl ?_
            refine V_iinc (Y := mX4_after) (pc := 128) dX4_after_128 rfl rfl ?_
            refine V_goto (tgt := 55) (Y := mX4_after) (pc := 131) dX4_after_131 (by decide) ?_
            refine V_drop 7 ?_
            first
              | (exfalso; omega)
              | (have e : cStep rs x d o i t = mv t (rAt (rs 2) i).toNat (cAmt rs i t o) := cStep_t ⟨cI_1.mp h_74, h_87⟩
                 rw [e] at k; exact k (by omega) (by omega))
              | (have e : cStep rs x d o i t = t := cStep_f (fun q => h_87 q.2)
                 rw [e] at k; exact k (by omega) (by omega))
              | (have e : cStep rs x d o i t = t := cStep_f (fun q => h_74 (cI_1.mpr q.1))
                 rw [e] at k; exact k (by omega) (by omega))
        · refine V_iconst (Y := mX4_after) (pc := 90) dX4_after_90 ?_
          refine V_goto (tgt := 95) (Y := mX4_after) (pc := 91) dX4_after_91 (by decide) ?_
          refine V_istore (Y := mX4_after) (pc := 95) dX4_after_95 rfl ?_
          refine V_iload (Y := mX4_after) (pc := 97) dX4_after_97 rfl ?_
          refine V_if_eq (tgt := 128) (Y := mX4_after) (pc := 99) dX4_after_99 (by decide) ⟨by omega, by omega⟩ (fun h_99 => ?_) (fun h_99 => ?_)
          · refine V_iinc (Y := mX4_after) (pc := 128) dX4_after_128 rfl rfl ?_
            refine V_goto (tgt := 55) (Y := mX4_after) (pc := 131) dX4_after_131 (by decide) ?_
            refine V_drop 7 ?_
            first
              | (exfalso; omega)
              | (have e : cStep rs x d o i t = mv t (rAt (rs 2) i).toNat (cAmt rs i t o) := cStep_t ⟨cI_1.mp h_74, h_87⟩
                 rw [e] at k; exact k (by omega) (by omega))
              | (have e : cStep rs x d o i t = t := cStep_f (fun q => h_87 q.2)
                 rw [e] at k; exact k (by omega) (by omega))
              | (have e : cStep rs x d o i t = t := cStep_f (fun q => h_74 (cI_1.mpr q.1))
                 rw [e] at k; exact k (by omega) (by omega))
          · refine V_iload (Y := mX4_after) (pc := 102) dX4_after_102 rfl ?_
            refine V_aload_n (Y := mX4_after) (pc := 104) dX4_after_104 rfl ?_
            apply V_get (Y := mX4_after) (pc := 105) dX4_after_105 fl_X4_39
            · assumption
            · rfl
            refine V_iload (Y := mX4_after) (pc := 108) dX4_after_108 rfl ?_
            apply V_vR (Y := mX4_after) (pc := 110) dX4_after_110 ok_X2_at ov_X2_at ln_X4_85 (c_Row_at (i := i) h.r2 ⟨by omega, by omega⟩)
            · exact h.r2.obj
            · rfl
            · rfl
            · rfl
            · rfl
            · rfl
            refine V_aload_n (Y := mX4_after) (pc := 113) dX4_after_113 rfl ?_
            refine V_iload (Y := mX4_after) (pc := 114) dX4_after_114 rfl ?_
            refine V_iload (Y := mX4_after) (pc := 116) dX4_after_116 rfl ?_
            refine V_iload (Y := mX4_after) (pc := 118) dX4_after_118 rfl ?_
            apply V_vR (Y := mX4_after) (pc := 120) dX4_after_120 ok_X4_amountOf ov_X4_amountOf ln_X4_114 (c_amount (c := i) (s := t) (o := o) h hn hcv ⟨by omega, by omega⟩ (by omega) ⟨by omega, by omega⟩ ho2)
            · assumption
            · rfl
            · rfl
            · rfl
            · rfl
            · rfl
            refine V_moved (Y := mX4_after) (pc := 123) dX4_after_123 ln_X4_110 (by omega) ⟨by omega, by omega⟩ ⟨by omega, by omega⟩ ⟨by omega, by omega⟩ rfl ?_
            refine V_istore (Y := mX4_after) (pc := 126) dX4_after_126 rfl ?_
            refine V_iinc (Y := mX4_after) (pc := 128) dX4_after_128 rfl rfl ?_
            refine V_goto (tgt := 55) (Y := mX4_after) (pc := 131) dX4_after_131 (by decide) ?_
            refine V_drop 7 ?_
            first
              | (exfalso; omega)
              | (have e : cStep rs x d o i t = mv t (rAt (rs 2) i).toNat (cAmt rs i t o) := cStep_t ⟨cI_1.mp h_74, h_87⟩
                 rw [e] at k; exact k (by omega) (by omega))
              | (have e : cStep rs x d o i t = t := cStep_f (fun q => h_87 q.2)
                 rw [e] at k; exact k (by omega) (by omega))
              | (have e : cStep rs x d o i t = t := cStep_f (fun q => h_74 (cI_1.mpr q.1))
                 rw [e] at k; exact k (by omega) (by omega))
set_option maxRecDepth 100000 in
theorem c_after {nn : Nat} {w : vWd} {p : Nat} {n now s d : Int} {x : Int32} {ca po fo : Nat} {rs : Nat → List Int} (h : WallAt w p (n, now, ca, po, fo, rs)) (hn : 0 ≤ n ∧ n ≤ 7) (hcv : cvOK n rs) (hc : ca < 128) (hs : isS n s) (hd : isD n d) : Ctr mX4_after (rm 3) [.ref p, vI s, vI d, .int x] nn w (pR (vI (aft ca rs s d x)) nn w) := by
  refine Ctr_of (lv := [some (.ref p), some (vI s), some (vI d), some (.int x), none, none, none, none]) (by decide +kernel) rfl rfl ?_
  have ho := h.obj
  have hp := p3_le n.toNat (by omega)
  have hg := dg_rng s d.toNat
  refine V_aload_n (Y := mX4_after) (pc := 0) dX4_after_0 rfl ?_
  refine V_iload_n (Y := mX4_after) (pc := 1) dX4_after_1 rfl ?_
  apply V_vR (Y := mX4_after) (pc := 2) dX4_after_2 ok_X4_hasCatch ov_X4_hasCatch ln_X4_82 (c_hasCatch (d := d) h (by omega) ⟨by omega, by omega⟩)
  · assumption
  · rfl
  · rfl
  · rfl
  · rfl
  · rfl
  refine V_if_eqB (tgt := 18) (Y := mX4_after) (pc := 5) dX4_after_5 (by decide) (fun h_5 => ?_) (fun h_5 => ?_)
  · refine V_iload_n (Y := mX4_after) (pc := 18) dX4_after_18 rfl ?_
    refine V_iload_n (Y := mX4_after) (pc := 19) dX4_after_19 rfl ?_
    apply V_sR (Y := mX4_after) (pc := 20) dX4_after_20 ok_X5_outIn os_X5_outIn ln_X4_106 (c_outIn (s := s) (d := d) (by omega) ⟨by omega, by omega⟩ ⟨by omega, by omega⟩)
    · rfl
    · rfl
    · rfl
    refine V_iconst (Y := mX4_after) (pc := 23) dX4_after_23 ?_
    refine V_icmp_eq (tgt := 31) (Y := mX4_after) (pc := 24) dX4_after_24 (by decide) ⟨by omega, by omega⟩ ⟨by omega, by omega⟩ (fun h_24 => ?_) (fun h_24 => ?_)
    · refine V_iconst (Y := mX4_after) (pc := 31) dX4_after_31 ?_
      refine V_istore (Y := mX4_after) (pc := 32) dX4_after_32 rfl ?_
      refine V_iload_n (Y := mX4_after) (pc := 34) dX4_after_34 rfl ?_
      refine V_iload_n (Y := mX4_after) (pc := 35) dX4_after_35 rfl ?_
      refine V_iload (Y := mX4_after) (pc := 36) dX4_after_36 rfl ?_
      refine V_if_eq (tgt := 45) (Y := mX4_after) (pc := 38) dX4_after_38 (by decide) ⟨by omega, by omega⟩ (fun h_38 => ?_) (fun h_38 => ?_)
      · refine V_bipush (Y := mX4_after) (pc := 45) dX4_after_45 ⟨by decide, by decide⟩ ?_
        refine V_moved (Y := mX4_after) (pc := 47) dX4_after_47 ln_X4_110 (by omega) ⟨by omega, by omega⟩ ⟨by omega, by omega⟩ ⟨by omega, by omega⟩ rfl ?_
        refine V_istore (Y := mX4_after) (pc := 50) dX4_after_50 rfl ?_
        refine V_iconst (Y := mX4_after) (pc := 52) dX4_after_52 ?_
        refine V_istore (Y := mX4_after) (pc := 53) dX4_after_53 rfl ?_
        have hm1 := mv_rng 1 hs.1 hs.2 (d := d.toNat) (by omega)
        have hm2 := mv_rng (-2) hs.1 hs.2 (d := d.toNat) (by omega)
        first
          | (exfalso; omega)
          | (have e : aft ca rs s d x = cRun rs x d 1 (mv s d.toNat 1) (rs 1).length := by rw [aft, if_neg (fun q => by first | exact h_5 q.1 | exact h_13 q.2), aft0, if_neg h_24, if_neg h_24]
             rw [e]
             exact lp_after h hn hcv hd ⟨by omega, by omega⟩ hm1 ((rs 1).length + 1) 0 (by omega) (by omega) (by omega))
          | (have e : aft ca rs s d x = cRun rs x d 0 (mv s d.toNat (-2)) (rs 1).length := by rw [aft, if_neg (fun q => by first | exact h_5 q.1 | exact h_13 q.2), aft0, if_pos h_24, if_pos h_24]
             rw [e]
             exact lp_after h hn hcv hd ⟨by omega, by omega⟩ hm2 ((rs 1).length + 1) 0 (by omega) (by omega) (by omega))
      · refine V_iconst (Y := mX4_after) (pc := 41) dX4_after_41 ?_
        refine V_goto (tgt := 47) (Y := mX4_after) (pc := 42) dX4_after_42 (by decide) ?_
        refine V_moved (Y := mX4_after) (pc := 47) dX4_after_47 ln_X4_110 (by omega) ⟨by omega, by omega⟩ ⟨by omega, by omega⟩ ⟨by omega, by omega⟩ rfl ?_
        refine V_istore (Y := mX4_after) (pc := 50) dX4_after_50 rfl ?_
        refine V_iconst (Y := mX4_after) (pc := 52) dX4_after_52 ?_
        refine V_istore (Y := mX4_after) (pc := 53) dX4_after_53 rfl ?_
        have hm1 := mv_rng 1 hs.1 hs.2 (d := d.toNat) (by omega)
        have hm2 := mv_rng (-2) hs.1 hs.2 (d := d.toNat) (by omega)
        first
          | (exfalso; omega)
          | (have e : aft ca rs s d x = cRun rs x d 1 (mv s d.toNat 1) (rs 1).length := by rw [aft, if_neg (fun q => by first | exact h_5 q.1 | exact h_13 q.2), aft0, if_neg h_24, if_neg h_24]
             rw [e]
             exact lp_after h hn hcv hd ⟨by omega, by omega⟩ hm1 ((rs 1).length + 1) 0 (by omega) (by omega) (by omega))
          | (have e : aft ca rs s d x = cRun rs x d 0 (mv s d.toNat (-2)) (rs 1).length := by rw [aft, if_neg (fun q => by first | exact h_5 q.1 | exact h_13 q.2), aft0, if_pos h_24, if_pos h_24]
             rw [e]
             exact lp_after h hn hcv hd ⟨by omega, by omega⟩ hm2 ((rs 1).length + 1) 0 (by omega) (by omega) (by omega))
    · refine V_iconst (Y := mX4_after) (pc := 27) dX4_after_27 ?_
      refine V_goto (tgt := 32) (Y := mX4_after) (pc := 28) dX4_after_28 (by decide) ?_
      refine V_istore (Y := mX4_after) (pc := 32) dX4_after_32 rfl ?_
      refine V_iload_n (Y := mX4_after) (pc := 34) dX4_after_34 rfl ?_
      refine V_iload_n (Y := mX4_after) (pc := 35) dX4_after_35 rfl ?_
      refine V_iload (Y := mX4_after) (pc := 36) dX4_after_36 rfl ?_
      refine V_if_eq (tgt := 45) (Y := mX4_after) (pc := 38) dX4_after_38 (by decide) ⟨by omega, by omega⟩ (fun h_38 => ?_) (fun h_38 => ?_)
      · refine V_bipush (Y := mX4_after) (pc := 45) dX4_after_45 ⟨by decide, by decide⟩ ?_
        refine V_moved (Y := mX4_after) (pc := 47) dX4_after_47 ln_X4_110 (by omega) ⟨by omega, by omega⟩ ⟨by omega, by omega⟩ ⟨by omega, by omega⟩ rfl ?_
        refine V_istore (Y := mX4_after) (pc := 50) dX4_after_50 rfl ?_
        refine V_iconst (Y := mX4_after) (pc := 52) dX4_after_52 ?_
        refine V_istore (Y := mX4_after) (pc := 53) dX4_after_53 rfl ?_
        have hm1 := mv_rng 1 hs.1 hs.2 (d := d.toNat) (by omega)
        have hm2 := mv_rng (-2) hs.1 hs.2 (d := d.toNat) (by omega)
        first
          | (exfalso; omega)
          | (have e : aft ca rs s d x = cRun rs x d 1 (mv s d.toNat 1) (rs 1).length := by rw [aft, if_neg (fun q => by first | exact h_5 q.1 | exact h_13 q.2), aft0, if_neg h_24, if_neg h_24]
             rw [e]
             exact lp_after h hn hcv hd ⟨by omega, by omega⟩ hm1 ((rs 1).length + 1) 0 (by omega) (by omega) (by omega))
          | (have e : aft ca rs s d x = cRun rs x d 0 (mv s d.toNat (-2)) (rs 1).length := by rw [aft, if_neg (fun q => by first | exact h_5 q.1 | exact h_13 q.2), aft0, if_pos h_24, if_pos h_24]
             rw [e]
             exact lp_after h hn hcv hd ⟨by omega, by omega⟩ hm2 ((rs 1).length + 1) 0 (by omega) (by omega) (by omega))
      · refine V_iconst (Y := mX4_after) (pc := 41) dX4_after_41 ?_
        refine V_goto (tgt := 47) (Y := mX4_after) (pc := 42) dX4_after_42 (by decide) ?_
        refine V_moved (Y := mX4_after) (pc := 47) dX4_after_47 ln_X4_110 (by omega) ⟨by omega, by omega⟩ ⟨by omega, by omega⟩ ⟨by omega, by omega⟩ rfl ?_
        refine V_istore (Y := mX4_after) (pc := 50) dX4_after_50 rfl ?_
        refine V_iconst (Y := mX4_after) (pc := 52) dX4_after_52 ?_
        refine V_istore (Y := mX4_after) (pc := 53) dX4_after_53 rfl ?_
        have hm1 := mv_rng 1 hs.1 hs.2 (d := d.toNat) (by omega)
        have hm2 := mv_rng (-2) hs.1 hs.2 (d := d.toNat) (by omega)
        first
          | (exfalso; omega)
          | (have e : aft ca rs s d x = cRun rs x d 1 (mv s d.toNat 1) (rs 1).length := by rw [aft, if_neg (fun q => by first | exact h_5 q.1 | exact h_13 q.2), aft0, if_neg h_24, if_neg h_24]
             rw [e]
             exact lp_after h hn hcv hd ⟨by omega, by omega⟩ hm1 ((rs 1).length + 1) 0 (by omega) (by omega) (by omega))
          | (have e : aft ca rs s d x = cRun rs x d 0 (mv s d.toNat (-2)) (rs 1).length := by rw [aft, if_neg (fun q => by first | exact h_5 q.1 | exact h_13 q.2), aft0, if_pos h_24, if_pos h_24]
             rw [e]
             exact lp_after h hn hcv hd ⟨by omega, by omega⟩ hm2 ((rs 1).length + 1) 0 (by omega) (by omega) (by omega))
  · refine V_iload_n (Y := mX4_after) (pc := 8) dX4_after_8 rfl ?_
    refine V_iload_n (Y := mX4_after) (pc := 9) dX4_after_9 rfl ?_
    apply V_sR (Y := mX4_after) (pc := 10) dX4_after_10 ok_X5_isOpenBeside os_X5_isOpenBeside ln_X4_102 (c_isOpenBeside (s := s) (d := d) (by omega) ⟨by omega, by omega⟩ ⟨by omega, by omega⟩)
    · rfl
    · rfl
    · rfl
    refine V_if_eqB (tgt := 18) (Y := mX4_after) (pc := 13) dX4_after_13 (by decide) (fun h_13 => ?_) (fun h_13 => ?_)
    · refine V_iload_n (Y := mX4_after) (pc := 18) dX4_after_18 rfl ?_
      refine V_iload_n (Y := mX4_after) (pc := 19) dX4_after_19 rfl ?_
      apply V_sR (Y := mX4_after) (pc := 20) dX4_after_20 ok_X5_outIn os_X5_outIn ln_X4_106 (c_outIn (s := s) (d := d) (by omega) ⟨by omega, by omega⟩ ⟨by omega, by omega⟩)
      · rfl
      · rfl
      · rfl
      refine V_iconst (Y := mX4_after) (pc := 23) dX4_after_23 ?_
      refine V_icmp_eq (tgt := 31) (Y := mX4_after) (pc := 24) dX4_after_24 (by decide) ⟨by omega, by omega⟩ ⟨by omega, by omega⟩ (fun h_24 => ?_) (fun h_24 => ?_)
      · refine V_iconst (Y := mX4_after) (pc := 31) dX4_after_31 ?_
        refine V_istore (Y := mX4_after) (pc := 32) dX4_after_32 rfl ?_
        refine V_iload_n (Y := mX4_after) (pc := 34) dX4_after_34 rfl ?_
        refine V_iload_n (Y := mX4_after) (pc := 35) dX4_after_35 rfl ?_
        refine V_iload (Y := mX4_after) (pc := 36) dX4_after_36 rfl ?_
        refine V_if_eq (tgt := 45) (Y := mX4_after) (pc := 38) dX4_after_38 (by decide) ⟨by omega, by omega⟩ (fun h_38 => ?_) (fun h_38 => ?_)
        · refine V_bipush (Y := mX4_after) (pc := 45) dX4_after_45 ⟨by decide, by decide⟩ ?_
          refine V_moved (Y := mX4_after) (pc := 47) dX4_after_47 ln_X4_110 (by omega) ⟨by omega, by omega⟩ ⟨by omega, by omega⟩ ⟨by omega, by omega⟩ rfl ?_
          refine V_istore (Y := mX4_after) (pc := 50) dX4_after_50 rfl ?_
          refine V_iconst (Y := mX4_after) (pc := 52) dX4_after_52 ?_
          refine V_istore (Y := mX4_after) (pc := 53) dX4_after_53 rfl ?_
          have hm1 := mv_rng 1 hs.1 hs.2 (d := d.toNat) (by omega)
          have hm2 := mv_rng (-2) hs.1 hs.2 (d := d.toNat) (by omega)
          first
            | (exfalso; omega)
            | (have e : aft ca rs s d x = cRun rs x d 1 (mv s d.toNat 1) (rs 1).length := by rw [aft, if_neg (fun q => by first | exact h_5 q.1 | exact h_13 q.2), aft0, if_neg h_24, if_neg h_24]
               rw [e]
               exact lp_after h hn hcv hd ⟨by omega, by omega⟩ hm1 ((rs 1).length + 1) 0 (by omega) (by omega) (by omega))
            | (have e : aft ca rs s d x = cRun rs x d 0 (mv s d.toNat (-2)) (rs 1).length := by rw [aft, if_neg (fun q => by first | exact h_5 q.1 | exact h_13 q.2), aft0, if_pos h_24, if_pos h_24]
               rw [e]
               exact lp_after h hn hcv hd ⟨by omega, by omega⟩ hm2 ((rs 1).length + 1) 0 (by omega) (by omega) (by omega))
        · refine V_iconst (Y := mX4_after) (pc := 41) dX4_after_41 ?_
          refine V_goto (tgt := 47) (Y := mX4_after) (pc := 42) dX4_after_42 (by decide) ?_
          refine V_moved (Y := mX4_after) (pc := 47) dX4_after_47 ln_X4_110 (by omega) ⟨by omega, by omega⟩ ⟨by omega, by omega⟩ ⟨by omega, by omega⟩ rfl ?_
          refine V_istore (Y := mX4_after) (pc := 50) dX4_after_50 rfl ?_
          refine V_iconst (Y := mX4_after) (pc := 52) dX4_after_52 ?_
          refine V_istore (Y := mX4_after) (pc := 53) dX4_after_53 rfl ?_
          have hm1 := mv_rng 1 hs.1 hs.2 (d := d.toNat) (by omega)
          have hm2 := mv_rng (-2) hs.1 hs.2 (d := d.toNat) (by omega)
          first
            | (exfalso; omega)
            | (have e : aft ca rs s d x = cRun rs x d 1 (mv s d.toNat 1) (rs 1).length := by rw [aft, if_neg (fun q => by first | exact h_5 q.1 | exact h_13 q.2), aft0, if_neg h_24, if_neg h_24]
               rw [e]
               exact lp_after h hn hcv hd ⟨by omega, by omega⟩ hm1 ((rs 1).length + 1) 0 (by omega) (by omega) (by omega))
            | (have e : aft ca rs s d x = cRun rs x d 0 (mv s d.toNat (-2)) (rs 1).length := by rw [aft, if_neg (fun q => by first | exact h_5 q.1 | exact h_13 q.2), aft0, if_pos h_24, if_pos h_24]
               rw [e]
               exact lp_after h hn hcv hd ⟨by omega, by omega⟩ hm2 ((rs 1).length + 1) 0 (by omega) (by omega) (by omega))
      · refine V_iconst (Y := mX4_after) (pc := 27) dX4_after_27 ?_
        refine V_goto (tgt := 32) (Y := mX4_after) (pc := 28) dX4_after_28 (by decide) ?_
        refine V_istore (Y := mX4_after) (pc := 32) dX4_after_32 rfl ?_
        refine V_iload_n (Y := mX4_after) (pc := 34) dX4_after_34 rfl ?_
        refine V_iload_n (Y := mX4_after) (pc := 35) dX4_after_35 rfl ?_
        refine V_iload (Y := mX4_after) (pc := 36) dX4_after_36 rfl ?_
        refine V_if_eq (tgt := 45) (Y := mX4_after) (pc := 38) dX4_after_38 (by decide) ⟨by omega, by omega⟩ (fun h_38 => ?_) (fun h_38 => ?_)
        · refine V_bipush (Y := mX4_after) (pc := 45) dX4_after_45 ⟨by decide, by decide⟩ ?_
          refine V_moved (Y := mX4_after) (pc := 47) dX4_after_47 ln_X4_110 (by omega) ⟨by omega, by omega⟩ ⟨by omega, by omega⟩ ⟨by omega, by omega⟩ rfl ?_
          refine V_istore (Y := mX4_after) (pc := 50) dX4_after_50 rfl ?_
          refine V_iconst (Y := mX4_after) (pc := 52) dX4_after_52 ?_
          refine V_istore (Y := mX4_after) (pc := 53) dX4_after_53 rfl ?_
          have hm1 := mv_rng 1 hs.1 hs.2 (d := d.toNat) (by omega)
          have hm2 := mv_rng (-2) hs.1 hs.2 (d := d.toNat) (by omega)
          first
            | (exfalso; omega)
            | (have e : aft ca rs s d x = cRun rs x d 1 (mv s d.toNat 1) (rs 1).length := by rw [aft, if_neg (fun q => by first | exact h_5 q.1 | exact h_13 q.2), aft0, if_neg h_24, if_neg h_24]
               rw [e]
               exact lp_after h hn hcv hd ⟨by omega, by omega⟩ hm1 ((rs 1).length + 1) 0 (by omega) (by omega) (by omega))
            | (have e : aft ca rs s d x = cRun rs x d 0 (mv s d.toNat (-2)) (rs 1).length := by rw [aft, if_neg (fun q => by first | exact h_5 q.1 | exact h_13 q.2), aft0, if_pos h_24, if_pos h_24]
               rw [e]
               exact lp_after h hn hcv hd ⟨by omega, by omega⟩ hm2 ((rs 1).length + 1) 0 (by omega) (by omega) (by omega))
        · refine V_iconst (Y := mX4_after) (pc := 41) dX4_after_41 ?_
          refine V_goto (tgt := 47) (Y := mX4_after) (pc := 42) dX4_after_42 (by decide) ?_
          refine V_moved (Y := mX4_after) (pc := 47) dX4_after_47 ln_X4_110 (by omega) ⟨by omega, by omega⟩ ⟨by omega, by omega⟩ ⟨by omega, by omega⟩ rfl ?_
          refine V_istore (Y := mX4_after) (pc := 50) dX4_after_50 rfl ?_
          refine V_iconst (Y := mX4_after) (pc := 52) dX4_after_52 ?_
          refine V_istore (Y := mX4_after) (pc := 53) dX4_after_53 rfl ?_
          have hm1 := mv_rng 1 hs.1 hs.2 (d := d.toNat) (by omega)
          have hm2 := mv_rng (-2) hs.1 hs.2 (d := d.toNat) (by omega)
          first
            | (exfalso; omega)
            | (have e : aft ca rs s d x = cRun rs x d 1 (mv s d.toNat 1) (rs 1).length := by rw [aft, if_neg (fun q => by first | exact h_5 q.1 | exact h_13 q.2), aft0, if_neg h_24, if_neg h_24]
               rw [e]
               exact lp_after h hn hcv hd ⟨by omega, by omega⟩ hm1 ((rs 1).length + 1) 0 (by omega) (by omega) (by omega))
            | (have e : aft ca rs s d x = cRun rs x d 0 (mv s d.toNat (-2)) (rs 1).length := by rw [aft, if_neg (fun q => by first | exact h_5 q.1 | exact h_13 q.2), aft0, if_pos h_24, if_pos h_24]
               rw [e]
               exact lp_after h hn hcv hd ⟨by omega, by omega⟩ hm2 ((rs 1).length + 1) 0 (by omega) (by omega) (by omega))
    · refine V_iload_n (Y := mX4_after) (pc := 16) dX4_after_16 rfl ?_
      refine V_iret (Y := mX4_after) (pc := 17) dX4_after_17 rfl (Nat.le_of_ble_eq_true rfl) (Nat.le_of_ble_eq_true rfl) ?_
      exact pR_I (by rw [aft, if_pos ⟨h_5, h_13⟩])
/-! sets of drawers; DANGER; SIGHTS -/
def gdOK (n : Int) (rs : Nat → List Int) : Prop := ((rs 0).length : Int) = n ∧ ∀ d : Int, 0 ≤ d → d < n → 0 ≤ rAt (rs 0) d ∧ rAt (rs 0) d ≤ 6
def dwB (l : List Int) (g : Nat) : Nat → Nat
  | 0 => 0
  | m + 1 => dwB l g m ||| (if g.testBit (rAt l (m : Int)).toNat = true then p2 m else 0)
theorem dwB_bit (l : List Int) (g : Nat) : ∀ (m d : Nat), (dwB l g m).testBit d = decide (d < m ∧ g.testBit (rAt l (d : Int)).toNat = true)
  | 0, d => by simp [dwB]
  | m + 1, d => by
    rw [dwB, Nat.testBit_or, dwB_bit l g m d]
    by_cases h : g.testBit (rAt l (m : Int)).toNat = true
    · rw [if_pos h, p2, Nat.testBit_two_pow]
      by_cases h2 : m = d
      · subst h2; simp [h]
      · have : d < m + 1 ↔ d < m := by omega
        simp [h2, this]
    · rw [if_neg h, Nat.zero_testBit, Bool.or_false]
      by_cases h2 : m = d
      · subst h2; simp [h]
      · have : d < m + 1 ↔ d < m := by omega
        simp [this]
theorem dwB_lt (l : List Int) (g : Nat) : ∀ m, dwB l g m < 2 ^ m
  | 0 => by simp [dwB]
  | m + 1 => by
    have ih := dwB_lt l g m
    have h2 : (2 : Nat) ^ (m + 1) = 2 * 2 ^ m := by rw [Nat.pow_succ]; omega
    rw [dwB]
    apply Nat.or_lt_two_pow
    · omega
    · split
      · unfold p2; omega
      · exact Nat.two_pow_pos _
set_option maxRecDepth 100000 in
theorem lp_drawersWith {nn : Nat} {w : vWd} {p g : Nat} {n now : Int} {ca po fo : Nat} {rs : Nat → List Int} (h : WallAt w p (n, now, ca, po, fo, rs)) (hn : 0 ≤ n ∧ n ≤ 7) (hg : g < 2147483648) (hgd : gdOK n rs) : ∀ (m : Nat) (i : Int), 0 ≤ i → i ≤ n → (n - i).toNat < m →
    V mX4_drawersHolding (rm 1) (pR (vI (dwB (rs 0) g n.toNat : Nat)) nn w) 4 [some (.ref p), some (vI (g : Int)), some (vI (dwB (rs 0) g i.toNat : Nat)), some (vI i)] [] nn w 0 0 := by
  intro m
  induction m with
  | zero => intro i h1 h2 h3; omega
  | succ m ih =>
    intro i hi hi2 hm
    have ho := h.obj
    have hl := h.r0.len
    have k := ih (i + 1) (by omega)
    rw [show (i + 1).toNat = i.toNat + 1 by omega, dwB, show ((i.toNat : Nat) : Int) = i by omega] at k
    have hgi := hgd.2 i hi
    have hb := testBit_1 g (rAt (rs 0) i).toNat
    refine V_iload_n (Y := mX4_drawersHolding) (pc := 4) dX4_drawersHolding_4 rfl ?_
    refine V_aload_n (Y := mX4_drawersHolding) (pc := 5) dX4_drawersHolding_5 rfl ?_
    apply V_get (Y := mX4_drawersHolding) (pc := 6) dX4_drawersHolding_6 fl_X4_9
    · assumption
    · rfl
    refine V_icmp_ge (tgt := 40) (Y := mX4_drawersHolding) (pc := 9) dX4_drawersHolding_9 (by decide) ⟨by omega, by omega⟩ ⟨by omega, by omega⟩ (fun h_9 => ?_) (fun h_9 => ?_)
    · refine V_iload_n (Y := mX4_drawersHolding) (pc := 40) dX4_drawersHolding_40 rfl ?_
      refine V_iret (Y := mX4_drawersHolding) (pc := 41) dX4_drawersHolding_41 rfl (Nat.le_of_ble_eq_true rfl) (Nat.le_of_ble_eq_true rfl) ?_
      exact pR_I (by rw [show i = n by omega])
    · refine V_iload_n (Y := mX4_drawersHolding) (pc := 12) dX4_drawersHolding_12 rfl ?_
      refine V_aload_n (Y := mX4_drawersHolding) (pc := 13) dX4_drawersHolding_13 rfl ?_
      apply V_get (Y := mX4_drawersHolding) (pc := 14) dX4_drawersHolding_14 fl_X4_32
      · assumption
      · rfl
      refine V_iload_n (Y := mX4_drawersHolding) (pc := 17) dX4_drawersHolding_17 rfl ?_
      apply V_vR (Y := mX4_drawersHolding) (pc := 18) dX4_drawersHolding_18 ok_X2_at ov_X2_at ln_X4_85 (c_Row_at (i := i) h.r0 ⟨by omega, by omega⟩)
      · exact h.r0.obj
      · rfl
      · rfl
      · rfl
      · rfl
      · rfl
      refine V_ishr (Y := mX4_drawersHolding) (pc := 21) dX4_drawersHolding_21 (iI_shr (by omega) (by omega) hg) ?_
      refine V_iconst (Y := mX4_drawersHolding) (pc := 22) dX4_drawersHolding_22 ?_
      refine V_iand (Y := mX4_drawersHolding) (pc := 23) dX4_drawersHolding_23 (iI_and _ 1) ?_
      rw [hb]
      refine V_iconst (Y := mX4_drawersHolding) (pc := 24) dX4_drawersHolding_24 ?_
      refine V_icmp_ne (tgt := 34) (Y := mX4_drawersHolding) (pc := 25) dX4_drawersHolding_25 (by decide) ⟨by split <;> omega, by split <;> omega⟩ ⟨by omega, by omega⟩ (fun h_25 => ?_) (fun h_25 => ?_)
      · refine V_iinc (Y := mX4_drawersHolding) (pc := 34) dX4_drawersHolding_34 rfl rfl ?_
        refine V_goto (tgt := 4) (Y := mX4_drawersHolding) (pc := 37) dX4_drawersHolding_37 (by decide) ?_
        first
          | (rw [if_pos (by revert h_25; split <;> simp_all)] at k; exact k (by omega) (by omega))
          | (rw [if_neg (by revert h_25; split <;> simp_all), Nat.or_zero] at k; exact k (by omega) (by omega))
      · refine V_iload_n (Y := mX4_drawersHolding) (pc := 28) dX4_drawersHolding_28 rfl ?_
        refine V_iconst (Y := mX4_drawersHolding) (pc := 29) dX4_drawersHolding_29 ?_
        refine V_iload_n (Y := mX4_drawersHolding) (pc := 30) dX4_drawersHolding_30 rfl ?_
        refine V_ishl (Y := mX4_drawersHolding) (pc := 31) dX4_drawersHolding_31 (iI_shl2 (by omega) (by omega)) ?_
        refine V_ior (Y := mX4_drawersHolding) (pc := 32) dX4_drawersHolding_32 (iI_or _ _) ?_
        refine V_istore_n (Y := mX4_drawersHolding) (pc := 33) dX4_drawersHolding_33 rfl ?_
        refine V_iinc (Y := mX4_drawersHolding) (pc := 34) dX4_drawersHolding_34 rfl rfl ?_
        refine V_goto (tgt := 4) (Y := mX4_drawersHolding) (pc := 37) dX4_drawersHolding_37 (by decide) ?_
        first
          | (rw [if_pos (by revert h_25; split <;> simp_all)] at k; exact k (by omega) (by omega))
          | (rw [if_neg (by revert h_25; split <;> simp_all), Nat.or_zero] at k; exact k (by omega) (by omega))
set_option maxRecDepth 100000 in
theorem c_drawersWith {nn : Nat} {w : vWd} {p g : Nat} {n now : Int} {ca po fo : Nat} {rs : Nat → List Int} (h : WallAt w p (n, now, ca, po, fo, rs)) (hn : 0 ≤ n ∧ n ≤ 7) (hg : g < 2147483648) (hgd : gdOK n rs) : Ctr mX4_drawersHolding (rm 1) [.ref p, vI (g : Int)] nn w (pR (vI (dwB (rs 0) g n.toNat : Nat)) nn w) := by
  refine Ctr_of (lv := [some (.ref p), some (vI (g : Int)), none, none]) (by decide +kernel) rfl rfl ?_
  refine V_iconst (Y := mX4_drawersHolding) (pc := 0) dX4_drawersHolding_0 ?_
  refine V_istore_n (Y := mX4_drawersHolding) (pc := 1) dX4_drawersHolding_1 rfl ?_
  refine V_iconst (Y := mX4_drawersHolding) (pc := 2) dX4_drawersHolding_2 ?_
  refine V_istore_n (Y := mX4_drawersHolding) (pc := 3) dX4_drawersHolding_3 rfl ?_
  exact lp_drawersWith h hn hg hgd (n.toNat + 1) 0 (by omega) (by omega) (by omega)
theorem andNot : ∀ f, f < 128 → ∀ z, z < 128 → iI ((f : Nat) : Int) &&& (iI ((z : Nat) : Int) ^^^ iI (-1)) = iI ((f &&& (127 ^^^ z) : Nat) : Int) := by decide +kernel
def dgBits (n : Int) (po fo : Nat) (rs : Nat → List Int) (s : Int) : Nat := bsB (dwB (rs 0) po n.toNat &&& drB s 2 7) &&& (dwB (rs 0) fo n.toNat &&& (127 ^^^ drB s 0 7))
set_option maxRecDepth 100000 in
theorem c_isDanger {nn : Nat} {w : vWd} {p : Nat} {n now s : Int} {ca po fo : Nat} {rs : Nat → List Int} (h : WallAt w p (n, now, ca, po, fo, rs)) (hn : 0 ≤ n ∧ n ≤ 7) (hpo : po < 128) (hfo : fo < 128) (hgd : gdOK n rs) (hs : isS n s) : Ctr mX4_isDanger (rm 2) [.ref p, vI s] nn w (pR (vI (bI (dgBits n po fo rs s ≠ 0))) nn w) := by
  refine Ctr_of (lv := [some (.ref p), some (vI s), none, none]) (by decide +kernel) rfl rfl ?_
  have ho := h.obj
  have hp := p3_le n.toNat (by omega)
  have h1 := dwB_lt (rs 0) po n.toNat
  have h2 := dwB_lt (rs 0) fo n.toNat
  have h3 : (2 : Nat) ^ n.toNat ≤ 2 ^ 7 := Nat.pow_le_pow_right (by decide) (by omega)
  have h4 : (dwB (rs 0) po n.toNat &&& drB s 2 7) < 128 := Nat.lt_of_le_of_lt Nat.and_le_left (by omega)
  have h5 : (dwB (rs 0) fo n.toNat &&& (127 ^^^ drB s 0 7)) < 128 := Nat.lt_of_le_of_lt Nat.and_le_left (by omega)
  have h6 : dgBits n po fo rs s < 128 := Nat.lt_of_le_of_lt Nat.and_le_right h5
  have hdef : bsB (dwB (rs 0) po n.toNat &&& drB s 2 7) &&& (dwB (rs 0) fo n.toNat &&& (127 ^^^ drB s 0 7)) = dgBits n po fo rs s := rfl
  refine V_aload_n (Y := mX4_isDanger) (pc := 0) dX4_isDanger_0 rfl ?_
  refine V_aload_n (Y := mX4_isDanger) (pc := 1) dX4_isDanger_1 rfl ?_
  apply V_get (Y := mX4_isDanger) (pc := 2) dX4_isDanger_2 fl_X4_21
  · assumption
  · rfl
  apply V_vR (Y := mX4_isDanger) (pc := 5) dX4_isDanger_5 ok_X4_drawersHolding ov_X4_drawersHolding ln_X4_126 (c_drawersWith (g := po) h hn (by omega) hgd)
  · assumption
  · rfl
  · rfl
  · rfl
  · rfl
  · rfl
  refine V_iload_n (Y := mX4_isDanger) (pc := 8) dX4_isDanger_8 rfl ?_
  refine V_iconst (Y := mX4_isDanger) (pc := 9) dX4_isDanger_9 ?_
  apply V_sR (Y := mX4_isDanger) (pc := 10) dX4_isDanger_10 ok_X5_drawersOutBy os_X5_drawersOutBy ln_X4_129 (c_drawersOut (s := s) (v := 2) hs.1 ⟨by omega, by omega⟩ ⟨by omega, by omega⟩)
  · rfl
  · rfl
  · rfl
  refine V_iand (Y := mX4_isDanger) (pc := 13) dX4_isDanger_13 (iI_and _ _) ?_
  refine V_istore_n (Y := mX4_isDanger) (pc := 14) dX4_isDanger_14 rfl ?_
  refine V_aload_n (Y := mX4_isDanger) (pc := 15) dX4_isDanger_15 rfl ?_
  refine V_aload_n (Y := mX4_isDanger) (pc := 16) dX4_isDanger_16 rfl ?_
  apply V_get (Y := mX4_isDanger) (pc := 17) dX4_isDanger_17 fl_X4_24
  · assumption
  · rfl
  apply V_vR (Y := mX4_isDanger) (pc := 20) dX4_isDanger_20 ok_X4_drawersHolding ov_X4_drawersHolding ln_X4_126 (c_drawersWith (g := fo) h hn (by omega) hgd)
  · assumption
  · rfl
  · rfl
  · rfl
  · rfl
  · rfl
  refine V_iload_n (Y := mX4_isDanger) (pc := 23) dX4_isDanger_23 rfl ?_
  refine V_iconst (Y := mX4_isDanger) (pc := 24) dX4_isDanger_24 ?_
  apply V_sR (Y := mX4_isDanger) (pc := 25) dX4_isDanger_25 ok_X5_drawersOutBy os_X5_drawersOutBy ln_X4_129 (c_drawersOut (s := s) (v := 0) hs.1 ⟨by omega, by omega⟩ ⟨by omega, by omega⟩)
  · rfl
  · rfl
  · rfl
  refine V_iconst (Y := mX4_isDanger) (pc := 28) dX4_isDanger_28 ?_
  refine V_ixor (Y := mX4_isDanger) (pc := 29) dX4_isDanger_29 (rfl) ?_
  refine V_iand (Y := mX4_isDanger) (pc := 30) dX4_isDanger_30 (andNot _ (by omega) _ (drB_lt s 0 7)) ?_
  refine V_istore_n (Y := mX4_isDanger) (pc := 31) dX4_isDanger_31 rfl ?_
  refine V_iload_n (Y := mX4_isDanger) (pc := 32) dX4_isDanger_32 rfl ?_
  apply V_sR (Y := mX4_isDanger) (pc := 33) dX4_isDanger_33 ok_X5_drawersBeside os_X5_drawersBeside ln_X4_132 (c_beside (a := dwB (rs 0) po n.toNat &&& drB s 2 7) (by omega))
  · rfl
  · rfl
  · rfl
  refine V_iload_n (Y := mX4_isDanger) (pc := 36) dX4_isDanger_36 rfl ?_
  refine V_iand (Y := mX4_isDanger) (pc := 37) dX4_isDanger_37 (iI_and _ _) ?_
  rw [hdef]
  refine V_if_eq (tgt := 45) (Y := mX4_isDanger) (pc := 38) dX4_isDanger_38 (by decide) ⟨by omega, by omega⟩ (fun h_38 => ?_) (fun h_38 => ?_)
  · refine V_iconst (Y := mX4_isDanger) (pc := 45) dX4_isDanger_45 ?_
    refine V_zret (ty := .boolean) (Y := mX4_isDanger) (pc := 46) dX4_isDanger_46 rfl rfl (Nat.le_of_ble_eq_true rfl) (Nat.le_of_ble_eq_true rfl) ?_
    first | exact pR_I (bI_t (by omega)).symm | exact pR_I (bI_f (by omega)).symm
  · refine V_iconst (Y := mX4_isDanger) (pc := 41) dX4_isDanger_41 ?_
    refine V_goto (tgt := 46) (Y := mX4_isDanger) (pc := 42) dX4_isDanger_42 (by decide) ?_
    refine V_zret (ty := .boolean) (Y := mX4_isDanger) (pc := 46) dX4_isDanger_46 rfl rfl (Nat.le_of_ble_eq_true rfl) (Nat.le_of_ble_eq_true rfl) ?_
    first | exact pR_I (bI_t (by omega)).symm | exact pR_I (bI_f (by omega)).symm
def sgOK (n : Int) (rs : Nat → List Int) : Prop := (rs 7).length = (rs 6).length ∧ ∀ k : Int, 0 ≤ k → k < (rs 6).length → isD n (rAt (rs 6) k) ∧ isS n (rAt (rs 7) k)
def sgPrev (rs : Nat → List Int) (k : Int) : Int := if k = 0 then 0 else rAt (rs 7) (k - 1)
def seenP (ca : Nat) (rs : Nat → List Int) (x : Int32) (m : Nat) : Prop := ∀ k : Int, 0 ≤ k → k < m → aft ca rs (sgPrev rs k) (rAt (rs 6) k) x = rAt (rs 7) k
set_option maxRecDepth 100000 in
theorem lp_isSeenBy {nn : Nat} {w : vWd} {p : Nat} {x : Int32} {n now : Int} {ca po fo : Nat} {rs : Nat → List Int} (h : WallAt w p (n, now, ca, po, fo, rs)) (hn : 0 ≤ n ∧ n ≤ 7) (hcv : cvOK n rs) (hc : ca < 128) (hsg : sgOK n rs) : ∀ (m : Nat) (i : Int), 0 ≤ i → i ≤ (rs 6).length → ((rs 6).length - i).toNat < m → seenP ca rs x i.toNat →
    V mX4_areSightsSo (rm 4) (pR (vI (cI (seenP ca rs x (rs 6).length))) nn w) 4 [some (.ref p), some (.int x), some (vI (sgPrev rs i)), some (vI i)] [] nn w 0 0 := by
  intro m
  induction m with
  | zero => intro i h1 h2 h3; omega
  | succ m ih =>
    intro i hi hi2 hm hsn
    have ho := h.obj
    have hl := h.r6.len
    have hp := p3_le n.toNat (by omega)
    have hp0 := p3_pos n.toNat
    have hpv : isS n (sgPrev rs i) := by
      unfold sgPrev
      split
      · exact ⟨by omega, by omega⟩
      · exact (hsg.2 (i - 1) (by omega) (by omega)).2
    have hsi := hsg.2 i hi
    refine V_iload_n (Y := mX4_areSightsSo) (pc := 4) dX4_areSightsSo_4 rfl ?_
    refine V_aload_n (Y := mX4_areSightsSo) (pc := 5) dX4_areSightsSo_5 rfl ?_
    apply V_get (Y := mX4_areSightsSo) (pc := 6) dX4_areSightsSo_6 fl_X4_51
    · assumption
    · rfl
    apply V_vR (Y := mX4_areSightsSo) (pc := 9) dX4_areSightsSo_9 ok_X2_size ov_X2_size ln_X4_78 (c_Row_size h.r6)
    · exact h.r6.obj
    · rfl
    · rfl
    · rfl
    · rfl
    · rfl
    
    refine V_icmp_ge (tgt := 57) (Y := mX4_areSightsSo) (pc := 12) dX4_areSightsSo_12 (by decide) ⟨by omega, by omega⟩ ⟨by omega, by omega⟩ (fun h_12 => ?_) (fun h_12 => ?_)
    · refine V_iconst (Y := mX4_areSightsSo) (pc := 57) dX4_areSightsSo_57 ?_
      refine V_zret (ty := .boolean) (Y := mX4_areSightsSo) (pc := 58) dX4_areSightsSo_58 rfl rfl (Nat.le_of_ble_eq_true rfl) (Nat.le_of_ble_eq_true rfl) ?_
      refine pR_I (cI_1.mpr ?_).symm
      rw [show i.toNat = (rs 6).length by omega] at hsn
      exact hsn
    · refine V_aload_n (Y := mX4_areSightsSo) (pc := 15) dX4_areSightsSo_15 rfl ?_
      refine V_iload_n (Y := mX4_areSightsSo) (pc := 16) dX4_areSightsSo_16 rfl ?_
      refine V_aload_n (Y := mX4_areSightsSo) (pc := 17) dX4_areSightsSo_17 rfl ?_
      apply V_get (Y := mX4_areSightsSo) (pc := 18) dX4_areSightsSo_18 fl_X4_51
      · assumption
      · rfl
      refine V_iload_n (Y := mX4_areSightsSo) (pc := 21) dX4_areSightsSo_21 rfl ?_
      apply V_vR (Y := mX4_areSightsSo) (pc := 22) dX4_areSightsSo_22 ok_X2_at ov_X2_at ln_X4_85 (c_Row_at (i := i) h.r6 ⟨by omega, by omega⟩)
      · exact h.r6.obj
      · rfl
      · rfl
      · rfl
      · rfl
      · rfl
      have hq := hsi (by omega)
      have har := aft_rng ca hcv x hpv hq.1
      have hq2 := hq.2
      refine V_iload_n (Y := mX4_areSightsSo) (pc := 25) dX4_areSightsSo_25 rfl ?_
      apply V_vR (Y := mX4_areSightsSo) (pc := 26) dX4_areSightsSo_26 ok_X4_after ov_X4_after ln_X4_135 (c_after (s := sgPrev rs i) (d := rAt (rs 6) i) (x := x) h hn hcv hc hpv hq.1)
      · assumption
      · rfl
      · rfl
      · rfl
      · rfl
      · rfl
      refine V_aload_n (Y := mX4_areSightsSo) (pc := 29) dX4_areSightsSo_29 rfl ?_
      apply V_get (Y := mX4_areSightsSo) (pc := 30) dX4_areSightsSo_30 fl_X4_54
      · assumption
      · rfl
      refine V_iload_n (Y := mX4_areSightsSo) (pc := 33) dX4_areSightsSo_33 rfl ?_
      apply V_vR (Y := mX4_areSightsSo) (pc := 34) dX4_areSightsSo_34 ok_X2_at ov_X2_at ln_X4_85 (c_Row_at (i := i) h.r7 ⟨by omega, by omega⟩)
      · exact h.r7.obj
      · rfl
      · rfl
      · rfl
      · rfl
      · rfl
      refine V_icmp_eq (tgt := 42) (Y := mX4_areSightsSo) (pc := 37) dX4_areSightsSo_37 (by decide) ⟨by omega, by omega⟩ ⟨by omega, by omega⟩ (fun h_37 => ?_) (fun h_37 => ?_)
      · refine V_aload_n (Y := mX4_areSightsSo) (pc := 42) dX4_areSightsSo_42 rfl ?_
        apply V_get (Y := mX4_areSightsSo) (pc := 43) dX4_areSightsSo_43 fl_X4_54
        · assumption
        · rfl
        refine V_iload_n (Y := mX4_areSightsSo) (pc := 46) dX4_areSightsSo_46 rfl ?_
        apply V_vR (Y := mX4_areSightsSo) (pc := 47) dX4_areSightsSo_47 ok_X2_at ov_X2_at ln_X4_85 (c_Row_at (i := i) h.r7 ⟨by omega, by omega⟩)
        · exact h.r7.obj
        · rfl
        · rfl
        · rfl
        · rfl
        · rfl
        refine V_istore_n (Y := mX4_areSightsSo) (pc := 50) dX4_areSightsSo_50 rfl ?_
        refine V_iinc (Y := mX4_areSightsSo) (pc := 51) dX4_areSightsSo_51 rfl rfl ?_
        refine V_goto (tgt := 4) (Y := mX4_areSightsSo) (pc := 54) dX4_areSightsSo_54 (by decide) ?_
        have k := ih (i + 1) (by omega) (by omega) (by omega) (fun j h1 h2 => by
          rcases (show j < i.toNat ∨ j = i by omega) with h3 | h3
          · exact hsn j h1 h3
          · rw [h3]; exact h_37)
        rw [show sgPrev rs (i + 1) = rAt (rs 7) i by rw [sgPrev, if_neg (by omega)]; congr 1; omega] at k
        exact k
      · refine V_iconst (Y := mX4_areSightsSo) (pc := 40) dX4_areSightsSo_40 ?_
        refine V_zret (ty := .boolean) (Y := mX4_areSightsSo) (pc := 41) dX4_areSightsSo_41 rfl rfl (Nat.le_of_ble_eq_true rfl) (Nat.le_of_ble_eq_true rfl) ?_
        refine pR_I ?_
        unfold cI
        rw [@bI_f _ (Classical.propDecidable _) (fun q => h_37 (q i hi (by omega)))]
set_option maxRecDepth 100000 in
theorem c_isSeenBy {nn : Nat} {w : vWd} {p : Nat} {x : Int32} {n now : Int} {ca po fo : Nat} {rs : Nat → List Int} (h : WallAt w p (n, now, ca, po, fo, rs)) (hn : 0 ≤ n ∧ n ≤ 7) (hcv : cvOK n rs) (hc : ca < 128) (hsg : sgOK n rs) : Ctr mX4_areSightsSo (rm 4) [.ref p, .int x] nn w (pR (vI (cI (seenP ca rs x (rs 6).length))) nn w) := by
  refine Ctr_of (lv := [some (.ref p), some (.int x), none, none]) (by decide +kernel) rfl rfl ?_
  refine V_iconst (Y := mX4_areSightsSo) (pc := 0) dX4_areSightsSo_0 ?_
  refine V_istore_n (Y := mX4_areSightsSo) (pc := 1) dX4_areSightsSo_1 rfl ?_
  refine V_iconst (Y := mX4_areSightsSo) (pc := 2) dX4_areSightsSo_2 ?_
  refine V_istore_n (Y := mX4_areSightsSo) (pc := 3) dX4_areSightsSo_3 rfl ?_
  exact lp_isSeenBy h hn hcv hc hsg ((rs 6).length + 1) 0 (by omega) (by omega) (by omega) (fun k h1 h2 => by omega)
