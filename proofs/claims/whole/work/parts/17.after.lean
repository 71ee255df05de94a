/-! ===== what a PULL does ===== -/
theorem sd_sd (s : Int) (a b : Nat) : sd (sd s a) b = sd s (a + b) := by
  induction b with
  | zero => rw [sd_0]; rfl
  | succ b ih => rw [sd_succ, ih, ← sd_succ]; rfl
theorem sd_lt {s : Int} {n d : Nat} (h : s < p3 n) (hd : d ≤ n) : sd s d < p3 (n - d) := by
  unfold sd
  apply Int.ediv_lt_of_lt_mul (p3_pos d)
  have e : p3 (n - d) * p3 d = p3 n := by
    unfold p3
    rw [← Int.pow_add]
    congr 1
    omega
  rw [e]; exact h
theorem mv_eq (s : Int) (d : Nat) (v : Int) : mv s d v = s % p3 d + (3 * (sd s d / 3) + max 0 (min 2 (dg s d + v))) * p3 d := by
  have h1 : s % p3 d + p3 d * (s / p3 d) = s := Int.emod_add_mul_ediv s (p3 d)
  have h2 : dg s d + 3 * (sd s d / 3) = sd s d := Int.emod_add_mul_ediv (sd s d) 3
  have h3 : s / p3 d = sd s d := rfl
  unfold mv
  generalize max 0 (min 2 (dg s d + v)) = x
  rw [h3] at h1
  generalize dg s d = g at *
  generalize sd s d / 3 = k at *
  have h4 : sd s d = g + 3 * k := by omega
  rw [h4] at h1
  have e1 : (x - g) * p3 d = x * p3 d - g * p3 d := Int.sub_mul _ _ _
  have e2 : (3 * k + x) * p3 d = 3 * k * p3 d + x * p3 d := Int.add_mul _ _ _
  have e3 : p3 d * (g + 3 * k) = g * p3 d + 3 * k * p3 d := by rw [Int.mul_comm, Int.add_mul]
  rw [e1, e2]
  rw [e3] at h1
  omega
theorem mv_lo (s : Int) (d : Nat) : 0 ≤ s % p3 d ∧ s % p3 d < p3 d := ⟨Int.emod_nonneg _ (by have := p3_pos d; omega), Int.emod_lt_of_pos _ (p3_pos d)⟩
theorem mv_sd (s : Int) (d : Nat) (v : Int) : sd (mv s d v) d = 3 * (sd s d / 3) + max 0 (min 2 (dg s d + v)) := by
  have h := mv_lo s d
  rw [mv_eq]
  unfold sd
  rw [Int.add_mul_ediv_right _ _ (by have := p3_pos d; omega), Int.ediv_eq_zero_of_lt h.1 h.2, Int.zero_add]
theorem mv_rng {s : Int} {n d : Nat} (v : Int) (h0 : 0 ≤ s) (h : s < p3 n) (hd : d < n) : 0 ≤ mv s d v ∧ mv s d v < p3 n := by
  have h1 := mv_lo s d
  have h2 := (sd_rng h0 d).1
  have h3 := sd_lt h (d := d) (by omega)
  have e : p3 (n - d) = p3 (n - d - 1) * 3 := by rw [← p3_succ]; congr 1; omega
  rw [e] at h3
  have hx : 0 ≤ max 0 (min 2 (dg s d + v)) ∧ max 0 (min 2 (dg s d + v)) ≤ 2 := by omega
  have hk : 0 ≤ sd s d / 3 ∧ sd s d / 3 < p3 (n - d - 1) := by omega
  rw [mv_eq]
  generalize max 0 (min 2 (dg s d + v)) = x at *
  generalize sd s d / 3 = k at *
  have hq0 : 0 ≤ 3 * k + x := by omega
  have hq : 3 * k + x ≤ p3 (n - d - 1) * 3 - 1 := by omega
  have hp := p3_pos d
  have e2 : p3 n = p3 (n - d - 1) * 3 * p3 d := by
    rw [← p3_succ]
    unfold p3
    rw [← Int.pow_add]
    congr 1
    omega
  constructor
  · have := Int.mul_nonneg hq0 (Int.le_of_lt hp); omega
  · have h5 := Int.mul_le_mul_of_nonneg_right hq (Int.le_of_lt hp)
    rw [Int.sub_mul, ← e2, Int.one_mul] at h5
    omega
theorem dg_mv_same (s : Int) (d : Nat) (v : Int) : dg (mv s d v) d = max 0 (min 2 (dg s d + v)) := by
  have hx : 0 ≤ max 0 (min 2 (dg s d + v)) ∧ max 0 (min 2 (dg s d + v)) ≤ 2 := by omega
  show sd (mv s d v) d % 3 = _
  rw [mv_sd]
  omega
theorem dg_mv_ne {s : Int} {d e : Nat} (v : Int) (h : e ≠ d) : dg (mv s d v) e = dg s e := by
  rcases Nat.lt_or_ge e d with q | q
  · show sd (mv s d v) e % 3 = sd s e % 3
    unfold mv
    have e1 : p3 d = p3 e * (p3 (d - e - 1) * 3) := by
      rw [← p3_succ]
      unfold p3
      rw [← Int.pow_add]
      congr 1
      omega
    unfold sd
    rw [e1, show (max 0 (min 2 (dg s d + v)) - dg s d) * (p3 e * (p3 (d - e - 1) * 3)) = (max 0 (min 2 (dg s d + v)) - dg s d) * (p3 (d - e - 1) * 3) * p3 e by rw [Int.mul_comm (p3 e), ← Int.mul_assoc]]
    rw [Int.add_mul_ediv_right _ _ (by have := p3_pos e; omega)]
    rw [← Int.mul_assoc]
    omega
  · have e1 : e = d + (1 + (e - d - 1)) := by omega
    show sd (mv s d v) e % 3 = sd s e % 3
    rw [e1, ← sd_sd, ← sd_sd, ← sd_sd s, ← sd_sd, mv_sd]
    have hx : 0 ≤ max 0 (min 2 (dg s d + v)) ∧ max 0 (min 2 (dg s d + v)) ≤ 2 := by omega
    have e2 : sd (3 * (sd s d / 3) + max 0 (min 2 (dg s d + v))) 1 = sd (sd s d) 1 := by
      show (3 * (sd s d / 3) + max 0 (min 2 (dg s d + v))) / 3 = sd s d / 3
      omega
    rw [e2]
/-- two states with the same digits are one -/
theorem dg_ext : ∀ (n : Nat) {s t : Int}, 0 ≤ s → s < p3 n → 0 ≤ t → t < p3 n → (∀ d, d < n → dg s d = dg t d) → s = t
  | 0, s, t, h1, h2, h3, h4, _ => by
    have : p3 0 = 1 := rfl
    omega
  | n + 1, s, t, h1, h2, h3, h4, h => by
    have h0 : s % 3 = t % 3 := by have := h 0 (by omega); unfold dg at this; rw [sd_0, sd_0] at this; exact this
    rw [p3_succ] at h2 h4
    have ih := dg_ext n (s := s / 3) (t := t / 3) (by omega) (by omega) (by omega) (by omega) (fun d hd => by
      have := h (d + 1) (by omega)
      unfold dg at this ⊢
      have e : ∀ x : Int, sd x (d + 1) = sd (x / 3) d := fun x => by rw [show d + 1 = 1 + d by omega, ← sd_sd]; rfl
      rw [e, e] at this
      exact this)
    omega
theorem V_drop {Y : vMeth} {R : Room} {Q : vPost} {pc : Nat} {lv : vLs} {st : List Value} {n : Nat} {w : vWd} {kc ks : Nat} (i : Nat) (k : V Y R Q pc (lv.set i none) st n w kc ks) : V Y R Q pc lv st n w kc ks := by
  intro p l e s m args below meth c b sa cA D H locs ls E hw hS hb hl
  refine k p l e s m args below meth c b sa cA D H locs ls E hw hS hb ⟨hl.1, hl.2.1, fun j v hj => hl.2.2 j v ?_⟩
  by_cases h : j = i
  · subst h
    by_cases h2 : j < lv.length
    · rw [List.getElem?_set_self h2] at hj; cases hj
    · rw [List.getElem?_eq_none (by rw [List.length_set]; omega)] at hj; cases hj
  · rw [List.getElem?_set_ne (Ne.symm h)] at hj; exact hj
def bitOn (x : Int32) (i : Int) : Prop := (x >>> (iI i &&& 31)) &&& iI 1 = iI 1
theorem bit_and (y : Int32) : y &&& iI 1 = iI 1 ∨ y &&& iI 1 = iI 0 := by
  obtain ⟨j, hj, e⟩ := pk_andE y (m := iI 1) 1 rfl
  rw [e]
  rcases (show j = 0 ∨ j = 1 by omega) with rfl | rfl
  · right; rfl
  · left; rfl
theorem bit_cases (x : Int32) (i : Int) : (bitOn x i ∧ (x >>> (iI i &&& 31)) &&& iI 1 = iI 1) ∨ (¬ bitOn x i ∧ (x >>> (iI i &&& 31)) &&& iI 1 = iI 0) := by
  rcases bit_and (x >>> (iI i &&& 31)) with h | h
  · exact Or.inl ⟨h, h⟩
  · refine Or.inr ⟨fun q => ?_, h⟩
    unfold bitOn at q
    rw [h] at q
    exact absurd q (by decide)
def cvOK (n : Int) (rs : Nat → List Int) : Prop := ((rs 2).length = (rs 1).length ∧ (rs 3).length = (rs 1).length ∧ (rs 4).length = (rs 1).length) ∧ ∀ c : Int, 0 ≤ c → c < (rs 1).length → okCord n (rAt (rs 1) c) (rAt (rs 2) c) (rAt (rs 3) c) (rAt (rs 4) c)
def cAmt (rs : Nat → List Int) (c s o : Int) : Int :=
  if rAt (rs 3) c = 1 then (if dg s (rAt (rs 2) c).toNat = 0 then rAt (rs 4) c else 0)
  else if rAt (rs 3) c = 2 then (if o = 0 then -rAt (rs 4) c else rAt (rs 4) c)
  else if rAt (rs 3) c = 3 then (if opB s (rAt (rs 2) c).toNat then 0 else rAt (rs 4) c)
  else if rAt (rs 3) c = 4 then max 0 (if o = 0 then -rAt (rs 4) c else rAt (rs 4) c)
  else if rAt (rs 3) c = 5 then max (-1) (min 1 (if dg s (rAt (rs 2) c).toNat = 0 then rAt (rs 4) c else 0))
  else rAt (rs 4) c
theorem cAmt_rng {n : Int} {rs : Nat → List Int} {c : Int} (h : okCord n (rAt (rs 1) c) (rAt (rs 2) c) (rAt (rs 3) c) (rAt (rs 4) c)) (s o : Int) : -2 ≤ cAmt rs c s o ∧ cAmt rs c s o ≤ 2 := by
  have h1 := h.2.2.2.2.2.1
  have h2 := h.2.2.2.2.2.2.1
  unfold cAmt
  generalize rAt (rs 4) c = v at *
  repeat' split
  all_goals omega

noncomputable def cStep (rs : Nat → List Int) (x : Int32) (d o c t : Int) : Int := @ite Int (bitOn x c ∧ rAt (rs 1) c = d) (Classical.propDecidable _) (mv t (rAt (rs 2) c).toNat (cAmt rs c t o)) t
theorem cStep_t {rs : Nat → List Int} {x : Int32} {d o c t : Int} (h : bitOn x c ∧ rAt (rs 1) c = d) : cStep rs x d o c t = mv t (rAt (rs 2) c).toNat (cAmt rs c t o) := if_pos h
theorem cStep_f {rs : Nat → List Int} {x : Int32} {d o c t : Int} (h : ¬ (bitOn x c ∧ rAt (rs 1) c = d)) : cStep rs x d o c t = t := if_neg h
noncomputable def cRun (rs : Nat → List Int) (x : Int32) (d o t0 : Int) : Nat → Int
  | 0 => t0
  | m + 1 => cStep rs x d o (m : Int) (cRun rs x d o t0 m)
theorem cRun_rng {n : Int} {rs : Nat → List Int} (hn : 0 ≤ n) (hcv : cvOK n rs) (x : Int32) (d o : Int) {t0 : Int} (h0 : 0 ≤ t0) (h : t0 < p3 n.toNat) : ∀ m : Nat, m ≤ (rs 1).length → 0 ≤ cRun rs x d o t0 m ∧ cRun rs x d o t0 m < p3 n.toNat
  | 0, _ => ⟨h0, h⟩
  | m + 1, hm => by
    have ih := cRun_rng hn hcv x d o h0 h m (by omega)
    have hc := hcv.2 m (by omega) (by omega)
    rw [cRun]
    by_cases hb : bitOn x m ∧ rAt (rs 1) m = d
    · rw [cStep_t hb]
      exact mv_rng _ ih.1 ih.2 (by have := hc.2.1; omega)
    · rw [cStep_f hb]; exact ih
def aft0 (s d : Int) : Int := mv s d.toNat (if dg s d.toNat = 2 then -2 else 1)
noncomputable def aft (ca : Nat) (rs : Nat → List Int) (s d : Int) (x : Int32) : Int := if ca.testBit d.toNat = true ∧ opB s d.toNat then s else cRun rs x d (if dg s d.toNat = 2 then 0 else 1) (aft0 s d) (rs 1).length
theorem aft_rng {n : Int} {rs : Nat → List Int} (ca : Nat) (hcv : cvOK n rs) (x : Int32) {s d : Int} (hs : isS n s) (hd : isD n d) : isS n (aft ca rs s d x) := by
  unfold aft
  split
  · exact hs
  · have h1 := mv_rng (if dg s d.toNat = 2 then -2 else 1) hs.1 hs.2 (d := d.toNat) (by omega)
    exact cRun_rng (by omega) hcv x d _ h1.1 h1.2 _ (Nat.le_refl _)
set_option maxRecDepth 100000 in
theorem c_amount {nn : Nat} {w : vWd} {p : Nat} {n now c s o : Int} {ca po fo : Nat} {rs : Nat → List Int} (h : WallAt w p (n, now, ca, po, fo, rs)) (hn : 0 ≤ n ∧ n ≤ 7) (hcv : cvOK n rs) (hc : 0 ≤ c ∧ c < (rs 1).length) (hs : 0 ≤ s) (hs2 : inR s) (ho2 : inR o) : Ctr mX4_amount (rm 2) [.ref p, vI c, vI s, vI o] nn w (pR (vI (cAmt rs c s o)) nn w) := by
  refine Ctr_of (lv := [some (.ref p), some (vI c), some (vI s), some (vI o), none, none, none, none]) (by decide +kernel) rfl rfl ?_
  have ho := h.obj
  have hl := h.r1.len
  have hk := hcv.2 c hc.1 hc.2
  have k1 := hk.2.1
  have k2 := hk.2.2.2
  have hg := dg_rng s (rAt (rs 2) c).toNat
  refine V_aload_n (Y := mX4_amount) (pc := 0) dX4_amount_0 rfl ?_
  apply V_get (Y := mX4_amount) (pc := 1) dX4_amount_1 fl_X4_45
  · assumption
  · rfl
  refine V_iload_n (Y := mX4_amount) (pc := 4) dX4_amount_4 rfl ?_
  apply V_vR (Y := mX4_amount) (pc := 5) dX4_amount_5 ok_X2_at ov_X2_at ln_X4_85 (c_Row_at (i := c) h.r4 ⟨by omega, by omega⟩)
  · exact h.r4.obj
  · rfl
  · rfl
  · rfl
  · rfl
  · rfl
  refine V_istore (Y := mX4_amount) (pc := 8) dX4_amount_8 rfl ?_
  refine V_aload_n (Y := mX4_amount) (pc := 10) dX4_amount_10 rfl ?_
  apply V_get (Y := mX4_amount) (pc := 11) dX4_amount_11 fl_X4_39
  · assumption
  · rfl
  refine V_iload_n (Y := mX4_amount) (pc := 14) dX4_amount_14 rfl ?_
  apply V_vR (Y := mX4_amount) (pc := 15) dX4_amount_15 ok_X2_at ov_X2_at ln_X4_85 (c_Row_at (i := c) h.r2 ⟨by omega, by omega⟩)
  · exact h.r2.obj
  · rfl
  · rfl
  · rfl
  · rfl
  · rfl
  refine V_istore (Y := mX4_amount) (pc := 18) dX4_amount_18 rfl ?_
  refine V_iload_n (Y := mX4_amount) (pc := 20) dX4_amount_20 rfl ?_
  refine V_if_eq (tgt := 29) (Y := mX4_amount) (pc := 21) dX4_amount_21 (by decide) ⟨by omega, by omega⟩ (fun h_21 => ?_) (fun h_21 => ?_)
  · refine V_iload (Y := mX4_amount) (pc := 29) dX4_amount_29 rfl ?_
    refine V_ineg (Y := mX4_amount) (pc := 31) dX4_amount_31 ?_
    refine V_istore (Y := mX4_amount) (pc := 32) dX4_amount_32 rfl ?_
    refine V_iload_n (Y := mX4_amount) (pc := 34) dX4_amount_34 rfl ?_
    refine V_iload (Y := mX4_amount) (pc := 35) dX4_amount_35 rfl ?_
    apply V_sR (Y := mX4_amount) (pc := 37) dX4_amount_37 ok_X5_outIn os_X5_outIn ln_X4_106 (c_outIn (d := rAt (rs 2) c) hs hs2 ⟨by omega, by omega⟩)
    · rfl
    · rfl
    · rfl
    refine V_if_ne (tgt := 48) (Y := mX4_amount) (pc := 40) dX4_amount_40 (by decide) ⟨by omega, by omega⟩ (fun h_40 => ?_) (fun h_40 => ?_)
    · refine V_iconst (Y := mX4_amount) (pc := 48) dX4_amount_48 ?_
      refine V_istore (Y := mX4_amount) (pc := 49) dX4_amount_49 rfl ?_
      refine V_aload_n (Y := mX4_amount) (pc := 51) dX4_amount_51 rfl ?_
      apply V_get (Y := mX4_amount) (pc := 52) dX4_amount_52 fl_X4_42
      · assumption
      · rfl
      refine V_iload_n (Y := mX4_amount) (pc := 55) dX4_amount_55 rfl ?_
      apply V_vR (Y := mX4_amount) (pc := 56) dX4_amount_56 ok_X2_at ov_X2_at ln_X4_85 (c_Row_at (i := c) h.r3 ⟨by omega, by omega⟩)
      · exact h.r3.obj
      · rfl
      · rfl
      · rfl
      · rfl
      · rfl
      rcases ((show rAt (rs 3) c = 0 ∨ rAt (rs 3) c = 1 ∨ rAt (rs 3) c = 2 ∨ rAt (rs 3) c = 3 ∨ rAt (rs 3) c = 4 ∨ rAt (rs 3) c = 5 by omega)) with e_59 | e_59 | e_59 | e_59 | e_59 | e_59
      · rw [e_59]
        refine V_tableOut (tgt := 132) (Y := mX4_amount) (pc := 59) dX4_amount_59 ⟨by decide, by decide⟩ (by decide) (by decide) ?_
        refine V_iload (Y := mX4_amount) (pc := 132) dX4_amount_132 rfl ?_
        refine V_iret (Y := mX4_amount) (pc := 134) dX4_amount_134 rfl (Nat.le_of_ble_eq_true rfl) (Nat.le_of_ble_eq_true rfl) ?_
        exact pR_I (by simp [cAmt, *])
      · rw [e_59]
        refine V_tableIn (off := 33) (tgt := 92) (Y := mX4_amount) (pc := 59) dX4_amount_59 ⟨by decide, by decide⟩ (by decide) (by decide) rfl (by decide) ?_
        refine V_iload (Y := mX4_amount) (pc := 92) dX4_amount_92 rfl ?_
        refine V_iret (Y := mX4_amount) (pc := 94) dX4_amount_94 rfl (Nat.le_of_ble_eq_true rfl) (Nat.le_of_ble_eq_true rfl) ?_
        exact pR_I (by simp [cAmt, *])
      · rw [e_59]
        refine V_tableIn (off := 36) (tgt := 95) (Y := mX4_amount) (pc := 59) dX4_amount_59 ⟨by decide, by decide⟩ (by decide) (by decide) rfl (by decide) ?_
        refine V_iload (Y := mX4_amount) (pc := 95) dX4_amount_95 rfl ?_
        refine V_iret (Y := mX4_amount) (pc := 97) dX4_amount_97 rfl (Nat.le_of_ble_eq_true rfl) (Nat.le_of_ble_eq_true rfl) ?_
        exact pR_I (by simp [cAmt, *])
      · rw [e_59]
        refine V_tableIn (off := 39) (tgt := 98) (Y := mX4_amount) (pc := 59) dX4_amount_59 ⟨by decide, by decide⟩ (by decide) (by decide) rfl (by decide) ?_
        refine V_iload_n (Y := mX4_amount) (pc := 98) dX4_amount_98 rfl ?_
        refine V_iload (Y := mX4_amount) (pc := 99) dX4_amount_99 rfl ?_
        apply V_sR (Y := mX4_amount) (pc := 101) dX4_amount_101 ok_X5_isOpenBeside os_X5_isOpenBeside ln_X4_102 (c_isOpenBeside (d := rAt (rs 2) c) hs hs2 ⟨by omega, by omega⟩)
        · rfl
        · rfl
        · rfl
        refine V_if_eqB (tgt := 111) (Y := mX4_amount) (pc := 104) dX4_amount_104 (by decide) (fun h_104 => ?_) (fun h_104 => ?_)
        · refine V_iload (Y := mX4_amount) (pc := 111) dX4_amount_111 rfl ?_
          refine V_iret (Y := mX4_amount) (pc := 113) dX4_amount_113 rfl (Nat.le_of_ble_eq_true rfl) (Nat.le_of_ble_eq_true rfl) ?_
          exact pR_I (by simp [cAmt, *])
        · refine V_iconst (Y := mX4_amount) (pc := 107) dX4_amount_107 ?_
          refine V_goto (tgt := 113) (Y := mX4_amount) (pc := 108) dX4_amount_108 (by decide) ?_
          refine V_iret (Y := mX4_amount) (pc := 113) dX4_amount_113 rfl (Nat.le_of_ble_eq_true rfl) (Nat.le_of_ble_eq_true rfl) ?_
          exact pR_I (by simp [cAmt, *])
      · rw [e_59]
        refine V_tableIn (off := 55) (tgt := 114) (Y := mX4_amount) (pc := 59) dX4_amount_59 ⟨by decide, by decide⟩ (by decide) (by decide) rfl (by decide) ?_
        refine V_iconst (Y := mX4_amount) (pc := 114) dX4_amount_114 ?_
        refine V_iload (Y := mX4_amount) (pc := 115) dX4_amount_115 rfl ?_
        refine V_max (Y := mX4_amount) (pc := 117) dX4_amount_117 ln_X4_118 ⟨by omega, by omega⟩ ⟨by omega, by omega⟩ rfl ?_
        refine V_iret (Y := mX4_amount) (pc := 120) dX4_amount_120 rfl (Nat.le_of_ble_eq_true rfl) (Nat.le_of_ble_eq_true rfl) ?_
        exact pR_I (by simp [cAmt, *])
      · rw [e_59]
        refine V_tableIn (off := 62) (tgt := 121) (Y := mX4_amount) (pc := 59) dX4_amount_59 ⟨by decide, by decide⟩ (by decide) (by decide) rfl (by decide) ?_
        refine V_iconst (Y := mX4_amount) (pc := 121) dX4_amount_121 ?_
        refine V_iconst (Y := mX4_amount) (pc := 122) dX4_amount_122 ?_
        refine V_iload (Y := mX4_amount) (pc := 123) dX4_amount_123 rfl ?_
        refine V_min (Y := mX4_amount) (pc := 125) dX4_amount_125 ln_X4_123 ⟨by omega, by omega⟩ ⟨by omega, by omega⟩ rfl ?_
        refine V_max (Y := mX4_amount) (pc := 128) dX4_amount_128 ln_X4_118 ⟨by omega, by omega⟩ ⟨by omega, by omega⟩ rfl ?_
        refine V_iret (Y := mX4_amount) (pc := 131) dX4_amount_131 rfl (Nat.le_of_ble_eq_true rfl) (Nat.le_of_ble_eq_true rfl) ?_
        exact pR_I (by simp [cAmt, *])
    · refine V_iload (Y := mX4_amount) (pc := 43) dX4_amount_43 rfl ?_
      refine V_goto (tgt := 49) (Y := mX4_amount) (pc := 45) dX4_amount_45 (by decide) ?_
      refine V_istore (Y := mX4_amount) (pc := 49) dX4_amount_49 rfl ?_
      refine V_aload_n (Y := mX4_amount) (pc := 51) dX4_amount_51 rfl ?_
      apply V_get (Y := mX4_amount) (pc := 52) dX4_amount_52 fl_X4_42
      · assumption
      · rfl
      refine V_iload_n (Y := mX4_amount) (pc := 55) dX4_amount_55 rfl ?_
      apply V_vR (Y := mX4_amount) (pc := 56) dX4_amount_56 ok_X2_at ov_X2_at ln_X4_85 (c_Row_at (i := c) h.r3 ⟨by omega, by omega⟩)
      · exact h.r3.obj
      · rfl
      · rfl
      · rfl
      · rfl
      · rfl
      rcases ((show rAt (rs 3) c = 0 ∨ rAt (rs 3) c = 1 ∨ rAt (rs 3) c = 2 ∨ rAt (rs 3) c = 3 ∨ rAt (rs 3) c = 4 ∨ rAt (rs 3) c = 5 by omega)) with e_59 | e_59 | e_59 | e_59 | e_59 | e_59
      · rw [e_59]
        refine V_tableOut (tgt := 132) (Y := mX4_amount) (pc := 59) dX4_amount_59 ⟨by decide, by decide⟩ (by decide) (by decide) ?_
        refine V_iload (Y := mX4_amount) (pc := 132) dX4_amount_132 rfl ?_
        refine V_iret (Y := mX4_amount) (pc := 134) dX4_amount_134 rfl (Nat.le_of_ble_eq_true rfl) (Nat.le_of_ble_eq_true rfl) ?_
        exact pR_I (by simp [cAmt, *])
      · rw [e_59]
        refine V_tableIn (off := 33) (tgt := 92) (Y := mX4_amount) (pc := 59) dX4_amount_59 ⟨by decide, by decide⟩ (by decide) (by decide) rfl (by decide) ?_
        refine V_iload (Y := mX4_amount) (pc := 92) dX4_amount_92 rfl ?_
        refine V_iret (Y := mX4_amount) (pc := 94) dX4_amount_94 rfl (Nat.le_of_ble_eq_true rfl) (Nat.le_of_ble_eq_true rfl) ?_
        exact pR_I (by simp [cAmt, *])
      · rw [e_59]
        refine V_tableIn (off := 36) (tgt := 95) (Y := mX4_amount) (pc := 59) dX4_amount_59 ⟨by decide, by decide⟩ (by decide) (by decide) rfl (by decide) ?_
        refine V_iload (Y := mX4_amount) (pc := 95) dX4_amount_95 rfl ?_
        refine V_iret (Y := mX4_amount) (pc := 97) dX4_amount_97 rfl (Nat.le_of_ble_eq_true rfl) (Nat.le_of_ble_eq_true rfl) ?_
        exact pR_I (by simp [cAmt, *])
      · rw [e_59]
        refine V_tableIn (off := 39) (tgt := 98) (Y := mX4_amount) (pc := 59) dX4_amount_59 ⟨by decide, by decide⟩ (by decide) (by decide) rfl (by decide) ?_
        refine V_iload_n (Y := mX4_amount) (pc := 98) dX4_amount_98 rfl ?_
        refine V_iload (Y := mX4_amount) (pc := 99) dX4_amount_99 rfl ?_
        apply V_sR (Y := mX4_amount) (pc := 101) dX4_amount_101 ok_X5_isOpenBeside os_X5_isOpenBeside ln_X4_102 (c_isOpenBeside (d := rAt (rs 2) c) hs hs2 ⟨by omega, by omega⟩)
        · rfl
        · rfl
        · rfl
        refine V_if_eqB (tgt := 111) (Y := mX4_amount) (pc := 104) dX4_amount_104 (by decide) (fun h_104 => ?_) (fun h_104 => ?_)
        · refine V_iload (Y := mX4_amount) (pc := 111) dX4_amount_111 rfl ?_
          refine V_iret (Y := mX4_amount) (pc := 113) dX4_amount_113 rfl (Nat.le_of_ble_eq_true rfl) (Nat.le_of_ble_eq_true rfl) ?_
          exact pR_I (by simp [cAmt, *])
        · refine V_iconst (Y := mX4_amount) (pc := 107) dX4_amount_107 ?_
          refine V_goto (tgt := 113) (Y := mX4_amount) (pc := 108) dX4_amount_108 (by decide) ?_
          refine V_iret (Y := mX4_amount) (pc := 113) dX4_amount_113 rfl (Nat.le_of_ble_eq_true rfl) (Nat.le_of_ble_eq_true rfl) ?_
          exact pR_I (by simp [cAmt, *])
      · rw [e_59]
        refine V_tableIn (off := 55) (tgt := 114) (Y := mX4_amount) (pc := 59) dX4_amount_59 ⟨by decide, by decide⟩ (by decide) (by decide) rfl (by decide) ?_
        refine V_iconst (Y := mX4_amount) (pc := 114) dX4_amount_114 ?_
        refine V_iload (Y := mX4_amount) (pc := 115) dX4_amount_115 rfl ?_
        refine V_max (Y := mX4_amount) (pc := 117) dX4_amount_117 ln_X4_118 ⟨by omega, by omega⟩ ⟨by omega, by omega⟩ rfl ?_
        refine V_iret (Y := mX4_amount) (pc := 120) dX4_amount_120 rfl (Nat.le_of_ble_eq_true rfl) (Nat.le_of_ble_eq_true rfl) ?_
        exact pR_I (by simp [cAmt, *])
      · rw [e_59]
        refine V_tableIn (off := 62) (tgt := 121) (Y := mX4_amount) (pc := 59) dX4_amount_59 ⟨by decide, by decide⟩ (by decide) (by decide) rfl (by decide) ?_
        refine V_iconst (Y := mX4_amount) (pc := 121) dX4_amount_121 ?_
        refine V_iconst (Y := mX4_amount) (pc := 122) dX4_amount_122 ?_
        refine V_iload (Y := mX4_amount) (pc := 123) dX4_amount_123 rfl ?_
        refine V_min (Y := mX4_amount) (pc := 125) dX4_amount_125 ln_X4_123 ⟨by omega, by omega⟩ ⟨by omega, by omega⟩ rfl ?_
        refine V_max (Y := mX4_amount) (pc := 128) dX4_amount_128 ln_X4_118 ⟨by omega, by omega⟩ ⟨by omega, by omega⟩ rfl ?_
        refine V_iret (Y := mX4_amount) (pc := 131) dX4_amount_131 rfl (Nat.le_of_ble_eq_true rfl) (Nat.le_of_ble_eq_true rfl) ?_
        exact pR_I (by simp [cAmt, *])
  · refine V_iload (Y := mX4_amount) (pc := 24) dX4_amount_24 rfl ?_
    refine V_goto (tgt := 32) (Y := mX4_amount) (pc := 26) dX4_amount_26 (by decide) ?_
    refine V_istore (Y := mX4_amount) (pc := 32) dX4_amount_32 rfl ?_
    refine V_iload_n (Y := mX4_amount) (pc := 34) dX4_amount_34 rfl ?_
    refine V_iload (Y := mX4_amount) (pc := 35) dX4_amount_35 rfl ?_
    apply V_sR (Y := mX4_amount) (pc := 37) dX4_amount_37 ok_X5_outIn os_X5_outIn ln_X4_106 (c_outIn (d := rAt (rs 2) c) hs hs2 ⟨by omega, by omega⟩)
    · rfl
    · rfl
    · rfl
    refine V_if_ne (tgt := 48) (Y := mX4_amount) (pc := 40) dX4_amount_40 (by decide) ⟨by omega, by omega⟩ (fun h_40 => ?_) (fun h_40 => ?_)
    · refine V_iconst (Y := mX4_amount) (pc := 48) dX4_amount_48 ?_
      refine V_istore (Y := mX4_amount) (pc := 49) dX4_amount_49 rfl ?_
      refine V_aload_n (Y := mX4_amount) (pc := 51) dX4_amount_51 rfl ?_
      apply V_get (Y := mX4_amount) (pc := 52) dX4_amount_52 fl_X4_42
      · assumption
      · rfl
      refine V_iload_n (Y := mX4_amount) (pc := 55) dX4_amount_55 rfl ?_
      apply V_vR (Y := mX4_amount) (pc := 56) dX4_amount_56 ok_X2_at ov_X2_at ln_X4_85 (c_Row_at (i := c) h.r3 ⟨by omega, by omega⟩)
      · exact h.r3.obj
      · rfl
      · rfl
      · rfl
      · rfl
      · rfl
      rcases ((show rAt (rs 3) c = 0 ∨ rAt (rs 3) c = 1 ∨ rAt (rs 3) c = 2 ∨ rAt (rs 3) c = 3 ∨ rAt (rs 3) c = 4 ∨ rAt (rs 3) c = 5 by omega)) with e_59 | e_59 | e_59 | e_59 | e_59 | e_59
      · rw [e_59]
        refine V_tableOut (tgt := 132) (Y := mX4_amount) (pc := 59) dX4_amount_59 ⟨by decide, by decide⟩ (by decide) (by decide) ?_
        refine V_iload (Y := mX4_amount) (pc := 132) dX4_amount_132 rfl ?_
        refine V_iret (Y := mX4_amount) (pc := 134) dX4_amount_134 rfl (Nat.le_of_ble_eq_true rfl) (Nat.le_of_ble_eq_true rfl) ?_
        exact pR_I (by simp [cAmt, *])
      · rw [e_59]
        refine V_tableIn (off := 33) (tgt := 92) (Y := mX4_amount) (pc := 59) dX4_amount_59 ⟨by decide, by decide⟩ (by decide) (by decide) rfl (by decide) ?_
        refine V_iload (Y := mX4_amount) (pc := 92) dX4_amount_92 rfl ?_
        refine V_iret (Y := mX4_amount) (pc := 94) dX4_amount_94 rfl (Nat.le_of_ble_eq_true rfl) (Nat.le_of_ble_eq_true rfl) ?_
        exact pR_I (by simp [cAmt, *])
      · rw [e_59]
        refine V_tableIn (off := 36) (tgt := 95) (Y := mX4_amount) (pc := 59) dX4_amount_59 ⟨by decide, by decide⟩ (by decide) (by decide) rfl (by decide) ?_
        refine V_iload (Y := mX4_amount) (pc := 95) dX4_amount_95 rfl ?_
        refine V_iret (Y := mX4_amount) (pc := 97) dX4_amount_97 rfl (Nat.le_of_ble_eq_true rfl) (Nat.le_of_ble_eq_true rfl) ?_
        exact pR_I (by simp [cAmt, *])
      · rw [e_59]
        refine V_tableIn (off := 39) (tgt := 98) (Y := mX4_amount) (pc := 59) dX4_amount_59 ⟨by decide, by decide⟩ (by decide) (by decide) rfl (by decide) ?_
        refine V_iload_n (Y := mX4_amount) (pc := 98) dX4_amount_98 rfl ?_
        refine V_iload (Y := mX4_amount) (pc := 99) dX4_amount_99 rfl ?_
        apply V_sR (Y := mX4_amount) (pc := 101) dX4_amount_101 ok_X5_isOpenBeside os_X5_isOpenBeside ln_X4_102 (c_isOpenBeside (d := rAt (rs 2) c) hs hs2 ⟨by omega, by omega⟩)
        · rfl
        · rfl
        · rfl
        refine V_if_eqB (tgt := 111) (Y := mX4_amount) (pc := 104) dX4_amount_104 (by decide) (fun h_104 => ?_) (fun h_104 => ?_)
        · refine V_iload (Y := mX4_amount) (pc := 111) dX4_amount_111 rfl ?_
          refine V_iret (Y := mX4_amount) (pc := 113) dX4_amount_113 rfl (Nat.le_of_ble_eq_true rfl) (Nat.le_of_ble_eq_true rfl) ?_
          exact pR_I (by simp [cAmt, *])
        · refine V_iconst (Y := mX4_amount) (pc := 107) dX4_amount_107 ?_
          refine V_goto (tgt := 113) (Y := mX4_amount) (pc := 108) dX4_amount_108 (by decide) ?_
          refine V_iret (Y := mX4_amount) (pc := 113) dX4_amount_113 rfl (Nat.le_of_ble_eq_true rfl) (Nat.le_of_ble_eq_true rfl) ?_
          exact pR_I (by simp [cAmt, *])
      · rw [e_59]
        refine V_tableIn (off := 55) (tgt := 114) (Y := mX4_amount) (pc := 59) dX4_amount_59 ⟨by decide, by decide⟩ (by decide) (by decide) rfl (by decide) ?_
        refine V_iconst (Y := mX4_amount) (pc := 114) dX4_amount_114 ?_
        refine V_iload (Y := mX4_amount) (pc := 115) dX4_amount_115 rfl ?_
        refine V_max (Y := mX4_amount) (pc := 117) dX4_amount_117 ln_X4_118 ⟨by omega, by omega⟩ ⟨by omega, by omega⟩ rfl ?_
        refine V_iret (Y := mX4_amount) (pc := 120) dX4_amount_120 rfl (Nat.le_of_ble_eq_true rfl) (Nat.le_of_ble_eq_true rfl) ?_
        exact pR_I (by simp [cAmt, *])
      · rw [e_59]
        refine V_tableIn (off := 62) (tgt := 121) (Y := mX4_amount) (pc := 59) dX4_amount_59 ⟨by decide, by decide⟩ (by decide) (by decide) rfl (by decide) ?_
        refine V_iconst (Y := mX4_amount) (pc := 121) dX4_amount_121 ?_
        refine V_iconst (Y := mX4_amount) (pc := 122) dX4_amount_122 ?_
        refine V_iload (Y := mX4_amount) (pc := 123) dX4_amount_123 rfl ?_
        refine V_min (Y := mX4_amount) (pc := 125) dX4_amount_125 ln_X4_123 ⟨by omega, by omega⟩ ⟨by omega, by omega⟩ rfl ?_
        refine V_max (Y := mX4_amount) (pc := 128) dX4_amount_128 ln_X4_118 ⟨by omega, by omega⟩ ⟨by omega, by omega⟩ rfl ?_
        refine V_iret (Y := mX4_amount) (pc := 131) dX4_amount_131 rfl (Nat.le_of_ble_eq_true rfl) (Nat.le_of_ble_eq_true rfl) ?_
        exact pR_I (by simp [cAmt, *])
    · refine V_iload (Y := mX4_amount) (pc := 43) dX4_amount_43 rfl ?_
      refine V_goto (tgt := 49) (Y := mX4_amount) (pc := 45) dX4_amount_45 (by decide) ?_
      refine V_istore (Y := mX4_amount) (pc := 49) dX4_amount_49 rfl ?_
      refine V_aload_n (Y := mX4_amount) (pc := 51) dX4_amount_51 rfl ?_
      apply V_get (Y := mX4_amount) (pc := 52) dX4_amount_52 fl_X4_42
      · assumption
      · rfl
      refine V_iload_n (Y := mX4_amount) (pc := 55) dX4_amount_55 rfl ?_
      apply V_vR (Y := mX4_amount) (pc := 56) dX4_amount_56 ok_X2_at ov_X2_at ln_X4_85 (c_Row_at (i := c) h.r3 ⟨by omega, by omega⟩)
      · exact h.r3.obj
      · rfl
      · rfl
      · rfl
      · rfl
      · rfl
      rcases ((show rAt (rs 3) c = 0 ∨ rAt (rs 3) c = 1 ∨ rAt (rs 3) c = 2 ∨ rAt (rs 3) c = 3 ∨ rAt (rs 3) c = 4 ∨ rAt (rs 3) c = 5 by omega)) with e_59 | e_59 | e_59 | e_59 | e_59 | e_59
      · rw [e_59]
        refine V_tableOut (tgt := 132) (Y := mX4_amount) (pc := 59) dX4_amount_59 ⟨by decide, by decide⟩ (by decide) (by decide) ?_
        refine V_iload (Y := mX4_amount) (pc := 132) dX4_amount_132 rfl ?_
        refine V_iret (Y := mX4_amount) (pc := 134) dX4_amount_134 rfl (Nat.le_of_ble_eq_true rfl) (Nat.le_of_ble_eq_true rfl) ?_
        exact pR_I (by simp [cAmt, *])
      · rw [e_59]
        refine V_tableIn (off := 33) (tgt := 92) (Y := mX4_amount) (pc := 59) dX4_amount_59 ⟨by decide, by decide⟩ (by decide) (by decide) rfl (by decide) ?_
        refine V_iload (Y := mX4_amount) (pc := 92) dX4_amount_92 rfl ?_
        refine V_iret (Y := mX4_amount) (pc := 94) dX4_amount_94 rfl (Nat.le_of_ble_eq_true rfl) (Nat.le_of_ble_eq_true rfl) ?_
        exact pR_I (by simp [cAmt, *])
      · rw [e_59]
        refine V_tableIn (off := 36) (tgt := 95) (Y := mX4_amount) (pc := 59) dX4_amount_59 ⟨by decide, by decide⟩ (by decide) (by decide) rfl (by decide) ?_
        refine V_iload (Y := mX4_amount) (pc := 95) dX4_amount_95 rfl ?_
        refine V_iret (Y := mX4_amount) (pc := 97) dX4_amount_97 rfl (Nat.le_of_ble_eq_true rfl) (Nat.le_of_ble_eq_true rfl) ?_
        exact pR_I (by simp [cAmt, *])
      · rw [e_59]
        refine V_tableIn (off := 39) (tgt := 98) (Y := mX4_amount) (pc := 59) dX4_amount_59 ⟨by decide, by decide⟩ (by decide) (by decide) rfl (by decide) ?_
        refine V_iload_n (Y := mX4_amount) (pc := 98) dX4_amount_98 rfl ?_
        refine V_iload (Y := mX4_amount) (pc := 99) dX4_amount_99 rfl ?_
        apply V_sR (Y := mX4_amount) (pc := 101) dX4_amount_101 ok_X5_isOpenBeside os_X5_isOpenBeside ln_X4_102 (c_isOpenBeside (d := rAt (rs 2) c) hs hs2 ⟨by omega, by omega⟩)
        · rfl
        · rfl
        · rfl
        refine V_if_eqB (tgt := 111) (Y := mX4_amount) (pc := 104) dX4_amount_104 (by decide) (fun h_104 => ?_) (fun h_104 => ?_)
        · refine V_iload (Y := mX4_amount) (pc := 111) dX4_amount_111 rfl ?_
          refine V_iret (Y := mX4_amount) (pc := 113) dX4_amount_113 rfl (Nat.le_of_ble_eq_true rfl) (Nat.le_of_ble_eq_true rfl) ?_
          exact pR_I (by simp [cAmt, *])
        · refine V_iconst (Y := mX4_amount) (pc := 107) dX4_amount_107 ?_
          refine V_goto (tgt := 113) (Y := mX4_amount) (pc := 108) dX4_amount_108 (by decide) ?_
          refine V_iret (Y := mX4_amount) (pc := 113) dX4_amount_113 rfl (Nat.le_of_ble_eq_true rfl) (Nat.le_of_ble_eq_true rfl) ?_
          exact pR_I (by simp [cAmt, *])
      · rw [e_59]
        refine V_tableIn (off := 55) (tgt := 114) (Y := mX4_amount) (pc := 59) dX4_amount_59 ⟨by decide, by decide⟩ (by decide) (by decide) rfl (by decide) ?_
        refine V_iconst (Y := mX4_amount) (pc := 114) dX4_amount_114 ?_
        refine V_iload (Y := mX4_amount) (pc := 115) dX4_amount_115 rfl ?_
        refine V_max (Y := mX4_amount) (pc := 117) dX4_amount_117 ln_X4_118 ⟨by omega, by omega⟩ ⟨by omega, by omega⟩ rfl ?_
        refine V_iret (Y := mX4_amount) (pc := 120) dX4_amount_120 rfl (Nat.le_of_ble_eq_true rfl) (Nat.le_of_ble_eq_true rfl) ?_
        exact pR_I (by simp [cAmt, *])
      · rw [e_59]
        refine V_tableIn (off := 62) (tgt := 121) (Y := mX4_amount) (pc := 59) dX4_amount_59 ⟨by decide, by decide⟩ (by decide) (by decide) rfl (by decide) ?_
        refine V_iconst (Y := mX4_amount) (pc := 121) dX4_amount_121 ?_
        refine V_iconst (Y := mX4_amount) (pc := 122) dX4_amount_122 ?_
        refine V_iload (Y := mX4_amount) (pc := 123) dX4_amount_123 rfl ?_
        refine V_min (Y := mX4_amount) (pc := 125) dX4_amount_125 ln_X4_123 ⟨by omega, by omega⟩ ⟨by omega, by omega⟩ rfl ?_
        refine V_max (Y := mX4_amount) (pc := 128) dX4_amount_128 ln_X4_118 ⟨by omega, by omega⟩ ⟨by omega, by omega⟩ rfl ?_
        refine V_iret (Y := mX4_amount) (pc := 131) dX4_amount_131 rfl (Nat.le_of_ble_eq_true rfl) (Nat.le_of_ble_eq_true rfl) ?_
        exact pR_I (by simp [cAmt, *])
