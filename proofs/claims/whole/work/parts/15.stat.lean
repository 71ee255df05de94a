/-! ===== bits, powers of three, digits: the class's static helpers ===== -/
theorem bs_sm : ∀ d, d < 32 → ((nI d &&& 31).toBitVec.smod 32).toNat = d := by decide +kernel
theorem iI_and (a b : Nat) : iI a &&& iI b = iI ((a &&& b : Nat) : Int) := by
  rw [← nI_iI, ← nI_iI, ← nI_iI]
  apply Int32.toBitVec_inj.1
  show BitVec.ofNat 32 a &&& BitVec.ofNat 32 b = BitVec.ofNat 32 (a &&& b)
  apply BitVec.eq_of_getLsbD_eq
  intro i hi
  simp [hi]
theorem iI_or (a b : Nat) : iI a ||| iI b = iI ((a ||| b : Nat) : Int) := by
  rw [← nI_iI, ← nI_iI, ← nI_iI]
  apply Int32.toBitVec_inj.1
  show BitVec.ofNat 32 a ||| BitVec.ofNat 32 b = BitVec.ofNat 32 (a ||| b)
  apply BitVec.eq_of_getLsbD_eq
  intro i hi
  simp [hi]
theorem iI_xor (a b : Nat) : iI a ^^^ iI b = iI ((a ^^^ b : Nat) : Int) := by
  rw [← nI_iI, ← nI_iI, ← nI_iI]
  apply Int32.toBitVec_inj.1
  show BitVec.ofNat 32 a ^^^ BitVec.ofNat 32 b = BitVec.ofNat 32 (a ^^^ b)
  apply BitVec.eq_of_getLsbD_eq
  intro i hi
  simp [hi]
theorem iI_shl {a : Nat} {d : Int} (h0 : 0 ≤ d) (h : d < 32) (ha : a * 2 ^ d.toNat < 2 ^ 32) : iI a <<< (iI d &&& 31) = iI ((a * 2 ^ d.toNat : Nat) : Int) := by
  obtain ⟨m, rfl⟩ := Int.eq_ofNat_of_zero_le h0
  rw [← nI_iI, ← nI_iI, ← nI_iI]
  exact pk_shlN _ m (bs_sm m (by omega)) ha
theorem iI_shl1 {d : Int} (h0 : 0 ≤ d) (h : d < 31) : iI 1 <<< (iI d &&& 31) = iI ((2 ^ d.toNat : Nat) : Int) := by
  have h1 : (2 : Nat) ^ d.toNat < 2 ^ 31 := Nat.pow_lt_pow_right (by decide) (by omega)
  have h2 := iI_shl (a := 1) h0 (by omega) (by omega)
  rw [Nat.one_mul] at h2
  exact h2
theorem iI_shr {a : Nat} {d : Int} (h0 : 0 ≤ d) (h : d < 32) (ha : a < 2 ^ 31) : iI a >>> (iI d &&& 31) = iI ((a / 2 ^ d.toNat : Nat) : Int) := by
  obtain ⟨m, rfl⟩ := Int.eq_ofNat_of_zero_le h0
  rw [← nI_iI, ← nI_iI, ← nI_iI]
  exact pk_shrN ha _ m (bs_sm m (by omega))
theorem testBit_1 (a d : Nat) : (a / 2 ^ d &&& 1 : Nat) = if a.testBit d then 1 else 0 := by
  rw [Nat.and_one_is_mod, ← Nat.shiftRight_eq_div_pow]
  have h := Nat.testBit_eq_decide_div_mod_eq (x := a) (i := d)
  rw [h, Nat.shiftRight_eq_div_pow]
  by_cases h2 : a / 2 ^ d % 2 = 1
  · simp [h2]
  · have : a / 2 ^ d % 2 = 0 := by omega
    simp [this]
/-! digits to the base three -/
def p3 (k : Nat) : Int := 3 ^ k
theorem p3_succ (k : Nat) : p3 (k + 1) = p3 k * 3 := Int.pow_succ 3 k
theorem p3_pos (k : Nat) : 0 < p3 k := Int.pow_pos (by decide)
theorem p3_le : ∀ k, k ≤ 7 → p3 k ≤ 2187 := by decide
theorem p3_mono {a b : Nat} (h : a ≤ b) : p3 a ≤ p3 b := by
  induction h with
  | refl => exact Int.le_refl _
  | step _ ih => rw [p3_succ]; have := p3_pos a; omega
def sd (s : Int) (i : Nat) : Int := s / p3 i
def dg (s : Int) (d : Nat) : Int := sd s d % 3
theorem sd_0 (s : Int) : sd s 0 = s := Int.ediv_one s
theorem sd_succ (s : Int) (i : Nat) : sd s (i + 1) = sd s i / 3 := by
  unfold sd
  rw [p3_succ, Int.ediv_ediv_of_nonneg (Int.le_of_lt (p3_pos i))]
theorem sd_rng {s : Int} (h : 0 ≤ s) (i : Nat) : 0 ≤ sd s i ∧ sd s i ≤ s := ⟨Int.ediv_nonneg h (Int.le_of_lt (p3_pos i)), Int.ediv_le_self _ h⟩
theorem dg_rng (s : Int) (d : Nat) : 0 ≤ dg s d ∧ dg s d ≤ 2 := ⟨Int.emod_nonneg _ (by decide), by have := Int.emod_lt_of_pos (sd s d) (b := 3) (by decide); unfold dg; omega⟩
/-- beyond its drawers a state's digits are 0 -/
theorem dg_out {s : Int} {n d : Nat} (h0 : 0 ≤ s) (h : s < p3 n) (hd : n ≤ d) : dg s d = 0 := by
  unfold dg sd
  rw [Int.ediv_eq_zero_of_lt h0 (Int.lt_of_lt_of_le h (p3_mono hd))]
  rfl
def mv (s : Int) (d : Nat) (v : Int) : Int := s + (max 0 (min 2 (dg s d + v)) - dg s d) * p3 d
def drB (s v : Int) : Nat → Nat
  | 0 => 0
  | m + 1 => drB s v m ||| (if dg s m = v then 2 ^ m else 0)
theorem drB_bit (s v : Int) : ∀ (m d : Nat), (drB s v m).testBit d = decide (d < m ∧ dg s d = v)
  | 0, d => by simp [drB]
  | m + 1, d => by
    rw [drB, Nat.testBit_or, drB_bit s v m d]
    by_cases h : dg s m = v
    · rw [if_pos h, Nat.testBit_two_pow]
      by_cases h2 : m = d
      · subst h2; simp [h]
      · have : d < m + 1 ↔ d < m := by omega
        simp [h2, this]
    · rw [if_neg h, Nat.zero_testBit, Bool.or_false]
      by_cases h2 : m = d
      · subst h2; simp [h]
      · have : d < m + 1 ↔ d < m := by omega
        simp [this]
theorem drB_lt (s v : Int) : ∀ m, drB s v m < 2 ^ m
  | 0 => by simp [drB]
  | m + 1 => by
    have ih := drB_lt s v m
    have h2 : (2 : Nat) ^ (m + 1) = 2 * 2 ^ m := by rw [Nat.pow_succ]; omega
    rw [drB]
    apply Nat.or_lt_two_pow
    · omega
    · split
      · omega
      · exact Nat.two_pow_pos _
def bsB (a : Nat) : Nat := a * 2 ||| a / 2
theorem bsB_bit (a d : Nat) : (bsB a).testBit d = ((decide (0 < d) && a.testBit (d - 1)) || a.testBit (d + 1)) := by
  unfold bsB
  rw [Nat.testBit_or, Nat.testBit_div_two, show a * 2 = 2 ^ 1 * a by omega, Nat.testBit_two_pow_mul]
  congr 1
abbrev opB (s : Int) (d : Nat) : Prop := (0 < d ∧ dg s (d - 1) = 2) ∨ (d < 6 ∧ dg s (d + 1) = 2)

def sumW (w s : Int) : Nat → Int
  | 0 => 0
  | m + 1 => sumW w s m + dg w m * dg s m
theorem opB_iff (s : Int) {d : Nat} (hd : d < 7) : (bsB (2 ^ d) &&& drB s 2 7) ≠ 0 ↔ opB s d := by
  constructor
  · intro h
    obtain ⟨i, hi⟩ := Nat.exists_testBit_of_ne_zero h
    rw [Nat.testBit_and, bsB_bit, drB_bit] at hi
    simp only [Nat.testBit_two_pow, Bool.and_eq_true, Bool.or_eq_true, decide_eq_true_eq] at hi
    obtain ⟨h1 | h1, h2, h3⟩ := hi
    · right; have : i = d + 1 := by omega
      subst this; exact ⟨by omega, h3⟩
    · left; have : d - 1 = i := by omega
      rw [this]; exact ⟨by omega, h3⟩
  · intro h hz
    have key : ∀ i, (bsB (2 ^ d) &&& drB s 2 7).testBit i = false := fun i => by rw [hz]; exact Nat.zero_testBit i
    rcases h with ⟨h1, h2⟩ | ⟨h1, h2⟩
    · have k := key (d - 1)
      rw [Nat.testBit_and, bsB_bit, drB_bit] at k
      simp only [Nat.testBit_two_pow, Bool.and_eq_false_iff, Bool.or_eq_false_iff, decide_eq_false_iff_not] at k
      rcases k with k | k
      · omega
      · exact k ⟨by omega, h2⟩
    · have k := key (d + 1)
      rw [Nat.testBit_and, bsB_bit, drB_bit] at k
      simp only [Nat.testBit_two_pow, Bool.and_eq_false_iff, Bool.or_eq_false_iff, decide_eq_false_iff_not] at k
      rcases k with k | k
      · omega
      · exact k ⟨by omega, h2⟩

theorem sumW_rng (w s : Int) : ∀ m : Nat, 0 ≤ sumW w s m ∧ sumW w s m ≤ 4 * m
  | 0 => ⟨Int.le_refl _, Int.le_refl _⟩
  | m + 1 => by
    have ih := sumW_rng w s m
    have h1 := dg_rng w m
    have h2 := dg_rng s m
    have h3 : 0 ≤ dg w m * dg s m := Int.mul_nonneg h1.1 h2.1
    have h4 : dg w m * dg s m ≤ 2 * 2 := Int.mul_le_mul h1.2 h2.2 h2.1 (by decide)
    rw [sumW]
    omega
set_option maxRecDepth 100000 in
theorem lp_power {n : Nat} {w : vWd} {d : Int} (hd : 0 ≤ d ∧ d ≤ 7) : ∀ (m : Nat) (i : Int), 0 ≤ i → i ≤ d → (d - i).toNat < m →
    V mX5_power (rm 0) (pR (vI (p3 d.toNat)) n w) 4 [some (vI d), some (vI (p3 i.toNat)), some (vI i)] [] n w 0 0 := by
  intro m
  induction m with
  | zero => intro i h1 h2 h3; omega
  | succ m ih =>
    intro i hi hi2 hm
    refine V_iload_n (Y := mX5_power) (pc := 4) dX5_power_4 rfl ?_
    refine V_iload_n (Y := mX5_power) (pc := 5) dX5_power_5 rfl ?_
    refine V_icmp_ge (tgt := 25) (Y := mX5_power) (pc := 6) dX5_power_6 (by decide) ⟨by omega, by omega⟩ ⟨by omega, by omega⟩ (fun h_6 => ?_) (fun h_6 => ?_)
    · refine V_iload_n (Y := mX5_power) (pc := 25) dX5_power_25 rfl ?_
      refine V_iret (Y := mX5_power) (pc := 26) dX5_power_26 rfl (Nat.le_of_ble_eq_true rfl) (Nat.le_of_ble_eq_true rfl) ?_
      exact pR_I (by rw [show i = d by omega])
    · refine V_iload_n (Y := mX5_power) (pc := 9) dX5_power_9 rfl ?_
      refine V_bipush (Y := mX5_power) (pc := 10) dX5_power_10 ⟨by decide, by decide⟩ ?_
      refine V_icmp_ge (tgt := 25) (Y := mX5_power) (pc := 12) dX5_power_12 (by decide) ⟨by omega, by omega⟩ ⟨by omega, by omega⟩ (fun h_12 => absurd h_12 (by omega)) (fun h_12 => ?_)
      refine V_iload_n (Y := mX5_power) (pc := 15) dX5_power_15 rfl ?_
      refine V_iconst (Y := mX5_power) (pc := 16) dX5_power_16 ?_
      refine V_imul (Y := mX5_power) (pc := 17) dX5_power_17 ?_
      refine V_istore_n (Y := mX5_power) (pc := 18) dX5_power_18 rfl ?_
      refine V_iinc (Y := mX5_power) (pc := 19) dX5_power_19 rfl rfl ?_
      refine V_goto (tgt := 4) (Y := mX5_power) (pc := 22) dX5_power_22 (by decide) ?_
      have e : p3 (i + 1).toNat = p3 i.toNat * 3 := by rw [show (i + 1).toNat = i.toNat + 1 by omega, p3_succ]
      rw [← e]
      exact ih (i + 1) (by omega) (by omega) (by omega)
set_option maxRecDepth 100000 in
theorem c_power {n : Nat} {w : vWd} {d : Int} (hd : 0 ≤ d ∧ d ≤ 7) : Ctr mX5_power (rm 0) [vI d] n w (pR (vI (p3 d.toNat)) n w) := by
  refine Ctr_of (lv := [some (vI d), none, none]) (by decide +kernel) rfl rfl ?_
  refine V_iconst (Y := mX5_power) (pc := 0) dX5_power_0 ?_
  refine V_istore_n (Y := mX5_power) (pc := 1) dX5_power_1 rfl ?_
  refine V_iconst (Y := mX5_power) (pc := 2) dX5_power_2 ?_
  refine V_istore_n (Y := mX5_power) (pc := 3) dX5_power_3 rfl ?_
  exact lp_power hd (d.toNat + 1) 0 (by omega) (by omega) (by omega)
set_option maxRecDepth 100000 in
theorem lp_outIn {n : Nat} {w : vWd} {s d : Int} (hs : 0 ≤ s) (hs2 : inR s) (hd : 0 ≤ d ∧ d ≤ 7) : ∀ (m : Nat) (i : Int), 0 ≤ i → i ≤ d → (d - i).toNat < m →
    V mX5_outIn (rm 0) (pR (vI (dg s d.toNat)) n w) 4 [some (vI s), some (vI d), some (vI (sd s i.toNat)), some (vI i)] [] n w 0 0 := by
  intro m
  induction m with
  | zero => intro i h1 h2 h3; omega
  | succ m ih =>
    intro i hi hi2 hm
    have hr := sd_rng hs i.toNat
    refine V_iload_n (Y := mX5_outIn) (pc := 4) dX5_outIn_4 rfl ?_
    refine V_iload_n (Y := mX5_outIn) (pc := 5) dX5_outIn_5 rfl ?_
    refine V_icmp_ge (tgt := 25) (Y := mX5_outIn) (pc := 6) dX5_outIn_6 (by decide) ⟨by omega, by omega⟩ ⟨by omega, by omega⟩ (fun h_6 => ?_) (fun h_6 => ?_)
    · refine V_iload_n (Y := mX5_outIn) (pc := 25) dX5_outIn_25 rfl ?_
      refine V_iconst (Y := mX5_outIn) (pc := 26) dX5_outIn_26 ?_
      refine V_irem (Y := mX5_outIn) (pc := 27) dX5_outIn_27 ⟨by omega, by omega⟩ (by omega) ⟨by decide, by decide⟩ (by decide) ?_
      refine V_iret (Y := mX5_outIn) (pc := 28) dX5_outIn_28 rfl (Nat.le_of_ble_eq_true rfl) (Nat.le_of_ble_eq_true rfl) ?_
      exact pR_I (by rw [show i = d by omega]; rfl)
    · refine V_iload_n (Y := mX5_outIn) (pc := 9) dX5_outIn_9 rfl ?_
      refine V_bipush (Y := mX5_outIn) (pc := 10) dX5_outIn_10 ⟨by decide, by decide⟩ ?_
      refine V_icmp_ge (tgt := 25) (Y := mX5_outIn) (pc := 12) dX5_outIn_12 (by decide) ⟨by omega, by omega⟩ ⟨by omega, by omega⟩ (fun h_12 => absurd h_12 (by omega)) (fun h_12 => ?_)
      refine V_iload_n (Y := mX5_outIn) (pc := 15) dX5_outIn_15 rfl ?_
      refine V_iconst (Y := mX5_outIn) (pc := 16) dX5_outIn_16 ?_
      refine V_idiv (Y := mX5_outIn) (pc := 17) dX5_outIn_17 ⟨by omega, by omega⟩ (by omega) ⟨by decide, by decide⟩ (by decide) ?_
      refine V_istore_n (Y := mX5_outIn) (pc := 18) dX5_outIn_18 rfl ?_
      refine V_iinc (Y := mX5_outIn) (pc := 19) dX5_outIn_19 rfl rfl ?_
      refine V_goto (tgt := 4) (Y := mX5_outIn) (pc := 22) dX5_outIn_22 (by decide) ?_
      have e : sd s (i + 1).toNat = sd s i.toNat / 3 := by rw [show (i + 1).toNat = i.toNat + 1 by omega, sd_succ]
      rw [← e]
      exact ih (i + 1) (by omega) (by omega) (by omega)
set_option maxRecDepth 100000 in
theorem c_outIn {n : Nat} {w : vWd} {s d : Int} (hs : 0 ≤ s) (hs2 : inR s) (hd : 0 ≤ d ∧ d ≤ 7) : Ctr mX5_outIn (rm 0) [vI s, vI d] n w (pR (vI (dg s d.toNat)) n w) := by
  refine Ctr_of (lv := [some (vI s), some (vI d), none, none]) (by decide +kernel) rfl rfl ?_
  have h0 := lp_outIn (n := n) (w := w) hs hs2 hd (d.toNat + 1) 0 (by omega) (by omega) (by omega)
  rw [show (0 : Int).toNat = 0 from rfl, sd_0] at h0
  refine V_iload_n (Y := mX5_outIn) (pc := 0) dX5_outIn_0 rfl ?_
  refine V_istore_n (Y := mX5_outIn) (pc := 1) dX5_outIn_1 rfl ?_
  refine V_iconst (Y := mX5_outIn) (pc := 2) dX5_outIn_2 ?_
  refine V_istore_n (Y := mX5_outIn) (pc := 3) dX5_outIn_3 rfl ?_
  exact h0
set_option maxRecDepth 100000 in
theorem c_moved {n : Nat} {w : vWd} {s d v : Int} (hs : 0 ≤ s) (hs2 : inR s) (hd : 0 ≤ d ∧ d ≤ 7) (hv : -2 ≤ v ∧ v ≤ 2) : Ctr mX5_moved (rm 1) [vI s, vI d, vI v] n w (pR (vI (mv s d.toNat v)) n w) := by
  refine Ctr_of (lv := [some (vI s), some (vI d), some (vI v), none, none]) (by decide +kernel) rfl rfl ?_
  have hg := dg_rng s d.toNat
  refine V_iload_n (Y := mX5_moved) (pc := 0) dX5_moved_0 rfl ?_
  refine V_iload_n (Y := mX5_moved) (pc := 1) dX5_moved_1 rfl ?_
  apply V_sR (Y := mX5_moved) (pc := 2) dX5_moved_2 ok_X5_outIn os_X5_outIn ln_X5_157 (c_outIn hs hs2 hd)
  · rfl
  · rfl
  · rfl
  refine V_istore_n (Y := mX5_moved) (pc := 5) dX5_moved_5 rfl ?_
  refine V_iconst (Y := mX5_moved) (pc := 6) dX5_moved_6 ?_
  refine V_iconst (Y := mX5_moved) (pc := 7) dX5_moved_7 ?_
  refine V_iload_n (Y := mX5_moved) (pc := 8) dX5_moved_8 rfl ?_
  refine V_iload_n (Y := mX5_moved) (pc := 9) dX5_moved_9 rfl ?_
  refine V_iadd (Y := mX5_moved) (pc := 10) dX5_moved_10 ?_
  refine V_min (Y := mX5_moved) (pc := 11) dX5_moved_11 ln_X5_304 ⟨by omega, by omega⟩ ⟨by omega, by omega⟩ rfl ?_
  refine V_max (Y := mX5_moved) (pc := 14) dX5_moved_14 ln_X5_202 ⟨by omega, by omega⟩ ⟨by omega, by omega⟩ rfl ?_
  refine V_istore (Y := mX5_moved) (pc := 17) dX5_moved_17 rfl ?_
  refine V_iload_n (Y := mX5_moved) (pc := 19) dX5_moved_19 rfl ?_
  refine V_iload (Y := mX5_moved) (pc := 20) dX5_moved_20 rfl ?_
  refine V_iload_n (Y := mX5_moved) (pc := 22) dX5_moved_22 rfl ?_
  refine V_isub (Y := mX5_moved) (pc := 23) dX5_moved_23 ?_
  refine V_iload_n (Y := mX5_moved) (pc := 24) dX5_moved_24 rfl ?_
  apply V_sR (Y := mX5_moved) (pc := 25) dX5_moved_25 ok_X5_power os_X5_power ln_X5_307 (c_power hd)
  · rfl
  · rfl
  · rfl
  refine V_imul (Y := mX5_moved) (pc := 28) dX5_moved_28 ?_
  refine V_iadd (Y := mX5_moved) (pc := 29) dX5_moved_29 ?_
  refine V_iret (Y := mX5_moved) (pc := 30) dX5_moved_30 rfl (Nat.le_of_ble_eq_true rfl) (Nat.le_of_ble_eq_true rfl) ?_
  exact pR_I rfl
set_option maxRecDepth 100000 in
theorem lp_drawersOut {n : Nat} {w : vWd} {s v : Int} (hs : 0 ≤ s) (hs2 : inR s) (hv : inR v) : ∀ (m : Nat) (i : Int), 0 ≤ i → i ≤ 7 → (7 - i).toNat < m →
    V mX5_drawersOutBy (rm 0) (pR (vI (drB s v 7 : Nat)) n w) 7 [some (vI s), some (vI v), some (vI (drB s v i.toNat : Nat)), some (vI (sd s i.toNat)), some (vI i)] [] n w 0 0 := by
  intro m
  induction m with
  | zero => intro i h1 h2 h3; omega
  | succ m ih =>
    intro i hi hi2 hm
    have hr := sd_rng hs i.toNat
    refine V_iload (Y := mX5_drawersOutBy) (pc := 7) dX5_drawersOutBy_7 rfl ?_
    refine V_bipush (Y := mX5_drawersOutBy) (pc := 9) dX5_drawersOutBy_9 ⟨by decide, by decide⟩ ?_
    refine V_icmp_ge (tgt := 38) (Y := mX5_drawersOutBy) (pc := 11) dX5_drawersOutBy_11 (by decide) ⟨by omega, by omega⟩ ⟨by omega, by omega⟩ (fun h_11 => ?_) (fun h_11 => ?_)
    · refine V_iload_n (Y := mX5_drawersOutBy) (pc := 38) dX5_drawersOutBy_38 rfl ?_
      refine V_iret (Y := mX5_drawersOutBy) (pc := 39) dX5_drawersOutBy_39 rfl (Nat.le_of_ble_eq_true rfl) (Nat.le_of_ble_eq_true rfl) ?_
      exact pR_I (by rw [show i = 7 by omega]; rfl)
    · refine V_iload_n (Y := mX5_drawersOutBy) (pc := 14) dX5_drawersOutBy_14 rfl ?_
      refine V_iconst (Y := mX5_drawersOutBy) (pc := 15) dX5_drawersOutBy_15 ?_
      refine V_irem (Y := mX5_drawersOutBy) (pc := 16) dX5_drawersOutBy_16 ⟨by omega, by omega⟩ (by omega) ⟨by decide, by decide⟩ (by decide) ?_
      refine V_iload_n (Y := mX5_drawersOutBy) (pc := 17) dX5_drawersOutBy_17 rfl ?_
      refine V_icmp_ne (tgt := 28) (Y := mX5_drawersOutBy) (pc := 18) dX5_drawersOutBy_18 (by decide) ⟨by omega, by omega⟩ ⟨by omega, by omega⟩ (fun h_18 => ?_) (fun h_18 => ?_)
      · refine V_iload_n (Y := mX5_drawersOutBy) (pc := 28) dX5_drawersOutBy_28 rfl ?_
        refine V_iconst (Y := mX5_drawersOutBy) (pc := 29) dX5_drawersOutBy_29 ?_
        refine V_idiv (Y := mX5_drawersOutBy) (pc := 30) dX5_drawersOutBy_30 ⟨by omega, by omega⟩ (by omega) ⟨by decide, by decide⟩ (by decide) ?_
        refine V_istore_n (Y := mX5_drawersOutBy) (pc := 31) dX5_drawersOutBy_31 rfl ?_
        refine V_iinc (Y := mX5_drawersOutBy) (pc := 32) dX5_drawersOutBy_32 rfl rfl ?_
        refine V_goto (tgt := 7) (Y := mX5_drawersOutBy) (pc := 35) dX5_drawersOutBy_35 (by decide) ?_
        have e : sd s (i + 1).toNat = sd s i.toNat / 3 := by rw [show (i + 1).toNat = i.toNat + 1 by omega, sd_succ]
        have e2 : drB s v (i + 1).toNat = drB s v i.toNat ||| (if sd s i.toNat % 3 = v then 2 ^ i.toNat else 0) := by rw [show (i + 1).toNat = i.toNat + 1 by omega]; rfl
        have k := ih (i + 1) (by omega) (by omega) (by omega)
        rw [e, e2] at k
        first
          | (rw [if_neg h_18, Nat.or_zero] at k; exact k)
          | (rw [if_pos h_18] at k; exact k)
      · refine V_iload_n (Y := mX5_drawersOutBy) (pc := 21) dX5_drawersOutBy_21 rfl ?_
        refine V_iconst (Y := mX5_drawersOutBy) (pc := 22) dX5_drawersOutBy_22 ?_
        refine V_iload (Y := mX5_drawersOutBy) (pc := 23) dX5_drawersOutBy_23 rfl ?_
        refine V_ishl (Y := mX5_drawersOutBy) (pc := 25) dX5_drawersOutBy_25 (iI_shl1 (by omega) (by omega)) ?_
        refine V_ior (Y := mX5_drawersOutBy) (pc := 26) dX5_drawersOutBy_26 (iI_or _ _) ?_
        refine V_istore_n (Y := mX5_drawersOutBy) (pc := 27) dX5_drawersOutBy_27 rfl ?_
        refine V_iload_n (Y := mX5_drawersOutBy) (pc := 28) dX5_drawersOutBy_28 rfl ?_
        refine V_iconst (Y := mX5_drawersOutBy) (pc := 29) dX5_drawersOutBy_29 ?_
        refine V_idiv (Y := mX5_drawersOutBy) (pc := 30) dX5_drawersOutBy_30 ⟨by omega, by omega⟩ (by omega) ⟨by decide, by decide⟩ (by decide) ?_
        refine V_istore_n (Y := mX5_drawersOutBy) (pc := 31) dX5_drawersOutBy_31 rfl ?_
        refine V_iinc (Y := mX5_drawersOutBy) (pc := 32) dX5_drawersOutBy_32 rfl rfl ?_
        refine V_goto (tgt := 7) (Y := mX5_drawersOutBy) (pc := 35) dX5_drawersOutBy_35 (by decide) ?_
        have e : sd s (i + 1).toNat = sd s i.toNat / 3 := by rw [show (i + 1).toNat = i.toNat + 1 by omega, sd_succ]
        have e2 : drB s v (i + 1).toNat = drB s v i.toNat ||| (if sd s i.toNat % 3 = v then 2 ^ i.toNat else 0) := by rw [show (i + 1).toNat = i.toNat + 1 by omega]; rfl
        have k := ih (i + 1) (by omega) (by omega) (by omega)
        rw [e, e2] at k
        first
          | (rw [if_neg h_18, Nat.or_zero] at k; exact k)
          | (rw [if_pos h_18] at k; exact k)
set_option maxRecDepth 100000 in
theorem c_drawersOut {n : Nat} {w : vWd} {s v : Int} (hs : 0 ≤ s) (hs2 : inR s) (hv : inR v) : Ctr mX5_drawersOutBy (rm 0) [vI s, vI v] n w (pR (vI (drB s v 7 : Nat)) n w) := by
  refine Ctr_of (lv := [some (vI s), some (vI v), none, none, none]) (by decide +kernel) rfl rfl ?_
  have h0 := lp_drawersOut (n := n) (w := w) hs hs2 hv 8 0 (by omega) (by omega) (by omega)
  rw [show (0 : Int).toNat = 0 from rfl, sd_0] at h0
  refine V_iconst (Y := mX5_drawersOutBy) (pc := 0) dX5_drawersOutBy_0 ?_
  refine V_istore_n (Y := mX5_drawersOutBy) (pc := 1) dX5_drawersOutBy_1 rfl ?_
  refine V_iload_n (Y := mX5_drawersOutBy) (pc := 2) dX5_drawersOutBy_2 rfl ?_
  refine V_istore_n (Y := mX5_drawersOutBy) (pc := 3) dX5_drawersOutBy_3 rfl ?_
  refine V_iconst (Y := mX5_drawersOutBy) (pc := 4) dX5_drawersOutBy_4 ?_
  refine V_istore (Y := mX5_drawersOutBy) (pc := 5) dX5_drawersOutBy_5 rfl ?_
  exact h0
set_option maxRecDepth 100000 in
theorem c_beside {n : Nat} {w : vWd} {a : Nat} (ha : a < 1073741824) : Ctr mX5_drawersBeside (rm 0) [vI (a : Nat)] n w (pR (vI (bsB a : Nat)) n w) := by
  refine Ctr_of (lv := [some (vI (a : Nat))]) (by decide +kernel) rfl rfl ?_
  refine V_iload_n (Y := mX5_drawersBeside) (pc := 0) dX5_drawersBeside_0 rfl ?_
  refine V_iconst (Y := mX5_drawersBeside) (pc := 1) dX5_drawersBeside_1 ?_
  refine V_ishl (Y := mX5_drawersBeside) (pc := 2) dX5_drawersBeside_2 (iI_shl (d := 1) (by decide) (by decide) (by show a * 2 < 4294967296; omega)) ?_
  refine V_iload_n (Y := mX5_drawersBeside) (pc := 3) dX5_drawersBeside_3 rfl ?_
  refine V_iconst (Y := mX5_drawersBeside) (pc := 4) dX5_drawersBeside_4 ?_
  refine V_ishr (Y := mX5_drawersBeside) (pc := 5) dX5_drawersBeside_5 (iI_shr (d := 1) (by decide) (by decide) (by omega)) ?_
  refine V_ior (Y := mX5_drawersBeside) (pc := 6) dX5_drawersBeside_6 (iI_or _ _) ?_
  refine V_iret (Y := mX5_drawersBeside) (pc := 7) dX5_drawersBeside_7 rfl (Nat.le_of_ble_eq_true rfl) (Nat.le_of_ble_eq_true rfl) ?_
  exact pR_I rfl
set_option maxRecDepth 100000 in
theorem c_isOpenBeside {n : Nat} {w : vWd} {s d : Int} (hs : 0 ≤ s) (hs2 : inR s) (hd : 0 ≤ d ∧ d < 7) : Ctr mX5_isOpenBeside (rm 1) [vI s, vI d] n w (pR (vI (bI (opB s d.toNat))) n w) := by
  refine Ctr_of (lv := [some (vI s), some (vI d)]) (by decide +kernel) rfl rfl ?_
  have hp : (2 : Nat) ^ d.toNat < 2 ^ 7 := Nat.pow_lt_pow_right (by decide) (by omega)
  have ho := opB_iff s (d := d.toNat) (by omega)
  have hlt : (bsB (2 ^ d.toNat) &&& drB s 2 7) < 2 ^ 7 := Nat.lt_of_le_of_lt Nat.and_le_right (drB_lt s 2 7)
  refine V_iconst (Y := mX5_isOpenBeside) (pc := 0) dX5_isOpenBeside_0 ?_
  refine V_iload_n (Y := mX5_isOpenBeside) (pc := 1) dX5_isOpenBeside_1 rfl ?_
  refine V_ishl (Y := mX5_isOpenBeside) (pc := 2) dX5_isOpenBeside_2 (iI_shl1 (by omega) (by omega)) ?_
  apply V_sR (Y := mX5_isOpenBeside) (pc := 3) dX5_isOpenBeside_3 ok_X5_drawersBeside os_X5_drawersBeside ln_X5_310 (c_beside (a := 2 ^ d.toNat) (by omega))
  · rfl
  · rfl
  · rfl
  refine V_iload_n (Y := mX5_isOpenBeside) (pc := 6) dX5_isOpenBeside_6 rfl ?_
  refine V_iconst (Y := mX5_isOpenBeside) (pc := 7) dX5_isOpenBeside_7 ?_
  apply V_sR (Y := mX5_isOpenBeside) (pc := 8) dX5_isOpenBeside_8 ok_X5_drawersOutBy os_X5_drawersOutBy ln_X5_313 (c_drawersOut (v := 2) hs hs2 ⟨by omega, by omega⟩)
  · rfl
  · rfl
  · rfl
  refine V_iand (Y := mX5_isOpenBeside) (pc := 11) dX5_isOpenBeside_11 (iI_and _ _) ?_
  refine V_if_eq (tgt := 19) (Y := mX5_isOpenBeside) (pc := 12) dX5_isOpenBeside_12 (by decide) ⟨by omega, by omega⟩ (fun h_12 => ?_) (fun h_12 => ?_)
  · refine V_iconst (Y := mX5_isOpenBeside) (pc := 19) dX5_isOpenBeside_19 ?_
    refine V_zret (ty := .boolean) (Y := mX5_isOpenBeside) (pc := 20) dX5_isOpenBeside_20 rfl rfl (Nat.le_of_ble_eq_true rfl) (Nat.le_of_ble_eq_true rfl) ?_
    first | exact pR_I (bI_t (ho.mp (by omega))).symm | exact pR_I (bI_f (fun z => (ho.mpr z) (by omega))).symm
  · refine V_iconst (Y := mX5_isOpenBeside) (pc := 15) dX5_isOpenBeside_15 ?_
    refine V_goto (tgt := 20) (Y := mX5_isOpenBeside) (pc := 16) dX5_isOpenBeside_16 (by decide) ?_
    refine V_zret (ty := .boolean) (Y := mX5_isOpenBeside) (pc := 20) dX5_isOpenBeside_20 rfl rfl (Nat.le_of_ble_eq_true rfl) (Nat.le_of_ble_eq_true rfl) ?_
    first | exact pR_I (bI_t (ho.mp (by omega))).symm | exact pR_I (bI_f (fun z => (ho.mpr z) (by omega))).symm
set_option maxRecDepth 100000 in
theorem lp_sumOf {n : Nat} {w : vWd} {x s : Int} (hx : 0 ≤ x) (hx2 : inR x) (hs : 0 ≤ s) (hs2 : inR s) : ∀ (m : Nat) (i : Int), 0 ≤ i → i ≤ 7 → (7 - i).toNat < m →
    V mX5_sumOf (rm 0) (pR (vI (sumW x s 7 % 3)) n w) 10 [some (vI x), some (vI s), some (vI (sumW x s i.toNat)), some (vI (sd x i.toNat)), some (vI (sd s i.toNat)), some (vI i)] [] n w 0 0 := by
  intro m
  induction m with
  | zero => intro i h1 h2 h3; omega
  | succ m ih =>
    intro i hi hi2 hm
    have hr := sd_rng hs i.toNat
    have hr2 := sd_rng hx i.toNat
    have hr3 := sumW_rng x s i.toNat
    refine V_iload (Y := mX5_sumOf) (pc := 10) dX5_sumOf_10 rfl ?_
    refine V_bipush (Y := mX5_sumOf) (pc := 12) dX5_sumOf_12 ⟨by decide, by decide⟩ ?_
    refine V_icmp_ge (tgt := 44) (Y := mX5_sumOf) (pc := 14) dX5_sumOf_14 (by decide) ⟨by omega, by omega⟩ ⟨by omega, by omega⟩ (fun h_14 => ?_) (fun h_14 => ?_)
    · refine V_iload_n (Y := mX5_sumOf) (pc := 44) dX5_sumOf_44 rfl ?_
      refine V_iconst (Y := mX5_sumOf) (pc := 45) dX5_sumOf_45 ?_
      refine V_irem (Y := mX5_sumOf) (pc := 46) dX5_sumOf_46 ⟨by omega, by omega⟩ (by omega) ⟨by decide, by decide⟩ (by decide) ?_
      refine V_iret (Y := mX5_sumOf) (pc := 47) dX5_sumOf_47 rfl (Nat.le_of_ble_eq_true rfl) (Nat.le_of_ble_eq_true rfl) ?_
      exact pR_I (by rw [show i = 7 by omega]; rfl)
    · refine V_iload_n (Y := mX5_sumOf) (pc := 17) dX5_sumOf_17 rfl ?_
      refine V_iload_n (Y := mX5_sumOf) (pc := 18) dX5_sumOf_18 rfl ?_
      refine V_iconst (Y := mX5_sumOf) (pc := 19) dX5_sumOf_19 ?_
      refine V_irem (Y := mX5_sumOf) (pc := 20) dX5_sumOf_20 ⟨by omega, by omega⟩ (by omega) ⟨by decide, by decide⟩ (by decide) ?_
      refine V_iload (Y := mX5_sumOf) (pc := 21) dX5_sumOf_21 rfl ?_
      refine V_iconst (Y := mX5_sumOf) (pc := 23) dX5_sumOf_23 ?_
      refine V_irem (Y := mX5_sumOf) (pc := 24) dX5_sumOf_24 ⟨by omega, by omega⟩ (by omega) ⟨by decide, by decide⟩ (by decide) ?_
      refine V_imul (Y := mX5_sumOf) (pc := 25) dX5_sumOf_25 ?_
      refine V_iadd (Y := mX5_sumOf) (pc := 26) dX5_sumOf_26 ?_
      refine V_istore_n (Y := mX5_sumOf) (pc := 27) dX5_sumOf_27 rfl ?_
      refine V_iload_n (Y := mX5_sumOf) (pc := 28) dX5_sumOf_28 rfl ?_
      refine V_iconst (Y := mX5_sumOf) (pc := 29) dX5_sumOf_29 ?_
      refine V_idiv (Y := mX5_sumOf) (pc := 30) dX5_sumOf_30 ⟨by omega, by omega⟩ (by omega) ⟨by decide, by decide⟩ (by decide) ?_
      refine V_istore_n (Y := mX5_sumOf) (pc := 31) dX5_sumOf_31 rfl ?_
      refine V_iload (Y := mX5_sumOf) (pc := 32) dX5_sumOf_32 rfl ?_
      refine V_iconst (Y := mX5_sumOf) (pc := 34) dX5_sumOf_34 ?_
      refine V_idiv (Y := mX5_sumOf) (pc := 35) dX5_sumOf_35 ⟨by omega, by omega⟩ (by omega) ⟨by decide, by decide⟩ (by decide) ?_
      refine V_istore (Y := mX5_sumOf) (pc := 36) dX5_sumOf_36 rfl ?_
      refine V_iinc (Y := mX5_sumOf) (pc := 38) dX5_sumOf_38 rfl rfl ?_
      refine V_goto (tgt := 10) (Y := mX5_sumOf) (pc := 41) dX5_sumOf_41 (by decide) ?_
      have k := ih (i + 1) (by omega) (by omega) (by omega)
      rw [show (i + 1).toNat = i.toNat + 1 by omega, sd_succ, sd_succ] at k
      exact k
set_option maxRecDepth 100000 in
theorem c_sumOf {n : Nat} {w : vWd} {x s : Int} (hx : 0 ≤ x) (hx2 : inR x) (hs : 0 ≤ s) (hs2 : inR s) : Ctr mX5_sumOf (rm 0) [vI x, vI s] n w (pR (vI (sumW x s 7 % 3)) n w) := by
  refine Ctr_of (lv := [some (vI x), some (vI s), none, none, none, none]) (by decide +kernel) rfl rfl ?_
  have h0 := lp_sumOf (n := n) (w := w) hx hx2 hs hs2 8 0 (by omega) (by omega) (by omega)
  rw [show (0 : Int).toNat = 0 from rfl, sd_0, sd_0] at h0
  refine V_iconst (Y := mX5_sumOf) (pc := 0) dX5_sumOf_0 ?_
  refine V_istore_n (Y := mX5_sumOf) (pc := 1) dX5_sumOf_1 rfl ?_
  refine V_iload_n (Y := mX5_sumOf) (pc := 2) dX5_sumOf_2 rfl ?_
  refine V_istore_n (Y := mX5_sumOf) (pc := 3) dX5_sumOf_3 rfl ?_
  refine V_iload_n (Y := mX5_sumOf) (pc := 4) dX5_sumOf_4 rfl ?_
  refine V_istore (Y := mX5_sumOf) (pc := 5) dX5_sumOf_5 rfl ?_
  refine V_iconst (Y := mX5_sumOf) (pc := 7) dX5_sumOf_7 ?_
  refine V_istore (Y := mX5_sumOf) (pc := 8) dX5_sumOf_8 rfl ?_
  exact h0
theorem V_moved {Y : vMeth} {R : Room} {Q : vPost} {pc : Nat} {lv : vLs} {st : List Value} {n : Nat} {w : vWd} {kc ks idx : Nat} {s d v : Int} (hd : decode Y.2.1 pc = .ok (.invokestatic idx, 3)) (hL : okL Y.1.cls idx mX5_moved) (hs : 0 ≤ s) (hs2 : inR s) (h1 : 0 ≤ d ∧ d ≤ 7) (hv : -2 ≤ v ∧ v ≤ 2) (hR : rmOK R mX5_moved (rm 1) kc ks st = true) (k : V Y R Q (pc + 3) lv (vI (mv s d.toNat v) :: st) n w kc ks) : V Y R Q pc lv (vI v :: vI d :: vI s :: st) n w kc ks :=
  V_sR hd ok_X5_moved os_X5_moved hL (c_moved hs hs2 h1 hv) rfl rfl hR k
