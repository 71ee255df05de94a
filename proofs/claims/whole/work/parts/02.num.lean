/-! ===== whole numbers of the machine as integers ===== -/
def iI (z : Int) : Int32 := Int32.ofInt z
def lI (z : Int) : Int64 := Int64.ofInt z
abbrev vI (z : Int) : Value := .int (iI z)
abbrev vJ (z : Int) : Value := .long (lI z)
abbrev inR (z : Int) : Prop := -2147483648 ≤ z ∧ z ≤ 2147483647
theorem iI_add (a b : Int) : iI a + iI b = iI (a + b) := (Int32.ofInt_add a b).symm
theorem iI_sub (a b : Int) : iI a - iI b = iI (a - b) := (Int32.ofInt_sub a b).symm
theorem iI_mul (a b : Int) : iI a * iI b = iI (a * b) := (Int32.ofInt_mul a b).symm
theorem iI_neg (a : Int) : -iI a = iI (-a) := (Int32.ofInt_neg a).symm
theorem lI_add (a b : Int) : lI a + lI b = lI (a + b) := (Int64.ofInt_add a b).symm
theorem lI_sub (a b : Int) : lI a - lI b = lI (a - b) := (Int64.ofInt_sub a b).symm
theorem lI_mul (a b : Int) : lI a * lI b = lI (a * b) := (Int64.ofInt_mul a b).symm
theorem iI_toInt {a : Int} (h : inR a) : (iI a).toInt = a := Int32.toInt_ofInt_of_le (by omega) (by omega)
theorem lI_toInt {a : Int} (h : -9223372036854775808 ≤ a ∧ a < 9223372036854775808) : (lI a).toInt = a := Int64.toInt_ofInt_of_le (by omega) (by omega)
theorem iI_rng (x : Int32) : inR x.toInt := ⟨Int32.le_toInt x, by have := Int32.toInt_lt x; omega⟩
theorem iI_of (x : Int32) : ∃ z, inR z ∧ x = iI z := ⟨x.toInt, iI_rng x, (Int32.ofInt_toInt x).symm⟩
theorem iI_self (x : Int32) : iI x.toInt = x := Int32.ofInt_toInt x
theorem iI_lt {a b : Int} (ha : inR a) (hb : inR b) : iI a < iI b ↔ a < b := by rw [Int32.lt_iff_toInt_lt, iI_toInt ha, iI_toInt hb]
theorem iI_le {a b : Int} (ha : inR a) (hb : inR b) : iI a ≤ iI b ↔ a ≤ b := by rw [Int32.le_iff_toInt_le, iI_toInt ha, iI_toInt hb]
theorem iI_eq {a b : Int} (ha : inR a) (hb : inR b) : iI a = iI b ↔ a = b := by rw [← Int32.toInt_inj, iI_toInt ha, iI_toInt hb]
theorem iI_clamp {a : Int} (h : inR a) : (iI a).toNatClampNeg = a.toNat := by
  show (iI a).toInt.toNat = _
  rw [iI_toInt h]
theorem iI_in {j : Int} {n : Nat} (h0 : 0 ≤ j) (h : j < n) (hn : n < 2 ^ 31) : vp_in (iI j) n := by
  rw [vp_in_iff, iI_toInt ⟨by omega, by omega⟩]
  exact ⟨h0, h⟩
theorem iI_0 : (0 : Int32) = iI 0 := rfl
theorem iI_ne0 {a : Int} (ha : inR a) : iI a = 0 ↔ a = 0 := by rw [iI_0]; exact iI_eq ha ⟨by decide, by decide⟩
theorem iI_tdiv {a b : Int} (ha : inR a) (hb : inR b) (hb1 : b ≠ -1) : iI a / iI b = iI (a.tdiv b) := by
  have h := Int32.toInt_div_of_ne_right (iI a) (iI b) (by intro h; apply hb1; have := congrArg Int32.toInt h; rw [iI_toInt hb] at this; exact this)
  rw [iI_toInt ha, iI_toInt hb] at h
  rw [← iI_self (iI a / iI b), h]
theorem iI_div {a b : Int} (ha : inR a) (h0 : 0 ≤ a) (hb : inR b) (hb0 : 0 < b) : iI a / iI b = iI (a / b) := by
  rw [iI_tdiv ha hb (by omega), Int.tdiv_eq_ediv_of_nonneg h0]
theorem iI_mod {a b : Int} (ha : inR a) (h0 : 0 ≤ a) (hb : inR b) (hb0 : 0 < b) : iI a - iI a / iI b * iI b = iI (a % b) := by
  rw [iI_div ha h0 hb hb0, iI_mul, iI_sub]
  congr 1
  have := Int.emod_add_mul_ediv a b
  have e : a / b * b = b * (a / b) := Int.mul_comm _ _
  omega
theorem iI_long {a : Int} (h : inR a) : (iI a).toInt64 = lI a := Int32.toInt64_ofInt (by exact h.1) (by exact h.2)
theorem lI_int (a : Int) : (lI a).toInt32 = iI a := Int64.toInt32_ofInt
theorem lI_lt {a b : Int} (ha : -9223372036854775808 ≤ a ∧ a < 9223372036854775808) (hb : -9223372036854775808 ≤ b ∧ b < 9223372036854775808) : lI a < lI b ↔ a < b := by rw [Int64.lt_iff_toInt_lt, lI_toInt ha, lI_toInt hb]
theorem lI_eq {a b : Int} (ha : -9223372036854775808 ≤ a ∧ a < 9223372036854775808) (hb : -9223372036854775808 ≤ b ∧ b < 9223372036854775808) : lI a = lI b ↔ a = b := by rw [← Int64.toInt_inj, lI_toInt ha, lI_toInt hb]
theorem lI_of (x : Int64) : ∃ z, (-9223372036854775808 ≤ z ∧ z < 9223372036854775808) ∧ x = lI z := ⟨x.toInt, ⟨Int64.le_toInt x, Int64.toInt_lt x⟩, (Int64.ofInt_toInt x).symm⟩
theorem nI_iI (n : Nat) : nI n = iI n := Int32.ofInt_eq_ofNat.symm
theorem iI_8 {n : Int} (h : -128 ≤ n ∧ n ≤ 127) : (Int8.ofInt n).toInt32 = iI n := Int8.toInt32_ofInt (by exact h.1) (by exact h.2)
theorem iI_16 {n : Int} (h : -32768 ≤ n ∧ n ≤ 32767) : (Int16.ofInt n).toInt32 = iI n := Int16.toInt32_ofInt (by exact h.1) (by exact h.2)
theorem lI_nat (n : Nat) : Int64.ofNat n = lI n := Int64.ofInt_eq_ofNat.symm
/-- a function changed at one place -/
theorem aI_upd (f : Nat → Int) (k : Nat) (z : Int) : upd (fun j => iI (f j)) k (iI z) = fun j => iI (va_up f k z j) := by
  funext j
  by_cases h : j = k <;> simp [upd, va_up, h]
