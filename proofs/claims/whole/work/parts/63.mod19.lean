/-! ===== DrawerWallModel: its marks ===== -/
/-- a word's number to the base 32 -/
def wvC (l : List Int) (s : Int) : Nat → Int
  | 0 => 0
  | m + 1 => if 7 < m then 0 else 32 * wvC l s m + (rAt l (s + m) - 96)
theorem wvC_succ {l : List Int} {s : Int} {m : Nat} (h : m ≤ 7) : wvC l s (m + 1) = 32 * wvC l s m + (rAt l (s + m) - 96) := if_neg (by omega)
theorem wvC_rng {l : List Int} {s : Int} : ∀ m : Nat, (∀ k : Nat, k < m → 97 ≤ rAt l (s + k) ∧ rAt l (s + k) ≤ 122) → 0 ≤ wvC l s m ∧ wvC l s m < 1099511627776
  | 0, _ => ⟨Int.le_refl 0, by show (0 : Int) < 1099511627776; omega⟩
  | m + 1, h => by
    have key : ∀ j : Nat, j ≤ m → j ≤ 8 → 0 ≤ wvC l s j ∧ wvC l s j < 32 ^ j := by
      intro j
      induction j with
      | zero => intro _ _; exact ⟨Int.le_refl 0, by show (0 : Int) < 1; omega⟩
      | succ j ih =>
        intro h1 h2
        have q := ih (by omega) (by omega)
        have hd := h j (by omega)
        rw [wvC_succ (by omega), Int.pow_succ]
        omega
    rw [wvC]
    split
    · omega
    · have q := key m (Nat.le_refl _) (by omega)
      have hd := h m (by omega)
      have hpa : ∀ j : Nat, j ≤ 7 → (32 : Int) ^ j ≤ 34359738368 := by decide
      have hp := hpa m (by omega)
      omega
theorem wvC_dec {l : List Int} {s v : Int} {m : Nat} (hm : m ≤ 8) (hl : ∀ k : Nat, k < m → 97 ≤ rAt l (s + k) ∧ rAt l (s + k) ≤ 122) (h : wvC l s m = v) : (m = 0 ∧ v = 0) ∨ ∃ m' : Nat, m = m' + 1 ∧ rAt l (s + m') = 96 + v % 32 ∧ wvC l s m' = v / 32 ∧ 0 < v := by
  cases m with
  | zero => exact Or.inl ⟨rfl, h.symm⟩
  | succ m' =>
    have hd := hl m' (by omega)
    have hr := wvC_rng m' (fun k hk => hl k (by omega))
    rw [wvC_succ (by omega)] at h
    exact Or.inr ⟨m', rfl, by omega, by omega, by omega⟩
theorem wd_0 {l : List Int} {s : Int} {m : Nat} (hm : m ≤ 7) (hl : ∀ k : Nat, k < m → 97 ≤ rAt l (s + k) ∧ rAt l (s + k) ≤ 122) : wvC l s m = 4900755027 ↔ isW l s (s + m) 0 := by
  constructor
  · intro h0
    obtain ⟨-, q0⟩ | ⟨m0, e0, a0, h1, -⟩ := wvC_dec (by omega) (fun k hk => hl k (by omega)) h0
    · exact absurd q0 (by decide)
    obtain ⟨-, q1⟩ | ⟨m1, e1, a1, h2, -⟩ := wvC_dec (by omega) (fun k hk => hl k (by omega)) h1
    · exact absurd q1 (by decide)
    obtain ⟨-, q2⟩ | ⟨m2, e2, a2, h3, -⟩ := wvC_dec (by omega) (fun k hk => hl k (by omega)) h2
    · exact absurd q2 (by decide)
    obtain ⟨-, q3⟩ | ⟨m3, e3, a3, h4, -⟩ := wvC_dec (by omega) (fun k hk => hl k (by omega)) h3
    · exact absurd q3 (by decide)
    obtain ⟨-, q4⟩ | ⟨m4, e4, a4, h5, -⟩ := wvC_dec (by omega) (fun k hk => hl k (by omega)) h4
    · exact absurd q4 (by decide)
    obtain ⟨-, q5⟩ | ⟨m5, e5, a5, h6, -⟩ := wvC_dec (by omega) (fun k hk => hl k (by omega)) h5
    · exact absurd q5 (by decide)
    obtain ⟨-, q6⟩ | ⟨m6, e6, a6, h7, -⟩ := wvC_dec (by omega) (fun k hk => hl k (by omega)) h6
    · exact absurd q6 (by decide)
    obtain ⟨z0, -⟩ | ⟨mz, -, -, -, qz⟩ := wvC_dec (by omega) (fun k hk => hl k (by omega)) h7
    · refine ⟨by show s + (m : Int) - s = 7; omega, fun k k0 k1 => ?_⟩
      have k1 : k < 7 := k1
      rcases (show k = 0 ∨ k = 1 ∨ k = 2 ∨ k = 3 ∨ k = 4 ∨ k = 5 ∨ k = 6 by omega) with rfl | rfl | rfl | rfl | rfl | rfl | rfl
      · rw [show s + 0 = s + (m6 : Int) by omega, a6]; rfl
      · rw [show s + 1 = s + (m5 : Int) by omega, a5]; rfl
      · rw [show s + 2 = s + (m4 : Int) by omega, a4]; rfl
      · rw [show s + 3 = s + (m3 : Int) by omega, a3]; rfl
      · rw [show s + 4 = s + (m2 : Int) by omega, a2]; rfl
      · rw [show s + 5 = s + (m1 : Int) by omega, a1]; rfl
      · rw [show s + 6 = s + (m0 : Int) by omega, a0]; rfl
    · exact absurd qz (by decide)
  · rintro ⟨h1, h2⟩
    have h1 : s + (m : Int) - s = 7 := h1
    have hm7 : m = 7 := by omega
    subst hm7
    have c0 : rAt l (s + ((0 : Nat) : Int)) = 100 := h2 0 (by omega) (by show (0 : Int) < 7; omega)
    have c1 : rAt l (s + ((1 : Nat) : Int)) = 114 := h2 1 (by omega) (by show (1 : Int) < 7; omega)
    have c2 : rAt l (s + ((2 : Nat) : Int)) = 97 := h2 2 (by omega) (by show (2 : Int) < 7; omega)
    have c3 : rAt l (s + ((3 : Nat) : Int)) = 119 := h2 3 (by omega) (by show (3 : Int) < 7; omega)
    have c4 : rAt l (s + ((4 : Nat) : Int)) = 101 := h2 4 (by omega) (by show (4 : Int) < 7; omega)
    have c5 : rAt l (s + ((5 : Nat) : Int)) = 114 := h2 5 (by omega) (by show (5 : Int) < 7; omega)
    have c6 : rAt l (s + ((6 : Nat) : Int)) = 115 := h2 6 (by omega) (by show (6 : Int) < 7; omega)
    rw [wvC_succ (by omega), c6, wvC_succ (by omega), c5, wvC_succ (by omega), c4, wvC_succ (by omega), c3, wvC_succ (by omega), c2, wvC_succ (by omega), c1, wvC_succ (by omega), c0]
    rfl
theorem wd_1 {l : List Int} {s : Int} {m : Nat} (hm : m ≤ 7) (hl : ∀ k : Nat, k < m → 97 ≤ rAt l (s + k) ∧ rAt l (s + k) ≤ 122) : wvC l s m = 114244 ↔ isW l s (s + m) 1 := by
  constructor
  · intro h0
    obtain ⟨-, q0⟩ | ⟨m0, e0, a0, h1, -⟩ := wvC_dec (by omega) (fun k hk => hl k (by omega)) h0
    · exact absurd q0 (by decide)
    obtain ⟨-, q1⟩ | ⟨m1, e1, a1, h2, -⟩ := wvC_dec (by omega) (fun k hk => hl k (by omega)) h1
    · exact absurd q1 (by decide)
    obtain ⟨-, q2⟩ | ⟨m2, e2, a2, h3, -⟩ := wvC_dec (by omega) (fun k hk => hl k (by omega)) h2
    · exact absurd q2 (by decide)
    obtain ⟨-, q3⟩ | ⟨m3, e3, a3, h4, -⟩ := wvC_dec (by omega) (fun k hk => hl k (by omega)) h3
    · exact absurd q3 (by decide)
    obtain ⟨z0, -⟩ | ⟨mz, -, -, -, qz⟩ := wvC_dec (by omega) (fun k hk => hl k (by omega)) h4
    · refine ⟨by show s + (m : Int) - s = 4; omega, fun k k0 k1 => ?_⟩
      have k1 : k < 4 := k1
      rcases (show k = 0 ∨ k = 1 ∨ k = 2 ∨ k = 3 by omega) with rfl | rfl | rfl | rfl
      · rw [show s + 0 = s + (m3 : Int) by omega, a3]; rfl
      · rw [show s + 1 = s + (m2 : Int) by omega, a2]; rfl
      · rw [show s + 2 = s + (m1 : Int) by omega, a1]; rfl
      · rw [show s + 3 = s + (m0 : Int) by omega, a0]; rfl
    · exact absurd qz (by decide)
  · rintro ⟨h1, h2⟩
    have h1 : s + (m : Int) - s = 4 := h1
    have hm4 : m = 4 := by omega
    subst hm4
    have c0 : rAt l (s + ((0 : Nat) : Int)) = 99 := h2 0 (by omega) (by show (0 : Int) < 4; omega)
    have c1 : rAt l (s + ((1 : Nat) : Int)) = 111 := h2 1 (by omega) (by show (1 : Int) < 4; omega)
    have c2 : rAt l (s + ((2 : Nat) : Int)) = 114 := h2 2 (by omega) (by show (2 : Int) < 4; omega)
    have c3 : rAt l (s + ((3 : Nat) : Int)) = 100 := h2 3 (by omega) (by show (3 : Int) < 4; omega)
    rw [wvC_succ (by omega), c3, wvC_succ (by omega), c2, wvC_succ (by omega), c1, wvC_succ (by omega), c0]
    rfl
theorem wd_2 {l : List Int} {s : Int} {m : Nat} (hm : m ≤ 7) (hl : ∀ k : Nat, k < m → 97 ≤ rAt l (s + k) ∧ rAt l (s + k) ≤ 122) : wvC l s m = 3199080 ↔ isW l s (s + m) 2 := by
  constructor
  · intro h0
    obtain ⟨-, q0⟩ | ⟨m0, e0, a0, h1, -⟩ := wvC_dec (by omega) (fun k hk => hl k (by omega)) h0
    · exact absurd q0 (by decide)
    obtain ⟨-, q1⟩ | ⟨m1, e1, a1, h2, -⟩ := wvC_dec (by omega) (fun k hk => hl k (by omega)) h1
    · exact absurd q1 (by decide)
    obtain ⟨-, q2⟩ | ⟨m2, e2, a2, h3, -⟩ := wvC_dec (by omega) (fun k hk => hl k (by omega)) h2
    · exact absurd q2 (by decide)
    obtain ⟨-, q3⟩ | ⟨m3, e3, a3, h4, -⟩ := wvC_dec (by omega) (fun k hk => hl k (by omega)) h3
    · exact absurd q3 (by decide)
    obtain ⟨-, q4⟩ | ⟨m4, e4, a4, h5, -⟩ := wvC_dec (by omega) (fun k hk => hl k (by omega)) h4
    · exact absurd q4 (by decide)
    obtain ⟨z0, -⟩ | ⟨mz, -, -, -, qz⟩ := wvC_dec (by omega) (fun k hk => hl k (by omega)) h5
    · refine ⟨by show s + (m : Int) - s = 5; omega, fun k k0 k1 => ?_⟩
      have k1 : k < 5 := k1
      rcases (show k = 0 ∨ k = 1 ∨ k = 2 ∨ k = 3 ∨ k = 4 by omega) with rfl | rfl | rfl | rfl | rfl
      · rw [show s + 0 = s + (m4 : Int) by omega, a4]; rfl
      · rw [show s + 1 = s + (m3 : Int) by omega, a3]; rfl
      · rw [show s + 2 = s + (m2 : Int) by omega, a2]; rfl
      · rw [show s + 3 = s + (m1 : Int) by omega, a1]; rfl
      · rw [show s + 4 = s + (m0 : Int) by omega, a0]; rfl
    · exact absurd qz (by decide)
  · rintro ⟨h1, h2⟩
    have h1 : s + (m : Int) - s = 5 := h1
    have hm5 : m = 5 := by omega
    subst hm5
    have c0 : rAt l (s + ((0 : Nat) : Int)) = 99 := h2 0 (by omega) (by show (0 : Int) < 5; omega)
    have c1 : rAt l (s + ((1 : Nat) : Int)) = 97 := h2 1 (by omega) (by show (1 : Int) < 5; omega)
    have c2 : rAt l (s + ((2 : Nat) : Int)) = 116 := h2 2 (by omega) (by show (2 : Int) < 5; omega)
    have c3 : rAt l (s + ((3 : Nat) : Int)) = 99 := h2 3 (by omega) (by show (3 : Int) < 5; omega)
    have c4 : rAt l (s + ((4 : Nat) : Int)) = 104 := h2 4 (by omega) (by show (4 : Int) < 5; omega)
    rw [wvC_succ (by omega), c4, wvC_succ (by omega), c3, wvC_succ (by omega), c2, wvC_succ (by omega), c1, wvC_succ (by omega), c0]
    rfl
theorem wd_3 {l : List Int} {s : Int} {m : Nat} (hm : m ≤ 7) (hl : ∀ k : Nat, k < m → 97 ≤ rAt l (s + k) ∧ rAt l (s + k) ≤ 122) : wvC l s m = 245220 ↔ isW l s (s + m) 3 := by
  constructor
  · intro h0
    obtain ⟨-, q0⟩ | ⟨m0, e0, a0, h1, -⟩ := wvC_dec (by omega) (fun k hk => hl k (by omega)) h0
    · exact absurd q0 (by decide)
    obtain ⟨-, q1⟩ | ⟨m1, e1, a1, h2, -⟩ := wvC_dec (by omega) (fun k hk => hl k (by omega)) h1
    · exact absurd q1 (by decide)
    obtain ⟨-, q2⟩ | ⟨m2, e2, a2, h3, -⟩ := wvC_dec (by omega) (fun k hk => hl k (by omega)) h2
    · exact absurd q2 (by decide)
    obtain ⟨-, q3⟩ | ⟨m3, e3, a3, h4, -⟩ := wvC_dec (by omega) (fun k hk => hl k (by omega)) h3
    · exact absurd q3 (by decide)
    obtain ⟨z0, -⟩ | ⟨mz, -, -, -, qz⟩ := wvC_dec (by omega) (fun k hk => hl k (by omega)) h4
    · refine ⟨by show s + (m : Int) - s = 4; omega, fun k k0 k1 => ?_⟩
      have k1 : k < 4 := k1
      rcases (show k = 0 ∨ k = 1 ∨ k = 2 ∨ k = 3 by omega) with rfl | rfl | rfl | rfl
      · rw [show s + 0 = s + (m3 : Int) by omega, a3]; rfl
      · rw [show s + 1 = s + (m2 : Int) by omega, a2]; rfl
      · rw [show s + 2 = s + (m1 : Int) by omega, a1]; rfl
      · rw [show s + 3 = s + (m0 : Int) by omega, a0]; rfl
    · exact absurd qz (by decide)
  · rintro ⟨h1, h2⟩
    have h1 : s + (m : Int) - s = 4 := h1
    have hm4 : m = 4 := by omega
    subst hm4
    have c0 : rAt l (s + ((0 : Nat) : Int)) = 103 := h2 0 (by omega) (by show (0 : Int) < 4; omega)
    have c1 : rAt l (s + ((1 : Nat) : Int)) = 111 := h2 1 (by omega) (by show (1 : Int) < 4; omega)
    have c2 : rAt l (s + ((2 : Nat) : Int)) = 111 := h2 2 (by omega) (by show (2 : Int) < 4; omega)
    have c3 : rAt l (s + ((3 : Nat) : Int)) = 100 := h2 3 (by omega) (by show (3 : Int) < 4; omega)
    rw [wvC_succ (by omega), c3, wvC_succ (by omega), c2, wvC_succ (by omega), c1, wvC_succ (by omega), c0]
    rfl
theorem wd_4 {l : List Int} {s : Int} {m : Nat} (hm : m ≤ 7) (hl : ∀ k : Nat, k < m → 97 ≤ rAt l (s + k) ∧ rAt l (s + k) ≤ 122) : wvC l s m = 16322738 ↔ isW l s (s + m) 4 := by
  constructor
  · intro h0
    obtain ⟨-, q0⟩ | ⟨m0, e0, a0, h1, -⟩ := wvC_dec (by omega) (fun k hk => hl k (by omega)) h0
    · exact absurd q0 (by decide)
    obtain ⟨-, q1⟩ | ⟨m1, e1, a1, h2, -⟩ := wvC_dec (by omega) (fun k hk => hl k (by omega)) h1
    · exact absurd q1 (by decide)
    obtain ⟨-, q2⟩ | ⟨m2, e2, a2, h3, -⟩ := wvC_dec (by omega) (fun k hk => hl k (by omega)) h2
    · exact absurd q2 (by decide)
    obtain ⟨-, q3⟩ | ⟨m3, e3, a3, h4, -⟩ := wvC_dec (by omega) (fun k hk => hl k (by omega)) h3
    · exact absurd q3 (by decide)
    obtain ⟨-, q4⟩ | ⟨m4, e4, a4, h5, -⟩ := wvC_dec (by omega) (fun k hk => hl k (by omega)) h4
    · exact absurd q4 (by decide)
    obtain ⟨z0, -⟩ | ⟨mz, -, -, -, qz⟩ := wvC_dec (by omega) (fun k hk => hl k (by omega)) h5
    · refine ⟨by show s + (m : Int) - s = 5; omega, fun k k0 k1 => ?_⟩
      have k1 : k < 5 := k1
      rcases (show k = 0 ∨ k = 1 ∨ k = 2 ∨ k = 3 ∨ k = 4 by omega) with rfl | rfl | rfl | rfl | rfl
      · rw [show s + 0 = s + (m4 : Int) by omega, a4]; rfl
      · rw [show s + 1 = s + (m3 : Int) by omega, a3]; rfl
      · rw [show s + 2 = s + (m2 : Int) by omega, a2]; rfl
      · rw [show s + 3 = s + (m1 : Int) by omega, a1]; rfl
      · rw [show s + 4 = s + (m0 : Int) by omega, a0]; rfl
    · exact absurd qz (by decide)
  · rintro ⟨h1, h2⟩
    have h1 : s + (m : Int) - s = 5 := h1
    have hm5 : m = 5 := by omega
    subst hm5
    have c0 : rAt l (s + ((0 : Nat) : Int)) = 111 := h2 0 (by omega) (by show (0 : Int) < 5; omega)
    have c1 : rAt l (s + ((1 : Nat) : Int)) = 114 := h2 1 (by omega) (by show (1 : Int) < 5; omega)
    have c2 : rAt l (s + ((2 : Nat) : Int)) = 100 := h2 2 (by omega) (by show (2 : Int) < 5; omega)
    have c3 : rAt l (s + ((3 : Nat) : Int)) = 101 := h2 3 (by omega) (by show (3 : Int) < 5; omega)
    have c4 : rAt l (s + ((4 : Nat) : Int)) = 114 := h2 4 (by omega) (by show (4 : Int) < 5; omega)
    rw [wvC_succ (by omega), c4, wvC_succ (by omega), c3, wvC_succ (by omega), c2, wvC_succ (by omega), c1, wvC_succ (by omega), c0]
    rfl
def vbF (v : Int) : Int := if v = 4900755027 then 0 else if v = 114244 then 1 else if v = 3199080 then 2 else if v = 245220 then 3 else if v = 16322738 then 4 else -1
theorem vb_wd {l : List Int} {s : Int} {m : Nat} (hl : ∀ k : Nat, k < m → 97 ≤ rAt l (s + k) ∧ rAt l (s + k) ≤ 122) : wdOf l s (s + m) = if 7 < m ∨ vbF (wvC l s m) = -1 then 1 else 5 + vbF (wvC l s m) := by
  have hls := lnS_rng
  by_cases hm : 7 < m
  · rw [if_pos (Or.inl hm)]
    have hn : ∀ i, i < 5 → ¬ isW l s (s + m) i := fun i hi q => by have := q.1; have := hls i hi; omega
    unfold wdOf
    rw [if_neg (hn 0 (by decide)), if_neg (hn 1 (by decide)), if_neg (hn 2 (by decide)), if_neg (hn 3 (by decide)), if_neg (hn 4 (by decide))]
  · have hm7 : m ≤ 7 := by omega
    have w0 := wd_0 hm7 hl
    have w1 := wd_1 hm7 hl
    have w2 := wd_2 hm7 hl
    have w3 := wd_3 hm7 hl
    have w4 := wd_4 hm7 hl
    unfold wdOf vbF
    by_cases h0 : wvC l s m = 4900755027
    · rw [if_pos (w0.mp h0), if_pos h0, if_neg (by omega)]; rfl
    rw [if_neg (fun q => h0 (w0.mpr q)), if_neg h0]
    by_cases h1 : wvC l s m = 114244
    · rw [if_pos (w1.mp h1), if_pos h1, if_neg (by omega)]; rfl
    rw [if_neg (fun q => h1 (w1.mpr q)), if_neg h1]
    by_cases h2 : wvC l s m = 3199080
    · rw [if_pos (w2.mp h2), if_pos h2, if_neg (by omega)]; rfl
    rw [if_neg (fun q => h2 (w2.mpr q)), if_neg h2]
    by_cases h3 : wvC l s m = 245220
    · rw [if_pos (w3.mp h3), if_pos h3, if_neg (by omega)]; rfl
    rw [if_neg (fun q => h3 (w3.mpr q)), if_neg h3]
    by_cases h4 : wvC l s m = 16322738
    · rw [if_pos (w4.mp h4), if_pos h4, if_neg (by omega)]; rfl
    rw [if_neg (fun q => h4 (w4.mpr q)), if_neg h4, if_pos (Or.inr rfl)]
theorem lcmp_J {a b : Int} (ha : -9223372036854775808 ≤ a ∧ a < 9223372036854775808) (hb : -9223372036854775808 ≤ b ∧ b < 9223372036854775808) : lg_cmp (lI a) (lI b) = iI (cmpI a b) := by
  have h1 := lI_lt (a := b) (b := a) hb ha
  have h2 := lI_eq (a := a) (b := b) ha hb
  unfold lg_cmp cmpI
  by_cases h : b < a
  · rw [if_pos (h1.mpr h), if_pos h]; rfl
  · rw [if_neg (fun q => h (h1.mp q)), if_neg h]
    by_cases e : a = b
    · rw [if_pos (h2.mpr e), if_pos e]; rfl
    · rw [if_neg (fun q => e (h2.mp q)), if_neg e]; rfl
set_option maxRecDepth 100000 in
theorem cm_verbOf {n : Nat} {w : vWd} {v : Int} (hv : 0 ≤ v ∧ v < 1099511627776) : Ctr mX6_verbOf (rm 0) [vJ v] n w (pR (vI (vbF v)) n w) := by
  refine Ctr_of (lv := [some (vJ v), none, none, none]) (by decide +kernel) rfl rfl ?_
  have q0 := cmpI_spec v 4900755027
  have q1 := cmpI_spec v 114244
  have q2 := cmpI_spec v 3199080
  have q3 := cmpI_spec v 245220
  have q4 := cmpI_spec v 16322738
  refine V_lload_n (Y := mX6_verbOf) (pc := 0) dX6_verbOf_0 rfl ?_
  refine V_ldc2 (z := (4900755027 : Int)) (Y := mX6_verbOf) (pc := 1) dX6_verbOf_1 cl_X6_116 (by decide) ?_
  refine V_lcmp (Y := mX6_verbOf) (pc := 4) dX6_verbOf_4 ?_
  rw [lcmp_J ⟨by omega, by omega⟩ ⟨by omega, by omega⟩]
  refine V_if_ne (tgt := 12) (Y := mX6_verbOf) (pc := 5) dX6_verbOf_5 (by decide) ⟨by omega, by omega⟩ (fun h_5 => ?_) (fun h_5 => ?_)
  · refine V_lload_n (Y := mX6_verbOf) (pc := 12) dX6_verbOf_12 rfl ?_
    refine V_ldc2 (z := (114244 : Int)) (Y := mX6_verbOf) (pc := 13) dX6_verbOf_13 cl_X6_118 (by decide) ?_
    refine V_lcmp (Y := mX6_verbOf) (pc := 16) dX6_verbOf_16 ?_
    rw [lcmp_J ⟨by omega, by omega⟩ ⟨by omega, by omega⟩]
    refine V_if_ne (tgt := 24) (Y := mX6_verbOf) (pc := 17) dX6_verbOf_17 (by decide) ⟨by omega, by omega⟩ (fun h_17 => ?_) (fun h_17 => ?_)
    · refine V_lload_n (Y := mX6_verbOf) (pc := 24) dX6_verbOf_24 rfl ?_
      refine V_ldc2 (z := (3199080 : Int)) (Y := mX6_verbOf) (pc := 25) dX6_verbOf_25 cl_X6_120 (by decide) ?_
      refine V_lcmp (Y := mX6_verbOf) (pc := 28) dX6_verbOf_28 ?_
      rw [lcmp_J ⟨by omega, by omega⟩ ⟨by omega, by omega⟩]
      refine V_if_ne (tgt := 36) (Y := mX6_verbOf) (pc := 29) dX6_verbOf_29 (by decide) ⟨by omega, by omega⟩ (fun h_29 => ?_) (fun h_29 => ?_)
      · refine V_iconst (Y := mX6_verbOf) (pc := 36) dX6_verbOf_36 ?_
        refine V_istore_n (Y := mX6_verbOf) (pc := 37) dX6_verbOf_37 rfl ?_
        refine V_lload_n (Y := mX6_verbOf) (pc := 38) dX6_verbOf_38 rfl ?_
        refine V_ldc2 (z := (245220 : Int)) (Y := mX6_verbOf) (pc := 39) dX6_verbOf_39 cl_X6_122 (by decide) ?_
        refine V_lcmp (Y := mX6_verbOf) (pc := 42) dX6_verbOf_42 ?_
        rw [lcmp_J ⟨by omega, by omega⟩ ⟨by omega, by omega⟩]
        refine V_if_ne (tgt := 50) (Y := mX6_verbOf) (pc := 43) dX6_verbOf_43 (by decide) ⟨by omega, by omega⟩ (fun h_43 => ?_) (fun h_43 => ?_)
        · refine V_lload_n (Y := mX6_verbOf) (pc := 50) dX6_verbOf_50 rfl ?_
          refine V_ldc2 (z := (16322738 : Int)) (Y := mX6_verbOf) (pc := 51) dX6_verbOf_51 cl_X6_124 (by decide) ?_
          refine V_lcmp (Y := mX6_verbOf) (pc := 54) dX6_verbOf_54 ?_
          rw [lcmp_J ⟨by omega, by omega⟩ ⟨by omega, by omega⟩]
          refine V_if_ne (tgt := 62) (Y := mX6_verbOf) (pc := 55) dX6_verbOf_55 (by decide) ⟨by omega, by omega⟩ (fun h_55 => ?_) (fun h_55 => ?_)
          · refine V_iconst (Y := mX6_verbOf) (pc := 62) dX6_verbOf_62 ?_
            refine V_istore_n (Y := mX6_verbOf) (pc := 63) dX6_verbOf_63 rfl ?_
            refine V_iload_n (Y := mX6_verbOf) (pc := 64) dX6_verbOf_64 rfl ?_
            refine V_iconst (Y := mX6_verbOf) (pc := 65) dX6_verbOf_65 ?_
            refine V_icmp_eq (tgt := 73) (Y := mX6_verbOf) (pc := 66) dX6_verbOf_66 (by decide) ⟨by omega, by omega⟩ ⟨by omega, by omega⟩ (fun h_66 => ?_) (fun h_66 => ?_)
            · refine V_iload_n (Y := mX6_verbOf) (pc := 73) dX6_verbOf_73 rfl ?_
              refine V_iret (Y := mX6_verbOf) (pc := 74) dX6_verbOf_74 rfl (Nat.le_of_ble_eq_true rfl) (Nat.le_of_ble_eq_true rfl) ?_
              refine pR_I ?_
              unfold vbF
              (repeat' split) <;> omega
            · refine V_iload_n (Y := mX6_verbOf) (pc := 69) dX6_verbOf_69 rfl ?_
              refine V_goto (tgt := 74) (Y := mX6_verbOf) (pc := 70) dX6_verbOf_70 (by decide) ?_
              refine V_iret (Y := mX6_verbOf) (pc := 74) dX6_verbOf_74 rfl (Nat.le_of_ble_eq_true rfl) (Nat.le_of_ble_eq_true rfl) ?_
              refine pR_I ?_
              unfold vbF
              (repeat' split) <;> omega
          · refine V_iconst (Y := mX6_verbOf) (pc := 58) dX6_verbOf_58 ?_
            refine V_goto (tgt := 63) (Y := mX6_verbOf) (pc := 59) dX6_verbOf_59 (by decide) ?_
            refine V_istore_n (Y := mX6_verbOf) (pc := 63) dX6_verbOf_63 rfl ?_
            refine V_iload_n (Y := mX6_verbOf) (pc := 64) dX6_verbOf_64 rfl ?_
            refine V_iconst (Y := mX6_verbOf) (pc := 65) dX6_verbOf_65 ?_
            refine V_icmp_eq (tgt := 73) (Y := mX6_verbOf) (pc := 66) dX6_verbOf_66 (by decide) ⟨by omega, by omega⟩ ⟨by omega, by omega⟩ (fun h_66 => ?_) (fun h_66 => ?_)
            · refine V_iload_n (Y := mX6_verbOf) (pc := 73) dX6_verbOf_73 rfl ?_
              refine V_iret (Y := mX6_verbOf) (pc := 74) dX6_verbOf_74 rfl (Nat.le_of_ble_eq_true rfl) (Nat.le_of_ble_eq_true rfl) ?_
              refine pR_I ?_
              unfold vbF
              (repeat' split) <;> omega
            · refine V_iload_n (Y := mX6_verbOf) (pc := 69) dX6_verbOf_69 rfl ?_
              refine V_goto (tgt := 74) (Y := mX6_verbOf) (pc := 70) dX6_verbOf_70 (by decide) ?_
              refine V_iret (Y := mX6_verbOf) (pc := 74) dX6_verbOf_74 rfl (Nat.le_of_ble_eq_true rfl) (Nat.le_of_ble_eq_true rfl) ?_
              refine pR_I ?_
              unfold vbF
              (repeat' split) <;> omega
        · refine V_iconst (Y := mX6_verbOf) (pc := 46) dX6_verbOf_46 ?_
          refine V_goto (tgt := 63) (Y := mX6_verbOf) (pc := 47) dX6_verbOf_47 (by decide) ?_
          refine V_istore_n (Y := mX6_verbOf) (pc := 63) dX6_verbOf_63 rfl ?_
          refine V_iload_n (Y := mX6_verbOf) (pc := 64) dX6_verbOf_64 rfl ?_
          refine V_iconst (Y := mX6_verbOf) (pc := 65) dX6_verbOf_65 ?_
          refine V_icmp_eq (tgt := 73) (Y := mX6_verbOf) (pc := 66) dX6_verbOf_66 (by decide) ⟨by omega, by omega⟩ ⟨by omega, by omega⟩ (fun h_66 => ?_) (fun h_66 => ?_)
          · refine V_iload_n (Y := mX6_verbOf) (pc := 73) dX6_verbOf_73 rfl ?_
            refine V_iret (Y := mX6_verbOf) (pc := 74) dX6_verbOf_74 rfl (Nat.le_of_ble_eq_true rfl) (Nat.le_of_ble_eq_true rfl) ?_
            refine pR_I ?_
            unfold vbF
            (repeat' split) <;> omega
          · refine V_iload_n (Y := mX6_verbOf) (pc := 69) dX6_verbOf_69 rfl ?_
            refine V_goto (tgt := 74) (Y := mX6_verbOf) (pc := 70) dX6_verbOf_70 (by decide) ?_
            refine V_iret (Y := mX6_verbOf) (pc := 74) dX6_verbOf_74 rfl (Nat.le_of_ble_eq_true rfl) (Nat.le_of_ble_eq_true rfl) ?_
            refine pR_I ?_
            unfold vbF
            (repeat' split) <;> omega
      · refine V_iconst (Y := mX6_verbOf) (pc := 32) dX6_verbOf_32 ?_
        refine V_goto (tgt := 37) (Y := mX6_verbOf) (pc := 33) dX6_verbOf_33 (by decide) ?_
        refine V_istore_n (Y := mX6_verbOf) (pc := 37) dX6_verbOf_37 rfl ?_
        refine V_lload_n (Y := mX6_verbOf) (pc := 38) dX6_verbOf_38 rfl ?_
        refine V_ldc2 (z := (245220 : Int)) (Y := mX6_verbOf) (pc := 39) dX6_verbOf_39 cl_X6_122 (by decide) ?_
        refine V_lcmp (Y := mX6_verbOf) (pc := 42) dX6_verbOf_42 ?_
        rw [lcmp_J ⟨by omega, by omega⟩ ⟨by omega, by omega⟩]
        refine V_if_ne (tgt := 50) (Y := mX6_verbOf) (pc := 43) dX6_verbOf_43 (by decide) ⟨by omega, by omega⟩ (fun h_43 => ?_) (fun h_43 => ?_)
        · refine V_lload_n (Y := mX6_verbOf) (pc := 50) dX6_verbOf_50 rfl ?_
          refine V_ldc2 (z := (16322738 : Int)) (Y := mX6_verbOf) (pc := 51) dX6_verbOf_51 cl_X6_124 (by decide) ?_
          refine V_lcmp (Y := mX6_verbOf) (pc := 54) dX6_verbOf_54 ?_
          rw [lcmp_J ⟨by omega, by omega⟩ ⟨by omega, by omega⟩]
          refine V_if_ne (tgt := 62) (Y := mX6_verbOf) (pc := 55) dX6_verbOf_55 (by decide) ⟨by omega, by omega⟩ (fun h_55 => ?_) (fun h_55 => ?_)
          · refine V_iconst (Y := mX6_verbOf) (pc := 62) dX6_verbOf_62 ?_
            refine V_istore_n (Y := mX6_verbOf) (pc := 63) dX6_verbOf_63 rfl ?_
            refine V_iload_n (Y := mX6_verbOf) (pc := 64) dX6_verbOf_64 rfl ?_
            refine V_iconst (Y := mX6_verbOf) (pc := 65) dX6_verbOf_65 ?_
            refine V_icmp_eq (tgt := 73) (Y := mX6_verbOf) (pc := 66) dX6_verbOf_66 (by decide) ⟨by omega, by omega⟩ ⟨by omega, by omega⟩ (fun h_66 => ?_) (fun h_66 => ?_)
            · refine V_iload_n (Y := mX6_verbOf) (pc := 73) dX6_verbOf_73 rfl ?_
              refine V_iret (Y := mX6_verbOf) (pc := 74) dX6_verbOf_74 rfl (Nat.le_of_ble_eq_true rfl) (Nat.le_of_ble_eq_true rfl) ?_
              refine pR_I ?_
              unfold vbF
              (repeat' split) <;> omega
            · refine V_iload_n (Y := mX6_verbOf) (pc := 69) dX6_verbOf_69 rfl ?_
              refine V_goto (tgt := 74) (Y := mX6_verbOf) (pc := 70) dX6_verbOf_70 (by decide) ?_
              refine V_iret (Y := mX6_verbOf) (pc := 74) dX6_verbOf_74 rfl (Nat.le_of_ble_eq_true rfl) (Nat.le_of_ble_eq_true rfl) ?_
              refine pR_I ?_
              unfold vbF
              (repeat' split) <;> omega
          · refine V_iconst (Y := mX6_verbOf) (pc := 58) dX6_verbOf_58 ?_
            refine V_goto (tgt := 63) (Y := mX6_verbOf) (pc := 59) dX6_verbOf_59 (by decide) ?_
            refine V_istore_n (Y := mX6_verbOf) (pc := 63) dX6_verbOf_63 rfl ?_
            refine V_iload_n (Y := mX6_verbOf) (pc := 64) dX6_verbOf_64 rfl ?_
            refine V_iconst (Y := mX6_verbOf) (pc := 65) dX6_verbOf_65 ?_
            refine V_icmp_eq (tgt := 73) (Y := mX6_verbOf) (pc := 66) dX6_verbOf_66 (by decide) ⟨by omega, by omega⟩ ⟨by omega, by omega⟩ (fun h_66 => ?_) (fun h_66 => ?_)
            · refine V_iload_n (Y := mX6_verbOf) (pc := 73) dX6_verbOf_73 rfl ?_
              refine V_iret (Y := mX6_verbOf) (pc := 74) dX6_verbOf_74 rfl (Nat.le_of_ble_eq_true rfl) (Nat.le_of_ble_eq_true rfl) ?_
              refine pR_I ?_
              unfold vbF
              (repeat' split) <;> omega
            · refine V_iload_n (Y := mX6_verbOf) (pc := 69) dX6_verbOf_69 rfl ?_
              refine V_goto (tgt := 74) (Y := mX6_verbOf) (pc := 70) dX6_verbOf_70 (by decide) ?_
              refine V_iret (Y := mX6_verbOf) (pc := 74) dX6_verbOf_74 rfl (Nat.le_of_ble_eq_true rfl) (Nat.le_of_ble_eq_true rfl) ?_
              refine pR_I ?_
              unfold vbF
              (repeat' split) <;> omega
        · refine V_iconst (Y := mX6_verbOf) (pc := 46) dX6_verbOf_46 ?_
          refine V_goto (tgt := 63) (Y := mX6_verbOf) (pc := 47) dX6_verbOf_47 (by decide) ?_
          refine V_istore_n (Y := mX6_verbOf) (pc := 63) dX6_verbOf_63 rfl ?_
          refine V_iload_n (Y := mX6_verbOf) (pc := 64) dX6_verbOf_64 rfl ?_
          refine V_iconst (Y := mX6_verbOf) (pc := 65) dX6_verbOf_65 ?_
          refine V_icmp_eq (tgt := 73) (Y := mX6_verbOf) (pc := 66) dX6_verbOf_66 (by decide) ⟨by omega, by omega⟩ ⟨by omega, by omega⟩ (fun h_66 => ?_) (fun h_66 => ?_)
          · refine V_iload_n (Y := mX6_verbOf) (pc := 73) dX6_verbOf_73 rfl ?_
            refine V_iret (Y := mX6_verbOf) (pc := 74) dX6_verbOf_74 rfl (Nat.le_of_ble_eq_true rfl) (Nat.le_of_ble_eq_true rfl) ?_
            refine pR_I ?_
            unfold vbF
            (repeat' split) <;> omega
          · refine V_iload_n (Y := mX6_verbOf) (pc := 69) dX6_verbOf_69 rfl ?_
            refine V_goto (tgt := 74) (Y := mX6_verbOf) (pc := 70) dX6_verbOf_70 (by decide) ?_
            refine V_iret (Y := mX6_verbOf) (pc := 74) dX6_verbOf_74 rfl (Nat.le_of_ble_eq_true rfl) (Nat.le_of_ble_eq_true rfl) ?_
            refine pR_I ?_
            unfold vbF
            (repeat' split) <;> omega
    · refine V_iconst (Y := mX6_verbOf) (pc := 20) dX6_verbOf_20 ?_
      refine V_goto (tgt := 37) (Y := mX6_verbOf) (pc := 21) dX6_verbOf_21 (by decide) ?_
      refine V_istore_n (Y := mX6_verbOf) (pc := 37) dX6_verbOf_37 rfl ?_
      refine V_lload_n (Y := mX6_verbOf) (pc := 38) dX6_verbOf_38 rfl ?_
      refine V_ldc2 (z := (245220 : Int)) (Y := mX6_verbOf) (pc := 39) dX6_verbOf_39 cl_X6_122 (by decide) ?_
      refine V_lcmp (Y := mX6_verbOf) (pc := 42) dX6_verbOf_42 ?_
      rw [lcmp_J ⟨by omega, by omega⟩ ⟨by omega, by omega⟩]
      refine V_if_ne (tgt := 50) (Y := mX6_verbOf) (pc := 43) dX6_verbOf_43 (by decide) ⟨by omega, by omega⟩ (fun h_43 => ?_) (fun h_43 => ?_)
      · refine V_lload_n (Y := mX6_verbOf) (pc := 50) dX6_verbOf_50 rfl ?_
        refine V_ldc2 (z := (16322738 : Int)) (Y := mX6_verbOf) (pc := 51) dX6_verbOf_51 cl_X6_124 (by decide) ?_
        refine V_lcmp (Y := mX6_verbOf) (pc := 54) dX6_verbOf_54 ?_
        rw [lcmp_J ⟨by omega, by omega⟩ ⟨by omega, by omega⟩]
        refine V_if_ne (tgt := 62) (Y := mX6_verbOf) (pc := 55) dX6_verbOf_55 (by decide) ⟨by omega, by omega⟩ (fun h_55 => ?_) (fun h_55 => ?_)
        · refine V_iconst (Y := mX6_verbOf) (pc := 62) dX6_verbOf_62 ?_
          refine V_istore_n (Y := mX6_verbOf) (pc := 63) dX6_verbOf_63 rfl ?_
          refine V_iload_n (Y := mX6_verbOf) (pc := 64) dX6_verbOf_64 rfl ?_
          refine V_iconst (Y := mX6_verbOf) (pc := 65) dX6_verbOf_65 ?_
          refine V_icmp_eq (tgt := 73) (Y := mX6_verbOf) (pc := 66) dX6_verbOf_66 (by decide) ⟨by omega, by omega⟩ ⟨by omega, by omega⟩ (fun h_66 => ?_) (fun h_66 => ?_)
          · refine V_iload_n (Y := mX6_verbOf) (pc := 73) dX6_verbOf_73 rfl ?_
            refine V_iret (Y := mX6_verbOf) (pc := 74) dX6_verbOf_74 rfl (Nat.le_of_ble_eq_true rfl) (Nat.le_of_ble_eq_true rfl) ?_
            refine pR_I ?_
            unfold vbF
            (repeat' split) <;> omega
          · refine V_iload_n (Y := mX6_verbOf) (pc := 69) dX6_verbOf_69 rfl ?_
            refine V_goto (tgt := 74) (Y := mX6_verbOf) (pc := 70) dX6_verbOf_70 (by decide) ?_
            refine V_iret (Y := mX6_verbOf) (pc := 74) dX6_verbOf_74 rfl (Nat.le_of_ble_eq_true rfl) (Nat.le_of_ble_eq_true rfl) ?_
            refine pR_I ?_
            unfold vbF
            (repeat' split) <;> omega
        · refine V_iconst (Y := mX6_verbOf) (pc := 58) dX6_verbOf_58 ?_
          refine V_goto (tgt := 63) (Y := mX6_verbOf) (pc := 59) dX6_verbOf_59 (by decide) ?_
          refine V_istore_n (Y := mX6_verbOf) (pc := 63) dX6_verbOf_63 rfl ?_
          refine V_iload_n (Y := mX6_verbOf) (pc := 64) dX6_verbOf_64 rfl ?_
          refine V_iconst (Y := mX6_verbOf) (pc := 65) dX6_verbOf_65 ?_
          refine V_icmp_eq (tgt := 73) (Y := mX6_verbOf) (pc := 66) dX6_verbOf_66 (by decide) ⟨by omega, by omega⟩ ⟨by omega, by omega⟩ (fun h_66 => ?_) (fun h_66 => ?_)
          · refine V_iload_n (Y := mX6_verbOf) (pc := 73) dX6_verbOf_73 rfl ?_
            refine V_iret (Y := mX6_verbOf) (pc := 74) dX6_verbOf_74 rfl (Nat.le_of_ble_eq_true rfl) (Nat.le_of_ble_eq_true rfl) ?_
            refine pR_I ?_
            unfold vbF
            (repeat' split) <;> omega
          · refine V_iload_n (Y := mX6_verbOf) (pc := 69) dX6_verbOf_69 rfl ?_
            refine V_goto (tgt := 74) (Y := mX6_verbOf) (pc := 70) dX6_verbOf_70 (by decide) ?_
            refine V_iret (Y := mX6_verbOf) (pc := 74) dX6_verbOf_74 rfl (Nat.le_of_ble_eq_true rfl) (Nat.le_of_ble_eq_true rfl) ?_
            refine pR_I ?_
            unfold vbF
            (repeat' split) <;> omega
      · refine V_iconst (Y := mX6_verbOf) (pc := 46) dX6_verbOf_46 ?_
        refine V_goto (tgt := 63) (Y := mX6_verbOf) (pc := 47) dX6_verbOf_47 (by decide) ?_
        refine V_istore_n (Y := mX6_verbOf) (pc := 63) dX6_verbOf_63 rfl ?_
        refine V_iload_n (Y := mX6_verbOf) (pc := 64) dX6_verbOf_64 rfl ?_
        refine V_iconst (Y := mX6_verbOf) (pc := 65) dX6_verbOf_65 ?_
        refine V_icmp_eq (tgt := 73) (Y := mX6_verbOf) (pc := 66) dX6_verbOf_66 (by decide) ⟨by omega, by omega⟩ ⟨by omega, by omega⟩ (fun h_66 => ?_) (fun h_66 => ?_)
        · refine V_iload_n (Y := mX6_verbOf) (pc := 73) dX6_verbOf_73 rfl ?_
          refine V_iret (Y := mX6_verbOf) (pc := 74) dX6_verbOf_74 rfl (Nat.le_of_ble_eq_true rfl) (Nat.le_of_ble_eq_true rfl) ?_
          refine pR_I ?_
          unfold vbF
          (repeat' split) <;> omega
        · refine V_iload_n (Y := mX6_verbOf) (pc := 69) dX6_verbOf_69 rfl ?_
          refine V_goto (tgt := 74) (Y := mX6_verbOf) (pc := 70) dX6_verbOf_70 (by decide) ?_
          refine V_iret (Y := mX6_verbOf) (pc := 74) dX6_verbOf_74 rfl (Nat.le_of_ble_eq_true rfl) (Nat.le_of_ble_eq_true rfl) ?_
          refine pR_I ?_
          unfold vbF
          (repeat' split) <;> omega
  · refine V_iconst (Y := mX6_verbOf) (pc := 8) dX6_verbOf_8 ?_
    refine V_goto (tgt := 37) (Y := mX6_verbOf) (pc := 9) dX6_verbOf_9 (by decide) ?_
    refine V_istore_n (Y := mX6_verbOf) (pc := 37) dX6_verbOf_37 rfl ?_
    refine V_lload_n (Y := mX6_verbOf) (pc := 38) dX6_verbOf_38 rfl ?_
    refine V_ldc2 (z := (245220 : Int)) (Y := mX6_verbOf) (pc := 39) dX6_verbOf_39 cl_X6_122 (by decide) ?_
    refine V_lcmp (Y := mX6_verbOf) (pc := 42) dX6_verbOf_42 ?_
    rw [lcmp_J ⟨by omega, by omega⟩ ⟨by omega, by omega⟩]
    refine V_if_ne (tgt := 50) (Y := mX6_verbOf) (pc := 43) dX6_verbOf_43 (by decide) ⟨by omega, by omega⟩ (fun h_43 => ?_) (fun h_43 => ?_)
    · refine V_lload_n (Y := mX6_verbOf) (pc := 50) dX6_verbOf_50 rfl ?_
      refine V_ldc2 (z := (16322738 : Int)) (Y := mX6_verbOf) (pc := 51) dX6_verbOf_51 cl_X6_124 (by decide) ?_
      refine V_lcmp (Y := mX6_verbOf) (pc := 54) dX6_verbOf_54 ?_
      rw [lcmp_J ⟨by omega, by omega⟩ ⟨by omega, by omega⟩]
      refine V_if_ne (tgt := 62) (Y := mX6_verbOf) (pc := 55) dX6_verbOf_55 (by decide) ⟨by omega, by omega⟩ (fun h_55 => ?_) (fun h_55 => ?_)
      · refine V_iconst (Y := mX6_verbOf) (pc := 62) dX6_verbOf_62 ?_
        refine V_istore_n (Y := mX6_verbOf) (pc := 63) dX6_verbOf_63 rfl ?_
        refine V_iload_n (Y := mX6_verbOf) (pc := 64) dX6_verbOf_64 rfl ?_
        refine V_iconst (Y := mX6_verbOf) (pc := 65) dX6_verbOf_65 ?_
        refine V_icmp_eq (tgt := 73) (Y := mX6_verbOf) (pc := 66) dX6_verbOf_66 (by decide) ⟨by omega, by omega⟩ ⟨by omega, by omega⟩ (fun h_66 => ?_) (fun h_66 => ?_)
        · refine V_iload_n (Y := mX6_verbOf) (pc := 73) dX6_verbOf_73 rfl ?_
          refine V_iret (Y := mX6_verbOf) (pc := 74) dX6_verbOf_74 rfl (Nat.le_of_ble_eq_true rfl) (Nat.le_of_ble_eq_true rfl) ?_
          refine pR_I ?_
          unfold vbF
          (repeat' split) <;> omega
        · refine V_iload_n (Y := mX6_verbOf) (pc := 69) dX6_verbOf_69 rfl ?_
          refine V_goto (tgt := 74) (Y := mX6_verbOf) (pc := 70) dX6_verbOf_70 (by decide) ?_
          refine V_iret (Y := mX6_verbOf) (pc := 74) dX6_verbOf_74 rfl (Nat.le_of_ble_eq_true rfl) (Nat.le_of_ble_eq_true rfl) ?_
          refine pR_I ?_
          unfold vbF
          (repeat' split) <;> omega
      · refine V_iconst (Y := mX6_verbOf) (pc := 58) dX6_verbOf_58 ?_
        refine V_goto (tgt := 63) (Y := mX6_verbOf) (pc := 59) dX6_verbOf_59 (by decide) ?_
        refine V_istore_n (Y := mX6_verbOf) (pc := 63) dX6_verbOf_63 rfl ?_
        refine V_iload_n (Y := mX6_verbOf) (pc := 64) dX6_verbOf_64 rfl ?_
        refine V_iconst (Y := mX6_verbOf) (pc := 65) dX6_verbOf_65 ?_
        refine V_icmp_eq (tgt := 73) (Y := mX6_verbOf) (pc := 66) dX6_verbOf_66 (by decide) ⟨by omega, by omega⟩ ⟨by omega, by omega⟩ (fun h_66 => ?_) (fun h_66 => ?_)
        · refine V_iload_n (Y := mX6_verbOf) (pc := 73) dX6_verbOf_73 rfl ?_
          refine V_iret (Y := mX6_verbOf) (pc := 74) dX6_verbOf_74 rfl (Nat.le_of_ble_eq_true rfl) (Nat.le_of_ble_eq_true rfl) ?_
          refine pR_I ?_
          unfold vbF
          (repeat' split) <;> omega
        · refine V_iload_n (Y := mX6_verbOf) (pc := 69) dX6_verbOf_69 rfl ?_
          refine V_goto (tgt := 74) (Y := mX6_verbOf) (pc := 70) dX6_verbOf_70 (by decide) ?_
          refine V_iret (Y := mX6_verbOf) (pc := 74) dX6_verbOf_74 rfl (Nat.le_of_ble_eq_true rfl) (Nat.le_of_ble_eq_true rfl) ?_
          refine pR_I ?_
          unfold vbF
          (repeat' split) <;> omega
    · refine V_iconst (Y := mX6_verbOf) (pc := 46) dX6_verbOf_46 ?_
      refine V_goto (tgt := 63) (Y := mX6_verbOf) (pc := 47) dX6_verbOf_47 (by decide) ?_
      refine V_istore_n (Y := mX6_verbOf) (pc := 63) dX6_verbOf_63 rfl ?_
      refine V_iload_n (Y := mX6_verbOf) (pc := 64) dX6_verbOf_64 rfl ?_
      refine V_iconst (Y := mX6_verbOf) (pc := 65) dX6_verbOf_65 ?_
      refine V_icmp_eq (tgt := 73) (Y := mX6_verbOf) (pc := 66) dX6_verbOf_66 (by decide) ⟨by omega, by omega⟩ ⟨by omega, by omega⟩ (fun h_66 => ?_) (fun h_66 => ?_)
      · refine V_iload_n (Y := mX6_verbOf) (pc := 73) dX6_verbOf_73 rfl ?_
        refine V_iret (Y := mX6_verbOf) (pc := 74) dX6_verbOf_74 rfl (Nat.le_of_ble_eq_true rfl) (Nat.le_of_ble_eq_true rfl) ?_
        refine pR_I ?_
        unfold vbF
        (repeat' split) <;> omega
      · refine V_iload_n (Y := mX6_verbOf) (pc := 69) dX6_verbOf_69 rfl ?_
        refine V_goto (tgt := 74) (Y := mX6_verbOf) (pc := 70) dX6_verbOf_70 (by decide) ?_
        refine V_iret (Y := mX6_verbOf) (pc := 74) dX6_verbOf_74 rfl (Nat.le_of_ble_eq_true rfl) (Nat.le_of_ble_eq_true rfl) ?_
        refine pR_I ?_
        unfold vbF
        (repeat' split) <;> omega
