/-! ===== what a PULL does ===== -/
theorem sd_sd (s : Int) (a b : Nat) : sd (sd s a) b = sd s (a + b) := by
  induction b with
  | zero => rw [sd_0]; rfl
  | succ b ih => rw [sd_succ, ih, ← sd_succ]; rfl
theorem sd_lt {s : Int} {n d : Nat} (h : s < p3 n) (hd : d ≤ n) : sd s d < p3 (n - d) := by
  unfold sd
  apply Int.ediv_lt_of_lt_mul (p3_pos d)
  have e : p3 (n - d) * p3 d = p3 n := by
    unfold p3
    rw [← Int.pow_add]
    congr 1
    omega
  rw [e]; exact h
theorem mv_eq (s : Int) (d : Nat) (v : Int) : mv s d v = s % p3 d + (3 * (sd s d / 3) + max 0 (min 2 (dg s d + v))) * p3 d := by
  have h1 : s % p3 d + p3 d * (s / p3 d) = s := Int.emod_add_mul_ediv s (p3 d)
  have h2 : dg s d + 3 * (sd s d / 3) = sd s d := Int.emod_add_mul_ediv (sd s d) 3
  have h3 : s / p3 d = sd s d := rfl
  unfold mv
  generalize max 0 (min 2 (dg s d + v)) = x
  rw [h3] at h1
  generalize dg s d = g at *
  generalize sd s d / 3 = k at *
  have h4 : sd s d = g + 3 * k := by omega
  rw [h4] at h1
  have e1 : (x - g) * p3 d = x * p3 d - g * p3 d := Int.sub_mul _ _ _
  have e2 : (3 * k + x) * p3 d = 3 * k * p3 d + x * p3 d := Int.add_mul _ _ _
  have e3 : p3 d * (g + 3 * k) = g * p3 d + 3 * k * p3 d := by rw [Int.mul_comm, Int.add_mul]
  rw [e1, e2]
  rw [e3] at h1
  omega
theorem mv_lo (s : Int) (d : Nat) : 0 ≤ s % p3 d ∧ s % p3 d < p3 d := ⟨Int.emod_nonneg _ (by have := p3_pos d; omega), Int.emod_lt_of_pos _ (p3_pos d)⟩
theorem mv_sd (s : Int) (d : Nat) (v : Int) : sd (mv s d v) d = 3 * (sd s d / 3) + max 0 (min 2 (dg s d + v)) := by
  have h := mv_lo s d
  rw [mv_eq]
  unfold sd
  rw [Int.add_mul_ediv_right _ _ (by have := p3_pos d; omega), Int.ediv_eq_zero_of_lt h.1 h.2, Int.zero_add]
theorem mv_rng {s : Int} {n d : Nat} (v : Int) (h0 : 0 ≤ s) (h : s < p3 n) (hd : d < n) : 0 ≤ mv s d v ∧ mv s d v < p3 n := by
  have h1 := mv_lo s d
  have h2 := (sd_rng h0 d).1
  have h3 := sd_lt h (d := d) (by omega)
  have e : p3 (n - d) = p3 (n - d - 1) * 3 := by rw [← p3_succ]; congr 1; omega
  rw [e] at h3
  have hx : 0 ≤ max 0 (min 2 (dg s d + v)) ∧ max 0 (min 2 (dg s d + v)) ≤ 2 := by omega
  have hk : 0 ≤ sd s d / 3 ∧ sd s d / 3 < p3 (n - d - 1) := by omega
  rw [mv_eq]
  generalize max 0 (min 2 (dg s d + v)) = x at *
  generalize sd s d / 3 = k at *
  have hq0 : 0 ≤ 3 * k + x := by omega
  have hq : 3 * k + x ≤ p3 (n - d - 1) * 3 - 1 := by omega
  have hp := p3_pos d
  have e2 : p3 n = p3 (n - d - 1) * 3 * p3 d := by
    rw [← p3_succ]
    unfold p3
    rw [← Int.pow_add]
    congr 1
    omega
  constructor
  · have := Int.mul_nonneg hq0 (Int.le_of_lt hp); omega
  · have h5 := Int.mul_le_mul_of_nonneg_right hq (Int.le_of_lt hp)
    rw [Int.sub_mul, ← e2, Int.one_mul] at h5
    omega
theorem dg_mv_same (s : Int) (d : Nat) (v : Int) : dg (mv s d v) d = max 0 (min 2 (dg s d + v)) := by
  have hx : 0 ≤ max 0 (min 2 (dg s d + v)) ∧ max 0 (min 2 (dg s d + v)) ≤ 2 := by omega
  show sd (mv s d v) d % 3 = _
  rw [mv_sd]
  omega
theorem dg_mv_ne {s : Int} {d e : Nat} (v : Int) (h : e ≠ d) : dg (mv s d v) e = dg s e := by
  rcases Nat.lt_or_ge e d with q | q
  · show sd (mv s d v) e % 3 = sd s e % 3
    unfold mv
    have e1 : p3 d = p3 e * (p3 (d - e - 1) * 3) := by
      rw [← p3_succ]
      unfold p3
      rw [← Int.pow_add]
      congr 1
      omega
    unfold sd
    rw [e1, show (max 0 (min 2 (dg s d + v)) - dg s d) * (p3 e * (p3 (d - e - 1) * 3)) = (max 0 (min 2 (dg s d + v)) - dg s d) * (p3 (d - e - 1) * 3) * p3 e by rw [Int.mul_comm (p3 e), ← Int.mul_assoc]]
    rw [Int.add_mul_ediv_right _ _ (by have := p3_pos e; omega)]
    rw [← Int.mul_assoc]
    omega
  · have e1 : e = d + (1 + (e - d - 1)) := by omega
    show sd (mv s d v) e % 3 = sd s e % 3
    rw [e1, ← sd_sd, ← sd_sd, ← sd_sd s, ← sd_sd, mv_sd]
    have hx : 0 ≤ max 0 (min 2 (dg s d + v)) ∧ max 0 (min 2 (dg s d + v)) ≤ 2 := by omega
    have e2 : sd (3 * (sd s d / 3) + max 0 (min 2 (dg s d + v))) 1 = sd (sd s d) 1 := by
      show (3 * (sd s d / 3) + max 0 (min 2 (dg s d + v))) / 3 = sd s d / 3
      omega
    rw [e2]
/-- two states with the same digits are one -/
theorem dg_ext : ∀ (n : Nat) {s t : Int}, 0 ≤ s → s < p3 n → 0 ≤ t → t < p3 n → (∀ d, d < n → dg s d = dg t d) → s = t
  | 0, s, t, h1, h2, h3, h4, _ => by
    have : p3 0 = 1 := rfl
    omega
  | n + 1, s, t, h1, h2, h3, h4, h => by
    have h0 : s % 3 = t % 3 := by have := h 0 (by omega); unfold dg at this; rw [sd_0, sd_0] at this; exact this
    rw [p3_succ] at h2 h4
    have ih := dg_ext n (s := s / 3) (t := t / 3) (by omega) (by omega) (by omega) (by omega) (fun d hd => by
      have := h (d + 1) (by omega)
      unfold dg at this ⊢
      have e : ∀ x : Int, sd x (d + 1) = sd (x / 3) d := fun x => by rw [show d + 1 = 1 + d by omega, ← sd_sd]; rfl
      rw [e, e] at this
      exact this)
    omega
