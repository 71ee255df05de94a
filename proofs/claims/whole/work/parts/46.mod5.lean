/-! ===== DrawerWallModel: dangers, ends, sums ===== -/
theorem cI_n {p : Prop} (h : ¬ cI p = 0) : p := Classical.byContradiction fun q => h (cI_f q)
theorem bI_o {p : Prop} [Decidable p] (h : bI p = 1) : p := Decidable.byContradiction fun q => by rw [bI_f q] at h; cases h
def zP (z : Int) (X : Prop) : Prop := (z = 1 ∧ X) ∨ (z = 0 ∧ ¬ X)
theorem zP.t {X : Prop} (h : X) : zP 1 X := Or.inl ⟨rfl, h⟩
theorem zP.f {X : Prop} (h : ¬ X) : zP 0 X := Or.inr ⟨rfl, h⟩
theorem zP.eq {z : Int} {X : Prop} (h : zP z X) : z = cI X := by
  rcases h with ⟨rfl, h⟩ | ⟨rfl, h⟩
  · exact (cI_t h).symm
  · exact (cI_f h).symm
theorem zP.c (X : Prop) : zP (cI X) X := by
  by_cases h : X
  · rw [cI_t h]; exact zP.t h
  · rw [cI_f h]; exact zP.f h
def dnP (po : Nat) (rs : Nat → List Int) (s d : Int) : Prop := dg s d.toNat = 2 ∧ po.testBit (rAt (rs 0) d).toNat = true
def dnL (fo : Nat) (rs : Nat → List Int) (s d : Int) : Prop := 0 < d ∧ 0 < dg s (d - 1).toNat ∧ fo.testBit (rAt (rs 0) (d - 1)).toNat = true
def dnR (n : Int) (fo : Nat) (rs : Nat → List Int) (s d : Int) : Prop := d + 1 < n ∧ 0 < dg s (d + 1).toNat ∧ fo.testBit (rAt (rs 0) (d + 1)).toNat = true
def dnA (n : Int) (po fo : Nat) (rs : Nat → List Int) (s i : Int) : Prop := ∃ d : Int, 0 ≤ d ∧ d < i ∧ dnP po rs s d ∧ (dnL fo rs s d ∨ dnR n fo rs s d)
theorem dnA_succ {n : Int} {po fo : Nat} {rs : Nat → List Int} {s i : Int} (hi : 0 ≤ i) : dnA n po fo rs s (i + 1) ↔ (dnA n po fo rs s i ∨ (dnP po rs s i ∧ (dnL fo rs s i ∨ dnR n fo rs s i))) := by
  constructor
  · rintro ⟨d, h0, h1, h2⟩
    by_cases h : d = i
    · subst h; exact Or.inr h2
    · exact Or.inl ⟨d, h0, by omega, h2⟩
  · rintro (⟨d, h0, h1, h2⟩ | h)
    · exact ⟨d, h0, by omega, h2⟩
    · exact ⟨i, hi, by omega, h⟩
theorem dn_bit {n : Int} (hn : 0 ≤ n ∧ n ≤ 7) (po fo : Nat) (rs : Nat → List Int) (s : Int) (e : Nat) : (dgBits n po fo rs s).testBit e = true ↔ (((0 < e ∧ (e - 1 < n.toNat ∧ po.testBit (rAt (rs 0) ((e - 1 : Nat) : Int)).toNat = true) ∧ (e - 1 < 7 ∧ dg s (e - 1) = 2)) ∨ ((e + 1 < n.toNat ∧ po.testBit (rAt (rs 0) ((e + 1 : Nat) : Int)).toNat = true) ∧ (e + 1 < 7 ∧ dg s (e + 1) = 2))) ∧ (e < n.toNat ∧ fo.testBit (rAt (rs 0) (e : Int)).toNat = true) ∧ dg s e ≠ 0) := by
  have h127 : e < 7 → Nat.testBit 127 e = true := fun h => by rw [show (127 : Nat) = 2 ^ 7 - 1 from rfl, Nat.testBit_two_pow_sub_one]; simpa using h
  unfold dgBits
  rw [Nat.testBit_and, bsB_bit, Nat.testBit_and, Nat.testBit_and, Nat.testBit_and, Nat.testBit_xor, dwB_bit, dwB_bit, dwB_bit, drB_bit, drB_bit, drB_bit]
  simp only [Bool.and_eq_true, Bool.or_eq_true, decide_eq_true_eq]
  constructor
  · rintro ⟨h1, h2, h3⟩
    rw [h127 (by omega)] at h3
    refine ⟨?_, h2, fun q => ?_⟩
    · rcases h1 with ⟨a, b, c⟩ | ⟨b, c⟩
      · exact Or.inl ⟨a, b, c⟩
      · exact Or.inr ⟨b, c⟩
    · rw [show decide (e < 7 ∧ dg s e = 0) = true by simpa using ⟨by omega, q⟩] at h3
      exact absurd h3 (by decide)
  · rintro ⟨h1, h2, h3⟩
    refine ⟨?_, h2, ?_⟩
    · rcases h1 with ⟨a, b, c⟩ | ⟨b, c⟩
      · exact Or.inl ⟨a, b, c⟩
      · exact Or.inr ⟨b, c⟩
    · rw [h127 (by omega), show decide (e < 7 ∧ dg s e = 0) = false by simpa using fun _ => h3]
      rfl
theorem dan_iff {n : Int} (hn : 0 ≤ n ∧ n ≤ 7) (po fo : Nat) (rs : Nat → List Int) (s : Int) : dgBits n po fo rs s ≠ 0 ↔ dnA n po fo rs s n := by
  constructor
  · intro h
    obtain ⟨e, he⟩ := Nat.exists_testBit_of_ne_zero h
    obtain ⟨h1, ⟨h2, h3⟩, h4⟩ := (dn_bit hn po fo rs s e).mp he
    have hg := dg_rng s e
    rcases h1 with ⟨a, ⟨b, c⟩, d, f⟩ | ⟨⟨b, c⟩, d, f⟩
    · refine ⟨(e : Int) - 1, by omega, by omega, ⟨?_, ?_⟩, Or.inr ⟨by omega, ?_, ?_⟩⟩
      · rw [show ((e : Int) - 1).toNat = e - 1 by omega]; exact f
      · rw [show (e : Int) - 1 = ((e - 1 : Nat) : Int) by omega]; exact c
      · rw [show ((e : Int) - 1 + 1).toNat = e by omega]; omega
      · rw [show (e : Int) - 1 + 1 = e by omega]; exact h3
    · refine ⟨(e : Int) + 1, by omega, by omega, ⟨?_, ?_⟩, Or.inl ⟨by omega, ?_, ?_⟩⟩
      · rw [show ((e : Int) + 1).toNat = e + 1 by omega]; exact f
      · rw [show (e : Int) + 1 = ((e + 1 : Nat) : Int) by omega]; exact c
      · rw [show ((e : Int) + 1 - 1).toNat = e by omega]; omega
      · rw [show (e : Int) + 1 - 1 = e by omega]; exact h3
  · rintro ⟨d, h0, h1, ⟨h2, h3⟩, h | h⟩ hz
    · obtain ⟨a, b, c⟩ := h
      have k := (dn_bit hn po fo rs s (d - 1).toNat).mpr ⟨Or.inr ⟨⟨by omega, ?_⟩, by omega, ?_⟩, ⟨by omega, ?_⟩, by omega⟩
      · rw [hz, Nat.zero_testBit] at k; cases k
      · rw [show (((d - 1).toNat + 1 : Nat) : Int) = d by omega]; exact h3
      · rw [show (d - 1).toNat + 1 = d.toNat by omega]; exact h2
      · rw [show (((d - 1).toNat : Nat) : Int) = d - 1 by omega]; exact c
    · obtain ⟨a, b, c⟩ := h
      have k := (dn_bit hn po fo rs s (d + 1).toNat).mpr ⟨Or.inl ⟨by omega, ⟨by omega, ?_⟩, by omega, ?_⟩, ⟨by omega, ?_⟩, by omega⟩
      · rw [hz, Nat.zero_testBit] at k; cases k
      · rw [show (((d + 1).toNat - 1 : Nat) : Int) = d by omega]; exact h3
      · rw [show (d + 1).toNat - 1 = d.toNat by omega]; exact h2
      · rw [show (((d + 1).toNat : Nat) : Int) = d + 1 by omega]; exact c
/-- an end of PULLS: these open, those shut -/
def enC (a b : Nat) (s e : Int) : Prop := (a.testBit e.toNat = true → dg s e.toNat = 2) ∧ (b.testBit e.toNat = true → dg s e.toNat = 0)
theorem goal_iff {n : Int} (hn : 0 ≤ n ∧ n ≤ 7) {a b : Nat} (ha : a < 2 ^ n.toNat) (hb : b < 2 ^ n.toNat) (s : Int) : goalP a b s ↔ ∀ e : Int, 0 ≤ e → e < n → enC a b s e := by
  have key : ∀ (v : Int) (x : Nat), x < 2 ^ n.toNat → ((drB s v 7 &&& x) = x ↔ ∀ e : Int, 0 ≤ e → e < n → x.testBit e.toNat = true → dg s e.toNat = v) := by
    intro v x hx
    constructor
    · intro h e h0 h1 h2
      rw [← h, Nat.testBit_and, drB_bit] at h2
      simp only [Bool.and_eq_true, decide_eq_true_eq] at h2
      exact h2.1.2
    · intro h
      apply Nat.eq_of_testBit_eq
      intro i
      rw [Nat.testBit_and, drB_bit]
      by_cases hi : x.testBit i = true
      · have hin : i < n.toNat := by
          rcases Nat.lt_or_ge i n.toNat with q | q
          · exact q
          · rw [Nat.testBit_lt_two_pow (Nat.lt_of_lt_of_le hx (Nat.pow_le_pow_right (by decide) q))] at hi
            cases hi
        have := h (i : Int) (by omega) (by omega) (by rw [show ((i : Int)).toNat = i by omega]; exact hi)
        rw [show ((i : Int)).toNat = i by omega] at this
        rw [hi, show decide (i < 7 ∧ dg s i = v) = true by simpa using ⟨by omega, this⟩]
        rfl
      · have : x.testBit i = false := by simpa using hi
        rw [this, Bool.and_false]
  unfold goalP enC
  rw [key 2 a ha, key 0 b hb]
  constructor
  · rintro ⟨h1, h2⟩ e h0 h3
    exact ⟨h1 e h0 h3, h2 e h0 h3⟩
  · intro h
    exact ⟨fun e h0 h3 => (h e h0 h3).1, fun e h0 h3 => (h e h0 h3).2⟩
theorem sumW_n {v s n : Int} (hn : 0 ≤ n ∧ n ≤ 7) (hs : isS n s) : ∀ m : Nat, n.toNat ≤ m → sumW v s m = sumW v s n.toNat
  | 0, h => by rw [show n.toNat = 0 by omega]
  | m + 1, h => by
    by_cases hm : n.toNat = m + 1
    · rw [hm]
    · rw [sumW, sumW_n hn hs m (by omega), dg_out hs.1 hs.2 (d := m) (by omega)]
      omega
section MOD
variable {nn : Nat} {w : vWd} {n now : Int} {ca po fo : Nat} {rs : Nat → List Int}
set_option maxRecDepth 100000 in
theorem lpm_dng3 {A P L R : Prop} {s d : Int} {Q : vPost} (K : ∀ z : Int, zP z (A ∨ (P ∧ (L ∨ R))) → V mX6_isDanger (rm 2) Q 4 [some (.ref 99), some (vI s), some (vI z), some (vI (d + 1)), none, none, none] [] nn w 0 0) :
    V mX6_isDanger (rm 2) Q 152 [some (.ref 99), some (vI s), some (vI (cI A)), some (vI d), some (vI (cI P)), some (vI (cI L)), some (vI (cI R))] [] nn w 0 0 := by
  refine V_iload_n (Y := mX6_isDanger) (pc := 152) dX6_isDanger_152 rfl ?_
  refine V_if_ne (tgt := 171) (Y := mX6_isDanger) (pc := 153) dX6_isDanger_153 (by decide) (cI_R _) (fun h_153 => ?_) (fun h_153 => ?_)
  · refine V_iconst (Y := mX6_isDanger) (pc := 171) dX6_isDanger_171 ?_
    refine V_goto (tgt := 176) (Y := mX6_isDanger) (pc := 172) dX6_isDanger_172 (by decide) ?_
    refine V_istore_n (Y := mX6_isDanger) (pc := 176) dX6_isDanger_176 rfl ?_
    refine V_iinc (Y := mX6_isDanger) (pc := 177) dX6_isDanger_177 rfl rfl ?_
    refine V_goto (tgt := 4) (Y := mX6_isDanger) (pc := 180) dX6_isDanger_180 (by decide) ?_
    refine V_drop 4 (V_drop 5 (V_drop 6 ?_))
    first
      | exact K _ (zP.t (Or.inl (cI_n h_153)))
      | exact K _ (zP.t (Or.inr ⟨cI_n h_158, Or.inl (cI_n h_163)⟩))
      | exact K _ (zP.t (Or.inr ⟨cI_n h_158, Or.inr (cI_n h_168)⟩))
      | exact K _ (zP.f (fun q => q.elim (cI_0.mp h_153) (fun q => cI_0.mp h_158 q.1)))
      | exact K _ (zP.f (fun q => q.elim (cI_0.mp h_153) (fun q => q.2.elim (cI_0.mp h_163) (cI_0.mp h_168))))
  · refine V_iload (Y := mX6_isDanger) (pc := 156) dX6_isDanger_156 rfl ?_
    refine V_if_eq (tgt := 175) (Y := mX6_isDanger) (pc := 158) dX6_isDanger_158 (by decide) (cI_R _) (fun h_158 => ?_) (fun h_158 => ?_)
    · refine V_iconst (Y := mX6_isDanger) (pc := 175) dX6_isDanger_175 ?_
      refine V_istore_n (Y := mX6_isDanger) (pc := 176) dX6_isDanger_176 rfl ?_
      refine V_iinc (Y := mX6_isDanger) (pc := 177) dX6_isDanger_177 rfl rfl ?_
      refine V_goto (tgt := 4) (Y := mX6_isDanger) (pc := 180) dX6_isDanger_180 (by decide) ?_
      refine V_drop 4 (V_drop 5 (V_drop 6 ?_))
      first
        | exact K _ (zP.t (Or.inl (cI_n h_153)))
        | exact K _ (zP.t (Or.inr ⟨cI_n h_158, Or.inl (cI_n h_163)⟩))
        | exact K _ (zP.t (Or.inr ⟨cI_n h_158, Or.inr (cI_n h_168)⟩))
        | exact K _ (zP.f (fun q => q.elim (cI_0.mp h_153) (fun q => cI_0.mp h_158 q.1)))
        | exact K _ (zP.f (fun q => q.elim (cI_0.mp h_153) (fun q => q.2.elim (cI_0.mp h_163) (cI_0.mp h_168))))
    · refine V_iload (Y := mX6_isDanger) (pc := 161) dX6_isDanger_161 rfl ?_
      refine V_if_ne (tgt := 171) (Y := mX6_isDanger) (pc := 163) dX6_isDanger_163 (by decide) (cI_R _) (fun h_163 => ?_) (fun h_163 => ?_)
      · refine V_iconst (Y := mX6_isDanger) (pc := 171) dX6_isDanger_171 ?_
        refine V_goto (tgt := 176) (Y := mX6_isDanger) (pc := 172) dX6_isDanger_172 (by decide) ?_
        refine V_istore_n (Y := mX6_isDanger) (pc := 176) dX6_isDanger_176 rfl ?_
        refine V_iinc (Y := mX6_isDanger) (pc := 177) dX6_isDanger_177 rfl rfl ?_
        refine V_goto (tgt := 4) (Y := mX6_isDanger) (pc := 180) dX6_isDanger_180 (by decide) ?_
        refine V_drop 4 (V_drop 5 (V_drop 6 ?_))
        first
          | exact K _ (zP.t (Or.inl (cI_n h_153)))
          | exact K _ (zP.t (Or.inr ⟨cI_n h_158, Or.inl (cI_n h_163)⟩))
          | exact K _ (zP.t (Or.inr ⟨cI_n h_158, Or.inr (cI_n h_168)⟩))
          | exact K _ (zP.f (fun q => q.elim (cI_0.mp h_153) (fun q => cI_0.mp h_158 q.1)))
          | exact K _ (zP.f (fun q => q.elim (cI_0.mp h_153) (fun q => q.2.elim (cI_0.mp h_163) (cI_0.mp h_168))))
      · refine V_iload (Y := mX6_isDanger) (pc := 166) dX6_isDanger_166 rfl ?_
        refine V_if_eq (tgt := 175) (Y := mX6_isDanger) (pc := 168) dX6_isDanger_168 (by decide) (cI_R _) (fun h_168 => ?_) (fun h_168 => ?_)
        · refine V_iconst (Y := mX6_isDanger) (pc := 175) dX6_isDanger_175 ?_
          refine V_istore_n (Y := mX6_isDanger) (pc := 176) dX6_isDanger_176 rfl ?_
          refine V_iinc (Y := mX6_isDanger) (pc := 177) dX6_isDanger_177 rfl rfl ?_
          refine V_goto (tgt := 4) (Y := mX6_isDanger) (pc := 180) dX6_isDanger_180 (by decide) ?_
          refine V_drop 4 (V_drop 5 (V_drop 6 ?_))
          first
            | exact K _ (zP.t (Or.inl (cI_n h_153)))
            | exact K _ (zP.t (Or.inr ⟨cI_n h_158, Or.inl (cI_n h_163)⟩))
            | exact K _ (zP.t (Or.inr ⟨cI_n h_158, Or.inr (cI_n h_168)⟩))
            | exact K _ (zP.f (fun q => q.elim (cI_0.mp h_153) (fun q => cI_0.mp h_158 q.1)))
            | exact K _ (zP.f (fun q => q.elim (cI_0.mp h_153) (fun q => q.2.elim (cI_0.mp h_163) (cI_0.mp h_168))))
        · refine V_iconst (Y := mX6_isDanger) (pc := 171) dX6_isDanger_171 ?_
          refine V_goto (tgt := 176) (Y := mX6_isDanger) (pc := 172) dX6_isDanger_172 (by decide) ?_
          refine V_istore_n (Y := mX6_isDanger) (pc := 176) dX6_isDanger_176 rfl ?_
          refine V_iinc (Y := mX6_isDanger) (pc := 177) dX6_isDanger_177 rfl rfl ?_
          refine V_goto (tgt := 4) (Y := mX6_isDanger) (pc := 180) dX6_isDanger_180 (by decide) ?_
          refine V_drop 4 (V_drop 5 (V_drop 6 ?_))
          first
            | exact K _ (zP.t (Or.inl (cI_n h_153)))
            | exact K _ (zP.t (Or.inr ⟨cI_n h_158, Or.inl (cI_n h_163)⟩))
            | exact K _ (zP.t (Or.inr ⟨cI_n h_158, Or.inr (cI_n h_168)⟩))
            | exact K _ (zP.f (fun q => q.elim (cI_0.mp h_153) (fun q => cI_0.mp h_158 q.1)))
            | exact K _ (zP.f (fun q => q.elim (cI_0.mp h_153) (fun q => q.2.elim (cI_0.mp h_163) (cI_0.mp h_168))))
set_option maxRecDepth 100000 in
theorem lpm_dng2 {s d p l : Int} {o : Int} {Q : vPost} (hM : MS w n now ca po fo rs) (hG : vGood (n, now, ca, po, fo, rs)) (hs : isS n s) (hd : isD n d) (K : ∀ z : Int, zP z (dnR n fo rs s d) → V mX6_isDanger (rm 2) Q 152 [some (.ref 99), some (vI s), some (vI o), some (vI d), some (vI p), some (vI l), some (vI z)] [] nn w 0 0) :
    V mX6_isDanger (rm 2) Q 98 [some (.ref 99), some (vI s), some (vI o), some (vI d), some (vI p), some (vI l), none] [] nn w 0 0 := by
  obtain ⟨hn, hnow, hca, hpo, hfo, hgd, hcv, hor, hsg, hpast⟩ := hG.un
  obtain ⟨f, ⟨qt, ty, a0, sp, tk, vl, mn, fd, sv, ho⟩, hb, hB⟩ := hM
  have e0 : f (0 : Int).toNat = n := hB.1.1.1
  have e6 : f (6 : Int).toNat = (fo : Int) := hB.1.2.2.2.1
  have hp := p3_le n.toNat (by omega)
  have hg1 := hgd.1
  have hr := dg_rng s (d + 1).toNat
  have g1 : d + 1 < n → f (9 + d + 1).toNat = rAt (rs 0) (d + 1) := fun q => by rw [show 9 + d + 1 = 9 + (d + 1) by omega]; exact hB.2.2.1 (d + 1) (by omega) (by omega)
  have g2 := hgd.2 (d + 1) (by omega)
  refine V_iload_n (Y := mX6_isDanger) (pc := 98) dX6_isDanger_98 rfl ?_
  refine V_iconst (Y := mX6_isDanger) (pc := 99) dX6_isDanger_99 ?_
  refine V_iadd (Y := mX6_isDanger) (pc := 100) dX6_isDanger_100 ?_
  refine V_aload_n (Y := mX6_isDanger) (pc := 101) dX6_isDanger_101 rfl ?_
  apply V_get (Y := mX6_isDanger) (pc := 102) dX6_isDanger_102 fl_X6_7
  · assumption
  · rfl
  refine V_iconst (Y := mX6_isDanger) (pc := 105) dX6_isDanger_105 ?_
  apply V_iald (Y := mX6_isDanger) (pc := 106) dX6_isDanger_106
  · assumption
  · exact ⟨by omega, by omega⟩
  · omega
  rw [e0]
  refine V_icmp_ge (tgt := 149) (Y := mX6_isDanger) (pc := 107) dX6_isDanger_107 (by decide) ⟨by omega, by omega⟩ ⟨by omega, by omega⟩ (fun h_107 => ?_) (fun h_107 => ?_)
  · refine V_iconst (Y := mX6_isDanger) (pc := 149) dX6_isDanger_149 ?_
    refine V_istore (Y := mX6_isDanger) (pc := 150) dX6_isDanger_150 rfl ?_
    first
      | exact K _ (zP.t ⟨by omega, by omega, bI_o h_142⟩)
      | exact K _ (zP.f (fun q => by have q1 := q.1; have q2 := q.2.1; omega))
      | exact K _ (zP.f (fun q => h_142 (bI_t q.2.2)))
  · refine V_iload_n (Y := mX6_isDanger) (pc := 110) dX6_isDanger_110 rfl ?_
    refine V_iload_n (Y := mX6_isDanger) (pc := 111) dX6_isDanger_111 rfl ?_
    refine V_iconst (Y := mX6_isDanger) (pc := 112) dX6_isDanger_112 ?_
    refine V_iadd (Y := mX6_isDanger) (pc := 113) dX6_isDanger_113 ?_
    apply V_sR (Y := mX6_isDanger) (pc := 114) dX6_isDanger_114 ok_X6_outIn os_X6_outIn ln_X6_64 (cm_outIn (s := s) (d := d + 1) hs.1 ⟨by omega, by omega⟩ ⟨by omega, by omega⟩)
    · rfl
    · rfl
    · rfl
    refine V_if_le (tgt := 149) (Y := mX6_isDanger) (pc := 117) dX6_isDanger_117 (by decide) ⟨by omega, by omega⟩ (fun h_117 => ?_) (fun h_117 => ?_)
    · refine V_iconst (Y := mX6_isDanger) (pc := 149) dX6_isDanger_149 ?_
      refine V_istore (Y := mX6_isDanger) (pc := 150) dX6_isDanger_150 rfl ?_
      first
        | exact K _ (zP.t ⟨by omega, by omega, bI_o h_142⟩)
        | exact K _ (zP.f (fun q => by have q1 := q.1; have q2 := q.2.1; omega))
        | exact K _ (zP.f (fun q => h_142 (bI_t q.2.2)))
    · refine V_aload_n (Y := mX6_isDanger) (pc := 120) dX6_isDanger_120 rfl ?_
      apply V_get (Y := mX6_isDanger) (pc := 121) dX6_isDanger_121 fl_X6_7
      · assumption
      · rfl
      refine V_bipush (Y := mX6_isDanger) (pc := 124) dX6_isDanger_124 ⟨by decide, by decide⟩ ?_
      apply V_iald (Y := mX6_isDanger) (pc := 126) dX6_isDanger_126
      · assumption
      · exact ⟨by omega, by omega⟩
      · omega
      rw [e6]
      refine V_aload_n (Y := mX6_isDanger) (pc := 127) dX6_isDanger_127 rfl ?_
      apply V_get (Y := mX6_isDanger) (pc := 128) dX6_isDanger_128 fl_X6_7
      · assumption
      · rfl
      refine V_bipush (Y := mX6_isDanger) (pc := 131) dX6_isDanger_131 ⟨by decide, by decide⟩ ?_
      refine V_iload_n (Y := mX6_isDanger) (pc := 133) dX6_isDanger_133 rfl ?_
      refine V_iadd (Y := mX6_isDanger) (pc := 134) dX6_isDanger_134 ?_
      refine V_iconst (Y := mX6_isDanger) (pc := 135) dX6_isDanger_135 ?_
      refine V_iadd (Y := mX6_isDanger) (pc := 136) dX6_isDanger_136 ?_
      apply V_iald (Y := mX6_isDanger) (pc := 137) dX6_isDanger_137
      · assumption
      · exact ⟨by omega, by omega⟩
      · omega
      rw [g1 (by omega)]
      refine V_ishr (Y := mX6_isDanger) (pc := 138) dX6_isDanger_138 (rfl) ?_
      refine V_iconst (Y := mX6_isDanger) (pc := 139) dX6_isDanger_139 ?_
      refine V_iand (Y := mX6_isDanger) (pc := 140) dX6_isDanger_140 (bitB (by omega) (by omega) (by omega)) ?_
      refine V_iconst (Y := mX6_isDanger) (pc := 141) dX6_isDanger_141 ?_
      refine V_icmp_ne (tgt := 149) (Y := mX6_isDanger) (pc := 142) dX6_isDanger_142 (by decide) (bI_R _) ⟨by omega, by omega⟩ (fun h_142 => ?_) (fun h_142 => ?_)
      · refine V_iconst (Y := mX6_isDanger) (pc := 149) dX6_isDanger_149 ?_
        refine V_istore (Y := mX6_isDanger) (pc := 150) dX6_isDanger_150 rfl ?_
        first
          | exact K _ (zP.t ⟨by omega, by omega, bI_o h_142⟩)
          | exact K _ (zP.f (fun q => by have q1 := q.1; have q2 := q.2.1; omega))
          | exact K _ (zP.f (fun q => h_142 (bI_t q.2.2)))
      · refine V_iconst (Y := mX6_isDanger) (pc := 145) dX6_isDanger_145 ?_
        refine V_goto (tgt := 150) (Y := mX6_isDanger) (pc := 146) dX6_isDanger_146 (by decide) ?_
        refine V_istore (Y := mX6_isDanger) (pc := 150) dX6_isDanger_150 rfl ?_
        first
          | exact K _ (zP.t ⟨by omega, by omega, bI_o h_142⟩)
          | exact K _ (zP.f (fun q => by have q1 := q.1; have q2 := q.2.1; omega))
          | exact K _ (zP.f (fun q => h_142 (bI_t q.2.2)))
set_option maxRecDepth 100000 in
theorem lpm_dng1 {s d p : Int} {o : Int} {Q : vPost} (hM : MS w n now ca po fo rs) (hG : vGood (n, now, ca, po, fo, rs)) (hs : isS n s) (hd : isD n d) (K : ∀ z : Int, zP z (dnL fo rs s d) → V mX6_isDanger (rm 2) Q 98 [some (.ref 99), some (vI s), some (vI o), some (vI d), some (vI p), some (vI z), none] [] nn w 0 0) :
    V mX6_isDanger (rm 2) Q 52 [some (.ref 99), some (vI s), some (vI o), some (vI d), some (vI p), none, none] [] nn w 0 0 := by
  obtain ⟨hn, hnow, hca, hpo, hfo, hgd, hcv, hor, hsg, hpast⟩ := hG.un
  obtain ⟨f, ⟨qt, ty, a0, sp, tk, vl, mn, fd, sv, ho⟩, hb, hB⟩ := hM
  have e6 : f (6 : Int).toNat = (fo : Int) := hB.1.2.2.2.1
  have hp := p3_le n.toNat (by omega)
  have hg1 := hgd.1
  have hr := dg_rng s (d - 1).toNat
  have g1 : 0 < d → f (9 + d - 1).toNat = rAt (rs 0) (d - 1) := fun q => by rw [show 9 + d - 1 = 9 + (d - 1) by omega]; exact hB.2.2.1 (d - 1) (by omega) (by omega)
  have g2 : 0 < d → 0 ≤ rAt (rs 0) (d - 1) ∧ rAt (rs 0) (d - 1) ≤ 6 := fun q => hgd.2 (d - 1) (by omega) (by omega)
  refine V_iload_n (Y := mX6_isDanger) (pc := 52) dX6_isDanger_52 rfl ?_
  refine V_if_le (tgt := 95) (Y := mX6_isDanger) (pc := 53) dX6_isDanger_53 (by decide) ⟨by omega, by omega⟩ (fun h_53 => ?_) (fun h_53 => ?_)
  · refine V_iconst (Y := mX6_isDanger) (pc := 95) dX6_isDanger_95 ?_
    refine V_istore (Y := mX6_isDanger) (pc := 96) dX6_isDanger_96 rfl ?_
    first
      | exact K _ (zP.t ⟨by omega, by omega, bI_o h_88⟩)
      | exact K _ (zP.f (fun q => by have q1 := q.1; have q2 := q.2.1; omega))
      | exact K _ (zP.f (fun q => h_88 (bI_t q.2.2)))
  · refine V_iload_n (Y := mX6_isDanger) (pc := 56) dX6_isDanger_56 rfl ?_
    refine V_iload_n (Y := mX6_isDanger) (pc := 57) dX6_isDanger_57 rfl ?_
    refine V_iconst (Y := mX6_isDanger) (pc := 58) dX6_isDanger_58 ?_
    refine V_isub (Y := mX6_isDanger) (pc := 59) dX6_isDanger_59 ?_
    apply V_sR (Y := mX6_isDanger) (pc := 60) dX6_isDanger_60 ok_X6_outIn os_X6_outIn ln_X6_64 (cm_outIn (s := s) (d := d - 1) hs.1 ⟨by omega, by omega⟩ ⟨by omega, by omega⟩)
    · rfl
    · rfl
    · rfl
    refine V_if_le (tgt := 95) (Y := mX6_isDanger) (pc := 63) dX6_isDanger_63 (by decide) ⟨by omega, by omega⟩ (fun h_63 => ?_) (fun h_63 => ?_)
    · refine V_iconst (Y := mX6_isDanger) (pc := 95) dX6_isDanger_95 ?_
      refine V_istore (Y := mX6_isDanger) (pc := 96) dX6_isDanger_96 rfl ?_
      first
        | exact K _ (zP.t ⟨by omega, by omega, bI_o h_88⟩)
        | exact K _ (zP.f (fun q => by have q1 := q.1; have q2 := q.2.1; omega))
        | exact K _ (zP.f (fun q => h_88 (bI_t q.2.2)))
    · refine V_aload_n (Y := mX6_isDanger) (pc := 66) dX6_isDanger_66 rfl ?_
      apply V_get (Y := mX6_isDanger) (pc := 67) dX6_isDanger_67 fl_X6_7
      · assumption
      · rfl
      refine V_bipush (Y := mX6_isDanger) (pc := 70) dX6_isDanger_70 ⟨by decide, by decide⟩ ?_
      apply V_iald (Y := mX6_isDanger) (pc := 72) dX6_isDanger_72
      · assumption
      · exact ⟨by omega, by omega⟩
      · omega
      rw [e6]
      refine V_aload_n (Y := mX6_isDanger) (pc := 73) dX6_isDanger_73 rfl ?_
      apply V_get (Y := mX6_isDanger) (pc := 74) dX6_isDanger_74 fl_X6_7
      · assumption
      · rfl
      refine V_bipush (Y := mX6_isDanger) (pc := 77) dX6_isDanger_77 ⟨by decide, by decide⟩ ?_
      refine V_iload_n (Y := mX6_isDanger) (pc := 79) dX6_isDanger_79 rfl ?_
      refine V_iadd (Y := mX6_isDanger) (pc := 80) dX6_isDanger_80 ?_
      refine V_iconst (Y := mX6_isDanger) (pc := 81) dX6_isDanger_81 ?_
      refine V_isub (Y := mX6_isDanger) (pc := 82) dX6_isDanger_82 ?_
      apply V_iald (Y := mX6_isDanger) (pc := 83) dX6_isDanger_83
      · assumption
      · exact ⟨by omega, by omega⟩
      · omega
      rw [g1 (by omega)]
      refine V_ishr (Y := mX6_isDanger) (pc := 84) dX6_isDanger_84 (rfl) ?_
      refine V_iconst (Y := mX6_isDanger) (pc := 85) dX6_isDanger_85 ?_
      refine V_iand (Y := mX6_isDanger) (pc := 86) dX6_isDanger_86 (bitB (by omega) (by omega) (by omega)) ?_
      refine V_iconst (Y := mX6_isDanger) (pc := 87) dX6_isDanger_87 ?_
      refine V_icmp_ne (tgt := 95) (Y := mX6_isDanger) (pc := 88) dX6_isDanger_88 (by decide) (bI_R _) ⟨by omega, by omega⟩ (fun h_88 => ?_) (fun h_88 => ?_)
      · refine V_iconst (Y := mX6_isDanger) (pc := 95) dX6_isDanger_95 ?_
        refine V_istore (Y := mX6_isDanger) (pc := 96) dX6_isDanger_96 rfl ?_
        first
          | exact K _ (zP.t ⟨by omega, by omega, bI_o h_88⟩)
          | exact K _ (zP.f (fun q => by have q1 := q.1; have q2 := q.2.1; omega))
          | exact K _ (zP.f (fun q => h_88 (bI_t q.2.2)))
      · refine V_iconst (Y := mX6_isDanger) (pc := 91) dX6_isDanger_91 ?_
        refine V_goto (tgt := 96) (Y := mX6_isDanger) (pc := 92) dX6_isDanger_92 (by decide) ?_
        refine V_istore (Y := mX6_isDanger) (pc := 96) dX6_isDanger_96 rfl ?_
        first
          | exact K _ (zP.t ⟨by omega, by omega, bI_o h_88⟩)
          | exact K _ (zP.f (fun q => by have q1 := q.1; have q2 := q.2.1; omega))
          | exact K _ (zP.f (fun q => h_88 (bI_t q.2.2)))
set_option maxRecDepth 100000 in
theorem lpm_dng0 {s d : Int} {o : Int} {Q : vPost} (hM : MS w n now ca po fo rs) (hG : vGood (n, now, ca, po, fo, rs)) (hs : isS n s) (hd : isD n d) (K : ∀ z : Int, zP z (dnP po rs s d) → V mX6_isDanger (rm 2) Q 52 [some (.ref 99), some (vI s), some (vI o), some (vI d), some (vI z), none, none] [] nn w 0 0) :
    V mX6_isDanger (rm 2) Q 14 [some (.ref 99), some (vI s), some (vI o), some (vI d), none, none, none] [] nn w 0 0 := by
  obtain ⟨hn, hnow, hca, hpo, hfo, hgd, hcv, hor, hsg, hpast⟩ := hG.un
  obtain ⟨f, ⟨qt, ty, a0, sp, tk, vl, mn, fd, sv, ho⟩, hb, hB⟩ := hM
  have e5 : f (5 : Int).toNat = (po : Int) := hB.1.2.2.1
  have hp := p3_le n.toNat (by omega)
  have hg1 := hgd.1
  have hr := dg_rng s d.toNat
  have g1 := hB.2.2.1 d hd.1 (by omega)
  have g2 := hgd.2 d hd.1 hd.2
  refine V_iload_n (Y := mX6_isDanger) (pc := 14) dX6_isDanger_14 rfl ?_
  refine V_iload_n (Y := mX6_isDanger) (pc := 15) dX6_isDanger_15 rfl ?_
  apply V_sR (Y := mX6_isDanger) (pc := 16) dX6_isDanger_16 ok_X6_outIn os_X6_outIn ln_X6_64 (cm_outIn (s := s) (d := d) hs.1 ⟨by omega, by omega⟩ ⟨by omega, by omega⟩)
  · rfl
  · rfl
  · rfl
  refine V_iconst (Y := mX6_isDanger) (pc := 19) dX6_isDanger_19 ?_
  refine V_icmp_ne (tgt := 49) (Y := mX6_isDanger) (pc := 20) dX6_isDanger_20 (by decide) ⟨by omega, by omega⟩ ⟨by omega, by omega⟩ (fun h_20 => ?_) (fun h_20 => ?_)
  · refine V_iconst (Y := mX6_isDanger) (pc := 49) dX6_isDanger_49 ?_
    refine V_istore (Y := mX6_isDanger) (pc := 50) dX6_isDanger_50 rfl ?_
    first
      | exact K _ (zP.t ⟨by omega, bI_o h_42⟩)
      | exact K _ (zP.f (fun q => by have q1 := q.1; omega))
      | exact K _ (zP.f (fun q => h_42 (bI_t q.2)))
  · refine V_aload_n (Y := mX6_isDanger) (pc := 23) dX6_isDanger_23 rfl ?_
    apply V_get (Y := mX6_isDanger) (pc := 24) dX6_isDanger_24 fl_X6_7
    · assumption
    · rfl
    refine V_iconst (Y := mX6_isDanger) (pc := 27) dX6_isDanger_27 ?_
    apply V_iald (Y := mX6_isDanger) (pc := 28) dX6_isDanger_28
    · assumption
    · exact ⟨by omega, by omega⟩
    · omega
    rw [e5]
    refine V_aload_n (Y := mX6_isDanger) (pc := 29) dX6_isDanger_29 rfl ?_
    apply V_get (Y := mX6_isDanger) (pc := 30) dX6_isDanger_30 fl_X6_7
    · assumption
    · rfl
    refine V_bipush (Y := mX6_isDanger) (pc := 33) dX6_isDanger_33 ⟨by decide, by decide⟩ ?_
    refine V_iload_n (Y := mX6_isDanger) (pc := 35) dX6_isDanger_35 rfl ?_
    refine V_iadd (Y := mX6_isDanger) (pc := 36) dX6_isDanger_36 ?_
    apply V_iald (Y := mX6_isDanger) (pc := 37) dX6_isDanger_37
    · assumption
    · exact ⟨by omega, by omega⟩
    · omega
    rw [g1]
    refine V_ishr (Y := mX6_isDanger) (pc := 38) dX6_isDanger_38 (rfl) ?_
    refine V_iconst (Y := mX6_isDanger) (pc := 39) dX6_isDanger_39 ?_
    refine V_iand (Y := mX6_isDanger) (pc := 40) dX6_isDanger_40 (bitB (by omega) (by omega) (by omega)) ?_
    refine V_iconst (Y := mX6_isDanger) (pc := 41) dX6_isDanger_41 ?_
    refine V_icmp_ne (tgt := 49) (Y := mX6_isDanger) (pc := 42) dX6_isDanger_42 (by decide) (bI_R _) ⟨by omega, by omega⟩ (fun h_42 => ?_) (fun h_42 => ?_)
    · refine V_iconst (Y := mX6_isDanger) (pc := 49) dX6_isDanger_49 ?_
      refine V_istore (Y := mX6_isDanger) (pc := 50) dX6_isDanger_50 rfl ?_
      first
        | exact K _ (zP.t ⟨by omega, bI_o h_42⟩)
        | exact K _ (zP.f (fun q => by have q1 := q.1; omega))
        | exact K _ (zP.f (fun q => h_42 (bI_t q.2)))
    · refine V_iconst (Y := mX6_isDanger) (pc := 45) dX6_isDanger_45 ?_
      refine V_goto (tgt := 50) (Y := mX6_isDanger) (pc := 46) dX6_isDanger_46 (by decide) ?_
      refine V_istore (Y := mX6_isDanger) (pc := 50) dX6_isDanger_50 rfl ?_
      first
        | exact K _ (zP.t ⟨by omega, bI_o h_42⟩)
        | exact K _ (zP.f (fun q => by have q1 := q.1; omega))
        | exact K _ (zP.f (fun q => h_42 (bI_t q.2)))
set_option maxRecDepth 100000 in
theorem lpm_danger {s : Int} (hM : MS w n now ca po fo rs) (hG : vGood (n, now, ca, po, fo, rs)) (hs : isS n s) : ∀ (m : Nat) (i : Int), 0 ≤ i → i + m = n →
    V mX6_isDanger (rm 2) (pR (vI (bI (dgBits n po fo rs s ≠ 0))) nn w) 4 [some (.ref 99), some (vI s), some (vI (cI (dnA n po fo rs s i))), some (vI i), none, none, none] [] nn w 0 0 := by
  have hM0 := hM
  obtain ⟨hn, -⟩ := hG.un
  obtain ⟨f, ⟨qt, ty, a0, sp, tk, vl, mn, fd, sv, ho⟩, hb, hB⟩ := hM
  have e0 : f (0 : Int).toNat = n := hB.1.1.1
  intro m
  induction m with
  | zero =>
    intro i hi him
    have hin : i = n := by omega
    subst hin
    refine V_iload_n (Y := mX6_isDanger) (pc := 4) dX6_isDanger_4 rfl ?_
    refine V_aload_n (Y := mX6_isDanger) (pc := 5) dX6_isDanger_5 rfl ?_
    apply V_get (Y := mX6_isDanger) (pc := 6) dX6_isDanger_6 fl_X6_7
    · assumption
    · rfl
    refine V_iconst (Y := mX6_isDanger) (pc := 9) dX6_isDanger_9 ?_
    apply V_iald (Y := mX6_isDanger) (pc := 10) dX6_isDanger_10
    · assumption
    · exact ⟨by omega, by omega⟩
    · omega
    rw [e0]
    refine V_icmp_ge (tgt := 183) (Y := mX6_isDanger) (pc := 11) dX6_isDanger_11 (by decide) ⟨by omega, by omega⟩ ⟨by omega, by omega⟩ (fun h_11 => ?_) (fun h_11 => absurd h_11 (by omega))
    refine V_iload_n (Y := mX6_isDanger) (pc := 183) dX6_isDanger_183 rfl ?_
    refine V_zret (ty := .boolean) (Y := mX6_isDanger) (pc := 184) dX6_isDanger_184 rfl (nrC _) (Nat.le_of_ble_eq_true rfl) (Nat.le_of_ble_eq_true rfl) ?_
    exact pR_I (by rw [← cI_bI]; exact cI_congr (dan_iff ⟨by omega, by omega⟩ po fo rs s).symm)
  | succ m ih =>
    intro i hi him
    have k := ih (i + 1) (by omega) (by omega)
    rw [cI_congr (dnA_succ hi)] at k
    refine V_iload_n (Y := mX6_isDanger) (pc := 4) dX6_isDanger_4 rfl ?_
    refine V_aload_n (Y := mX6_isDanger) (pc := 5) dX6_isDanger_5 rfl ?_
    apply V_get (Y := mX6_isDanger) (pc := 6) dX6_isDanger_6 fl_X6_7
    · assumption
    · rfl
    refine V_iconst (Y := mX6_isDanger) (pc := 9) dX6_isDanger_9 ?_
    apply V_iald (Y := mX6_isDanger) (pc := 10) dX6_isDanger_10
    · assumption
    · exact ⟨by omega, by omega⟩
    · omega
    rw [e0]
    refine V_icmp_ge (tgt := 183) (Y := mX6_isDanger) (pc := 11) dX6_isDanger_11 (by decide) ⟨by omega, by omega⟩ ⟨by omega, by omega⟩ (fun h_11 => absurd h_11 (by omega)) (fun h_11 => ?_)
    refine lpm_dng0 hM0 hG hs ⟨hi, by omega⟩ (fun z1 hz1 => lpm_dng1 hM0 hG hs ⟨hi, by omega⟩ (fun z2 hz2 => lpm_dng2 hM0 hG hs ⟨hi, by omega⟩ (fun z3 hz3 => ?_)))
    rw [hz1.eq, hz2.eq, hz3.eq]
    refine lpm_dng3 (fun z hz => ?_)
    rw [hz.eq]; exact k
set_option maxRecDepth 100000 in
theorem cm_isDanger {s : Int} (hM : MS w n now ca po fo rs) (hG : vGood (n, now, ca, po, fo, rs)) (hs : isS n s) : Ctr mX6_isDanger (rm 2) [.ref 99, vI s] nn w (pR (vI (bI (dgBits n po fo rs s ≠ 0))) nn w) := by
  have hn := hG.un.1
  refine Ctr_of (lv := [some (.ref 99), some (vI s), none, none, none, none, none]) (by decide +kernel) rfl rfl ?_
  have e : cI (dnA n po fo rs s 0) = 0 := cI_f (fun ⟨d, h0, h1, _⟩ => by omega)
  have k := lpm_danger (nn := nn) hM hG hs n.toNat 0 (by omega) (by omega)
  rw [e] at k
  refine V_iconst (Y := mX6_isDanger) (pc := 0) dX6_isDanger_0 ?_
  refine V_istore_n (Y := mX6_isDanger) (pc := 1) dX6_isDanger_1 rfl ?_
  refine V_iconst (Y := mX6_isDanger) (pc := 2) dX6_isDanger_2 ?_
  refine V_istore_n (Y := mX6_isDanger) (pc := 3) dX6_isDanger_3 rfl ?_
  exact k
set_option maxRecDepth 100000 in
theorem lpm_isEnd {s : Int} {a b : Nat} (hM : MS w n now ca po fo rs) (hn : 2 ≤ n ∧ n ≤ 7) (hs : isS n s) (ha : a < 2 ^ 31) (hb : b < 2 ^ 31) {r : Prop} (hr : r ↔ ∀ e : Int, 0 ≤ e → e < n → enC a b s e) : ∀ (m : Nat) (i : Int), 0 ≤ i → i + m = n →
    V mX6_isEnd (rm 2) (pR (vI (cI r)) nn w) 6 [some (.ref 99), some (vI s), some (vI (a : Int)), some (vI (b : Int)), some (vI (cI (∀ e : Int, 0 ≤ e → e < i → enC a b s e))), some (vI i)] [] nn w 0 0 := by
  obtain ⟨f, ⟨qt, ty, a0, sp, tk, vl, mn, fd, sv, ho⟩, hb0, hB⟩ := hM
  have e0 : f (0 : Int).toNat = n := hB.1.1.1
  have hp := p3_le n.toNat (by omega)
  intro m
  induction m with
  | zero =>
    intro i hi him
    have hin : i = n := by omega
    subst hin
    refine V_iload (Y := mX6_isEnd) (pc := 6) dX6_isEnd_6 rfl ?_
    refine V_aload_n (Y := mX6_isEnd) (pc := 8) dX6_isEnd_8 rfl ?_
    apply V_get (Y := mX6_isEnd) (pc := 9) dX6_isEnd_9 fl_X6_7
    · assumption
    · rfl
    refine V_iconst (Y := mX6_isEnd) (pc := 12) dX6_isEnd_12 ?_
    apply V_iald (Y := mX6_isEnd) (pc := 13) dX6_isEnd_13
    · assumption
    · exact ⟨by omega, by omega⟩
    · omega
    rw [e0]
    refine V_icmp_ge (tgt := 72) (Y := mX6_isEnd) (pc := 14) dX6_isEnd_14 (by decide) ⟨by omega, by omega⟩ ⟨by omega, by omega⟩ (fun h_14 => ?_) (fun h_14 => absurd h_14 (by omega))
    refine V_iload (Y := mX6_isEnd) (pc := 72) dX6_isEnd_72 rfl ?_
    refine V_zret (ty := .boolean) (Y := mX6_isEnd) (pc := 74) dX6_isEnd_74 rfl (nrC _) (Nat.le_of_ble_eq_true rfl) (Nat.le_of_ble_eq_true rfl) ?_
    exact pR_I (cI_congr hr.symm)
  | succ m ih =>
    intro i hi him
    have k := ih (i + 1) (by omega) (by omega)
    have hg := dg_rng s i.toNat
    have hiff : (∀ e : Int, 0 ≤ e → e < i + 1 → enC a b s e) ↔ ((∀ e : Int, 0 ≤ e → e < i → enC a b s e) ∧ enC a b s i) :=
      ⟨fun h => ⟨fun e h0 h1 => h e h0 (by omega), h i hi (by omega)⟩, fun h e h0 h1 => by
        by_cases he : e = i
        · subst he; exact h.2
        · exact h.1 e h0 (by omega)⟩
    rw [cI_congr hiff] at k
    have K : ∀ z : Int, zP z ((∀ e : Int, 0 ≤ e → e < i → enC a b s e) ∧ enC a b s i) → V mX6_isEnd (rm 2) (pR (vI (cI r)) nn w) 6 [some (.ref 99), some (vI s), some (vI (a : Int)), some (vI (b : Int)), some (vI z), some (vI (i + 1))] [] nn w 0 0 := fun z hz => by rw [hz.eq]; exact k
    refine V_iload (Y := mX6_isEnd) (pc := 6) dX6_isEnd_6 rfl ?_
    refine V_aload_n (Y := mX6_isEnd) (pc := 8) dX6_isEnd_8 rfl ?_
    apply V_get (Y := mX6_isEnd) (pc := 9) dX6_isEnd_9 fl_X6_7
    · assumption
    · rfl
    refine V_iconst (Y := mX6_isEnd) (pc := 12) dX6_isEnd_12 ?_
    apply V_iald (Y := mX6_isEnd) (pc := 13) dX6_isEnd_13
    · assumption
    · exact ⟨by omega, by omega⟩
    · omega
    rw [e0]
    refine V_icmp_ge (tgt := 72) (Y := mX6_isEnd) (pc := 14) dX6_isEnd_14 (by decide) ⟨by omega, by omega⟩ ⟨by omega, by omega⟩ (fun h_14 => absurd h_14 (by omega)) (fun h_14 => ?_)
    refine V_iload (Y := mX6_isEnd) (pc := 17) dX6_isEnd_17 rfl ?_
    refine V_if_eq (tgt := 63) (Y := mX6_isEnd) (pc := 19) dX6_isEnd_19 (by decide) (cI_R _) (fun h_19 => ?_) (fun h_19 => ?_)
    · refine V_iconst (Y := mX6_isEnd) (pc := 63) dX6_isEnd_63 ?_
      refine V_istore (Y := mX6_isEnd) (pc := 64) dX6_isEnd_64 rfl ?_
      refine V_iinc (Y := mX6_isEnd) (pc := 66) dX6_isEnd_66 rfl rfl ?_
      refine V_goto (tgt := 6) (Y := mX6_isEnd) (pc := 69) dX6_isEnd_69 (by decide) ?_
      first
        | exact K _ (zP.f (fun q => cI_0.mp h_19 q.1))
        | exact K _ (zP.t ⟨cI_n h_19, fun q => absurd q h_28, fun q => absurd q h_47⟩)
        | exact K _ (zP.t ⟨cI_n h_19, fun q => absurd q h_28, fun q => h_56⟩)
        | exact K _ (zP.t ⟨cI_n h_19, fun q => h_38, fun q => absurd q h_47⟩)
        | exact K _ (zP.t ⟨cI_n h_19, fun q => h_38, fun q => h_56⟩)
        | exact K _ (zP.f (fun q => h_38 (q.2.1 h_28)))
        | exact K _ (zP.f (fun q => h_56 (q.2.2 h_47)))
    · refine V_iload_n (Y := mX6_isEnd) (pc := 22) dX6_isEnd_22 rfl ?_
      refine V_iload (Y := mX6_isEnd) (pc := 23) dX6_isEnd_23 rfl ?_
      refine V_ishr (Y := mX6_isEnd) (pc := 25) dX6_isEnd_25 (rfl) ?_
      refine V_iconst (Y := mX6_isEnd) (pc := 26) dX6_isEnd_26 ?_
      refine V_iand (Y := mX6_isEnd) (pc := 27) dX6_isEnd_27 (bitB (by omega) (by omega) ha) ?_
      refine V_if_eqB (tgt := 41) (Y := mX6_isEnd) (pc := 28) dX6_isEnd_28 (by decide) (fun h_28 => ?_) (fun h_28 => ?_)
      · refine V_iload_n (Y := mX6_isEnd) (pc := 41) dX6_isEnd_41 rfl ?_
        refine V_iload (Y := mX6_isEnd) (pc := 42) dX6_isEnd_42 rfl ?_
        refine V_ishr (Y := mX6_isEnd) (pc := 44) dX6_isEnd_44 (rfl) ?_
        refine V_iconst (Y := mX6_isEnd) (pc := 45) dX6_isEnd_45 ?_
        refine V_iand (Y := mX6_isEnd) (pc := 46) dX6_isEnd_46 (bitB (by omega) (by omega) hb) ?_
        refine V_if_eqB (tgt := 59) (Y := mX6_isEnd) (pc := 47) dX6_isEnd_47 (by decide) (fun h_47 => ?_) (fun h_47 => ?_)
        · refine V_iconst (Y := mX6_isEnd) (pc := 59) dX6_isEnd_59 ?_
          refine V_goto (tgt := 64) (Y := mX6_isEnd) (pc := 60) dX6_isEnd_60 (by decide) ?_
          refine V_istore (Y := mX6_isEnd) (pc := 64) dX6_isEnd_64 rfl ?_
          refine V_iinc (Y := mX6_isEnd) (pc := 66) dX6_isEnd_66 rfl rfl ?_
          refine V_goto (tgt := 6) (Y := mX6_isEnd) (pc := 69) dX6_isEnd_69 (by decide) ?_
          first
            | exact K _ (zP.f (fun q => cI_0.mp h_19 q.1))
            | exact K _ (zP.t ⟨cI_n h_19, fun q => absurd q h_28, fun q => absurd q h_47⟩)
            | exact K _ (zP.t ⟨cI_n h_19, fun q => absurd q h_28, fun q => h_56⟩)
            | exact K _ (zP.t ⟨cI_n h_19, fun q => h_38, fun q => absurd q h_47⟩)
            | exact K _ (zP.t ⟨cI_n h_19, fun q => h_38, fun q => h_56⟩)
            | exact K _ (zP.f (fun q => h_38 (q.2.1 h_28)))
            | exact K _ (zP.f (fun q => h_56 (q.2.2 h_47)))
        · refine V_iload_n (Y := mX6_isEnd) (pc := 50) dX6_isEnd_50 rfl ?_
          refine V_iload (Y := mX6_isEnd) (pc := 51) dX6_isEnd_51 rfl ?_
          apply V_sR (Y := mX6_isEnd) (pc := 53) dX6_isEnd_53 ok_X6_outIn os_X6_outIn ln_X6_64 (cm_outIn (s := s) (d := i) hs.1 ⟨by omega, by omega⟩ ⟨by omega, by omega⟩)
          · rfl
          · rfl
          · rfl
          refine V_if_ne (tgt := 63) (Y := mX6_isEnd) (pc := 56) dX6_isEnd_56 (by decide) ⟨by omega, by omega⟩ (fun h_56 => ?_) (fun h_56 => ?_)
          · refine V_iconst (Y := mX6_isEnd) (pc := 63) dX6_isEnd_63 ?_
            refine V_istore (Y := mX6_isEnd) (pc := 64) dX6_isEnd_64 rfl ?_
            refine V_iinc (Y := mX6_isEnd) (pc := 66) dX6_isEnd_66 rfl rfl ?_
            refine V_goto (tgt := 6) (Y := mX6_isEnd) (pc := 69) dX6_isEnd_69 (by decide) ?_
            first
              | exact K _ (zP.f (fun q => cI_0.mp h_19 q.1))
              | exact K _ (zP.t ⟨cI_n h_19, fun q => absurd q h_28, fun q => absurd q h_47⟩)
              | exact K _ (zP.t ⟨cI_n h_19, fun q => absurd q h_28, fun q => h_56⟩)
              | exact K _ (zP.t ⟨cI_n h_19, fun q => h_38, fun q => absurd q h_47⟩)
              | exact K _ (zP.t ⟨cI_n h_19, fun q => h_38, fun q => h_56⟩)
              | exact K _ (zP.f (fun q => h_38 (q.2.1 h_28)))
              | exact K _ (zP.f (fun q => h_56 (q.2.2 h_47)))
          · refine V_iconst (Y := mX6_isEnd) (pc := 59) dX6_isEnd_59 ?_
            refine V_goto (tgt := 64) (Y := mX6_isEnd) (pc := 60) dX6_isEnd_60 (by decide) ?_
            refine V_istore (Y := mX6_isEnd) (pc := 64) dX6_isEnd_64 rfl ?_
            refine V_iinc (Y := mX6_isEnd) (pc := 66) dX6_isEnd_66 rfl rfl ?_
            refine V_goto (tgt := 6) (Y := mX6_isEnd) (pc := 69) dX6_isEnd_69 (by decide) ?_
            first
              | exact K _ (zP.f (fun q => cI_0.mp h_19 q.1))
              | exact K _ (zP.t ⟨cI_n h_19, fun q => absurd q h_28, fun q => absurd q h_47⟩)
              | exact K _ (zP.t ⟨cI_n h_19, fun q => absurd q h_28, fun q => h_56⟩)
              | exact K _ (zP.t ⟨cI_n h_19, fun q => h_38, fun q => absurd q h_47⟩)
              | exact K _ (zP.t ⟨cI_n h_19, fun q => h_38, fun q => h_56⟩)
              | exact K _ (zP.f (fun q => h_38 (q.2.1 h_28)))
              | exact K _ (zP.f (fun q => h_56 (q.2.2 h_47)))
      · refine V_iload_n (Y := mX6_isEnd) (pc := 31) dX6_isEnd_31 rfl ?_
        refine V_iload (Y := mX6_isEnd) (pc := 32) dX6_isEnd_32 rfl ?_
        apply V_sR (Y := mX6_isEnd) (pc := 34) dX6_isEnd_34 ok_X6_outIn os_X6_outIn ln_X6_64 (cm_outIn (s := s) (d := i) hs.1 ⟨by omega, by omega⟩ ⟨by omega, by omega⟩)
        · rfl
        · rfl
        · rfl
        refine V_iconst (Y := mX6_isEnd) (pc := 37) dX6_isEnd_37 ?_
        refine V_icmp_ne (tgt := 63) (Y := mX6_isEnd) (pc := 38) dX6_isEnd_38 (by decide) ⟨by omega, by omega⟩ ⟨by omega, by omega⟩ (fun h_38 => ?_) (fun h_38 => ?_)
        · refine V_iconst (Y := mX6_isEnd) (pc := 63) dX6_isEnd_63 ?_
          refine V_istore (Y := mX6_isEnd) (pc := 64) dX6_isEnd_64 rfl ?_
          refine V_iinc (Y := mX6_isEnd) (pc := 66) dX6_isEnd_66 rfl rfl ?_
          refine V_goto (tgt := 6) (Y := mX6_isEnd) (pc := 69) dX6_isEnd_69 (by decide) ?_
          first
            | exact K _ (zP.f (fun q => cI_0.mp h_19 q.1))
            | exact K _ (zP.t ⟨cI_n h_19, fun q => absurd q h_28, fun q => absurd q h_47⟩)
            | exact K _ (zP.t ⟨cI_n h_19, fun q => absurd q h_28, fun q => h_56⟩)
            | exact K _ (zP.t ⟨cI_n h_19, fun q => h_38, fun q => absurd q h_47⟩)
            | exact K _ (zP.t ⟨cI_n h_19, fun q => h_38, fun q => h_56⟩)
            | exact K _ (zP.f (fun q => h_38 (q.2.1 h_28)))
            | exact K _ (zP.f (fun q => h_56 (q.2.2 h_47)))
        · refine V_iload_n (Y := mX6_isEnd) (pc := 41) dX6_isEnd_41 rfl ?_
          refine V_iload (Y := mX6_isEnd) (pc := 42) dX6_isEnd_42 rfl ?_
          refine V_ishr (Y := mX6_isEnd) (pc := 44) dX6_isEnd_44 (rfl) ?_
          refine V_iconst (Y := mX6_isEnd) (pc := 45) dX6_isEnd_45 ?_
          refine V_iand (Y := mX6_isEnd) (pc := 46) dX6_isEnd_46 (bitB (by omega) (by omega) hb) ?_
          refine V_if_eqB (tgt := 59) (Y := mX6_isEnd) (pc := 47) dX6_isEnd_47 (by decide) (fun h_47 => ?_) (fun h_47 => ?_)
          · refine V_iconst (Y := mX6_isEnd) (pc := 59) dX6_isEnd_59 ?_
            refine V_goto (tgt := 64) (Y := mX6_isEnd) (pc := 60) dX6_isEnd_60 (by decide) ?_
            refine V_istore (Y := mX6_isEnd) (pc := 64) dX6_isEnd_64 rfl ?_
            refine V_iinc (Y := mX6_isEnd) (pc := 66) dX6_isEnd_66 rfl rfl ?_
            refine V_goto (tgt := 6) (Y := mX6_isEnd) (pc := 69) dX6_isEnd_69 (by decide) ?_
            first
              | exact K _ (zP.f (fun q => cI_0.mp h_19 q.1))
              | exact K _ (zP.t ⟨cI_n h_19, fun q => absurd q h_28, fun q => absurd q h_47⟩)
              | exact K _ (zP.t ⟨cI_n h_19, fun q => absurd q h_28, fun q => h_56⟩)
              | exact K _ (zP.t ⟨cI_n h_19, fun q => h_38, fun q => absurd q h_47⟩)
              | exact K _ (zP.t ⟨cI_n h_19, fun q => h_38, fun q => h_56⟩)
              | exact K _ (zP.f (fun q => h_38 (q.2.1 h_28)))
              | exact K _ (zP.f (fun q => h_56 (q.2.2 h_47)))
          · refine V_iload_n (Y := mX6_isEnd) (pc := 50) dX6_isEnd_50 rfl ?_
            refine V_iload (Y := mX6_isEnd) (pc := 51) dX6_isEnd_51 rfl ?_
            apply V_sR (Y := mX6_isEnd) (pc := 53) dX6_isEnd_53 ok_X6_outIn os_X6_outIn ln_X6_64 (cm_outIn (s := s) (d := i) hs.1 ⟨by omega, by omega⟩ ⟨by omega, by omega⟩)
            · rfl
            · rfl
            · rfl
            refine V_if_ne (tgt := 63) (Y := mX6_isEnd) (pc := 56) dX6_isEnd_56 (by decide) ⟨by omega, by omega⟩ (fun h_56 => ?_) (fun h_56 => ?_)
            · refine V_iconst (Y := mX6_isEnd) (pc := 63) dX6_isEnd_63 ?_
              refine V_istore (Y := mX6_isEnd) (pc := 64) dX6_isEnd_64 rfl ?_
              refine V_iinc (Y := mX6_isEnd) (pc := 66) dX6_isEnd_66 rfl rfl ?_
              refine V_goto (tgt := 6) (Y := mX6_isEnd) (pc := 69) dX6_isEnd_69 (by decide) ?_
              first
                | exact K _ (zP.f (fun q => cI_0.mp h_19 q.1))
                | exact K _ (zP.t ⟨cI_n h_19, fun q => absurd q h_28, fun q => absurd q h_47⟩)
                | exact K _ (zP.t ⟨cI_n h_19, fun q => absurd q h_28, fun q => h_56⟩)
                | exact K _ (zP.t ⟨cI_n h_19, fun q => h_38, fun q => absurd q h_47⟩)
                | exact K _ (zP.t ⟨cI_n h_19, fun q => h_38, fun q => h_56⟩)
                | exact K _ (zP.f (fun q => h_38 (q.2.1 h_28)))
                | exact K _ (zP.f (fun q => h_56 (q.2.2 h_47)))
            · refine V_iconst (Y := mX6_isEnd) (pc := 59) dX6_isEnd_59 ?_
              refine V_goto (tgt := 64) (Y := mX6_isEnd) (pc := 60) dX6_isEnd_60 (by decide) ?_
              refine V_istore (Y := mX6_isEnd) (pc := 64) dX6_isEnd_64 rfl ?_
              refine V_iinc (Y := mX6_isEnd) (pc := 66) dX6_isEnd_66 rfl rfl ?_
              refine V_goto (tgt := 6) (Y := mX6_isEnd) (pc := 69) dX6_isEnd_69 (by decide) ?_
              first
                | exact K _ (zP.f (fun q => cI_0.mp h_19 q.1))
                | exact K _ (zP.t ⟨cI_n h_19, fun q => absurd q h_28, fun q => absurd q h_47⟩)
                | exact K _ (zP.t ⟨cI_n h_19, fun q => absurd q h_28, fun q => h_56⟩)
                | exact K _ (zP.t ⟨cI_n h_19, fun q => h_38, fun q => absurd q h_47⟩)
                | exact K _ (zP.t ⟨cI_n h_19, fun q => h_38, fun q => h_56⟩)
                | exact K _ (zP.f (fun q => h_38 (q.2.1 h_28)))
                | exact K _ (zP.f (fun q => h_56 (q.2.2 h_47)))
set_option maxRecDepth 100000 in
theorem cm_isEnd {s : Int} {a b : Nat} (hM : MS w n now ca po fo rs) (hn : 2 ≤ n ∧ n ≤ 7) (hs : isS n s) (ha : a < 2 ^ n.toNat) (hb : b < 2 ^ n.toNat) : Ctr mX6_isEnd (rm 2) [.ref 99, vI s, vI (a : Int), vI (b : Int)] nn w (pR (vI (cI (goalP a b s))) nn w) := by
  have h31 : (2 : Nat) ^ n.toNat ≤ 2 ^ 7 := Nat.pow_le_pow_right (by decide) (by omega)
  refine Ctr_of (lv := [some (.ref 99), some (vI s), some (vI (a : Int)), some (vI (b : Int)), none, none]) (by decide +kernel) rfl rfl ?_
  have k := lpm_isEnd (nn := nn) hM hn hs (by omega) (by omega) (goal_iff ⟨by omega, by omega⟩ ha hb s) n.toNat 0 (by omega) (by omega)
  have e : cI (∀ e : Int, 0 ≤ e → e < 0 → enC a b s e) = 1 := cI_t (fun e h0 h1 => by omega)
  rw [e] at k
  refine V_iconst (Y := mX6_isEnd) (pc := 0) dX6_isEnd_0 ?_
  refine V_istore (Y := mX6_isEnd) (pc := 1) dX6_isEnd_1 rfl ?_
  refine V_iconst (Y := mX6_isEnd) (pc := 3) dX6_isEnd_3 ?_
  refine V_istore (Y := mX6_isEnd) (pc := 4) dX6_isEnd_4 rfl ?_
  exact k
set_option maxRecDepth 100000 in
theorem lpm_sumBy {v s : Int} (hM : MS w n now ca po fo rs) (hn : 2 ≤ n ∧ n ≤ 7) (hv : isS n v) (hs : isS n s) : ∀ (m : Nat) (i : Int), 0 ≤ i → i + m = n →
    V mX6_sumBy (rm 2) (pR (vI (sumW v s 7 % 3)) nn w) 5 [some (.ref 99), some (vI v), some (vI s), some (vI (sumW v s i.toNat)), some (vI i)] [] nn w 0 0 := by
  obtain ⟨f, ⟨qt, ty, a0, sp, tk, vl, mn, fd, sv, ho⟩, hb0, hB⟩ := hM
  have e0 : f (0 : Int).toNat = n := hB.1.1.1
  have hp := p3_le n.toNat (by omega)
  intro m
  induction m with
  | zero =>
    intro i hi him
    have hr := sumW_rng v s i.toNat
    have e7 := sumW_n (v := v) ⟨by omega, by omega⟩ hs 7 (by omega)
    refine V_iload (Y := mX6_sumBy) (pc := 5) dX6_sumBy_5 rfl ?_
    refine V_aload_n (Y := mX6_sumBy) (pc := 7) dX6_sumBy_7 rfl ?_
    apply V_get (Y := mX6_sumBy) (pc := 8) dX6_sumBy_8 fl_X6_7
    · assumption
    · rfl
    refine V_iconst (Y := mX6_sumBy) (pc := 11) dX6_sumBy_11 ?_
    apply V_iald (Y := mX6_sumBy) (pc := 12) dX6_sumBy_12
    · assumption
    · exact ⟨by omega, by omega⟩
    · omega
    rw [e0]
    refine V_icmp_ge (tgt := 38) (Y := mX6_sumBy) (pc := 13) dX6_sumBy_13 (by decide) ⟨by omega, by omega⟩ ⟨by omega, by omega⟩ (fun h_13 => ?_) (fun h_13 => absurd h_13 (by omega))
    refine V_iload_n (Y := mX6_sumBy) (pc := 38) dX6_sumBy_38 rfl ?_
    refine V_iconst (Y := mX6_sumBy) (pc := 39) dX6_sumBy_39 ?_
    refine V_irem (Y := mX6_sumBy) (pc := 40) dX6_sumBy_40 ⟨by omega, by omega⟩ (by omega) ⟨by decide, by decide⟩ (by decide) ?_
    refine V_iret (Y := mX6_sumBy) (pc := 41) dX6_sumBy_41 rfl (Nat.le_of_ble_eq_true rfl) (Nat.le_of_ble_eq_true rfl) ?_
    exact pR_I (by rw [e7, show i = n by omega])
  | succ m ih =>
    intro i hi him
    have k := ih (i + 1) (by omega) (by omega)
    rw [show (i + 1).toNat = i.toNat + 1 by omega, sumW] at k
    refine V_iload (Y := mX6_sumBy) (pc := 5) dX6_sumBy_5 rfl ?_
    refine V_aload_n (Y := mX6_sumBy) (pc := 7) dX6_sumBy_7 rfl ?_
    apply V_get (Y := mX6_sumBy) (pc := 8) dX6_sumBy_8 fl_X6_7
    · assumption
    · rfl
    refine V_iconst (Y := mX6_sumBy) (pc := 11) dX6_sumBy_11 ?_
    apply V_iald (Y := mX6_sumBy) (pc := 12) dX6_sumBy_12
    · assumption
    · exact ⟨by omega, by omega⟩
    · omega
    rw [e0]
    refine V_icmp_ge (tgt := 38) (Y := mX6_sumBy) (pc := 13) dX6_sumBy_13 (by decide) ⟨by omega, by omega⟩ ⟨by omega, by omega⟩ (fun h_13 => absurd h_13 (by omega)) (fun h_13 => ?_)
    refine V_iload_n (Y := mX6_sumBy) (pc := 16) dX6_sumBy_16 rfl ?_
    refine V_iload_n (Y := mX6_sumBy) (pc := 17) dX6_sumBy_17 rfl ?_
    refine V_iload (Y := mX6_sumBy) (pc := 18) dX6_sumBy_18 rfl ?_
    apply V_sR (Y := mX6_sumBy) (pc := 20) dX6_sumBy_20 ok_X6_outIn os_X6_outIn ln_X6_64 (cm_outIn (s := v) (d := i) hv.1 ⟨by omega, by omega⟩ ⟨by omega, by omega⟩)
    · rfl
    · rfl
    · rfl
    refine V_iload_n (Y := mX6_sumBy) (pc := 23) dX6_sumBy_23 rfl ?_
    refine V_iload (Y := mX6_sumBy) (pc := 24) dX6_sumBy_24 rfl ?_
    apply V_sR (Y := mX6_sumBy) (pc := 26) dX6_sumBy_26 ok_X6_outIn os_X6_outIn ln_X6_64 (cm_outIn (s := s) (d := i) hs.1 ⟨by omega, by omega⟩ ⟨by omega, by omega⟩)
    · rfl
    · rfl
    · rfl
    refine V_imul (Y := mX6_sumBy) (pc := 29) dX6_sumBy_29 ?_
    refine V_iadd (Y := mX6_sumBy) (pc := 30) dX6_sumBy_30 ?_
    refine V_istore_n (Y := mX6_sumBy) (pc := 31) dX6_sumBy_31 rfl ?_
    refine V_iinc (Y := mX6_sumBy) (pc := 32) dX6_sumBy_32 rfl rfl ?_
    refine V_goto (tgt := 5) (Y := mX6_sumBy) (pc := 35) dX6_sumBy_35 (by decide) ?_
    exact k
set_option maxRecDepth 100000 in
theorem cm_sumBy {v s : Int} (hM : MS w n now ca po fo rs) (hn : 2 ≤ n ∧ n ≤ 7) (hv : isS n v) (hs : isS n s) : Ctr mX6_sumBy (rm 2) [.ref 99, vI v, vI s] nn w (pR (vI (sumW v s 7 % 3)) nn w) := by
  refine Ctr_of (lv := [some (.ref 99), some (vI v), some (vI s), none, none]) (by decide +kernel) rfl rfl ?_
  refine V_iconst (Y := mX6_sumBy) (pc := 0) dX6_sumBy_0 ?_
  refine V_istore_n (Y := mX6_sumBy) (pc := 1) dX6_sumBy_1 rfl ?_
  refine V_iconst (Y := mX6_sumBy) (pc := 2) dX6_sumBy_2 ?_
  refine V_istore (Y := mX6_sumBy) (pc := 3) dX6_sumBy_3 rfl ?_
  exact lpm_sumBy hM hn hv hs n.toNat 0 (by omega) (by omega)
end MOD
section MOD2
variable {nn : Nat} {w : vWd} {n now : Int} {ca po fo : Nat} {rs : Nat → List Int} {qt : Int} {rb rn rf : Int}
set_option maxRecDepth 100000 in
theorem cm_danger {s : Int} (hK : MK w qt (n, now, ca, po, fo, rs) rb rn rf) (hG : vGood (n, now, ca, po, fo, rs)) (hs : inR s) : Ctr mX6_danger (rm 3) [.ref 99, vI s] nn w (pI (fun r w' => r = fDanger (n, now, ca, po, fo, rs) s ∧ MK w' qt (n, now, ca, po, fo, rs) (tq qt (-2) r rb) (tq qt (-3) r rn) (tq qt (-4) r rf) ∧ frB w w') nn) := by
  refine Ctr_of (lv := [some (.ref 99), some (vI s)]) (by decide +kernel) rfl rfl ?_
  have hM := hK.ms
  have hK0 := hK
  obtain ⟨⟨ty, a0, sp, tk, vl, mn, fd, sv, ho⟩, ⟨f, hb0, hB⟩, hr, hq⟩ := hK
  have hn := hG.un.1
  refine V_aload_n (Y := mX6_danger) (pc := 0) dX6_danger_0 rfl ?_
  refine V_iload_n (Y := mX6_danger) (pc := 1) dX6_danger_1 rfl ?_
  apply V_vR (Y := mX6_danger) (pc := 2) dX6_danger_2 ok_X6_isState ov_X6_isState ln_X6_186 (cm_isState (s := s) hM hn hs)
  · assumption
  · rfl
  · rfl
  · rfl
  · rfl
  · rfl
  refine V_if_neB (tgt := 15) (Y := mX6_danger) (pc := 5) dX6_danger_5 (by decide) (fun h_5 => ?_) (fun h_5 => ?_)
  · refine V_aload_n (Y := mX6_danger) (pc := 15) dX6_danger_15 rfl ?_
    refine V_iload_n (Y := mX6_danger) (pc := 16) dX6_danger_16 rfl ?_
    apply V_vR (Y := mX6_danger) (pc := 17) dX6_danger_17 ok_X6_isDanger ov_X6_isDanger ln_X6_189 (cm_isDanger (s := s) hM hG h_5)
    · assumption
    · rfl
    · rfl
    · rfl
    · rfl
    · rfl
    refine V_if_eqB (tgt := 27) (Y := mX6_danger) (pc := 20) dX6_danger_20 (by decide) (fun h_20 => ?_) (fun h_20 => ?_)
    · refine V_iconst (Y := mX6_danger) (pc := 27) dX6_danger_27 ?_
      refine V_iret (Y := mX6_danger) (pc := 28) dX6_danger_28 rfl (Nat.le_of_ble_eq_true rfl) (Nat.le_of_ble_eq_true rfl) ?_
      first
        | (rw [show fDanger (n, now, ca, po, fo, rs) s = -2 from if_pos h_5]
           exact pI_of ⟨rfl, ⟨⟨_, _, _, _, _, _, _, _, (f1 _ (by omega)).trans ho⟩, ⟨f, (f1 _ (by omega)).trans hb0, hB⟩, g1, hq⟩, fun j a b => f1 j b⟩)
        | (rw [show fDanger (n, now, ca, po, fo, rs) s = bI (dgBits n po fo rs s ≠ 0) from if_neg (fun q => q h_5)]
           first
             | (rw [bI_t h_20]; exact pI_of ⟨rfl, hK0.tq0 (by omega), frB.refl w⟩)
             | (rw [bI_f h_20]; exact pI_of ⟨rfl, hK0.tq0 (by omega), frB.refl w⟩))
    · refine V_iconst (Y := mX6_danger) (pc := 23) dX6_danger_23 ?_
      refine V_goto (tgt := 28) (Y := mX6_danger) (pc := 24) dX6_danger_24 (by decide) ?_
      refine V_iret (Y := mX6_danger) (pc := 28) dX6_danger_28 rfl (Nat.le_of_ble_eq_true rfl) (Nat.le_of_ble_eq_true rfl) ?_
      first
        | (rw [show fDanger (n, now, ca, po, fo, rs) s = -2 from if_pos h_5]
           exact pI_of ⟨rfl, ⟨⟨_, _, _, _, _, _, _, _, (f1 _ (by omega)).trans ho⟩, ⟨f, (f1 _ (by omega)).trans hb0, hB⟩, g1, hq⟩, fun j a b => f1 j b⟩)
        | (rw [show fDanger (n, now, ca, po, fo, rs) s = bI (dgBits n po fo rs s ≠ 0) from if_neg (fun q => q h_5)]
           first
             | (rw [bI_t h_20]; exact pI_of ⟨rfl, hK0.tq0 (by omega), frB.refl w⟩)
             | (rw [bI_f h_20]; exact pI_of ⟨rfl, hK0.tq0 (by omega), frB.refl w⟩))
  · refine V_aload_n (Y := mX6_danger) (pc := 8) dX6_danger_8 rfl ?_
    apply V_vI (Y := mX6_danger) (pc := 9) dX6_danger_9 ok_X6_bad ov_X6_bad ln_X6_79 (cm_bad ho hr hq)
    · assumption
    · rfl
    · rfl
    · rfl
    · rfl
    · rfl
    rintro z_9 w_9 ⟨hz2, g1, f1⟩
    subst hz2
    refine V_goto (tgt := 28) (Y := mX6_danger) (pc := 12) dX6_danger_12 (by decide) ?_
    refine V_iret (Y := mX6_danger) (pc := 28) dX6_danger_28 rfl (Nat.le_of_ble_eq_true rfl) (Nat.le_of_ble_eq_true rfl) ?_
    first
      | (rw [show fDanger (n, now, ca, po, fo, rs) s = -2 from if_pos h_5]
         exact pI_of ⟨rfl, ⟨⟨_, _, _, _, _, _, _, _, (f1 _ (by omega)).trans ho⟩, ⟨f, (f1 _ (by omega)).trans hb0, hB⟩, g1, hq⟩, fun j a b => f1 j b⟩)
      | (rw [show fDanger (n, now, ca, po, fo, rs) s = bI (dgBits n po fo rs s ≠ 0) from if_neg (fun q => q h_5)]
         first
           | (rw [bI_t h_20]; exact pI_of ⟨rfl, hK0.tq0 (by omega), frB.refl w⟩)
           | (rw [bI_f h_20]; exact pI_of ⟨rfl, hK0.tq0 (by omega), frB.refl w⟩))
end MOD2
