/-! ===== DrawerWallModel: lays, reckons, next ===== -/
def LdM (w : vWd) (n : Int) (sp : Int → Int → Int) : Prop := ∃ ld : Nat → Int, w 107 = some (arI 15309 ld) ∧ ∀ s d : Int, isS n s → isD n d → ld (7 * s + d).toNat = sp s d
theorem LdM.keep {w w' : vWd} {n : Int} {sp : Int → Int → Int} (h : LdM w n sp) (h1 : w' 107 = w 107) : LdM w' n sp := by
  obtain ⟨ld, a, b⟩ := h; exact ⟨ld, h1.trans a, b⟩
def cntU (f : Nat → Int) : Nat → Nat
  | 0 => 0
  | m + 1 => cntU f m + (if f m = -1 then 1 else 0)
theorem cntU_le (f : Nat → Int) : ∀ m : Nat, cntU f m ≤ m
  | 0 => Nat.le_refl _
  | m + 1 => by have := cntU_le f m; rw [cntU]; split <;> omega
theorem cntU_mono {f g : Nat → Int} : ∀ m : Nat, (∀ i, i < m → g i = -1 → f i = -1) → cntU g m ≤ cntU f m
  | 0, _ => Nat.le_refl _
  | m + 1, h => by
    have ih := cntU_mono m (fun i hi => h i (by omega))
    have hm := h m (by omega)
    rw [cntU, cntU]
    by_cases hg : g m = -1
    · rw [if_pos hg, if_pos (hm hg)]; omega
    · rw [if_neg hg]; split <;> omega
theorem cntU_lt {f g : Nat → Int} {i0 : Nat} (hf : f i0 = -1) (hg : g i0 ≠ -1) : ∀ m : Nat, (∀ i, i < m → g i = -1 → f i = -1) → i0 < m → cntU g m < cntU f m
  | 0, _, h => by omega
  | m + 1, h, hi => by
    have hmm := cntU_mono m (fun i hi => h i (by omega))
    rw [cntU, cntU]
    by_cases hm : i0 = m
    · subst hm
      rw [if_pos hf, if_neg hg]; omega
    · have ih := cntU_lt hf hg m (fun i hi => h i (by omega)) (by omega)
      have h2 := h m (by omega)
      by_cases hgm : g m = -1
      · rw [if_pos hgm, if_pos (h2 hgm)]; omega
      · rw [if_neg hgm]; split <;> omega
/-- distances up to r -/
def RkI (n : Int) (sp : Int → Int → Int) (P G : Int → Prop) (r : Int) (g : Nat → Int) : Prop := ∀ s : Int, isS n s →
  (P s ∧ g s.toNat = -2) ∨ (¬ P s ∧ G s ∧ g s.toNat = 0) ∨ (¬ P s ∧ ¬ G s ∧ g s.toNat = -1 ∧ ∀ d : Int, isD n d → g (sp s d).toNat < 0 ∨ r ≤ g (sp s d).toNat) ∨
  (¬ P s ∧ ¬ G s ∧ (0 < g s.toNat ∧ g s.toNat ≤ r) ∧ (∃ d : Int, isD n d ∧ g (sp s d).toNat = g s.toNat - 1) ∧ ∀ d : Int, isD n d → g (sp s d).toNat < 0 ∨ g s.toNat - 1 ≤ g (sp s d).toNat)
def XrP (n : Int) (sp : Int → Int → Int) (r : Int) (g : Nat → Int) (s : Int) : Prop := g s.toNat = -1 ∧ ∃ d : Int, isD n d ∧ g (sp s d).toNat = r
theorem RkI.rng {n : Int} {sp : Int → Int → Int} {P G : Int → Prop} {r : Int} {g : Nat → Int} (h : RkI n sp P G r g) (hr : 0 ≤ r) {s : Int} (hs : isS n s) : -2 ≤ g s.toNat ∧ g s.toNat ≤ r := by
  rcases h s hs with ⟨-, q⟩ | ⟨-, -, q⟩ | ⟨-, -, q, -⟩ | ⟨-, -, q, -⟩ <;> omega
theorem RkI.stop {n : Int} {sp : Int → Int → Int} {P G : Int → Prop} {r : Int} {g : Nat → Int} (h : RkI n sp P G r g) (hr : 0 ≤ r) (hsp : spOK n (p3 n.toNat) sp) (hx : ∀ s : Int, isS n s → ¬ XrP n sp r g s) : IsFar n sp P G (fun s => g s.toNat) := fun s hs => by
  rcases h s hs with q | q | ⟨q1, q2, q3, q4⟩ | ⟨q1, q2, q3, q4, q5⟩
  · exact Or.inl q
  · exact Or.inr (Or.inl q)
  · refine Or.inr (Or.inr (Or.inl ⟨q1, q2, q3, fun d hd => ?_⟩))
    have hle := (h.rng hr (hsp s d hs hd)).2
    have hne : g (sp s d).toNat ≠ r := fun e => hx s hs ⟨q3, d, hd, e⟩
    have := q4 d hd
    show g (sp s d).toNat < 0
    omega
  · exact Or.inr (Or.inr (Or.inr ⟨q1, q2, q3.1, q4, q5⟩))
theorem RkI.next {n : Int} {sp : Int → Int → Int} {P G : Int → Prop} {r : Int} {g g' : Nat → Int} (h : RkI n sp P G r g) (hr : 0 ≤ r) (hsp : spOK n (p3 n.toNat) sp) (hy : ∀ s : Int, isS n s → XrP n sp r g s → g' s.toNat = r + 1) (hn : ∀ s : Int, isS n s → ¬ XrP n sp r g s → g' s.toNat = g s.toNat) : RkI n sp P G (r + 1) g' := fun s hs => by
  have hval : ∀ t : Int, isS n t → (g t.toNat = -1 ∧ g' t.toNat = r + 1) ∨ g' t.toNat = g t.toNat := fun t ht => by
    by_cases q : XrP n sp r g t
    · exact Or.inl ⟨q.1, hy t ht q⟩
    · exact Or.inr (hn t ht q)
  by_cases hx : XrP n sp r g s
  · have e := hy s hs hx
    obtain ⟨h1, d, hd, h2⟩ := hx
    rcases h s hs with ⟨-, q⟩ | ⟨-, -, q⟩ | ⟨q1, q2, q3, q4⟩ | ⟨-, -, q, -⟩
    · omega
    · omega
    · refine Or.inr (Or.inr (Or.inr ⟨q1, q2, by omega, ⟨d, hd, ?_⟩, fun e2 he2 => ?_⟩))
      · rcases hval _ (hsp s d hs hd) with v | v <;> omega
      · rcases hval _ (hsp s e2 hs he2) with v | v
        · omega
        · have := q4 e2 he2; omega
    · omega
  · have e := hn s hs hx
    rcases h s hs with ⟨q1, q2⟩ | ⟨q1, q2, q3⟩ | ⟨q1, q2, q3, q4⟩ | ⟨q1, q2, q3, ⟨d, hd, q4⟩, q5⟩
    · exact Or.inl ⟨q1, by omega⟩
    · exact Or.inr (Or.inl ⟨q1, q2, by omega⟩)
    · refine Or.inr (Or.inr (Or.inl ⟨q1, q2, by omega, fun d hd => ?_⟩))
      have hne : g (sp s d).toNat ≠ r := fun e => hx ⟨q3, d, hd, e⟩
      have := q4 d hd
      rcases hval _ (hsp s d hs hd) with v | v
      · omega
      · omega
    · refine Or.inr (Or.inr (Or.inr ⟨q1, q2, by omega, ⟨d, hd, ?_⟩, fun e2 he2 => ?_⟩))
      · rcases hval _ (hsp s d hs hd) with v | v <;> omega
      · have := q5 e2 he2
        rcases hval _ (hsp s e2 hs he2) with v | v <;> omega
section MOD
variable {nn : Nat} {w : vWd} {n now : Int} {ca po fo : Nat} {rs : Nat → List Int} {sp : Int → Int → Int} {P G : Int → Prop}
set_option maxRecDepth 100000 in
theorem lpm_lays2 {s : Int} {Q : vPost} (hM : MS w n now ca po fo rs) (hG : vGood (n, now, ca, po, fo, rs)) (hs : isS n s) (K : ∀ w' ld, w' 107 = some (arI 15309 ld) → (∀ j, j ≠ 107 → w' j = w j) → (∀ t d : Int, 0 ≤ t → t ≤ s → isD n d → ld (7 * t + d).toNat = spP ca rs t d) → V mX6_lays (rm 5) Q 2 [some (.ref 99), some (vI (s + 1)), none] [] nn w' 0 0) : ∀ (m : Nat) (d : Int) (w' : vWd) (ld : Nat → Int), 0 ≤ d → d + m = n → w' 107 = some (arI 15309 ld) → (∀ j, j ≠ 107 → w' j = w j) → (∀ t e : Int, 0 ≤ t → t < s → isD n e → ld (7 * t + e).toNat = spP ca rs t e) → (∀ e : Int, 0 ≤ e → e < d → ld (7 * s + e).toNat = spP ca rs s e) →
    V mX6_lays (rm 5) Q 12 [some (.ref 99), some (vI s), some (vI d)] [] nn w' 0 0 := by
  obtain ⟨hn, hnow, hca, hpo, hfo, hgd, hcv, hor, hsg, hpast⟩ := hG.un
  have hp := p3_le n.toNat (by omega)
  intro m
  induction m with
  | zero =>
    intro d w' ld hd hdm hl hf h1 h2
    have hM' := hM.keep (hf 99 (by omega)) (hf 100 (by omega))
    have k := K w' ld hl hf (fun t e t0 t1 he => by
      by_cases hts : t = s
      · subst hts; exact h2 e he.1 (by omega)
      · exact h1 t e t0 (by omega) he)
    obtain ⟨f, ⟨qt, ty, a0, sp0, tk, vl, mn, fd, sv, ho⟩, hb, hB⟩ := hM'
    have e0 : f (0 : Int).toNat = n := hB.1.1.1
    refine V_iload_n (Y := mX6_lays) (pc := 12) dX6_lays_12 rfl ?_
    refine V_aload_n (Y := mX6_lays) (pc := 13) dX6_lays_13 rfl ?_
    apply V_get (Y := mX6_lays) (pc := 14) dX6_lays_14 fl_X6_7
    · assumption
    · rfl
    refine V_iconst (Y := mX6_lays) (pc := 17) dX6_lays_17 ?_
    apply V_iald (Y := mX6_lays) (pc := 18) dX6_lays_18
    · assumption
    · exact ⟨by omega, by omega⟩
    · omega
    rw [e0]
    refine V_icmp_ge (tgt := 49) (Y := mX6_lays) (pc := 19) dX6_lays_19 (by decide) ⟨by omega, by omega⟩ ⟨by omega, by omega⟩ (fun h_19 => ?_) (fun h_19 => absurd h_19 (by omega))
    refine V_iinc (Y := mX6_lays) (pc := 49) dX6_lays_49 rfl rfl ?_
    refine V_goto (tgt := 2) (Y := mX6_lays) (pc := 52) dX6_lays_52 (by decide) ?_
    exact V_drop 2 k
  | succ m ih =>
    intro d w' ld hd hdm hl hf h1 h2
    have hM' := hM.keep (hf 99 (by omega)) (hf 100 (by omega))
    have hM0 := hM'
    obtain ⟨f, ⟨qt, ty, a0, sp0, tk, vl, mn, fd, sv, ho⟩, hb, hB⟩ := hM'
    have e0 : f (0 : Int).toNat = n := hB.1.1.1
    refine V_iload_n (Y := mX6_lays) (pc := 12) dX6_lays_12 rfl ?_
    refine V_aload_n (Y := mX6_lays) (pc := 13) dX6_lays_13 rfl ?_
    apply V_get (Y := mX6_lays) (pc := 14) dX6_lays_14 fl_X6_7
    · assumption
    · rfl
    refine V_iconst (Y := mX6_lays) (pc := 17) dX6_lays_17 ?_
    apply V_iald (Y := mX6_lays) (pc := 18) dX6_lays_18
    · assumption
    · exact ⟨by omega, by omega⟩
    · omega
    rw [e0]
    refine V_icmp_ge (tgt := 49) (Y := mX6_lays) (pc := 19) dX6_lays_19 (by decide) ⟨by omega, by omega⟩ ⟨by omega, by omega⟩ (fun h_19 => absurd h_19 (by omega)) (fun h_19 => ?_)
    refine V_aload_n (Y := mX6_lays) (pc := 22) dX6_lays_22 rfl ?_
    apply V_get (Y := mX6_lays) (pc := 23) dX6_lays_23 fl_X6_32
    · assumption
    · rfl
    refine V_bipush (Y := mX6_lays) (pc := 26) dX6_lays_26 ⟨by decide, by decide⟩ ?_
    refine V_iload_n (Y := mX6_lays) (pc := 28) dX6_lays_28 rfl ?_
    refine V_imul (Y := mX6_lays) (pc := 29) dX6_lays_29 ?_
    refine V_iload_n (Y := mX6_lays) (pc := 30) dX6_lays_30 rfl ?_
    refine V_iadd (Y := mX6_lays) (pc := 31) dX6_lays_31 ?_
    refine V_aload_n (Y := mX6_lays) (pc := 32) dX6_lays_32 rfl ?_
    refine V_iload_n (Y := mX6_lays) (pc := 33) dX6_lays_33 rfl ?_
    refine V_iload_n (Y := mX6_lays) (pc := 34) dX6_lays_34 rfl ?_
    refine V_aload_n (Y := mX6_lays) (pc := 35) dX6_lays_35 rfl ?_
    apply V_vR (Y := mX6_lays) (pc := 36) dX6_lays_36 ok_X6_allCords ov_X6_allCords ln_X6_176 (cm_allCords hM0)
    · assumption
    · rfl
    · rfl
    · rfl
    · rfl
    · rfl
    apply V_vR (Y := mX6_lays) (pc := 39) dX6_lays_39 ok_X6_pulled ov_X6_pulled ln_X6_179 (cm_pulledA (s := s) (d := d) hM0 hn hcv hca hs ⟨hd, by omega⟩)
    · assumption
    · rfl
    · rfl
    · rfl
    · rfl
    · rfl
    apply V_iastW (Y := mX6_lays) (pc := 42) dX6_lays_42
    · assumption
    · exact ⟨by omega, by omega⟩
    · omega
    intro w_42 h_42 f_42
    refine V_iinc (Y := mX6_lays) (pc := 43) dX6_lays_43 rfl rfl ?_
    refine V_goto (tgt := 12) (Y := mX6_lays) (pc := 46) dX6_lays_46 (by decide) ?_
    refine ih (d + 1) w_42 _ (by omega) (by omega) h_42 (fun j hj => (f_42 j hj).trans (hf j hj)) (fun t e t0 t1 he => ?_) (fun e e0 e1 => ?_)
    · rw [va_up_ne _ _ (by omega)]; exact h1 t e t0 t1 he
    · by_cases hed : e = d
      · subst hed; rw [va_up_self]
      · rw [va_up_ne _ _ (by omega)]; exact h2 e e0 (by omega)
set_option maxRecDepth 100000 in
theorem lpm_lays1 (hM : MS w n now ca po fo rs) (hG : vGood (n, now, ca, po, fo, rs)) : ∀ (m : Nat) (s : Int) (w' : vWd) (ld : Nat → Int), 0 ≤ s → s + m = p3 n.toNat → w' 107 = some (arI 15309 ld) → (∀ j, j ≠ 107 → w' j = w j) → (∀ t e : Int, 0 ≤ t → t < s → isD n e → ld (7 * t + e).toNat = spP ca rs t e) →
    V mX6_lays (rm 5) (pV (fun w' => LdM w' n (spP ca rs) ∧ ∀ j, j ≠ 107 → w' j = w j) nn) 2 [some (.ref 99), some (vI s), none] [] nn w' 0 0 := by
  have hn := hG.un.1
  have hp := p3_le n.toNat (by omega)
  intro m
  induction m with
  | zero =>
    intro s w' ld hs hsm hl hf h1
    have hM' := hM.keep (hf 99 (by omega)) (hf 100 (by omega))
    have hM0 := hM'
    obtain ⟨f, ⟨qt, ty, a0, sp0, tk, vl, mn, fd, sv, ho⟩, hb, hB⟩ := hM'
    refine V_iload_n (Y := mX6_lays) (pc := 2) dX6_lays_2 rfl ?_
    refine V_aload_n (Y := mX6_lays) (pc := 3) dX6_lays_3 rfl ?_
    apply V_vR (Y := mX6_lays) (pc := 4) dX6_lays_4 ok_X6_states ov_X6_states ln_X6_183 (cm_states hM0 hn)
    · assumption
    · rfl
    · rfl
    · rfl
    · rfl
    · rfl
    refine V_icmp_ge (tgt := 55) (Y := mX6_lays) (pc := 7) dX6_lays_7 (by decide) ⟨by omega, by omega⟩ ⟨by omega, by omega⟩ (fun h_7 => ?_) (fun h_7 => absurd h_7 (by omega))
    refine V_vret (Y := mX6_lays) (pc := 55) dX6_lays_55 rfl (Nat.le_of_ble_eq_true rfl) (Nat.le_of_ble_eq_true rfl) ?_
    exact pV_of ⟨⟨ld, hl, fun t d ht hd => h1 t d ht.1 (by omega) hd⟩, hf⟩
  | succ m ih =>
    intro s w' ld hs hsm hl hf h1
    have hM' := hM.keep (hf 99 (by omega)) (hf 100 (by omega))
    have hM0 := hM'
    obtain ⟨f, ⟨qt, ty, a0, sp0, tk, vl, mn, fd, sv, ho⟩, hb, hB⟩ := hM'
    refine V_iload_n (Y := mX6_lays) (pc := 2) dX6_lays_2 rfl ?_
    refine V_aload_n (Y := mX6_lays) (pc := 3) dX6_lays_3 rfl ?_
    apply V_vR (Y := mX6_lays) (pc := 4) dX6_lays_4 ok_X6_states ov_X6_states ln_X6_183 (cm_states hM0 hn)
    · assumption
    · rfl
    · rfl
    · rfl
    · rfl
    · rfl
    refine V_icmp_ge (tgt := 55) (Y := mX6_lays) (pc := 7) dX6_lays_7 (by decide) ⟨by omega, by omega⟩ ⟨by omega, by omega⟩ (fun h_7 => absurd h_7 (by omega)) (fun h_7 => ?_)
    refine V_iconst (Y := mX6_lays) (pc := 10) dX6_lays_10 ?_
    refine V_istore_n (Y := mX6_lays) (pc := 11) dX6_lays_11 rfl ?_
    exact lpm_lays2 (w := w') hM0 hG ⟨hs, by omega⟩ (fun w2 ld2 q1 q2 q3 => ih (s + 1) w2 ld2 (by omega) (by omega) q1 (fun j hj => (q2 j hj).trans (hf j hj)) (fun t e t0 t1 he => q3 t e t0 (by omega) he)) n.toNat 0 w' ld (by omega) (by omega) hl (fun _ _ => rfl) h1 (fun e e0 e1 => by omega)
set_option maxRecDepth 100000 in
theorem cm_lays {ld : Nat → Int} (hM : MS w n now ca po fo rs) (hG : vGood (n, now, ca, po, fo, rs)) (hl : w 107 = some (arI 15309 ld)) : Ctr mX6_lays (rm 5) [.ref 99] nn w (pV (fun w' => LdM w' n (spP ca rs) ∧ ∀ j, j ≠ 107 → w' j = w j) nn) := by
  refine Ctr_of (lv := [some (.ref 99), none, none]) (by decide +kernel) rfl rfl ?_
  have hp := p3_1 n.toNat
  refine V_iconst (Y := mX6_lays) (pc := 0) dX6_lays_0 ?_
  refine V_istore_n (Y := mX6_lays) (pc := 1) dX6_lays_1 rfl ?_
  exact lpm_lays1 hM hG (p3 n.toNat).toNat 0 w ld (by omega) (by omega) hl (fun _ _ => rfl) (fun t e t0 t1 he => by omega)
set_option maxRecDepth 100000 in
theorem lpm_rk4 {a b y r s d z : Int} {fr : Nat → Int} {w' : vWd} {Q : vPost} (hM : MS w' n now ca po fo rs) (hn : 2 ≤ n ∧ n ≤ 7) (hs : isS n s) (hd : 0 ≤ d ∧ d ≤ 7) (h8 : w' 108 = some (arI 2187 fr)) (hne : fr s.toNat ≠ -1) (hrg : inR (fr s.toNat)) (K : V mX6_reckons (rm 3) Q 153 [some (.ref 99), some (vI a), some (vI b), some (vI y), some (vI z), some (vI r), some (vI s), none] [] nn w' 0 0) :
    V mX6_reckons (rm 3) Q 88 [some (.ref 99), some (vI a), some (vI b), some (vI y), some (vI z), some (vI r), some (vI s), some (vI d)] [] nn w' 0 0 := by
  obtain ⟨f, ⟨qt, ty, a0, sp0, tk, vl, mn, fd, sv, ho⟩, hb, hB⟩ := hM
  have e0 : f (0 : Int).toNat = n := hB.1.1.1
  have hp := p3_le n.toNat (by omega)
  refine V_iload (Y := mX6_reckons) (pc := 88) dX6_reckons_88 rfl ?_
  refine V_aload_n (Y := mX6_reckons) (pc := 90) dX6_reckons_90 rfl ?_
  apply V_get (Y := mX6_reckons) (pc := 91) dX6_reckons_91 fl_X6_7
  · assumption
  · rfl
  refine V_iconst (Y := mX6_reckons) (pc := 94) dX6_reckons_94 ?_
  apply V_iald (Y := mX6_reckons) (pc := 95) dX6_reckons_95
  · assumption
  · exact ⟨by omega, by omega⟩
  · omega
  rw [e0]
  refine V_icmp_ge (tgt := 153) (Y := mX6_reckons) (pc := 96) dX6_reckons_96 (by decide) ⟨by omega, by omega⟩ ⟨by omega, by omega⟩ (fun h_96 => ?_) (fun h_96 => ?_)
  · exact V_drop 7 K
  · refine V_aload_n (Y := mX6_reckons) (pc := 99) dX6_reckons_99 rfl ?_
    apply V_get (Y := mX6_reckons) (pc := 100) dX6_reckons_100 fl_X6_35
    · assumption
    · rfl
    refine V_iload (Y := mX6_reckons) (pc := 103) dX6_reckons_103 rfl ?_
    apply V_iald (Y := mX6_reckons) (pc := 105) dX6_reckons_105
    · assumption
    · exact ⟨by omega, by omega⟩
    · omega
    refine V_iconst (Y := mX6_reckons) (pc := 106) dX6_reckons_106 ?_
    refine V_icmp_ne (tgt := 153) (Y := mX6_reckons) (pc := 107) dX6_reckons_107 (by decide) ⟨by omega, by omega⟩ ⟨by omega, by omega⟩ (fun h_107 => ?_) (fun h_107 => absurd h_107 (by omega))
    exact V_drop 7 K
set_option maxRecDepth 100000 in
theorem lpm_rk3 {a b y r s z : Int} {M : Prop} {fr : Nat → Int} {w' : vWd} {Q : vPost} (hM : MS w' n now ca po fo rs) (hn : 2 ≤ n ∧ n ≤ 7) (hsp : spOK n (p3 n.toNat) sp) (hL : LdM w' n sp) (hs : isS n s) (hr : 0 ≤ r ∧ r ≤ 2187) (h8 : w' 108 = some (arI 2187 fr)) (hrg : ∀ t : Int, isS n t → -2 ≤ fr t.toNat ∧ fr t.toNat ≤ r + 1) (hz : zP z M) (K : ∀ w'' fr' z', w'' 108 = some (arI 2187 fr') → (∀ j, j ≠ 108 → w'' j = w' j) → (∀ j : Nat, j ≠ s.toNat → fr' j = fr j) → (XrP n sp r fr s → fr' s.toNat = r + 1) → (¬ XrP n sp r fr s → fr' s.toNat = fr s.toNat) → zP z' (M ∨ XrP n sp r fr s) → V mX6_reckons (rm 3) Q 153 [some (.ref 99), some (vI a), some (vI b), some (vI y), some (vI z'), some (vI r), some (vI s), none] [] nn w'' 0 0) : ∀ (m : Nat) (d : Int), 0 ≤ d → d + m = n → (∀ e : Int, 0 ≤ e → e < d → fr (sp s e).toNat ≠ r) →
    V mX6_reckons (rm 3) Q 88 [some (.ref 99), some (vI a), some (vI b), some (vI y), some (vI z), some (vI r), some (vI s), some (vI d)] [] nn w' 0 0 := by
  have hM0 := hM
  obtain ⟨f, ⟨qt, ty, a0, sp0, tk, vl, mn, fd, sv, ho⟩, hb, hB⟩ := hM
  have e0 : f (0 : Int).toNat = n := hB.1.1.1
  have hp := p3_le n.toNat (by omega)
  have hrs := hrg s hs
  obtain ⟨ld, h7, hld⟩ := hL
  have hKs : ¬ XrP n sp r fr s → V mX6_reckons (rm 3) Q 153 [some (.ref 99), some (vI a), some (vI b), some (vI y), some (vI z), some (vI r), some (vI s), none] [] nn w' 0 0 := fun hx =>
    K w' fr z h8 (fun _ _ => rfl) (fun _ _ => rfl) (fun q => absurd q hx) (fun _ => rfl) (by
      rcases hz with q | q
      · exact Or.inl ⟨q.1, Or.inl q.2⟩
      · exact Or.inr ⟨q.1, fun q2 => q2.elim q.2 hx⟩)
  intro m
  induction m with
  | zero =>
    intro d hd hdm hno
    refine V_iload (Y := mX6_reckons) (pc := 88) dX6_reckons_88 rfl ?_
    refine V_aload_n (Y := mX6_reckons) (pc := 90) dX6_reckons_90 rfl ?_
    apply V_get (Y := mX6_reckons) (pc := 91) dX6_reckons_91 fl_X6_7
    · assumption
    · rfl
    refine V_iconst (Y := mX6_reckons) (pc := 94) dX6_reckons_94 ?_
    apply V_iald (Y := mX6_reckons) (pc := 95) dX6_reckons_95
    · assumption
    · exact ⟨by omega, by omega⟩
    · omega
    rw [e0]
    refine V_icmp_ge (tgt := 153) (Y := mX6_reckons) (pc := 96) dX6_reckons_96 (by decide) ⟨by omega, by omega⟩ ⟨by omega, by omega⟩ (fun h_96 => ?_) (fun h_96 => absurd h_96 (by omega))
    refine V_drop 7 (hKs (fun q => ?_))
    obtain ⟨q1, e, he, q2⟩ := q
    exact hno e he.1 (by omega) q2
  | succ m ih =>
    intro d hd hdm hno
    have hsd := hsp s d hs ⟨hd, by omega⟩
    have hrd := hrg _ hsd
    have hl := hld s d hs ⟨hd, by omega⟩
    refine V_iload (Y := mX6_reckons) (pc := 88) dX6_reckons_88 rfl ?_
    refine V_aload_n (Y := mX6_reckons) (pc := 90) dX6_reckons_90 rfl ?_
    apply V_get (Y := mX6_reckons) (pc := 91) dX6_reckons_91 fl_X6_7
    · assumption
    · rfl
    refine V_iconst (Y := mX6_reckons) (pc := 94) dX6_reckons_94 ?_
    apply V_iald (Y := mX6_reckons) (pc := 95) dX6_reckons_95
    · assumption
    · exact ⟨by omega, by omega⟩
    · omega
    rw [e0]
    refine V_icmp_ge (tgt := 153) (Y := mX6_reckons) (pc := 96) dX6_reckons_96 (by decide) ⟨by omega, by omega⟩ ⟨by omega, by omega⟩ (fun h_96 => absurd h_96 (by omega)) (fun h_96 => ?_)
    refine V_aload_n (Y := mX6_reckons) (pc := 99) dX6_reckons_99 rfl ?_
    apply V_get (Y := mX6_reckons) (pc := 100) dX6_reckons_100 fl_X6_35
    · assumption
    · rfl
    refine V_iload (Y := mX6_reckons) (pc := 103) dX6_reckons_103 rfl ?_
    apply V_iald (Y := mX6_reckons) (pc := 105) dX6_reckons_105
    · assumption
    · exact ⟨by omega, by omega⟩
    · omega
    refine V_iconst (Y := mX6_reckons) (pc := 106) dX6_reckons_106 ?_
    refine V_icmp_ne (tgt := 153) (Y := mX6_reckons) (pc := 107) dX6_reckons_107 (by decide) ⟨by omega, by omega⟩ ⟨by omega, by omega⟩ (fun h_107 => ?_) (fun h_107 => ?_)
    · refine V_drop 7 (hKs (fun q => h_107 q.1))
    · refine V_aload_n (Y := mX6_reckons) (pc := 110) dX6_reckons_110 rfl ?_
      apply V_get (Y := mX6_reckons) (pc := 111) dX6_reckons_111 fl_X6_35
      · assumption
      · rfl
      refine V_aload_n (Y := mX6_reckons) (pc := 114) dX6_reckons_114 rfl ?_
      apply V_get (Y := mX6_reckons) (pc := 115) dX6_reckons_115 fl_X6_32
      · assumption
      · rfl
      refine V_bipush (Y := mX6_reckons) (pc := 118) dX6_reckons_118 ⟨by decide, by decide⟩ ?_
      refine V_iload (Y := mX6_reckons) (pc := 120) dX6_reckons_120 rfl ?_
      refine V_imul (Y := mX6_reckons) (pc := 122) dX6_reckons_122 ?_
      refine V_iload (Y := mX6_reckons) (pc := 123) dX6_reckons_123 rfl ?_
      refine V_iadd (Y := mX6_reckons) (pc := 125) dX6_reckons_125 ?_
      apply V_iald (Y := mX6_reckons) (pc := 126) dX6_reckons_126
      · assumption
      · exact ⟨by omega, by omega⟩
      · omega
      rw [hl]
      apply V_iald (Y := mX6_reckons) (pc := 127) dX6_reckons_127
      · assumption
      · exact ⟨by omega, by omega⟩
      · omega
      refine V_iload (Y := mX6_reckons) (pc := 128) dX6_reckons_128 rfl ?_
      refine V_icmp_ne (tgt := 147) (Y := mX6_reckons) (pc := 130) dX6_reckons_130 (by decide) ⟨by omega, by omega⟩ ⟨by omega, by omega⟩ (fun h_130 => ?_) (fun h_130 => ?_)
      · refine V_iinc (Y := mX6_reckons) (pc := 147) dX6_reckons_147 rfl rfl ?_
        refine V_goto (tgt := 88) (Y := mX6_reckons) (pc := 150) dX6_reckons_150 (by decide) ?_
        first
          | (exact ih (d + 1) (by omega) (by omega) (fun e e0 e1 => by
               by_cases hed : e = d
               · subst hed; exact h_130
               · exact hno e e0 (by omega)))
          | (have hX : XrP n sp r fr s := ⟨h_107, d, ⟨hd, by omega⟩, h_130⟩
             refine lpm_rk4 hM3 hn hs ⟨by omega, by omega⟩ h_143 ?_ ?_ (K w_143 _ 1 h_143 f_143 (fun j hj => va_up_ne _ _ hj) (fun _ => va_up_self _ _ _) (fun q => absurd hX q) (Or.inl ⟨rfl, Or.inr hX⟩))
             · rw [va_up_self]; omega
             · rw [va_up_self]; exact ⟨by omega, by omega⟩)
      · refine V_aload_n (Y := mX6_reckons) (pc := 133) dX6_reckons_133 rfl ?_
        apply V_get (Y := mX6_reckons) (pc := 134) dX6_reckons_134 fl_X6_35
        · assumption
        · rfl
        refine V_iload (Y := mX6_reckons) (pc := 137) dX6_reckons_137 rfl ?_
        refine V_iload (Y := mX6_reckons) (pc := 139) dX6_reckons_139 rfl ?_
        refine V_iconst (Y := mX6_reckons) (pc := 141) dX6_reckons_141 ?_
        refine V_iadd (Y := mX6_reckons) (pc := 142) dX6_reckons_142 ?_
        apply V_iastW (Y := mX6_reckons) (pc := 143) dX6_reckons_143
        · assumption
        · exact ⟨by omega, by omega⟩
        · omega
        intro w_143 h_143 f_143
        have hM3 := hM0.keep (w' := w_143) (f_143 _ (by omega)) (f_143 _ (by omega))
        refine V_iconst (Y := mX6_reckons) (pc := 144) dX6_reckons_144 ?_
        refine V_istore (Y := mX6_reckons) (pc := 145) dX6_reckons_145 rfl ?_
        refine V_iinc (Y := mX6_reckons) (pc := 147) dX6_reckons_147 rfl rfl ?_
        refine V_goto (tgt := 88) (Y := mX6_reckons) (pc := 150) dX6_reckons_150 (by decide) ?_
        first
          | (exact ih (d + 1) (by omega) (by omega) (fun e e0 e1 => by
               by_cases hed : e = d
               · subst hed; exact h_130
               · exact hno e e0 (by omega)))
          | (have hX : XrP n sp r fr s := ⟨h_107, d, ⟨hd, by omega⟩, h_130⟩
             refine lpm_rk4 hM3 hn hs ⟨by omega, by omega⟩ h_143 ?_ ?_ (K w_143 _ 1 h_143 f_143 (fun j hj => va_up_ne _ _ hj) (fun _ => va_up_self _ _ _) (fun q => absurd hX q) (Or.inl ⟨rfl, Or.inr hX⟩))
             · rw [va_up_self]; omega
             · rw [va_up_self]; exact ⟨by omega, by omega⟩)
set_option maxRecDepth 100000 in
theorem lpm_rk5 {a b y z r s : Int} {w' : vWd} {Q : vPost} (K : V mX6_reckons (rm 3) Q 76 [some (.ref 99), some (vI a), some (vI b), some (vI y), some (vI z), some (vI r), some (vI (s + 1)), none] [] nn w' 0 0) :
    V mX6_reckons (rm 3) Q 153 [some (.ref 99), some (vI a), some (vI b), some (vI y), some (vI z), some (vI r), some (vI s), none] [] nn w' 0 0 := by
  refine V_iinc (Y := mX6_reckons) (pc := 153) dX6_reckons_153 rfl rfl ?_
  refine V_goto (tgt := 76) (Y := mX6_reckons) (pc := 156) dX6_reckons_156 (by decide) ?_
  exact K
set_option maxRecDepth 100000 in
theorem lpm_rk6 {a b y r : Int} {w' : vWd} {Q : vPost} (K : Q none nn w') :
    V mX6_reckons (rm 3) Q 65 [some (.ref 99), some (vI a), some (vI b), some (vI y), some (vI 0), some (vI r), none, none] [] nn w' 0 0 := by
  refine V_iload (Y := mX6_reckons) (pc := 65) dX6_reckons_65 rfl ?_
  refine V_if_eq (tgt := 165) (Y := mX6_reckons) (pc := 67) dX6_reckons_67 (by decide) ⟨by omega, by omega⟩ (fun h_67 => ?_) (fun h_67 => absurd h_67 (by omega))
  refine V_vret (Y := mX6_reckons) (pc := 165) dX6_reckons_165 rfl (Nat.le_of_ble_eq_true rfl) (Nat.le_of_ble_eq_true rfl) ?_
  exact K
set_option maxRecDepth 100000 in
theorem lpm_rk2 {a b y r : Int} {g0 : Nat → Int} {Q : vPost} (hM : MS w n now ca po fo rs) (hn : 2 ≤ n ∧ n ≤ 7) (hsp : spOK n (p3 n.toNat) sp) (hL : LdM w n sp) (hr : 0 ≤ r ∧ r ≤ 2187) (hrg : ∀ t : Int, isS n t → -2 ≤ g0 t.toNat ∧ g0 t.toNat ≤ r) (K : ∀ w'' fr z, w'' 108 = some (arI 2187 fr) → (∀ j, j ≠ 108 → w'' j = w j) → (∀ t : Int, isS n t → XrP n sp r g0 t → fr t.toNat = r + 1) → (∀ t : Int, isS n t → ¬ XrP n sp r g0 t → fr t.toNat = g0 t.toNat) → zP z (∃ t : Int, isS n t ∧ XrP n sp r g0 t) → V mX6_reckons (rm 3) Q 65 [some (.ref 99), some (vI a), some (vI b), some (vI y), some (vI z), some (vI (r + 1)), none, none] [] nn w'' 0 0) : ∀ (m : Nat) (s z : Int) (w' : vWd) (fr : Nat → Int), 0 ≤ s → s + m = p3 n.toNat → w' 108 = some (arI 2187 fr) → (∀ j, j ≠ 108 → w' j = w j) → (∀ t : Int, 0 ≤ t → t < s → (XrP n sp r g0 t → fr t.toNat = r + 1) ∧ (¬ XrP n sp r g0 t → fr t.toNat = g0 t.toNat)) → (∀ t : Int, s ≤ t → t < p3 n.toNat → fr t.toNat = g0 t.toNat) → zP z (∃ t : Int, (0 ≤ t ∧ t < s) ∧ XrP n sp r g0 t) →
    V mX6_reckons (rm 3) Q 76 [some (.ref 99), some (vI a), some (vI b), some (vI y), some (vI z), some (vI r), some (vI s), none] [] nn w' 0 0 := by
  have hp := p3_le n.toNat (by omega)
  intro m
  induction m with
  | zero =>
    intro s z w' fr hs hsm h8 hf h1 h2 hz
    have hM' := hM.keep (hf 99 (by omega)) (hf 100 (by omega))
    have hM0 := hM'
    obtain ⟨f, ⟨qt, ty, a0, sp0, tk, vl, mn, fd, sv, ho⟩, hb, hB⟩ := hM'
    have hz2 : zP z (∃ t : Int, isS n t ∧ XrP n sp r g0 t) := by
      rcases hz with ⟨q1, t, ht, q2⟩ | ⟨q1, q2⟩
      · exact Or.inl ⟨q1, t, ⟨ht.1, by omega⟩, q2⟩
      · exact Or.inr ⟨q1, fun ⟨t, ht, q3⟩ => q2 ⟨t, ⟨ht.1, by omega⟩, q3⟩⟩
    have k := K w' fr z h8 hf (fun t ht q => (h1 t ht.1 (by omega)).1 q) (fun t ht q => (h1 t ht.1 (by omega)).2 q) hz2
    refine V_iload (Y := mX6_reckons) (pc := 76) dX6_reckons_76 rfl ?_
    refine V_aload_n (Y := mX6_reckons) (pc := 78) dX6_reckons_78 rfl ?_
    apply V_vR (Y := mX6_reckons) (pc := 79) dX6_reckons_79 ok_X6_states ov_X6_states ln_X6_183 (cm_states hM0 hn)
    · assumption
    · rfl
    · rfl
    · rfl
    · rfl
    · rfl
    refine V_icmp_ge (tgt := 159) (Y := mX6_reckons) (pc := 82) dX6_reckons_82 (by decide) ⟨by omega, by omega⟩ ⟨by omega, by omega⟩ (fun h_82 => ?_) (fun h_82 => absurd h_82 (by omega))
    refine V_iinc (Y := mX6_reckons) (pc := 159) dX6_reckons_159 rfl rfl ?_
    refine V_goto (tgt := 65) (Y := mX6_reckons) (pc := 162) dX6_reckons_162 (by decide) ?_
    exact V_drop 6 k
  | succ m ih =>
    intro s z w' fr hs hsm h8 hf h1 h2 hz
    have hM' := hM.keep (hf 99 (by omega)) (hf 100 (by omega))
    have hL' := hL.keep (hf 107 (by omega))
    have hM0 := hM'
    obtain ⟨f, ⟨qt, ty, a0, sp0, tk, vl, mn, fd, sv, ho⟩, hb, hB⟩ := hM'
    have hss : isS n s := ⟨hs, by omega⟩
    have hcur : ∀ t : Int, isS n t → fr t.toNat = g0 t.toNat ∨ (g0 t.toNat = -1 ∧ fr t.toNat = r + 1) := fun t ht => by
      by_cases hts : t < s
      · by_cases hx : XrP n sp r g0 t
        · exact Or.inr ⟨hx.1, (h1 t ht.1 hts).1 hx⟩
        · exact Or.inl ((h1 t ht.1 hts).2 hx)
      · exact Or.inl (h2 t (by omega) ht.2)
    have hrg2 : ∀ t : Int, isS n t → -2 ≤ fr t.toNat ∧ fr t.toNat ≤ r + 1 := fun t ht => by
      have := hrg t ht
      rcases hcur t ht with q | q <;> omega
    have hxx : XrP n sp r fr s ↔ XrP n sp r g0 s := by
      have e := h2 s (Int.le_refl _) hss.2
      constructor
      · rintro ⟨q1, d, hd, q2⟩
        refine ⟨by omega, d, hd, ?_⟩
        rcases hcur _ (hsp s d hss hd) with q | q <;> omega
      · rintro ⟨q1, d, hd, q2⟩
        refine ⟨by omega, d, hd, ?_⟩
        rcases hcur _ (hsp s d hss hd) with q | q <;> omega
    refine V_iload (Y := mX6_reckons) (pc := 76) dX6_reckons_76 rfl ?_
    refine V_aload_n (Y := mX6_reckons) (pc := 78) dX6_reckons_78 rfl ?_
    apply V_vR (Y := mX6_reckons) (pc := 79) dX6_reckons_79 ok_X6_states ov_X6_states ln_X6_183 (cm_states hM0 hn)
    · assumption
    · rfl
    · rfl
    · rfl
    · rfl
    · rfl
    refine V_icmp_ge (tgt := 159) (Y := mX6_reckons) (pc := 82) dX6_reckons_82 (by decide) ⟨by omega, by omega⟩ ⟨by omega, by omega⟩ (fun h_82 => absurd h_82 (by omega)) (fun h_82 => ?_)
    refine V_iconst (Y := mX6_reckons) (pc := 85) dX6_reckons_85 ?_
    refine V_istore (Y := mX6_reckons) (pc := 86) dX6_reckons_86 rfl ?_
    refine lpm_rk3 (sp := sp) hM0 hn hsp hL' hss hr h8 hrg2 hz (fun w2 fr2 z2 q1 q2 q3 q4 q5 q6 => ?_) n.toNat 0 (by omega) (by omega) (fun e e0 e1 => by omega)
    exact lpm_rk5 (ih (s + 1) z2 w2 fr2 (by omega) (by omega) q1 (fun j hj => (q2 j hj).trans (hf j hj)) (fun t t0 t1 => by
      by_cases hts : t = s
      · subst hts
        exact ⟨fun x => q4 (hxx.mpr x), fun x => (q5 (fun y => x (hxx.mp y))).trans (h2 t (Int.le_refl _) hss.2)⟩
      · rw [q3 _ (by omega)]; exact h1 t t0 (by omega)) (fun t t0 t1 => by rw [q3 _ (by omega)]; exact h2 t (by omega) t1) (by
      rcases q6 with ⟨y1, y2⟩ | ⟨y1, y2⟩
      · refine Or.inl ⟨y1, ?_⟩
        rcases y2 with ⟨t, ht, q⟩ | q
        · exact ⟨t, ⟨ht.1, by omega⟩, q⟩
        · exact ⟨s, ⟨hs, by omega⟩, hxx.mp q⟩
      · refine Or.inr ⟨y1, fun ⟨t, ht, q⟩ => y2 ?_⟩
        by_cases hts : t = s
        · subst hts; exact Or.inr (hxx.mpr q)
        · exact Or.inl ⟨t, ⟨ht.1, by omega⟩, q⟩))
set_option maxRecDepth 100000 in
theorem lpm_rk1 {a b y : Int} {Q : vPost} (hM : MS w n now ca po fo rs) (hn : 2 ≤ n ∧ n ≤ 7) (hsp : spOK n (p3 n.toNat) sp) (hL : LdM w n sp) (K : ∀ w'' fr, w'' 108 = some (arI 2187 fr) → (∀ j, j ≠ 108 → w'' j = w j) → IsFar n sp P G (fun s => fr s.toNat) → (∀ s : Int, isS n s → -2 ≤ fr s.toNat ∧ fr s.toNat ≤ 2187) → Q none nn w'') : ∀ (m : Nat) (r : Int) (w' : vWd) (fr : Nat → Int), 0 ≤ r → cntU fr (p3 n.toNat).toNat < m → r + cntU fr (p3 n.toNat).toNat ≤ p3 n.toNat → w' 108 = some (arI 2187 fr) → (∀ j, j ≠ 108 → w' j = w j) → RkI n sp P G r fr →
    V mX6_reckons (rm 3) Q 65 [some (.ref 99), some (vI a), some (vI b), some (vI y), some (vI 1), some (vI r), none, none] [] nn w' 0 0 := by
  have hp := p3_le n.toNat (by omega)
  intro m
  induction m with
  | zero => intro r w' fr h1 h2; omega
  | succ m ih =>
    intro r w' fr hr hcm hrc h8 hf hI
    have hM' := hM.keep (hf 99 (by omega)) (hf 100 (by omega))
    have hL' := hL.keep (hf 107 (by omega))
    have hrg : ∀ t : Int, isS n t → -2 ≤ fr t.toNat ∧ fr t.toNat ≤ r := fun t ht => hI.rng hr ht
    have hp1 := p3_1 n.toNat
    refine V_iload (Y := mX6_reckons) (pc := 65) dX6_reckons_65 rfl ?_
    refine V_if_eq (tgt := 165) (Y := mX6_reckons) (pc := 67) dX6_reckons_67 (by decide) ⟨by omega, by omega⟩ (fun h_67 => absurd h_67 (by omega)) (fun h_67 => ?_)
    refine V_iconst (Y := mX6_reckons) (pc := 70) dX6_reckons_70 ?_
    refine V_istore (Y := mX6_reckons) (pc := 71) dX6_reckons_71 rfl ?_
    refine V_iconst (Y := mX6_reckons) (pc := 73) dX6_reckons_73 ?_
    refine V_istore (Y := mX6_reckons) (pc := 74) dX6_reckons_74 rfl ?_
    refine lpm_rk2 (sp := sp) (g0 := fr) hM' hn hsp hL' ⟨hr, by omega⟩ hrg (fun w2 fr2 z q1 q2 q3 q4 q5 => ?_) (p3 n.toNat).toNat 0 0 w' fr (by omega) (by omega) h8 (fun _ _ => rfl) (fun t t0 t1 => by omega) (fun _ _ _ => rfl) (Or.inr ⟨rfl, fun ⟨t, ht, _⟩ => by omega⟩)
    have hI2 := hI.next hr hsp q3 q4
    have hf2 : ∀ j, j ≠ 108 → w2 j = w j := fun j hj => (q2 j hj).trans (hf j hj)
    have hmono : ∀ i, i < (p3 n.toNat).toNat → fr2 i = -1 → fr i = -1 := fun i hi e => by
      have hi2 : isS n (i : Int) := ⟨by omega, by omega⟩
      by_cases hx : XrP n sp r fr (i : Int)
      · have := q3 _ hi2 hx; rw [show ((i : Int)).toNat = i by omega] at this; omega
      · have := q4 _ hi2 hx; rw [show ((i : Int)).toNat = i by omega] at this; omega
    rcases q5 with ⟨rfl, t, ht, hx⟩ | ⟨rfl, hx⟩
    · have hlt := cntU_lt (f := fr) (g := fr2) (i0 := t.toNat) hx.1 (by have := q3 t ht hx; omega) (p3 n.toNat).toNat hmono (by omega)
      exact ih (r + 1) w2 fr2 (by omega) (by omega) (by omega) q1 hf2 hI2
    · have hfar := hI.stop hr hsp (fun s hs q => hx ⟨s, hs, q⟩)
      refine lpm_rk6 (K w2 fr2 q1 hf2 (hI2.stop (by omega) hsp (fun s hs q => ?_)) (fun s hs => by have e1 := q4 s hs (fun y => hx ⟨s, hs, y⟩); have := hrg s hs; omega))
      obtain ⟨x1, d, hd, x2⟩ := q
      have e1 := q4 _ (hsp s d hs hd) (fun y => hx ⟨_, hsp s d hs hd, y⟩)
      have := (hI.rng hr (hsp s d hs hd)).2
      omega
set_option maxRecDepth 100000 in
theorem lpm_rk0 {a b : Nat} {y : Int} {Q : vPost} (hM : MS w n now ca po fo rs) (hG : vGood (n, now, ca, po, fo, rs)) (hsp : spOK n (p3 n.toNat) sp) (hL : LdM w n sp) (ha : a < 2 ^ n.toNat) (hb : b < 2 ^ n.toNat) (hy : y = 0 ∨ y = 1) (hP : P = brP (n, now, ca, po, fo, rs) y) (hGG : G = goalP a b) (K : ∀ w'' fr, w'' 108 = some (arI 2187 fr) → (∀ j, j ≠ 108 → w'' j = w j) → IsFar n sp P G (fun s => fr s.toNat) → (∀ s : Int, isS n s → -2 ≤ fr s.toNat ∧ fr s.toNat ≤ 2187) → Q none nn w'') : ∀ (m : Nat) (s : Int) (w' : vWd) (fr : Nat → Int), 0 ≤ s → s + m = p3 n.toNat → w' 108 = some (arI 2187 fr) → (∀ j, j ≠ 108 → w' j = w j) → (∀ t : Int, 0 ≤ t → t < s → (P t ∧ fr t.toNat = -2) ∨ (¬ P t ∧ G t ∧ fr t.toNat = 0) ∨ (¬ P t ∧ ¬ G t ∧ fr t.toNat = -1)) →
    V mX6_reckons (rm 3) Q 3 [some (.ref 99), some (vI (a : Int)), some (vI (b : Int)), some (vI y), some (vI s), none, none, none] [] nn w' 0 0 := by
  have hn := hG.un.1
  have hp := p3_le n.toNat (by omega)
  intro m
  induction m with
  | zero =>
    intro s w' fr hs hsm h8 hf h1
    have hM' := hM.keep (hf 99 (by omega)) (hf 100 (by omega))
    have hL' := hL.keep (hf 107 (by omega))
    have hM0 := hM'
    obtain ⟨f, ⟨qt, ty, a0, sp0, tk, vl, mn, fd, sv, ho⟩, hb0, hB⟩ := hM'
    have hp1 := p3_1 n.toNat
    have hc := cntU_le fr (p3 n.toNat).toNat
    have hI : RkI n sp P G 0 fr := fun t ht => by
      have hv : ∀ u : Int, isS n u → fr u.toNat < 0 ∨ (0 : Int) ≤ fr u.toNat := fun u hu => by omega
      rcases h1 t ht.1 (by omega) with q | q | q
      · exact Or.inl q
      · exact Or.inr (Or.inl q)
      · exact Or.inr (Or.inr (Or.inl ⟨q.1, q.2.1, q.2.2, fun d hd => by omega⟩))
    refine V_iload (Y := mX6_reckons) (pc := 3) dX6_reckons_3 rfl ?_
    refine V_aload_n (Y := mX6_reckons) (pc := 5) dX6_reckons_5 rfl ?_
    apply V_vR (Y := mX6_reckons) (pc := 6) dX6_reckons_6 ok_X6_states ov_X6_states ln_X6_183 (cm_states hM0 hn)
    · assumption
    · rfl
    · rfl
    · rfl
    · rfl
    · rfl
    refine V_icmp_ge (tgt := 59) (Y := mX6_reckons) (pc := 9) dX6_reckons_9 (by decide) ⟨by omega, by omega⟩ ⟨by omega, by omega⟩ (fun h_9 => ?_) (fun h_9 => absurd h_9 (by omega))
    refine V_iconst (Y := mX6_reckons) (pc := 59) dX6_reckons_59 ?_
    refine V_istore (Y := mX6_reckons) (pc := 60) dX6_reckons_60 rfl ?_
    refine V_iconst (Y := mX6_reckons) (pc := 62) dX6_reckons_62 ?_
    refine V_istore (Y := mX6_reckons) (pc := 63) dX6_reckons_63 rfl ?_
    exact lpm_rk1 (P := P) (G := G) (w := w) hM hn hsp hL K (cntU fr (p3 n.toNat).toNat + 1) 0 w' fr (by omega) (by omega) (by omega) h8 hf hI
  | succ m ih =>
    intro s w' fr hs hsm h8 hf h1
    have hM' := hM.keep (hf 99 (by omega)) (hf 100 (by omega))
    have hM0 := hM'
    have hss : isS n s := ⟨hs, by omega⟩
    obtain ⟨f, ⟨qt, ty, a0, sp0, tk, vl, mn, fd, sv, ho⟩, hb0, hB⟩ := hM'
    have hPy0 : y = 0 → ¬ P s := fun e q => by rw [hP] at q; have := q.1; omega
    have hPd : ¬ dgBits n po fo rs s ≠ 0 → ¬ P s := fun e q => by rw [hP] at q; exact e q.2
    have hPt : ¬ y = 0 → dgBits n po fo rs s ≠ 0 → P s := fun e q => by rw [hP]; exact ⟨by omega, q⟩
    refine V_iload (Y := mX6_reckons) (pc := 3) dX6_reckons_3 rfl ?_
    refine V_aload_n (Y := mX6_reckons) (pc := 5) dX6_reckons_5 rfl ?_
    apply V_vR (Y := mX6_reckons) (pc := 6) dX6_reckons_6 ok_X6_states ov_X6_states ln_X6_183 (cm_states hM0 hn)
    · assumption
    · rfl
    · rfl
    · rfl
    · rfl
    · rfl
    refine V_icmp_ge (tgt := 59) (Y := mX6_reckons) (pc := 9) dX6_reckons_9 (by decide) ⟨by omega, by omega⟩ ⟨by omega, by omega⟩ (fun h_9 => absurd h_9 (by omega)) (fun h_9 => ?_)
    refine V_aload_n (Y := mX6_reckons) (pc := 12) dX6_reckons_12 rfl ?_
    apply V_get (Y := mX6_reckons) (pc := 13) dX6_reckons_13 fl_X6_35
    · assumption
    · rfl
    refine V_iload (Y := mX6_reckons) (pc := 16) dX6_reckons_16 rfl ?_
    refine V_iload_n (Y := mX6_reckons) (pc := 18) dX6_reckons_18 rfl ?_
    refine V_if_eq (tgt := 36) (Y := mX6_reckons) (pc := 19) dX6_reckons_19 (by decide) ⟨by omega, by omega⟩ (fun h_19 => ?_) (fun h_19 => ?_)
    · refine V_aload_n (Y := mX6_reckons) (pc := 36) dX6_reckons_36 rfl ?_
      refine V_iload (Y := mX6_reckons) (pc := 37) dX6_reckons_37 rfl ?_
      refine V_iload_n (Y := mX6_reckons) (pc := 39) dX6_reckons_39 rfl ?_
      refine V_iload_n (Y := mX6_reckons) (pc := 40) dX6_reckons_40 rfl ?_
      apply V_vR (Y := mX6_reckons) (pc := 41) dX6_reckons_41 ok_X6_isEnd ov_X6_isEnd ln_X6_192 (cm_isEnd (s := s) (a := a) (b := b) hM0 hn hss ha hb)
      · assumption
      · rfl
      · rfl
      · rfl
      · rfl
      · rfl
      refine V_if_eq (tgt := 51) (Y := mX6_reckons) (pc := 44) dX6_reckons_44 (by decide) (cI_R _) (fun h_44 => ?_) (fun h_44 => ?_)
      · refine V_iconst (Y := mX6_reckons) (pc := 51) dX6_reckons_51 ?_
        apply V_iastW (Y := mX6_reckons) (pc := 52) dX6_reckons_52
        · assumption
        · exact ⟨by omega, by omega⟩
        · omega
        intro w_52 h_52 f_52
        refine V_iinc (Y := mX6_reckons) (pc := 53) dX6_reckons_53 rfl rfl ?_
        refine V_goto (tgt := 3) (Y := mX6_reckons) (pc := 56) dX6_reckons_56 (by decide) ?_
        refine ih (s + 1) w_52 _ (by omega) (by omega) h_52 (fun j hj => (f_52 j hj).trans (hf j hj)) (fun t t0 t1 => ?_)
        by_cases hts : t = s
        · subst hts
          rw [va_up_self]
          first
            | exact Or.inl ⟨hPt h_19 h_28, rfl⟩
            | exact Or.inr (Or.inl ⟨hPy0 h_19, by rw [hGG]; exact cI_n h_44, rfl⟩)
            | exact Or.inr (Or.inl ⟨hPd h_28, by rw [hGG]; exact cI_n h_44, rfl⟩)
            | exact Or.inr (Or.inr ⟨hPy0 h_19, by rw [hGG]; exact cI_0.mp h_44, rfl⟩)
            | exact Or.inr (Or.inr ⟨hPd h_28, by rw [hGG]; exact cI_0.mp h_44, rfl⟩)
        · rw [va_up_ne _ _ (by omega)]; exact h1 t t0 (by omega)
      · refine V_iconst (Y := mX6_reckons) (pc := 47) dX6_reckons_47 ?_
        refine V_goto (tgt := 52) (Y := mX6_reckons) (pc := 48) dX6_reckons_48 (by decide) ?_
        apply V_iastW (Y := mX6_reckons) (pc := 52) dX6_reckons_52
        · assumption
        · exact ⟨by omega, by omega⟩
        · omega
        intro w_52 h_52 f_52
        refine V_iinc (Y := mX6_reckons) (pc := 53) dX6_reckons_53 rfl rfl ?_
        refine V_goto (tgt := 3) (Y := mX6_reckons) (pc := 56) dX6_reckons_56 (by decide) ?_
        refine ih (s + 1) w_52 _ (by omega) (by omega) h_52 (fun j hj => (f_52 j hj).trans (hf j hj)) (fun t t0 t1 => ?_)
        by_cases hts : t = s
        · subst hts
          rw [va_up_self]
          first
            | exact Or.inl ⟨hPt h_19 h_28, rfl⟩
            | exact Or.inr (Or.inl ⟨hPy0 h_19, by rw [hGG]; exact cI_n h_44, rfl⟩)
            | exact Or.inr (Or.inl ⟨hPd h_28, by rw [hGG]; exact cI_n h_44, rfl⟩)
            | exact Or.inr (Or.inr ⟨hPy0 h_19, by rw [hGG]; exact cI_0.mp h_44, rfl⟩)
            | exact Or.inr (Or.inr ⟨hPd h_28, by rw [hGG]; exact cI_0.mp h_44, rfl⟩)
        · rw [va_up_ne _ _ (by omega)]; exact h1 t t0 (by omega)
    · refine V_aload_n (Y := mX6_reckons) (pc := 22) dX6_reckons_22 rfl ?_
      refine V_iload (Y := mX6_reckons) (pc := 23) dX6_reckons_23 rfl ?_
      apply V_vR (Y := mX6_reckons) (pc := 25) dX6_reckons_25 ok_X6_isDanger ov_X6_isDanger ln_X6_189 (cm_isDanger (s := s) hM0 hG hss)
      · assumption
      · rfl
      · rfl
      · rfl
      · rfl
      · rfl
      refine V_if_eqB (tgt := 36) (Y := mX6_reckons) (pc := 28) dX6_reckons_28 (by decide) (fun h_28 => ?_) (fun h_28 => ?_)
      · refine V_aload_n (Y := mX6_reckons) (pc := 36) dX6_reckons_36 rfl ?_
        refine V_iload (Y := mX6_reckons) (pc := 37) dX6_reckons_37 rfl ?_
        refine V_iload_n (Y := mX6_reckons) (pc := 39) dX6_reckons_39 rfl ?_
        refine V_iload_n (Y := mX6_reckons) (pc := 40) dX6_reckons_40 rfl ?_
        apply V_vR (Y := mX6_reckons) (pc := 41) dX6_reckons_41 ok_X6_isEnd ov_X6_isEnd ln_X6_192 (cm_isEnd (s := s) (a := a) (b := b) hM0 hn hss ha hb)
        · assumption
        · rfl
        · rfl
        · rfl
        · rfl
        · rfl
        refine V_if_eq (tgt := 51) (Y := mX6_reckons) (pc := 44) dX6_reckons_44 (by decide) (cI_R _) (fun h_44 => ?_) (fun h_44 => ?_)
        · refine V_iconst (Y := mX6_reckons) (pc := 51) dX6_reckons_51 ?_
          apply V_iastW (Y := mX6_reckons) (pc := 52) dX6_reckons_52
          · assumption
          · exact ⟨by omega, by omega⟩
          · omega
          intro w_52 h_52 f_52
          refine V_iinc (Y := mX6_reckons) (pc := 53) dX6_reckons_53 rfl rfl ?_
          refine V_goto (tgt := 3) (Y := mX6_reckons) (pc := 56) dX6_reckons_56 (by decide) ?_
          refine ih (s + 1) w_52 _ (by omega) (by omega) h_52 (fun j hj => (f_52 j hj).trans (hf j hj)) (fun t t0 t1 => ?_)
          by_cases hts : t = s
          · subst hts
            rw [va_up_self]
            first
              | exact Or.inl ⟨hPt h_19 h_28, rfl⟩
              | exact Or.inr (Or.inl ⟨hPy0 h_19, by rw [hGG]; exact cI_n h_44, rfl⟩)
              | exact Or.inr (Or.inl ⟨hPd h_28, by rw [hGG]; exact cI_n h_44, rfl⟩)
              | exact Or.inr (Or.inr ⟨hPy0 h_19, by rw [hGG]; exact cI_0.mp h_44, rfl⟩)
              | exact Or.inr (Or.inr ⟨hPd h_28, by rw [hGG]; exact cI_0.mp h_44, rfl⟩)
          · rw [va_up_ne _ _ (by omega)]; exact h1 t t0 (by omega)
        · refine V_iconst (Y := mX6_reckons) (pc := 47) dX6_reckons_47 ?_
          refine V_goto (tgt := 52) (Y := mX6_reckons) (pc := 48) dX6_reckons_48 (by decide) ?_
          apply V_iastW (Y := mX6_reckons) (pc := 52) dX6_reckons_52
          · assumption
          · exact ⟨by omega, by omega⟩
          · omega
          intro w_52 h_52 f_52
          refine V_iinc (Y := mX6_reckons) (pc := 53) dX6_reckons_53 rfl rfl ?_
          refine V_goto (tgt := 3) (Y := mX6_reckons) (pc := 56) dX6_reckons_56 (by decide) ?_
          refine ih (s + 1) w_52 _ (by omega) (by omega) h_52 (fun j hj => (f_52 j hj).trans (hf j hj)) (fun t t0 t1 => ?_)
          by_cases hts : t = s
          · subst hts
            rw [va_up_self]
            first
              | exact Or.inl ⟨hPt h_19 h_28, rfl⟩
              | exact Or.inr (Or.inl ⟨hPy0 h_19, by rw [hGG]; exact cI_n h_44, rfl⟩)
              | exact Or.inr (Or.inl ⟨hPd h_28, by rw [hGG]; exact cI_n h_44, rfl⟩)
              | exact Or.inr (Or.inr ⟨hPy0 h_19, by rw [hGG]; exact cI_0.mp h_44, rfl⟩)
              | exact Or.inr (Or.inr ⟨hPd h_28, by rw [hGG]; exact cI_0.mp h_44, rfl⟩)
          · rw [va_up_ne _ _ (by omega)]; exact h1 t t0 (by omega)
      · refine V_bipush (Y := mX6_reckons) (pc := 31) dX6_reckons_31 ⟨by decide, by decide⟩ ?_
        refine V_goto (tgt := 52) (Y := mX6_reckons) (pc := 33) dX6_reckons_33 (by decide) ?_
        apply V_iastW (Y := mX6_reckons) (pc := 52) dX6_reckons_52
        · assumption
        · exact ⟨by omega, by omega⟩
        · omega
        intro w_52 h_52 f_52
        refine V_iinc (Y := mX6_reckons) (pc := 53) dX6_reckons_53 rfl rfl ?_
        refine V_goto (tgt := 3) (Y := mX6_reckons) (pc := 56) dX6_reckons_56 (by decide) ?_
        refine ih (s + 1) w_52 _ (by omega) (by omega) h_52 (fun j hj => (f_52 j hj).trans (hf j hj)) (fun t t0 t1 => ?_)
        by_cases hts : t = s
        · subst hts
          rw [va_up_self]
          first
            | exact Or.inl ⟨hPt h_19 h_28, rfl⟩
            | exact Or.inr (Or.inl ⟨hPy0 h_19, by rw [hGG]; exact cI_n h_44, rfl⟩)
            | exact Or.inr (Or.inl ⟨hPd h_28, by rw [hGG]; exact cI_n h_44, rfl⟩)
            | exact Or.inr (Or.inr ⟨hPy0 h_19, by rw [hGG]; exact cI_0.mp h_44, rfl⟩)
            | exact Or.inr (Or.inr ⟨hPd h_28, by rw [hGG]; exact cI_0.mp h_44, rfl⟩)
        · rw [va_up_ne _ _ (by omega)]; exact h1 t t0 (by omega)
set_option maxRecDepth 100000 in
theorem cm_reckons {a b : Nat} {y : Int} {fr : Nat → Int} (hM : MS w n now ca po fo rs) (hG : vGood (n, now, ca, po, fo, rs)) (hsp : spOK n (p3 n.toNat) sp) (hL : LdM w n sp) (h8 : w 108 = some (arI 2187 fr)) (ha : a < 2 ^ n.toNat) (hb : b < 2 ^ n.toNat) (hy : y = 0 ∨ y = 1) : Ctr mX6_reckons (rm 3) [.ref 99, vI (a : Int), vI (b : Int), vI y] nn w (pV (fun w' => (∃ fr', w' 108 = some (arI 2187 fr') ∧ IsFar n sp (brP (n, now, ca, po, fo, rs) y) (goalP a b) (fun s => fr' s.toNat) ∧ ∀ s : Int, isS n s → -2 ≤ fr' s.toNat ∧ fr' s.toNat ≤ 2187) ∧ ∀ j, j ≠ 108 → w' j = w j) nn) := by
  refine Ctr_of (lv := [some (.ref 99), some (vI (a : Int)), some (vI (b : Int)), some (vI y), none, none, none, none]) (by decide +kernel) rfl rfl ?_
  have hp1 := p3_1 n.toNat
  refine V_iconst (Y := mX6_reckons) (pc := 0) dX6_reckons_0 ?_
  refine V_istore (Y := mX6_reckons) (pc := 1) dX6_reckons_1 rfl ?_
  exact lpm_rk0 (P := brP (n, now, ca, po, fo, rs) y) (G := goalP a b) hM hG hsp hL ha hb hy rfl rfl (fun w' fr' q1 q2 q3 q4 => pV_of ⟨⟨fr', q1, q3, q4⟩, q2⟩) (p3 n.toNat).toNat 0 w fr (by omega) (by omega) h8 (fun _ _ => rfl) (fun t t0 t1 => by omega)
set_option maxRecDepth 100000 in
theorem lpm_next {s : Int} {fr : Nat → Int} (hM : MS w n now ca po fo rs) (hn : 2 ≤ n ∧ n ≤ 7) (hsp : spOK n (p3 n.toNat) sp) (hL : LdM w n sp) (h8 : w 108 = some (arI 2187 fr)) (hI : IsFar n sp P G (fun s => fr s.toNat)) (hrg : ∀ s : Int, isS n s → -2 ≤ fr s.toNat ∧ fr s.toNat ≤ 2187) (hs : isS n s) (hpos : 0 < fr s.toNat) : ∀ (m : Nat) (d : Int), 0 ≤ d → d + m = nxF sp n (fun s => fr s.toNat) s →
    V mX6_next (rm 0) (pR (vI (nxF sp n (fun s => fr s.toNat) s)) nn w) 2 [some (.ref 99), some (vI s), some (vI d)] [] nn w 0 0 := by
  obtain ⟨f, ⟨qt, ty, a0, sp0, tk, vl, mn, fd, sv, ho⟩, hb, hB⟩ := hM
  have hp := p3_le n.toNat (by omega)
  have hnx := nx_spec hI (by omega) hs hpos
  have hrs := hrg s hs
  obtain ⟨ld, h7, hld⟩ := hL
  intro m
  induction m with
  | zero =>
    intro d hd hdm
    have hdn : isD n d := by rw [show d = nxF sp n (fun s => fr s.toNat) s by omega]; exact hnx.1
    have hl := hld s d hs hdn
    have hsd := hsp s d hs hdn
    have hrd := hrg _ hsd
    have he : fr (sp s d).toNat = fr s.toNat - 1 := by have := hnx.2.1; rw [← show d = nxF sp n (fun s => fr s.toNat) s by omega] at this; exact this
    refine V_aload_n (Y := mX6_next) (pc := 2) dX6_next_2 rfl ?_
    apply V_get (Y := mX6_next) (pc := 3) dX6_next_3 fl_X6_35
    · assumption
    · rfl
    refine V_aload_n (Y := mX6_next) (pc := 6) dX6_next_6 rfl ?_
    apply V_get (Y := mX6_next) (pc := 7) dX6_next_7 fl_X6_32
    · assumption
    · rfl
    refine V_bipush (Y := mX6_next) (pc := 10) dX6_next_10 ⟨by decide, by decide⟩ ?_
    refine V_iload_n (Y := mX6_next) (pc := 12) dX6_next_12 rfl ?_
    refine V_imul (Y := mX6_next) (pc := 13) dX6_next_13 ?_
    refine V_iload_n (Y := mX6_next) (pc := 14) dX6_next_14 rfl ?_
    refine V_iadd (Y := mX6_next) (pc := 15) dX6_next_15 ?_
    apply V_iald (Y := mX6_next) (pc := 16) dX6_next_16
    · assumption
    · exact ⟨by omega, by omega⟩
    · omega
    rw [hl]
    apply V_iald (Y := mX6_next) (pc := 17) dX6_next_17
    · assumption
    · exact ⟨by omega, by omega⟩
    · omega
    refine V_aload_n (Y := mX6_next) (pc := 18) dX6_next_18 rfl ?_
    apply V_get (Y := mX6_next) (pc := 19) dX6_next_19 fl_X6_35
    · assumption
    · rfl
    refine V_iload_n (Y := mX6_next) (pc := 22) dX6_next_22 rfl ?_
    apply V_iald (Y := mX6_next) (pc := 23) dX6_next_23
    · assumption
    · exact ⟨by omega, by omega⟩
    · omega
    refine V_iconst (Y := mX6_next) (pc := 24) dX6_next_24 ?_
    refine V_isub (Y := mX6_next) (pc := 25) dX6_next_25 ?_
    refine V_icmp_eq (tgt := 35) (Y := mX6_next) (pc := 26) dX6_next_26 (by decide) ⟨by omega, by omega⟩ ⟨by omega, by omega⟩ (fun h_26 => ?_) (fun h_26 => absurd h_26 (by omega))
    refine V_iload_n (Y := mX6_next) (pc := 35) dX6_next_35 rfl ?_
    refine V_iret (Y := mX6_next) (pc := 36) dX6_next_36 rfl (Nat.le_of_ble_eq_true rfl) (Nat.le_of_ble_eq_true rfl) ?_
    exact pR_I (by omega)
  | succ m ih =>
    intro d hd hdm
    have hdn : isD n d := ⟨hd, by have := hnx.1.2; omega⟩
    have hl := hld s d hs hdn
    have hsd := hsp s d hs hdn
    have hrd := hrg _ hsd
    have he : fr (sp s d).toNat ≠ fr s.toNat - 1 := hnx.2.2 d hd (by omega)
    refine V_aload_n (Y := mX6_next) (pc := 2) dX6_next_2 rfl ?_
    apply V_get (Y := mX6_next) (pc := 3) dX6_next_3 fl_X6_35
    · assumption
    · rfl
    refine V_aload_n (Y := mX6_next) (pc := 6) dX6_next_6 rfl ?_
    apply V_get (Y := mX6_next) (pc := 7) dX6_next_7 fl_X6_32
    · assumption
    · rfl
    refine V_bipush (Y := mX6_next) (pc := 10) dX6_next_10 ⟨by decide, by decide⟩ ?_
    refine V_iload_n (Y := mX6_next) (pc := 12) dX6_next_12 rfl ?_
    refine V_imul (Y := mX6_next) (pc := 13) dX6_next_13 ?_
    refine V_iload_n (Y := mX6_next) (pc := 14) dX6_next_14 rfl ?_
    refine V_iadd (Y := mX6_next) (pc := 15) dX6_next_15 ?_
    apply V_iald (Y := mX6_next) (pc := 16) dX6_next_16
    · assumption
    · exact ⟨by omega, by omega⟩
    · omega
    rw [hl]
    apply V_iald (Y := mX6_next) (pc := 17) dX6_next_17
    · assumption
    · exact ⟨by omega, by omega⟩
    · omega
    refine V_aload_n (Y := mX6_next) (pc := 18) dX6_next_18 rfl ?_
    apply V_get (Y := mX6_next) (pc := 19) dX6_next_19 fl_X6_35
    · assumption
    · rfl
    refine V_iload_n (Y := mX6_next) (pc := 22) dX6_next_22 rfl ?_
    apply V_iald (Y := mX6_next) (pc := 23) dX6_next_23
    · assumption
    · exact ⟨by omega, by omega⟩
    · omega
    refine V_iconst (Y := mX6_next) (pc := 24) dX6_next_24 ?_
    refine V_isub (Y := mX6_next) (pc := 25) dX6_next_25 ?_
    refine V_icmp_eq (tgt := 35) (Y := mX6_next) (pc := 26) dX6_next_26 (by decide) ⟨by omega, by omega⟩ ⟨by omega, by omega⟩ (fun h_26 => absurd h_26 (by omega)) (fun h_26 => ?_)
    refine V_iinc (Y := mX6_next) (pc := 29) dX6_next_29 rfl rfl ?_
    refine V_goto (tgt := 2) (Y := mX6_next) (pc := 32) dX6_next_32 (by decide) ?_
    exact ih (d + 1) (by omega) (by omega)
set_option maxRecDepth 100000 in
theorem cm_next {s : Int} {fr : Nat → Int} (hM : MS w n now ca po fo rs) (hn : 2 ≤ n ∧ n ≤ 7) (hsp : spOK n (p3 n.toNat) sp) (hL : LdM w n sp) (h8 : w 108 = some (arI 2187 fr)) (hI : IsFar n sp P G (fun s => fr s.toNat)) (hrg : ∀ s : Int, isS n s → -2 ≤ fr s.toNat ∧ fr s.toNat ≤ 2187) (hs : isS n s) (hpos : 0 < fr s.toNat) : Ctr mX6_next (rm 0) [.ref 99, vI s] nn w (pR (vI (nxF sp n (fun s => fr s.toNat) s)) nn w) := by
  have hnx := nx_spec hI (by omega) hs hpos
  refine Ctr_of (lv := [some (.ref 99), some (vI s), none]) (by decide +kernel) rfl rfl ?_
  refine V_iconst (Y := mX6_next) (pc := 0) dX6_next_0 ?_
  refine V_istore_n (Y := mX6_next) (pc := 1) dX6_next_1 rfl ?_
  exact lpm_next hM hn hsp hL h8 hI hrg hs hpos (nxF sp n (fun s => fr s.toNat) s).toNat 0 (by omega) (by have := hnx.1.1; omega)
end MOD
