/-! ===== what a walk finds, as a list alone ===== -/
theorem rSet_cases (l : List Int) (i v j : Int) : rAt (rSet l i v) j = v ∨ rAt (rSet l i v) j = rAt l j := by
  by_cases hi : 0 ≤ i
  · by_cases h : i < l.length
    · rw [rAt_set hi h]
      split
      · exact Or.inl rfl
      · exact Or.inr rfl
    · rw [rSet_out (Or.inr (by omega))]; exact Or.inr rfl
  · rw [rSet_out (Or.inl (by omega))]; exact Or.inr rfl
theorem AOK.meet {F : bF} {s f d : Int} (h : AOK F) (hf : -1 ≤ f ∧ f ≤ 3000) : AOK (fMeet F s f d) := by
  by_cases hn : rAt F.1 s = -1
  · rw [fMeet_new hn]
    intro j
    show -1 ≤ rAt (rSet F.2.1 s f) j ∧ rAt (rSet F.2.1 s f) j ≤ 3000
    have := h j
    rcases rSet_cases F.2.1 s f j with q | q <;> omega
  · rw [fMeet_old hn]; exact h
theorem AOK.grow {sp : Int → Int → Int} {F : bF} {s : Int} (h : AOK F) (hs : -1 ≤ s ∧ s ≤ 3000) : ∀ m : Nat, AOK (fGrowTo sp F s m)
  | 0 => h
  | m + 1 => (AOK.grow h hs m).meet hs
theorem AOK.bg {N : Int} {F : bF} (h : AOK F) : AOK (bgF N F) := h
theorem FOK.grow1 {N n : Int} {sp : Int → Int → Int} {F : bF} (hn : 0 ≤ n) (hsp : spOK n N sp) (h : FOK N F) {k : Nat} (hk : k < F.2.2.2.length) : FOK N (fGrowTo sp F (rAt F.2.2.2 (k : Int)) n.toNat) ∧ (0 ≤ rAt F.2.2.2 (k : Int) ∧ rAt F.2.2.2 (k : Int) < N) ∧ rAt F.2.2.2 (k : Int) ∈ F.2.2.2 := by
  have hm := rAt_mem (l := F.2.2.2) (i := (k : Int)) (by omega) (by omega)
  have hr := h.2.2.2.2.2.2.1 _ hm
  exact ⟨(fGrowTo_ok h (fun d h1 h2 => hsp _ d ⟨hr.1, hr.2.1⟩ ⟨h1, h2⟩) hm n.toNat (by omega)).1, ⟨hr.1, hr.2.1⟩, hm⟩
theorem AOK.spread {N n : Int} {sp : Int → Int → Int} (hn : 0 ≤ n) (hsp : spOK n N sp) : ∀ (m k : Nat) (F : bF), FOK N F → AOK F → AOK (fSpread sp n.toNat m k F)
  | 0, _, F, _, h => h
  | m + 1, k, F, h, ha => by
    rw [fSpread]
    split
    · rename_i hk
      have hg := h.grow1 hn hsp hk
      have := h.2.1
      exact AOK.spread hn hsp m (k + 1) _ hg.1 (ha.grow ⟨by omega, by omega⟩ _)
    · exact ha
theorem fFirst_aok {N n : Int} {sp : Int → Int → Int} (hn : 0 ≤ n) (hsp : spOK n N sp) (G : Int → Prop) : ∀ (m k : Nat) (F : bF), FOK N F → AOK F → FOK N (fFirst sp n.toNat G m k F).2 ∧ AOK (fFirst sp n.toNat G m k F).2 ∧ ((fFirst sp n.toNat G m k F).1 = -1 ∨ (fFirst sp n.toNat G m k F).1 ∈ (fFirst sp n.toNat G m k F).2.2.2.2)
  | 0, _, F, h, ha => ⟨h, ha, Or.inl rfl⟩
  | m + 1, k, F, h, ha => by
    by_cases hk : k < F.2.2.2.length
    · have hg := h.grow1 hn hsp hk
      have := h.2.1
      by_cases hG : G (rAt F.2.2.2 (k : Int))
      · rw [fFirst_t hk hG]; exact ⟨h, ha, Or.inr hg.2.2⟩
      · rw [fFirst_f hk hG]
        exact fFirst_aok hn hsp G m (k + 1) _ hg.1 (ha.grow ⟨by omega, by omega⟩ _)
    · rw [fFirst_e hk]; exact ⟨h, ha, Or.inl rfl⟩
theorem AOK.near {N n : Int} {sp : Int → Int → Int} (hn : 0 ≤ n) (hsp : spOK n N sp) (hh : Nat) : ∀ (m k : Nat) (best bd : Int) (F : bF), FOK N F → AOK F → AOK (fNear sp n.toNat hh m k best bd F).2
  | 0, _, _, _, _, _, h => h
  | m + 1, k, best, bd, F, h, ha => by
    rw [fNear]
    split
    · rename_i hk
      split
      · exact ha
      · have hg := h.grow1 hn hsp hk
        have := h.2.1
        split
        · exact AOK.near hn hsp hh m (k + 1) _ _ _ hg.1 (ha.grow ⟨by omega, by omega⟩ _)
        · exact AOK.near hn hsp hh m (k + 1) _ _ _ h ha
    · exact ha
theorem AOK.nrTo {n : Int} {sp : Int → Int → Int} (hn : 0 ≤ n ∧ n ≤ 7) (hsp : spOK n (p3 n.toNat) sp) (hh : Nat) {s : Int} (hs : isS n s) {F : bF} (h : FSh F) (ha : AOK F) : AOK (nrTo sp n hh s F).2 := by
  have hp := p3_le n.toNat (by omega)
  have hp0 := p3_pos n.toNat
  exact AOK.near hn.1 hsp hh 2188 0 (-1) 7 _ ((FOK_bg h ⟨by omega, hp⟩).meet hs (Or.inl rfl)) (ha.bg.meet ⟨by omega, by omega⟩)
theorem AOK.run {n : Int} {sp : Int → Int → Int} (hn : 0 ≤ n ∧ n ≤ 7) (hsp : spOK n (p3 n.toNat) sp) (rs : Nat → List Int) (a b : Int) : ∀ (m : Nat) (o s sv pl : Int) (F : bF), isS n s → FSh F → AOK F → AOK (fRun sp n rs a b m o s sv pl F).2.2
  | 0, _, _, _, _, _, _, _, h => h
  | m + 1, o, s, sv, pl, F, hs, h, ha => by
    have hN := nrTo_ok hn hsp (holdB n rs a b o) hs h
    have hA := AOK.nrTo hn hsp (holdB n rs a b o) hs h ha
    rw [fRun]
    split
    · exact hA
    · rename_i hne
      exact AOK.run hn hsp rs a b m _ _ _ _ _ (hN.2.resolve_left hne).1 hN.1.sh hA
/-! the list of the states found -/
def gMeet (L : List Int) (t : Int) : List Int := if t ∈ L then L else L ++ [t]
def gGrow (sp : Int → Int → Int) (L : List Int) (s : Int) : Nat → List Int
  | 0 => L
  | m + 1 => gMeet (gGrow sp L s m) (sp s (m : Int))
def gSpread (sp : Int → Int → Int) (n : Nat) : Nat → Nat → List Int → List Int
  | 0, _, L => L
  | m + 1, k, L => if k < L.length then gSpread sp n m (k + 1) (gGrow sp L (rAt L (k : Int)) n) else L
def gFnd (sp : Int → Int → Int) (n s : Int) : List Int := gSpread sp n.toNat 2188 0 [s]
def nBar (N : Int) (F : bF) : Prop := ∀ s : Int, 0 ≤ s → s < N → rAt F.1 s ≠ -2
theorem met_iff {N : Int} {F : bF} (h : FOK N F) (hb : nBar N F) {s : Int} (hs : 0 ≤ s ∧ s < N) : rAt F.1 s = -1 ↔ s ∉ F.2.2.2 := by
  constructor
  · intro h1 h2
    have := h.2.2.2.2.2.2.1 s h2
    omega
  · intro h1
    refine Decidable.byContradiction (fun h2 => h1 ?_)
    have h3 := h.2.2.2.2.1 s
    have h4 := hb s hs.1 hs.2
    exact h.2.2.2.2.2.2.2 s hs.1 hs.2 (by omega)
theorem fnd_lt {N : Int} {L : List Int} {s : Int} (hN : N ≤ 2187) (hd : L.Nodup) (hL : ∀ x ∈ L, 0 ≤ x ∧ x < N) (hs : 0 ≤ s ∧ s < N) (hn : s ∉ L) : L.length < 2187 := by
  have hnd : (L ++ [s]).Nodup := by
    rw [List.nodup_append]
    exact ⟨hd, by simp, fun a ha b hb => by simp at hb; subst hb; exact fun e => hn (e ▸ ha)⟩
  have := nodup_len N.toNat (L ++ [s]) hnd (fun x hx => by
    rcases List.mem_append.mp hx with q | q
    · have := hL x q; omega
    · simp at q; subst q; omega)
  rw [List.length_append, List.length_singleton] at this
  omega
theorem fMeet_g {N : Int} {F : bF} {s f d : Int} (h : FOK N F) (hb : nBar N F) (hs : 0 ≤ s ∧ s < N) (hf : f = -1 ∨ f ∈ F.2.2.2) : (fMeet F s f d).2.2.2 = gMeet F.2.2.2 s ∧ nBar N (fMeet F s f d) := by
  have hi := met_iff h hb hs
  by_cases hn : rAt F.1 s = -1
  · rw [fMeet_new hn]
    have hns := hi.mp hn
    refine ⟨?_, fun j h1 h2 => ?_⟩
    · show rAdd 2187 F.2.2.2 s = _
      rw [gMeet, if_neg hns]
      exact if_pos (fnd_lt h.2.1 h.2.2.2.2.2.1 (fun x hx => by have := h.2.2.2.2.2.2.1 x hx; omega) hs hns)
    · show rAt (rSet F.1 s _) j ≠ -2
      rw [rAt_set hs.1 (by have := h.1; omega)]
      split
      · split
        · omega
        · rename_i hf1
          have := h.2.2.2.2.2.2.1 f (hf.resolve_left hf1)
          omega
      · exact hb j h1 h2
  · rw [fMeet_old hn]
    refine ⟨?_, hb⟩
    rw [gMeet, if_pos (Decidable.byContradiction (fun q => hn (hi.mpr q)))]
theorem fGrow_g {N n : Int} {F : bF} (h : FOK N F) (hb : nBar N F) {sp : Int → Int → Int} {s : Int} (hsp : ∀ d : Int, 0 ≤ d → d < n → 0 ≤ sp s d ∧ sp s d < N) (hs : s ∈ F.2.2.2) : ∀ m : Nat, (m : Int) ≤ n → (fGrowTo sp F s m).2.2.2 = gGrow sp F.2.2.2 s m ∧ nBar N (fGrowTo sp F s m)
  | 0, _ => ⟨rfl, hb⟩
  | m + 1, hm => by
    have ih := fGrow_g h hb hsp hs m (by omega)
    have h1 := hsp m (by omega) (by omega)
    have h2 := fGrowTo_ok h hsp hs m (by omega)
    have h3 := fMeet_g (d := (m : Int)) h2.1 ih.2 h1 (Or.inr h2.2)
    refine ⟨?_, h3.2⟩
    rw [gGrow, ← ih.1]
    exact h3.1
theorem fSpread_g {N n : Int} {sp : Int → Int → Int} (hn : 0 ≤ n) (hsp : spOK n N sp) : ∀ (m k : Nat) (F : bF), FOK N F → nBar N F → (fSpread sp n.toNat m k F).2.2.2 = gSpread sp n.toNat m k F.2.2.2 ∧ nBar N (fSpread sp n.toNat m k F)
  | 0, _, _, _, hb => ⟨rfl, hb⟩
  | m + 1, k, F, h, hb => by
    rw [fSpread, gSpread]
    by_cases hk : k < F.2.2.2.length
    · rw [if_pos hk, if_pos hk]
      have hg := h.grow1 hn hsp hk
      have h1 := fGrow_g (sp := sp) (n := n) h hb (fun d h1 h2 => hsp _ d hg.2.1 ⟨h1, h2⟩) hg.2.2 n.toNat (by omega)
      have h2 := fSpread_g hn hsp m (k + 1) _ hg.1 h1.2
      rw [h1.1] at h2
      exact h2
    · rw [if_neg hk, if_neg hk]; exact ⟨rfl, hb⟩
theorem nBar_bg {N : Int} {F : bF} : nBar N (bgF N F) := fun s h1 h2 => by
  show rAt (List.replicate N.toNat (-1)) s ≠ -2
  rw [rAt_rep]; split <;> omega
/-- the tables of a whole walk from s -/
def spF (sp : Int → Int → Int) (n s : Int) (F : bF) : bF := fSpread sp n.toNat 2188 0 (fMeet (bgF (p3 n.toNat) F) s (-1) (-1))
theorem spF_all {n : Int} {sp : Int → Int → Int} (hn : 0 ≤ n ∧ n ≤ 7) (hsp : spOK n (p3 n.toNat) sp) {s : Int} (hs : isS n s) {F : bF} (h : FSh F) (ha : AOK F) : FOK (p3 n.toNat) (spF sp n s F) ∧ AOK (spF sp n s F) ∧ nBar (p3 n.toNat) (spF sp n s F) ∧ (spF sp n s F).2.2.2 = gFnd sp n s := by
  have hp := p3_le n.toNat (by omega)
  have hp0 := p3_pos n.toNat
  have h0 := FOK_bg h ⟨by omega, hp⟩
  have h1 := h0.meet hs (d := -1) (Or.inl rfl)
  have h2 := fMeet_g (d := -1) h0 nBar_bg hs (Or.inl rfl)
  have h3 := fSpread_g hn.1 hsp 2188 0 _ h1 h2.2
  refine ⟨fSpread_ok hn.1 hsp 2188 0 _ h1, AOK.spread hn.1 hsp 2188 0 _ h1 (ha.bg.meet ⟨by omega, by omega⟩), h3.2, ?_⟩
  rw [h2.1] at h3
  exact h3.1
/-! two steps that are the same where it counts find the same -/
theorem gGrow_congr {sp sp' : Int → Int → Int} {L : List Int} {s n : Int} (h : ∀ d : Int, isD n d → sp s d = sp' s d) : ∀ m : Nat, (m : Int) ≤ n → gGrow sp L s m = gGrow sp' L s m
  | 0, _ => rfl
  | m + 1, hm => by rw [gGrow, gGrow, gGrow_congr h m (by omega), h m ⟨by omega, by omega⟩]
theorem gGrow_in {N n : Int} {sp : Int → Int → Int} {L : List Int} {s : Int} (hL : ∀ x ∈ L, 0 ≤ x ∧ x < N) (h : ∀ d : Int, isD n d → 0 ≤ sp s d ∧ sp s d < N) : ∀ m : Nat, (m : Int) ≤ n → ∀ x ∈ gGrow sp L s m, 0 ≤ x ∧ x < N
  | 0, _ => hL
  | m + 1, hm => by
    have ih := gGrow_in hL h m (by omega)
    rw [gGrow, gMeet]
    split
    · exact ih
    · intro x hx
      rcases List.mem_append.mp hx with q | q
      · exact ih x q
      · simp at q; subst q; exact h m ⟨by omega, by omega⟩
theorem gSpread_congr {N n : Int} {sp sp' : Int → Int → Int} (hn : 0 ≤ n) (hsp : spOK n N sp) (h : ∀ s d : Int, 0 ≤ s ∧ s < N → isD n d → sp s d = sp' s d) : ∀ (m k : Nat) (L : List Int), (∀ x ∈ L, 0 ≤ x ∧ x < N) → gSpread sp n.toNat m k L = gSpread sp' n.toNat m k L
  | 0, _, _, _ => rfl
  | m + 1, k, L, hL => by
    rw [gSpread, gSpread]
    split
    · rename_i hk
      have hm := hL _ (rAt_mem (l := L) (i := (k : Int)) (by omega) (by omega))
      rw [gGrow_congr (fun d hd => h _ d hm hd) n.toNat (by omega)]
      refine gSpread_congr hn hsp h m (k + 1) _ ?_
      rw [← gGrow_congr (fun d hd => h _ d hm hd) n.toNat (by omega)]
      exact gGrow_in hL (fun d hd => hsp _ d hm hd) n.toNat (by omega)
    · rfl
theorem gFnd_congr {n : Int} {sp sp' : Int → Int → Int} (hn : 0 ≤ n) (hsp : spOK n (p3 n.toNat) sp) (h : ∀ s d : Int, isS n s → isD n d → sp s d = sp' s d) {s : Int} (hs : isS n s) : gFnd sp n s = gFnd sp' n s :=
  gSpread_congr hn hsp h 2188 0 [s] (fun x hx => by simp at hx; subst hx; exact hs)
theorem gSpread_in {N n : Int} {sp : Int → Int → Int} (hn : 0 ≤ n) (hsp : spOK n N sp) : ∀ (m k : Nat) (L : List Int), (∀ x ∈ L, 0 ≤ x ∧ x < N) → ∀ x ∈ gSpread sp n.toNat m k L, 0 ≤ x ∧ x < N
  | 0, _, _, hL => hL
  | m + 1, k, L, hL => by
    rw [gSpread]
    split
    · rename_i hk
      have hm := hL _ (rAt_mem (l := L) (i := (k : Int)) (by omega) (by omega))
      exact gSpread_in hn hsp m (k + 1) _ (gGrow_in hL (fun d hd => hsp _ d hm hd) n.toNat (by omega))
    · exact hL
theorem gFnd_in {n : Int} {sp : Int → Int → Int} (hn : 0 ≤ n) (hsp : spOK n (p3 n.toNat) sp) {s : Int} (hs : isS n s) : ∀ x ∈ gFnd sp n s, isS n x :=
  gSpread_in hn hsp 2188 0 [s] (fun x hx => by simp at hx; subst hx; exact hs)
theorem fst1_congr {P Q : Int → Prop} : ∀ (m : Nat) (i : Int), (∀ s : Int, i ≤ s → s < i + m → (P s ↔ Q s)) → fst1 P m i = fst1 Q m i
  | 0, _, _ => rfl
  | m + 1, i, h => by
    by_cases hp : P i
    · rw [fst1_t hp, fst1_t ((h i (by omega) (by omega)).mp hp)]
    · rw [fst1_f hp, fst1_f (fun q => hp ((h i (by omega) (by omega)).mpr q)), fst1_congr m (i + 1) (fun s h1 h2 => h s (by omega) (by omega))]
theorem fst1_rng {P : Int → Prop} : ∀ (m : Nat) (i : Int), fst1 P m i = -1 ∨ (i ≤ fst1 P m i ∧ fst1 P m i < i + m)
  | 0, _ => Or.inl rfl
  | m + 1, i => by
    by_cases hp : P i
    · rw [fst1_t hp]; omega
    · rw [fst1_f hp]
      have := fst1_rng (P := P) m (i + 1)
      omega
theorem cI_congr {P Q : Prop} (h : P ↔ Q) : cI P = cI Q := by rw [propext h]
theorem jmC_rng (sp : Int → Int → Int) (n : Int) (l : List Int) : ∀ m : Nat, 0 ≤ jmC sp n l m ∧ jmC sp n l m ≤ m
  | 0 => ⟨Int.le_refl 0, Int.le_refl 0⟩
  | m + 1 => by
    have h := jmC_rng sp n l m
    have h2 := cI_01 (jamP sp n (rAt l (m : Int)))
    rw [jmC]
    omega
theorem jmC_congr {sp sp' : Int → Int → Int} {n : Int} (h : ∀ s d : Int, isS n s → isD n d → sp s d = sp' s d) {l : List Int} (hl : ∀ x ∈ l, isS n x) : ∀ m : Nat, m ≤ l.length → jmC sp n l m = jmC sp' n l m
  | 0, _ => rfl
  | m + 1, hm => by
    have hx := hl _ (rAt_mem (l := l) (i := (m : Int)) (by omega) (by omega))
    rw [jmC, jmC, jmC_congr h hl m (by omega), cI_congr (P := jamP sp n (rAt l (m : Int))) (Q := jamP sp' n (rAt l (m : Int))) ⟨fun q d hd => by rw [← h _ d hx hd]; exact q d hd, fun q d hd => by rw [h _ d hx hd]; exact q d hd⟩]
