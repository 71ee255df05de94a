/-! ===== walks outward and distances inward: the first row is the same ===== -/
def IsFar (n : Int) (sp : Int → Int → Int) (P G : Int → Prop) (g : Int → Int) : Prop := ∀ s : Int, isS n s →
  (P s ∧ g s = -2) ∨ (¬ P s ∧ G s ∧ g s = 0) ∨ (¬ P s ∧ ¬ G s ∧ g s = -1 ∧ ∀ d : Int, isD n d → g (sp s d) < 0) ∨
  (¬ P s ∧ ¬ G s ∧ 0 < g s ∧ (∃ d : Int, isD n d ∧ g (sp s d) = g s - 1) ∧ ∀ d : Int, isD n d → g (sp s d) < 0 ∨ g s - 1 ≤ g (sp s d))
section BFS
variable {n : Int} {sp : Int → Int → Int} {P G : Int → Prop} {g : Int → Int} {now : Int}
theorem IsFar.step (h : IsFar n sp P G g) {s d : Int} (hs : isS n s) (hp : ¬ P s) (hd : isD n d) (hg : 0 ≤ g (sp s d)) : 0 ≤ g s ∧ g s ≤ g (sp s d) + 1 := by
  rcases h s hs with ⟨q, -⟩ | ⟨-, -, q⟩ | ⟨-, -, -, q⟩ | ⟨-, -, q, -, q2⟩
  · exact absurd q hp
  · omega
  · have := q d hd; omega
  · have := q2 d hd; omega
theorem IsFar.goal (h : IsFar n sp P G g) {s : Int} (hs : isS n s) (hp : ¬ P s) (hG : G s) : g s = 0 := by
  rcases h s hs with ⟨q, -⟩ | ⟨-, -, q⟩ | ⟨-, q, -⟩ | ⟨-, q, -⟩
  · exact absurd q hp
  · exact q
  · exact absurd hG q
  · exact absurd hG q
theorem IsFar.pos (h : IsFar n sp P G g) {s : Int} (hs : isS n s) (hG : ¬ G s) (hg : 0 ≤ g s) : 0 < g s := by
  rcases h s hs with ⟨-, q⟩ | ⟨-, q, -⟩ | ⟨-, -, q, -⟩ | ⟨-, -, q, -⟩
  · omega
  · exact absurd q hG
  · omega
  · exact q
theorem IsFar.free (h : IsFar n sp P G g) {s : Int} (hs : isS n s) (hg : 0 ≤ g s) : ¬ P s := by
  rcases h s hs with ⟨-, q⟩ | ⟨q, -⟩ | ⟨q, -⟩ | ⟨q, -⟩
  · omega
  · exact q
  · exact q
  · exact q
theorem IsFar.zero (h : IsFar n sp P G g) {s : Int} (hs : isS n s) (hg : g s = 0) : G s := by
  rcases h s hs with ⟨-, q⟩ | ⟨-, q, -⟩ | ⟨-, -, q, -⟩ | ⟨-, -, q, -⟩
  · omega
  · exact q
  · omega
  · omega
theorem fst1_spec {Q : Int → Prop} : ∀ (m : Nat) (i : Int), (∃ d : Int, i ≤ d ∧ d < i + m ∧ Q d) → Q (fst1 Q m i) ∧ i ≤ fst1 Q m i ∧ fst1 Q m i < i + m ∧ ∀ d : Int, i ≤ d → d < fst1 Q m i → ¬ Q d
  | 0, i, h => by obtain ⟨d, h0, h1, h2⟩ := h; omega
  | m + 1, i, h => by
    by_cases hq : Q i
    · rw [fst1_t hq]
      exact ⟨hq, by omega, by omega, fun d h0 h1 => by omega⟩
    · rw [fst1_f hq]
      obtain ⟨d, h0, h1, h2⟩ := h
      have hd : d ≠ i := fun e => hq (e ▸ h2)
      have ih := fst1_spec m (i + 1) ⟨d, by omega, by omega, h2⟩
      refine ⟨ih.1, by omega, by omega, fun e e0 e1 => ?_⟩
      by_cases he : e = i
      · rw [he]; exact hq
      · exact ih.2.2.2 e (by omega) e1
noncomputable def nxF (sp : Int → Int → Int) (n : Int) (g : Int → Int) (s : Int) : Int := fst1 (fun d => g (sp s d) = g s - 1) n.toNat 0
noncomputable def rwF (sp : Int → Int → Int) (n : Int) (g : Int → Int) (now : Int) : Nat → Int
  | 0 => now
  | j + 1 => sp (rwF sp n g now j) (nxF sp n g (rwF sp n g now j))
theorem nx_spec (h : IsFar n sp P G g) {s : Int} (hn : 0 ≤ n) (hs : isS n s) (hg : 0 < g s) : isD n (nxF sp n g s) ∧ g (sp s (nxF sp n g s)) = g s - 1 ∧ ∀ d : Int, 0 ≤ d → d < nxF sp n g s → g (sp s d) ≠ g s - 1 := by
  have hex : ∃ d : Int, isD n d ∧ g (sp s d) = g s - 1 := by
    rcases h s hs with ⟨-, q⟩ | ⟨-, -, q⟩ | ⟨-, -, q, -⟩ | ⟨-, -, -, q, -⟩
    · omega
    · omega
    · omega
    · exact q
  obtain ⟨d, hd, hq⟩ := hex
  have k := fst1_spec (Q := fun d => g (sp s d) = g s - 1) n.toNat 0 ⟨d, hd.1, by omega, hq⟩
  exact ⟨⟨k.2.1, by unfold nxF; omega⟩, k.1, fun e e0 e1 => k.2.2.2 e e0 e1⟩
theorem v_spec (h : IsFar n sp P G g) (hn : 0 ≤ n) (hsp : spOK n (p3 n.toNat) sp) (hnow : isS n now) : ∀ j : Nat, (j : Int) ≤ g now → isS n (rwF sp n g now j) ∧ g (rwF sp n g now j) = g now - j
  | 0, hj => ⟨hnow, by show g now = g now - (0 : Nat); omega⟩
  | j + 1, hj => by
    have ih := v_spec h hn hsp hnow j (by omega)
    have k := nx_spec h hn ih.1 (by omega)
    exact ⟨hsp _ _ ih.1 k.1, by rw [rwF, k.2.1, ih.2]; omega⟩
/-- what holds of a walk outward -/
def BI (n : Int) (sp : Int → Int → Int) (P : Int → Prop) (now : Int) (k : Nat) (c : Int) (F : bF) : Prop :=
  FOK (p3 n.toNat) F ∧
  (∀ s : Int, isS n s → (P s → rAt F.1 s = -2) ∧ (¬ P s → rAt F.1 s ≠ -2)) ∧
  (∀ i j : Nat, i ≤ j → j < F.2.2.2.length → rAt F.1 (rAt F.2.2.2 (i : Int)) ≤ rAt F.1 (rAt F.2.2.2 (j : Int))) ∧
  (∀ s ∈ F.2.2.2, rAt F.1 s ≤ c + 1) ∧
  (∀ s ∈ F.2.2.2, (s = now ∧ rAt F.1 s = 0) ∨ ∃ i : Nat, i < k ∧ i < F.2.2.2.length ∧ ∃ d : Int, isD n d ∧ s = sp (rAt F.2.2.2 (i : Int)) d ∧ rAt F.1 s = rAt F.1 (rAt F.2.2.2 (i : Int)) + 1) ∧
  (∀ (G : Int → Prop) (g : Int → Int), IsFar n sp P G g → ∀ s ∈ F.2.2.2, 0 ≤ g s → 0 ≤ g now ∧ g now ≤ rAt F.1 s + g s)
theorem BI.fok {k : Nat} {c : Int} {F : bF} (h : BI n sp P now k c F) : FOK (p3 n.toNat) F := h.1
theorem BI.isS {k : Nat} {c : Int} {F : bF} (h : BI n sp P now k c F) {s : Int} (hs : s ∈ F.2.2.2) : isS n s ∧ 0 ≤ rAt F.1 s ∧ ¬ P s := by
  have q := h.1.2.2.2.2.2.2.1 s hs
  refine ⟨⟨q.1, q.2.1⟩, q.2.2, fun hp => ?_⟩
  have := (h.2.1 s ⟨q.1, q.2.1⟩).1 hp
  omega
theorem BI.weak {k k' : Nat} {c c' : Int} {F : bF} (h : BI n sp P now k c F) (hk : k ≤ k') (hc : c ≤ c') : BI n sp P now k' c' F := by
  obtain ⟨h1, h2, h3, h4, h5, h6⟩ := h
  refine ⟨h1, h2, h3, fun s hs => by have := h4 s hs; omega, fun s hs => ?_, h6⟩
  rcases h5 s hs with q | ⟨i, i0, i1, q⟩
  · exact Or.inl q
  · exact Or.inr ⟨i, by omega, i1, q⟩
theorem meet_app {N : Int} {F : bF} (h : FOK N F) {s f d : Int} (hs : 0 ≤ s ∧ s < N) (hf : f ∈ F.2.2.2) (hn : rAt F.1 s = -1) : (fMeet F s f d).2.2.2 = F.2.2.2 ++ [s] ∧ (∀ x : Int, rAt (fMeet F s f d).1 x = if x = s then rAt F.1 f + 1 else rAt F.1 x) ∧ (∀ x : Int, rAt (fMeet F s f d).2.1 x = if x = s then f else rAt F.2.1 x) ∧ (∀ x : Int, rAt (fMeet F s f d).2.2.1 x = if x = s then d else rAt F.2.2.1 x) := by
  have hns : s ∉ F.2.2.2 := fun q => by have := h.2.2.2.2.2.2.1 s q; omega
  have hl := fnd_lt h.2.1 h.2.2.2.2.2.1 (fun x hx => ⟨(h.2.2.2.2.2.2.1 x hx).1, (h.2.2.2.2.2.2.1 x hx).2.1⟩) hs hns
  have hf0 := h.2.2.2.2.2.2.1 f hf
  obtain ⟨h1, h2, h3, h4, -⟩ := h
  rw [fMeet_new hn]
  refine ⟨if_pos hl, fun x => ?_, fun x => ?_, fun x => ?_⟩
  · show rAt (rSet F.1 s _) x = _
    rw [rAt_set hs.1 (by omega), if_neg (show ¬ f = -1 by omega)]
  · show rAt (rSet F.2.1 s f) x = _
    rw [rAt_set hs.1 (by omega)]
  · show rAt (rSet F.2.2.1 s d) x = _
    rw [rAt_set hs.1 (by omega)]
theorem rApp {L : List Int} {t : Int} {i : Nat} (h : i < L.length) : rAt (L ++ [t]) (i : Int) = rAt L (i : Int) := rAt_appL (by omega)
theorem rAppN (L : List Int) (t : Int) : rAt (L ++ [t]) (L.length : Int) = t := by rw [rAt_app (by omega) (by omega), if_pos rfl]
theorem BI.meet {k i0 : Nat} {c u d : Int} {F : bF} (h : BI n sp P now k c F) (hsp : spOK n (p3 n.toNat) sp) (hi : i0 < k) (hi2 : i0 < F.2.2.2.length) (hu : u = rAt F.2.2.2 (i0 : Int)) (hc : rAt F.1 u = c) (hd : isD n d) : BI n sp P now k c (fMeet F (sp u d) u d) := by
  by_cases hn : rAt F.1 (sp u d) = -1
  · have hum : u ∈ F.2.2.2 := by rw [hu]; exact rAt_mem (by omega) (by omega)
    have huS := h.isS hum
    have ht := hsp u d huS.1 hd
    have htn : sp u d ∉ F.2.2.2 := fun q => by have := (h.isS q).2.1; omega
    have htP : ¬ P (sp u d) := fun q => by have := (h.2.1 _ ht).1 q; omega
    obtain ⟨m1, m2, m3, m4⟩ := meet_app h.1 (d := d) ht hum hn
    have hF := h.1.meet (d := d) ht (Or.inr hum)
    obtain ⟨h1, h2, h3, h4, h5, h6⟩ := h
    have hne : ∀ x ∈ F.2.2.2, x ≠ sp u d := fun x hx e => htn (e ▸ hx)
    have hold : ∀ i : Nat, i < F.2.2.2.length → rAt (fMeet F (sp u d) u d).1 (rAt F.2.2.2 (i : Int)) = rAt F.1 (rAt F.2.2.2 (i : Int)) := fun i hi => by
      rw [m2, if_neg (hne _ (rAt_mem (by omega) (by omega)))]
    refine ⟨hF, fun s hs => ?_, fun i j hij hj => ?_, fun s hs => ?_, fun s hs => ?_, fun G g hg s hs hgs => ?_⟩
    · rw [m2]
      by_cases hst : s = sp u d
      · rw [if_pos hst]
        refine ⟨fun q => absurd (hst ▸ q) htP, fun _ => by omega⟩
      · rw [if_neg hst]; exact h2 s hs
    · rw [m1, app_len] at hj
      rw [m1]
      by_cases hjl : j < F.2.2.2.length
      · rw [rApp hjl, rApp (by omega), hold j hjl, hold i (by omega)]; exact h3 i j hij hjl
      · rw [show j = F.2.2.2.length by omega, rAppN, m2 (sp u d), if_pos rfl, hc]
        by_cases hil : i < F.2.2.2.length
        · rw [rApp hil, hold i hil]; exact h4 _ (rAt_mem (by omega) (by omega))
        · rw [show i = F.2.2.2.length by omega, rAppN, m2, if_pos rfl, hc]; omega
    · rw [m1] at hs
      rw [m2]
      split
      · omega
      · rename_i hst
        exact h4 s ((List.mem_append.mp hs).elim id (fun q => absurd (List.mem_singleton.mp q) hst))
    · rw [m1] at hs ⊢
      by_cases hst : s = sp u d
      · refine Or.inr ⟨i0, hi, by rw [app_len]; omega, d, hd, ?_, ?_⟩
        · rw [rApp hi2, ← hu]; exact hst
        · rw [rApp hi2, hold i0 hi2, ← hu, m2, if_pos hst]
      · have hs' : s ∈ F.2.2.2 := (List.mem_append.mp hs).elim id (fun q => absurd (List.mem_singleton.mp q) hst)
        rcases h5 s hs' with q | ⟨i, i1, i2, e, he, q1, q2⟩
        · exact Or.inl ⟨q.1, by rw [m2, if_neg hst]; exact q.2⟩
        · exact Or.inr ⟨i, i1, by rw [app_len]; omega, e, he, by rw [rApp i2]; exact q1, by rw [rApp i2, hold i i2, m2, if_neg hst]; exact q2⟩
    · rw [m1] at hs
      rw [m2]
      by_cases hst : s = sp u d
      · rw [if_pos hst]
        have q := hg.step huS.1 huS.2.2 hd (by rw [← hst]; exact hgs)
        have q2 := h6 G g hg u hum q.1
        rw [← hst] at q
        exact ⟨q2.1, by omega⟩
      · rw [if_neg hst]
        exact h6 G g hg s ((List.mem_append.mp hs).elim id (fun q => absurd (List.mem_singleton.mp q) hst)) hgs
  · rw [fMeet_old hn]; exact h
theorem BI.grow {k : Nat} {c : Int} {F : bF} (h : BI n sp P now k c F) (hsp : spOK n (p3 n.toNat) sp) (hk : k < F.2.2.2.length) (hc : c ≤ rAt F.1 (rAt F.2.2.2 (k : Int))) : ∀ m : Nat, (m : Int) ≤ n → BI n sp P now (k + 1) (rAt F.1 (rAt F.2.2.2 (k : Int))) (fGrowTo sp F (rAt F.2.2.2 (k : Int)) m) ∧ k < (fGrowTo sp F (rAt F.2.2.2 (k : Int)) m).2.2.2.length ∧ rAt (fGrowTo sp F (rAt F.2.2.2 (k : Int)) m).2.2.2 (k : Int) = rAt F.2.2.2 (k : Int) ∧ rAt (fGrowTo sp F (rAt F.2.2.2 (k : Int)) m).1 (rAt F.2.2.2 (k : Int)) = rAt F.1 (rAt F.2.2.2 (k : Int))
  | 0, _ => ⟨h.weak (by omega) hc, hk, rfl, rfl⟩
  | m + 1, hm => by
    obtain ⟨i1, i2, i3, i4⟩ := BI.grow h hsp hk hc m (by omega)
    have hum : rAt F.2.2.2 (k : Int) ∈ (fGrowTo sp F (rAt F.2.2.2 (k : Int)) m).2.2.2 := by
      have q := rAt_mem (l := (fGrowTo sp F (rAt F.2.2.2 (k : Int)) m).2.2.2) (i := (k : Int)) (by omega) (by omega)
      rw [i3] at q
      exact q
    have b := i1.meet hsp (i0 := k) (u := rAt F.2.2.2 (k : Int)) (d := (m : Int)) (by omega) i2 i3.symm i4 ⟨by omega, by omega⟩
    rw [fGrowTo]
    refine ⟨b, ?_⟩
    by_cases hn : rAt (fGrowTo sp F (rAt F.2.2.2 (k : Int)) m).1 (sp (rAt F.2.2.2 (k : Int)) (m : Int)) = -1
    · have ht := hsp _ (m : Int) (i1.isS hum).1 ⟨by omega, by omega⟩
      obtain ⟨m1, m2, -⟩ := meet_app i1.1 (d := (m : Int)) ht hum hn
      rw [m1, m2, app_len, rApp i2]
      refine ⟨by omega, i3, ?_⟩
      rw [if_neg (fun e => by have q := (i1.isS hum).2.1; have q2 := congrArg (rAt (fGrowTo sp F (rAt F.2.2.2 (k : Int)) m).1) e; omega)]
      exact i4
    · rw [fMeet_old hn]; exact ⟨i2, i3, i4⟩
/-- the row by the distances, in the tables -/
def CH (n : Int) (sp : Int → Int → Int) (now : Int) (g : Int → Int) (k j p : Nat) (F : bF) : Prop :=
  p < F.2.2.2.length ∧ k ≤ p ∧ rAt F.2.2.2 (p : Int) = rwF sp n g now j ∧ rAt F.1 (rwF sp n g now j) = j ∧
  (∀ i : Nat, i < p → 0 ≤ g (rAt F.2.2.2 (i : Int)) → rAt F.1 (rAt F.2.2.2 (i : Int)) + g (rAt F.2.2.2 (i : Int)) = g now → rAt F.1 (rAt F.2.2.2 (i : Int)) < j) ∧
  (∀ i : Nat, i ≤ j → rwF sp n g now i ∈ F.2.2.2) ∧ (∀ i : Nat, i < j → rAt F.2.1 (rwF sp n g now (i + 1)) = rwF sp n g now i ∧ rAt F.2.2.1 (rwF sp n g now (i + 1)) = nxF sp n g (rwF sp n g now i)) ∧ (j : Int) ≤ g now
theorem CH.meet {k j p : Nat} {F : bF} {t u d : Int} (h : CH n sp now g k j p F) (hF : FOK (p3 n.toNat) F) (ht : isS n t) (hu : u ∈ F.2.2.2) : CH n sp now g k j p (fMeet F t u d) := by
  by_cases hn : rAt F.1 t = -1
  · have htn : t ∉ F.2.2.2 := fun q => by have := hF.2.2.2.2.2.2.1 t q; omega
    obtain ⟨m1, m2, m3, m4⟩ := meet_app hF (d := d) ht hu hn
    obtain ⟨h1, h2, h3, h4, h5, h6, h7, h8⟩ := h
    have hne : ∀ x ∈ F.2.2.2, x ≠ t := fun x hx e => htn (e ▸ hx)
    refine ⟨by rw [m1, app_len]; omega, h2, by rw [m1, rApp h1]; exact h3, by rw [m2, if_neg (hne _ (h6 j (Nat.le_refl _)))]; exact h4, fun i hi => ?_, fun i hi => by rw [m1]; exact List.mem_append_left _ (h6 i hi), fun i hi => ?_, h8⟩
    · rw [m1, rApp (by omega), m2, if_neg (hne _ (rAt_mem (by omega) (by omega)))]
      exact h5 i hi
    · rw [m3, m4, if_neg (hne _ (h6 (i + 1) (by omega))), if_neg (hne _ (h6 (i + 1) (by omega)))]
      exact h7 i hi
  · rw [fMeet_old hn]; exact h
theorem CH.keep {k j p : Nat} {c : Int} {F : bF} (hB : BI n sp P now k c F) (hsp : spOK n (p3 n.toNat) sp) (h : CH n sp now g k j p F) (hkp : k < p) (hc : c ≤ rAt F.1 (rAt F.2.2.2 (k : Int))) : ∀ m : Nat, (m : Int) ≤ n → CH n sp now g (k + 1) j p (fGrowTo sp F (rAt F.2.2.2 (k : Int)) m)
  | 0, _ => ⟨h.1, by omega, h.2.2⟩
  | m + 1, hm => by
    have hk : k < F.2.2.2.length := by have := h.1; omega
    have ih := CH.keep hB hsp h hkp hc m (by omega)
    obtain ⟨i1, i2, i3, i4⟩ := hB.grow hsp hk hc m (by omega)
    have hum : rAt F.2.2.2 (k : Int) ∈ (fGrowTo sp F (rAt F.2.2.2 (k : Int)) m).2.2.2 := by
      have q := rAt_mem (l := (fGrowTo sp F (rAt F.2.2.2 (k : Int)) m).2.2.2) (i := (k : Int)) (by omega) (by omega)
      rw [i3] at q
      exact q
    rw [fGrowTo]
    exact ih.meet i1.1 (hsp _ _ (i1.isS hum).1 ⟨by omega, by omega⟩) hum
theorem CH.grow {k j : Nat} {c : Int} {F : bF} (hn : 0 ≤ n) (hg : IsFar n sp P G g) (hB : BI n sp P now k c F) (hsp : spOK n (p3 n.toNat) sp) (hnow : isS n now) (h : CH n sp now g k j k F) (hc : c ≤ rAt F.1 (rAt F.2.2.2 (k : Int))) (hj : (j : Int) < g now) : ∀ m : Nat, (m : Int) ≤ n →
    ((m : Int) ≤ nxF sp n g (rwF sp n g now j) → (∀ i : Nat, i < (fGrowTo sp F (rAt F.2.2.2 (k : Int)) m).2.2.2.length → 0 ≤ g (rAt (fGrowTo sp F (rAt F.2.2.2 (k : Int)) m).2.2.2 (i : Int)) → rAt (fGrowTo sp F (rAt F.2.2.2 (k : Int)) m).1 (rAt (fGrowTo sp F (rAt F.2.2.2 (k : Int)) m).2.2.2 (i : Int)) + g (rAt (fGrowTo sp F (rAt F.2.2.2 (k : Int)) m).2.2.2 (i : Int)) = g now → rAt (fGrowTo sp F (rAt F.2.2.2 (k : Int)) m).1 (rAt (fGrowTo sp F (rAt F.2.2.2 (k : Int)) m).2.2.2 (i : Int)) < j + 1) ∧ (∀ i : Nat, i ≤ j → rwF sp n g now i ∈ (fGrowTo sp F (rAt F.2.2.2 (k : Int)) m).2.2.2) ∧ (∀ i : Nat, i < j → rAt (fGrowTo sp F (rAt F.2.2.2 (k : Int)) m).2.1 (rwF sp n g now (i + 1)) = rwF sp n g now i ∧ rAt (fGrowTo sp F (rAt F.2.2.2 (k : Int)) m).2.2.1 (rwF sp n g now (i + 1)) = nxF sp n g (rwF sp n g now i))) ∧
    (nxF sp n g (rwF sp n g now j) < (m : Int) → ∃ p : Nat, CH n sp now g (k + 1) (j + 1) p (fGrowTo sp F (rAt F.2.2.2 (k : Int)) m))
  | 0, _ => by
    obtain ⟨h1, h2, h3, h4, h5, h6, h7, h8⟩ := h
    have hvj := v_spec hg hn hsp hnow j h8
    have hnx := nx_spec hg hn hvj.1 (by omega)
    have e3 : rAt F.1 (rAt F.2.2.2 (k : Int)) = j := by rw [h3]; exact h4
    refine ⟨fun _ => ⟨fun i hi hgi hgood => ?_, h6, h7⟩, fun q => by have := hnx.1.1; omega⟩
    have hgi : 0 ≤ g (rAt F.2.2.2 (i : Int)) := hgi
    have hgood : rAt F.1 (rAt F.2.2.2 (i : Int)) + g (rAt F.2.2.2 (i : Int)) = g now := hgood
    have hi : i < F.2.2.2.length := hi
    show rAt F.1 (rAt F.2.2.2 (i : Int)) < j + 1
    have hm : rAt F.2.2.2 (i : Int) ∈ F.2.2.2 := rAt_mem (by omega) (by omega)
    have hle := hB.2.2.2.1 _ hm
    rcases hB.2.2.2.2.1 _ hm with q | ⟨i2, j0, j1, d, hd, q1, q2⟩
    · omega
    · have hm2 : rAt F.2.2.2 (i2 : Int) ∈ F.2.2.2 := rAt_mem (by omega) (by omega)
      have s2 := hB.isS hm2
      have st := hg.step s2.1 s2.2.2 hd (by rw [← q1]; exact hgi)
      rw [← q1] at st
      have Q := (hB.2.2.2.2.2 G g hg _ hm2 st.1).2
      rcases Int.lt_or_le (rAt F.1 (rAt F.2.2.2 (i : Int))) (j + 1) with r | r
      · exact r
      · have := h5 i2 j0 st.1 (by omega)
        omega
  | m + 1, hm => by
    have ih := CH.grow hn hg hB hsp hnow h hc hj m (by omega)
    have hk : k < F.2.2.2.length := h.1
    obtain ⟨i1, i2, i3, i4⟩ := hB.grow hsp hk hc m (by omega)
    have hum : rAt F.2.2.2 (k : Int) ∈ (fGrowTo sp F (rAt F.2.2.2 (k : Int)) m).2.2.2 := by
      have q := rAt_mem (l := (fGrowTo sp F (rAt F.2.2.2 (k : Int)) m).2.2.2) (i := (k : Int)) (by omega) (by omega)
      rw [i3] at q
      exact q
    obtain ⟨h1, h2, h3, h4, h5, h6, h7, h8⟩ := h
    have hvj := v_spec hg hn hsp hnow j h8
    have hnx := nx_spec hg hn hvj.1 (by omega)
    have e3 : rAt F.1 (rAt F.2.2.2 (k : Int)) = j := by rw [h3]; exact h4
    rw [fGrowTo]
    generalize fGrowTo sp F (rAt F.2.2.2 (k : Int)) m = Fm at *
    rw [e3] at i4 i1
    rw [h3] at *
    have hut : isS n (sp (rwF sp n g now j) (m : Int)) := hsp _ (m : Int) hvj.1 ⟨by omega, by omega⟩
    by_cases hcase : nxF sp n g (rwF sp n g now j) < (m : Int)
    · obtain ⟨p, hp⟩ := ih.2 hcase
      exact ⟨fun q => by omega, fun _ => ⟨p, hp.meet i1.1 hut hum⟩⟩
    · obtain ⟨g1, g2, g3⟩ := ih.1 (by omega)
      by_cases heq : nxF sp n g (rwF sp n g now j) = (m : Int)
      · have hv1 : sp (rwF sp n g now j) (m : Int) = rwF sp n g now (j + 1) := by rw [rwF, heq]
        have hgv : g (rwF sp n g now (j + 1)) = g now - j - 1 := by rw [← hv1, ← heq, hnx.2.1, hvj.2]
        rw [hv1] at hut ⊢
        have hfree := hg.free hut (by omega)
        have hnew : rAt Fm.1 (rwF sp n g now (j + 1)) = -1 := by
          have hr := i1.1.2.2.2.2.1 (rwF sp n g now (j + 1))
          have h2' := (i1.2.1 _ hut).2 hfree
          rcases Int.lt_or_le (rAt Fm.1 (rwF sp n g now (j + 1))) 0 with r | r
          · omega
          · exfalso
            have hmem := i1.1.2.2.2.2.2.2.2 _ hut.1 hut.2 r
            obtain ⟨i, hi, hie⟩ := List.getElem_of_mem hmem
            have e2 : rAt Fm.2.2.2 (i : Int) = rwF sp n g now (j + 1) := by
              rw [rAt_in (by omega), show ((i : Int)).toNat = i by omega, List.getD_eq_getElem?_getD, List.getElem?_eq_getElem hi]; exact hie
            have hle := i1.2.2.2.1 _ hmem
            have Q := (i1.2.2.2.2.2 G g hg _ hmem (by omega)).2
            have := g1 i hi (by rw [e2]; omega) (by rw [e2]; omega)
            rw [e2] at this
            omega
        refine ⟨fun q => by omega, fun _ => ⟨Fm.2.2.2.length, ?_⟩⟩
        obtain ⟨m1, m2, m3, m4⟩ := meet_app i1.1 (d := (m : Int)) hut hum hnew
        have htn : rwF sp n g now (j + 1) ∉ Fm.2.2.2 := fun q => by have := (i1.isS q).2.1; omega
        have hne : ∀ x ∈ Fm.2.2.2, x ≠ rwF sp n g now (j + 1) := fun x hx e => htn (e ▸ hx)
        refine ⟨by rw [m1, app_len]; omega, by omega, by rw [m1, rAppN], by rw [m2, if_pos rfl, i4]; omega, fun i hi => ?_, fun i hi => ?_, fun i hi => ?_, by omega⟩
        · rw [m1, rApp hi, m2, if_neg (hne _ (rAt_mem (by omega) (by omega)))]
          intro a b
          have := g1 i hi a b
          omega
        · rw [m1]
          by_cases hij : i ≤ j
          · exact List.mem_append_left _ (g2 i hij)
          · rw [show i = j + 1 by omega]; exact List.mem_append_right _ (List.mem_singleton.mpr rfl)
        · rw [m3, m4]
          by_cases hij : i < j
          · rw [if_neg (hne _ (g2 (i + 1) (by omega))), if_neg (hne _ (g2 (i + 1) (by omega)))]; exact g3 i hij
          · rw [show i = j by omega, if_pos rfl, if_pos rfl]; exact ⟨rfl, heq.symm⟩
      · refine ⟨fun _ => ?_, fun q => by omega⟩
        have hlt := hnx.2.2 (m : Int) (by omega) (by omega)
        by_cases hn1 : rAt Fm.1 (sp (rwF sp n g now j) (m : Int)) = -1
        · obtain ⟨m1, m2, m3, m4⟩ := meet_app i1.1 (d := (m : Int)) hut hum hn1
          have htn : sp (rwF sp n g now j) (m : Int) ∉ Fm.2.2.2 := fun q => by have := (i1.isS q).2.1; omega
          have hne : ∀ x ∈ Fm.2.2.2, x ≠ sp (rwF sp n g now j) (m : Int) := fun x hx e => htn (e ▸ hx)
          refine ⟨fun i hi => ?_, fun i hi => by rw [m1]; exact List.mem_append_left _ (g2 i hi), fun i hi => ?_⟩
          · rw [m1, app_len] at hi
            rw [m1]
            by_cases hil : i < Fm.2.2.2.length
            · rw [rApp hil, m2, if_neg (hne _ (rAt_mem (by omega) (by omega)))]; exact g1 i hil
            · rw [show i = Fm.2.2.2.length by omega, rAppN, m2, if_pos rfl, i4]
              intro a b
              exact absurd (show g (sp (rwF sp n g now j) (m : Int)) = g (rwF sp n g now j) - 1 by omega) hlt
          · rw [m3, m4, if_neg (hne _ (g2 (i + 1) (by omega))), if_neg (hne _ (g2 (i + 1) (by omega)))]; exact g3 i hi
        · rw [fMeet_old hn1]; exact ⟨g1, g2, g3⟩
end BFS
