/-! ===== DrawerWall.read ===== -/
/-- the numbers of an item and its end, and the cells that it adds -/
noncomputable def tkN (l : List Int) (wd : Int) : Nat → Int → bM → Int × bM × List Int
  | 0, _, s => (if (scn l s.2.2).2.1 = 4 then 1 else 0, scn l s.2.2, [])
  | m + 1, k, s =>
    if dueN wd ≤ k then ((tkN l wd m (k + 1) s).1, (tkN l wd m (k + 1) s).2.1, 0 :: (tkN l wd m (k + 1) s).2.2)
    else if wd = 6 ∧ k = dueN wd - 1 ∧ (scn l s.2.2).2.1 = 3 then
      (if (scn l (scn l s.2.2).2.2).2.1 = 2 then ((tkN l wd m (k + 1) (scn l (scn l s.2.2).2.2)).1, (tkN l wd m (k + 1) (scn l (scn l s.2.2).2.2)).2.1, (-(rAt l (scn l (scn l s.2.2).2.2).1 - 48)) :: (tkN l wd m (k + 1) (scn l (scn l s.2.2).2.2)).2.2) else (0, scn l (scn l s.2.2).2.2, []))
    else (if (scn l s.2.2).2.1 = 2 then ((tkN l wd m (k + 1) (scn l s.2.2)).1, (tkN l wd m (k + 1) (scn l s.2.2)).2.1, (rAt l (scn l s.2.2).1 - 48) :: (tkN l wd m (k + 1) (scn l s.2.2)).2.2) else (0, scn l s.2.2, []))
theorem rAdd_lt {cap : Nat} {l : List Int} (v : Int) (h : l.length < cap) : rAdd cap l v = l ++ [v] := if_pos h
theorem tkK_N (l : List Int) (wd : Int) : ∀ (m : Nat) (k : Int) (s : bM) (lc : List Int), lc.length + m ≤ 1000 → tkK l wd m k s lc = ((tkN l wd m k s).1, (tkN l wd m k s).2.1, lc ++ (tkN l wd m k s).2.2)
  | 0, k, s, lc, h => by rw [tkK, tkN, List.append_nil]
  | m + 1, k, s, lc, h => by
    have ih := fun (k : Int) (s : bM) (v : Int) => tkK_N l wd m k s (lc ++ [v]) (by rw [List.length_append, List.length_singleton]; omega)
    rw [tkK, tkN]
    split
    · rw [rAdd_lt _ (by omega), ih, List.append_assoc]; rfl
    · split
      · split
        · rw [rAdd_lt _ (by omega), ih, List.append_assoc]; rfl
        · rw [List.append_nil]
      · split
        · rw [rAdd_lt _ (by omega), ih, List.append_assoc]; rfl
        · rw [List.append_nil]
theorem tkN_len (l : List Int) (wd : Int) : ∀ (m : Nat) (k : Int) (s : bM), (tkN l wd m k s).1 = 1 → (tkN l wd m k s).2.2.length = m
  | 0, k, s => fun _ => rfl
  | m + 1, k, s => by
    rw [tkN]
    split
    · intro h; show List.length (_ :: _) = _; rw [List.length_cons, tkN_len l wd m _ _ h]
    · split
      · split
        · intro h; show List.length (_ :: _) = _; rw [List.length_cons, tkN_len l wd m _ _ h]
        · intro h; exact absurd h (show ¬ (0 : Int) = 1 by decide)
      · split
        · intro h; show List.length (_ :: _) = _; rw [List.length_cons, tkN_len l wd m _ _ h]
        · intro h; exact absurd h (show ¬ (0 : Int) = 1 by decide)
theorem tkN_rng {l : List Int} (wd : Int) : ∀ (m : Nat) (k : Int) (s : bM), 0 ≤ s.2.2 → s.2.2 ≤ l.length → (0 ≤ (tkN l wd m k s).2.1.1 ∧ (tkN l wd m k s).2.1.1 ≤ l.length) ∧ (0 ≤ (tkN l wd m k s).2.1.2.2 ∧ (tkN l wd m k s).2.1.2.2 ≤ l.length) ∧ ((tkN l wd m k s).1 = 1 → k + m = 4 → s.2.2 + 1 + max 0 (dueN wd - k) ≤ (tkN l wd m k s).2.1.2.2)
  | 0, k, s, h1, h2 => by
    have q := scn_rng h1 h2
    have hdu : dueN wd ≤ 4 := by unfold dueN; split; omega; split <;> omega
    refine ⟨⟨by show 0 ≤ (scn l s.2.2).1; omega, q.1.2⟩, ⟨by show 0 ≤ (scn l s.2.2).2.2; omega, q.2.2.1.2⟩, fun h hk => ?_⟩
    show _ ≤ (scn l s.2.2).2.2
    have h : (if (scn l s.2.2).2.1 = 4 then (1 : Int) else 0) = 1 := h
    split at h
    · have := q.2.2.2 (by omega); omega
    · cases h
  | m + 1, k, s, h1, h2 => by
    have q := scn_rng h1 h2
    have q2 := scn_rng (l := l) (p := (scn l s.2.2).2.2) (by omega) q.2.2.1.2
    rw [tkN]
    split
    · have := tkN_rng wd m (k + 1) s h1 h2
      exact ⟨this.1, this.2.1, fun h hk => by have := this.2.2 h (by omega); show _ ≤ (tkN l wd m (k + 1) s).2.1.2.2; omega⟩
    · split
      · rename_i hc
        split
        · have := tkN_rng wd m (k + 1) (scn l (scn l s.2.2).2.2) (by omega) q2.2.2.1.2
          exact ⟨this.1, this.2.1, fun h hk => by have := this.2.2 h (by omega); have := q2.2.2.2 (by omega); show _ ≤ (tkN l wd m (k + 1) (scn l (scn l s.2.2).2.2)).2.1.2.2; omega⟩
        · exact ⟨⟨by show 0 ≤ (scn l (scn l s.2.2).2.2).1; omega, q2.1.2⟩, ⟨by show 0 ≤ (scn l (scn l s.2.2).2.2).2.2; omega, q2.2.2.1.2⟩, fun h => absurd h (show ¬ (0 : Int) = 1 by decide)⟩
      · split
        · have := tkN_rng wd m (k + 1) (scn l s.2.2) (by omega) q.2.2.1.2
          exact ⟨this.1, this.2.1, fun h hk => by have := this.2.2 h (by omega); have := q.2.2.2 (by omega); show _ ≤ (tkN l wd m (k + 1) (scn l s.2.2)).2.1.2.2; omega⟩
        · exact ⟨⟨by show 0 ≤ (scn l s.2.2).1; omega, q.1.2⟩, ⟨by show 0 ≤ (scn l s.2.2).2.2; omega, q.2.2.1.2⟩, fun h => absurd h (show ¬ (0 : Int) = 1 by decide)⟩
theorem wdOf_4 {l : List Int} {s e : Int} (h : 5 ≤ wdOf l s e) : 4 ≤ e - s := by
  have hl := lnS_rng
  have h0 := hl 0 (by decide)
  have h1 := hl 1 (by decide)
  have h2 := hl 2 (by decide)
  have h3 := hl 3 (by decide)
  have h4 := hl 4 (by decide)
  unfold wdOf at h
  split at h
  · rename_i q; have := q.1; omega
  · split at h
    · rename_i q; have := q.1; omega
    · split at h
      · rename_i q; have := q.1; omega
      · split at h
        · rename_i q; have := q.1; omega
        · split at h
          · rename_i q; have := q.1; omega
          · exact absurd h (by decide)
theorem scn_4 {l : List Int} {p : Int} (h : 5 ≤ (scn l p).2.1) : (scn l p).1 + 4 ≤ (scn l p).2.2 := by
  unfold scn at h ⊢
  generalize adv bSp l p = s at *
  unfold scn2 at h ⊢
  split at h
  · exact absurd h (show ¬ (5 : Int) ≤ 0 by decide)
  · rename_i hs
    rw [if_neg hs]
    split at h
    · rename_i hl
      rw [if_pos hl]
      have := wdOf_4 h
      show s + 4 ≤ adv bL l (s + 1)
      omega
    · split at h
      · exfalso
        revert h
        show ¬ 5 ≤ (if adv bF1 l (s + 1) = s + 1 then (2 : Int) else 1)
        split <;> omega
      · exfalso
        revert h
        show ¬ 5 ≤ (if rAt l s = 45 then (3 : Int) else if rAt l s = 59 then 4 else 1)
        split
        · omega
        · split <;> omega
/-- the shape of the cells at an item's begin -/
def lcSh (l : List Int) (s : bM) (lc : List Int) : Prop := (0 ≤ s.2.2 ∧ s.2.2 ≤ l.length) ∧ lc.length % 5 = 0 ∧ 6 * ((lc.length : Int) / 5) ≤ s.2.2 ∧ (∀ i : Int, 0 ≤ i → i < (lc.length : Int) / 5 → 5 ≤ rAt lc (i * 5) ∧ rAt lc (i * 5) ≤ 9) ∧ (0 < lc.length → rAt lc 0 = 5)
theorem rAt_appL {l l2 : List Int} {i : Int} (h : i < l.length) : rAt (l ++ l2) i = rAt l i := by
  unfold rAt
  split
  · rw [List.getD_eq_getElem?_getD, List.getD_eq_getElem?_getD, List.getElem?_append_left (by omega)]
  · rfl
/-- an item that stands: the cells that it adds, what stays so -/
theorem itm_sh {l : List Int} {s : bM} {lc : List Int} (hl : l.length ≤ 200) (h : lcSh l s lc) (ht : ((lc.length : Int) / 5 = 0 ∧ (scn l s.2.2).2.1 = 5) ∨ ((lc.length : Int) / 5 ≠ 0 ∧ 5 < (scn l s.2.2).2.1)) :
    tkK l (scn l s.2.2).2.1 4 0 (scn l s.2.2) (rAdd 1000 lc (scn l s.2.2).2.1) = ((tkN l (scn l s.2.2).2.1 4 0 (scn l s.2.2)).1, (tkN l (scn l s.2.2).2.1 4 0 (scn l s.2.2)).2.1, lc ++ (scn l s.2.2).2.1 :: (tkN l (scn l s.2.2).2.1 4 0 (scn l s.2.2)).2.2) ∧ ((tkN l (scn l s.2.2).2.1 4 0 (scn l s.2.2)).1 = 1 → lcSh l (tkN l (scn l s.2.2).2.1 4 0 (scn l s.2.2)).2.1 (lc ++ (scn l s.2.2).2.1 :: (tkN l (scn l s.2.2).2.1 4 0 (scn l s.2.2)).2.2) ∧ s.2.2 + 1 ≤ (tkN l (scn l s.2.2).2.1 4 0 (scn l s.2.2)).2.1.2.2) := by
  obtain ⟨⟨h1, h2⟩, h3, h4, h5, h6⟩ := h
  have q := scn_rng h1 h2
  have q4 := scn_4 (l := l) (p := s.2.2) (by omega)
  have hr := tkN_rng (l := l) (scn l s.2.2).2.1 4 0 (scn l s.2.2) (by omega) q.2.2.1.2
  refine ⟨?_, fun ho => ?_⟩
  · rw [rAdd_lt _ (by omega), tkK_N l _ 4 0 _ _ (by rw [List.length_append, List.length_singleton]; omega), List.append_assoc]; rfl
  · have hn := tkN_len l _ 4 0 _ ho
    have ha := hr.2.2 ho (by omega)
    have hdu : 1 ≤ dueN (scn l s.2.2).2.1 := by unfold dueN; split; omega; split <;> omega
    have hlen : (lc ++ (scn l s.2.2).2.1 :: (tkN l (scn l s.2.2).2.1 4 0 (scn l s.2.2)).2.2).length = lc.length + 5 := by rw [List.length_append, List.length_cons, hn]
    refine ⟨⟨hr.2.1, ?_, ?_, fun i hi0 hi => ?_, fun _ => ?_⟩, by omega⟩
    · rw [hlen]; omega
    · rw [hlen]; omega
    · rw [hlen] at hi
      by_cases hc : i < (lc.length : Int) / 5
      · rw [rAt_appL (by omega)]; exact h5 i hi0 hc
      · rw [show i * 5 = (lc.length : Int) by omega, rAt_in (by omega), List.getD_eq_getElem?_getD, List.getElem?_append_right (by omega)]
        rw [show ((lc.length : Int)).toNat - lc.length = 0 by omega, List.getElem?_cons_zero]
        show 5 ≤ (scn l s.2.2).2.1 ∧ (scn l s.2.2).2.1 ≤ 9
        omega
    · by_cases hc : 0 < lc.length
      · rw [rAt_appL (by omega)]; exact h6 hc
      · have hc0 : lc = [] := List.length_eq_zero_iff.mp (by omega)
        subst hc0
        show (scn l s.2.2).2.1 = 5
        simp at ht
        exact ht
theorem tkN_01 (l : List Int) (wd : Int) : ∀ (m : Nat) (k : Int) (s : bM), (tkN l wd m k s).1 = 0 ∨ (tkN l wd m k s).1 = 1
  | 0, k, s => by
    show (if (scn l s.2.2).2.1 = 4 then (1 : Int) else 0) = 0 ∨ (if (scn l s.2.2).2.1 = 4 then (1 : Int) else 0) = 1
    split <;> omega
  | m + 1, k, s => by
    rw [tkN]
    split
    · exact tkN_01 l wd m (k + 1) s
    · split
      · split
        · exact tkN_01 l wd m (k + 1) _
        · exact Or.inl rfl
      · split
        · exact tkN_01 l wd m (k + 1) _
        · exact Or.inl rfl
theorem ftK_all {l : List Int} (hl : l.length ≤ 200) (hby : byOK l) : ∀ (m : Nat) (s : bM) (lc : List Int), lcSh l s lc → lcOK lc → (l.length : Int) + 1 ≤ s.2.2 + m → (0 ≤ s.1 ∧ s.1 ≤ l.length) → (-1 ≤ (ftK l m s lc).1 ∧ (ftK l m s lc).1 ≤ l.length) ∧ lcOK (ftK l m s lc).2.2 ∧ ((ftK l m s lc).1 = -1 → lcSh l (ftK l m s lc).2.1 (ftK l m s lc).2.2 ∧ 0 < ((ftK l m s lc).2.2.length : Int) / 5)
  | 0, s, lc, h, ho, hm, h0 => by
    have := h.1
    exact ⟨by omega, ho, fun q => by omega⟩
  | m + 1, s, lc, h, ho, hm, h0 => by
    have h1 := h.1
    have q := scn_rng h1.1 h1.2
    rw [ftK]
    split
    · rename_i hc
      refine ⟨⟨by show (-1 : Int) ≤ -1; omega, by show (-1 : Int) ≤ l.length; omega⟩, ho, fun _ => ⟨⟨⟨by show 0 ≤ (scn l s.2.2).2.2; omega, q.2.2.1.2⟩, h.2.1, ?_, h.2.2.2⟩, hc.2⟩⟩
      have := h.2.2.1
      show 6 * ((lc.length : Int) / 5) ≤ (scn l s.2.2).2.2
      omega
    · split
      · rename_i hc
        have hi := itm_sh hl h hc
        have hk := tkK_rng hby (scn l s.2.2).2.1 4 0 (scn l s.2.2) (rAdd 1000 lc (scn l s.2.2).2.1) (by omega) q.2.2.1.2 (ho.add ⟨by omega, by omega⟩)
        have h01 := tkN_01 l (scn l s.2.2).2.1 4 0 (scn l s.2.2)
        rw [hi.1] at hk ⊢
        split
        · rename_i hz
          refine ⟨⟨by have : 0 ≤ (tkN l (scn l s.2.2).2.1 4 0 (scn l s.2.2)).2.1.1 := hk.1.1; show (-1 : Int) ≤ (tkN l (scn l s.2.2).2.1 4 0 (scn l s.2.2)).2.1.1; omega, hk.1.2⟩, hk.2.2, fun q => ?_⟩
          have : 0 ≤ (tkN l (scn l s.2.2).2.1 4 0 (scn l s.2.2)).2.1.1 := hk.1.1
          have q : (tkN l (scn l s.2.2).2.1 4 0 (scn l s.2.2)).2.1.1 = -1 := q
          omega
        · rename_i hz
          have hz : ¬ (tkN l (scn l s.2.2).2.1 4 0 (scn l s.2.2)).1 = 0 := hz
          have h2 := hi.2 (by omega)
          exact ftK_all hl hby m _ _ h2.1 hk.2.2 (by have := h2.2; show (l.length : Int) + 1 ≤ (tkN l (scn l s.2.2).2.1 4 0 (scn l s.2.2)).2.1.2.2 + m; omega) hk.1
      · exact ⟨⟨by show (-1 : Int) ≤ (scn l s.2.2).1; omega, q.1.2⟩, ho, fun q2 => by have q2 : (scn l s.2.2).1 = -1 := q2; omega⟩
noncomputable def ftR (tx : List Int) : Int × bM × List Int := ftK tx (tx.length + 1) (0, 0, 0) []
theorem ftR_all {l : List Int} (hl : l.length ≤ 200) (hby : byOK l) : (-1 ≤ (ftR l).1 ∧ (ftR l).1 ≤ l.length) ∧ lcOK (ftR l).2.2 ∧ ((ftR l).1 = -1 → lcSh l (ftR l).2.1 (ftR l).2.2 ∧ 0 < ((ftR l).2.2.length : Int) / 5) :=
  ftK_all hl hby (l.length + 1) (0, 0, 0) [] ⟨⟨by show (0 : Int) ≤ 0; omega, by show (0 : Int) ≤ l.length; omega⟩, rfl, by show (6 : Int) * (0 / 5) ≤ 0; omega, fun i h1 h2 => by have h2 : i < 0 / 5 := h2; omega, fun h => absurd h (by decide)⟩ (fun j => by rw [rAt_out (by simp; omega)]; omega) (by show (l.length : Int) + 1 ≤ 0 + (l.length + 1 : Nat); omega) ⟨by show (0 : Int) ≤ 0; omega, by show (0 : Int) ≤ l.length; omega⟩
/-- the items told, up to one that is refused -/
def fTells (lc : List Int) : Nat → Int → vSt → Int × vSt
  | 0, _, S => (-1, S)
  | m + 1, i, S => if (fTell lc (i * 5) S).1 = -2 ∨ (fTell lc (i * 5) S).1 = -3 ∨ (fTell lc (i * 5) S).1 = -4 then (i, (fTell lc (i * 5) S).2) else fTells lc m (i + 1) (fTell lc (i * 5) S).2
theorem fTells_good (lc : List Int) : ∀ (m : Nat) (i : Int) (S : vSt), vGood S → vGood (fTells lc m i S).2
  | 0, i, S, h => h
  | m + 1, i, S, h => by
    rw [fTells]
    split
    · exact fTell_good h lc _
    · exact fTells_good lc m (i + 1) _ (fTell_good h lc _)
theorem fTells_rng (lc : List Int) : ∀ (m : Nat) (i : Int) (S : vSt), 0 ≤ i → -1 ≤ (fTells lc m i S).1 ∧ (fTells lc m i S).1 ≤ i + m
  | 0, i, S, h => ⟨by show (-1 : Int) ≤ -1; omega, by show (-1 : Int) ≤ i + (0 : Nat); omega⟩
  | m + 1, i, S, h => by
    rw [fTells]
    split
    · exact ⟨by show -1 ≤ i; omega, by show i ≤ i + (m + 1 : Nat); omega⟩
    · have := fTells_rng lc m (i + 1) (fTell lc (i * 5) S).2 (by omega)
      exact ⟨this.1, by have := this.2; omega⟩
theorem fTells_ind {lc : List Int} {m : Nat} {S S' : vSt} (h0 : rAt lc 0 = 5) (h : vGood S) (h' : vGood S') : (fTells lc (m + 1) 0 S).1 = (fTells lc (m + 1) 0 S').1 ∧ ((fTells lc (m + 1) 0 S).1 = -1 → (fTells lc (m + 1) 0 S).2 = (fTells lc (m + 1) 0 S').2) := by
  have e : ∀ T : vSt, fTell lc (0 * 5) T = fWall T (rAt lc (0 * 5 + 1)) := fun T => if_pos h0
  have g1 := h.1
  have g2 := h'.1
  rw [fTells, fTells, e, e]
  unfold fWall
  split
  · rw [if_pos (Or.inl rfl), if_pos (Or.inl rfl)]
    exact ⟨rfl, fun q => absurd q (show ¬ (0 : Int) = -1 by decide)⟩
  · rw [if_neg (by show ¬ (S.1 = -2 ∨ S.1 = -3 ∨ S.1 = -4); omega), if_neg (by show ¬ (S'.1 = -2 ∨ S'.1 = -3 ∨ S'.1 = -4); omega)]
    exact ⟨rfl, fun _ => rfl⟩
noncomputable def fRead (S : vSt) (tx : List Int) : Int × vSt := if (ftR tx).1 ≠ -1 then (-10 - (ftR tx).1, S) else if (fTells (ftR tx).2.2 (((ftR tx).2.2.length : Int) / 5).toNat 0 vS5).1 ≠ -1 then (-1000 - (fTells (ftR tx).2.2 (((ftR tx).2.2.length : Int) / 5).toNat 0 vS5).1, S) else (((ftR tx).2.2.length : Int) / 5, (fTells (ftR tx).2.2 (((ftR tx).2.2.length : Int) / 5).toNat 0 vS5).2)
section RD
variable {nn : Nat} {w : vWd} {pl nx tk : Int} {lc : List Int}
set_option maxRecDepth 100000 in
theorem lp_refusedBy (ho : w 79 = some (rO pl nx tk)) (hc : RowAt w 82 1000 lc) (hlc : lcOK lc) (hwd : ∀ i : Int, 0 ≤ i → i < (lc.length : Int) / 5 → 5 ≤ rAt lc (i * 5) ∧ rAt lc (i * 5) ≤ 9) {Q : vPost} {r : Int × vSt} (hQ : ∀ w', WallAt w' 20 r.2 → frW 20 w w' → Q (some (vI r.1)) nn w') : ∀ (m : Nat) (i : Int) (S : vSt) (w' : vWd), 0 ≤ i → i + m = (lc.length : Int) / 5 → vGood S → WallAt w' 20 S → frW 20 w w' → fTells lc m i S = r →
    V mX1_refusedBy (rm 3) Q 2 [some (.ref 79), some (.ref 20), some (vI i), none] [] nn w' 0 0 := by
  intro m
  induction m with
  | zero =>
    intro i S w' hi him hG hW hf hr
    have ho' := (hf 79 (by omega)).trans ho
    have hc' := hc.keep (w' := w') (hf _ (by omega)) (hf _ (by omega))
    have hl := hc.len
    refine V_iload_n (Y := mX1_refusedBy) (pc := 2) dX1_refusedBy_2 rfl ?_
    refine V_aload_n (Y := mX1_refusedBy) (pc := 3) dX1_refusedBy_3 rfl ?_
    apply V_vR (Y := mX1_refusedBy) (pc := 4) dX1_refusedBy_4 ok_X1_items ov_X1_items ln_X1_47 (c_items ho' hc')
    · assumption
    · rfl
    · rfl
    · rfl
    · rfl
    · rfl
    refine V_icmp_ge (tgt := 45) (Y := mX1_refusedBy) (pc := 7) dX1_refusedBy_7 (by decide) ⟨by omega, by omega⟩ ⟨by omega, by omega⟩ (fun h_7 => ?_) (fun h_7 => absurd h_7 (by omega))
    refine V_iconst (Y := mX1_refusedBy) (pc := 45) dX1_refusedBy_45 ?_
    refine V_iret (Y := mX1_refusedBy) (pc := 46) dX1_refusedBy_46 rfl (Nat.le_of_ble_eq_true rfl) (Nat.le_of_ble_eq_true rfl) ?_
    rw [← hr] at hQ
    exact hQ w' hW hf
  | succ m ih =>
    intro i S w' hi him hG hW hf hr
    have hgd := fTell_good hG lc (i * 5)
    obtain ⟨n, now, ca, po, fo, rs⟩ := S
    have ho' := (hf 79 (by omega)).trans ho
    have hc' := hc.keep (w' := w') (hf _ (by omega)) (hf _ (by omega))
    have hl := hc.len
    have h1 := hW.r1.len
    have h5 := hW.r5.len
    have hrg := fTell_rng hG (by show (rs 1).length ≤ 100; omega) (by show (rs 5).length ≤ 100; omega) lc (i * 5)
    have hw5 := hwd i hi (by omega)
    rw [fTells] at hr
    refine V_iload_n (Y := mX1_refusedBy) (pc := 2) dX1_refusedBy_2 rfl ?_
    refine V_aload_n (Y := mX1_refusedBy) (pc := 3) dX1_refusedBy_3 rfl ?_
    apply V_vR (Y := mX1_refusedBy) (pc := 4) dX1_refusedBy_4 ok_X1_items ov_X1_items ln_X1_47 (c_items ho' hc')
    · assumption
    · rfl
    · rfl
    · rfl
    · rfl
    · rfl
    refine V_icmp_ge (tgt := 45) (Y := mX1_refusedBy) (pc := 7) dX1_refusedBy_7 (by decide) ⟨by omega, by omega⟩ ⟨by omega, by omega⟩ (fun h_7 => absurd h_7 (by omega)) (fun h_7 => ?_)
    refine V_aload_n (Y := mX1_refusedBy) (pc := 10) dX1_refusedBy_10 rfl ?_
    refine V_aload_n (Y := mX1_refusedBy) (pc := 11) dX1_refusedBy_11 rfl ?_
    refine V_iload_n (Y := mX1_refusedBy) (pc := 12) dX1_refusedBy_12 rfl ?_
    refine V_iconst (Y := mX1_refusedBy) (pc := 13) dX1_refusedBy_13 ?_
    refine V_imul (Y := mX1_refusedBy) (pc := 14) dX1_refusedBy_14 ?_
    apply V_vI (Y := mX1_refusedBy) (pc := 15) dX1_refusedBy_15 ok_X1_tell ov_X1_tell ln_X1_102 (c_tell (a := i * 5) ho' hc' hlc hW hG ⟨by omega, by omega⟩ (by omega))
    · assumption
    · rfl
    · rfl
    · rfl
    · rfl
    · rfl
    rintro z_15 w_15 ⟨hz, g1, f1⟩
    refine V_istore_n (Y := mX1_refusedBy) (pc := 18) dX1_refusedBy_18 rfl ?_
    refine V_iload_n (Y := mX1_refusedBy) (pc := 19) dX1_refusedBy_19 rfl ?_
    refine V_bipush (Y := mX1_refusedBy) (pc := 20) dX1_refusedBy_20 ⟨by decide, by decide⟩ ?_
    refine V_icmp_eq (tgt := 37) (Y := mX1_refusedBy) (pc := 22) dX1_refusedBy_22 (by decide) ⟨by omega, by omega⟩ ⟨by omega, by omega⟩ (fun h_22 => ?_) (fun h_22 => ?_)
    · refine V_iload_n (Y := mX1_refusedBy) (pc := 37) dX1_refusedBy_37 rfl ?_
      refine V_iret (Y := mX1_refusedBy) (pc := 38) dX1_refusedBy_38 rfl (Nat.le_of_ble_eq_true rfl) (Nat.le_of_ble_eq_true rfl) ?_
      rw [if_pos (by omega)] at hr
      rw [← hr] at hQ
      exact hQ w_15 g1 (fun j hj => (f1 j hj).trans (hf j hj))
    · refine V_iload_n (Y := mX1_refusedBy) (pc := 25) dX1_refusedBy_25 rfl ?_
      refine V_bipush (Y := mX1_refusedBy) (pc := 26) dX1_refusedBy_26 ⟨by decide, by decide⟩ ?_
      refine V_icmp_eq (tgt := 37) (Y := mX1_refusedBy) (pc := 28) dX1_refusedBy_28 (by decide) ⟨by omega, by omega⟩ ⟨by omega, by omega⟩ (fun h_28 => ?_) (fun h_28 => ?_)
      · refine V_iload_n (Y := mX1_refusedBy) (pc := 37) dX1_refusedBy_37 rfl ?_
        refine V_iret (Y := mX1_refusedBy) (pc := 38) dX1_refusedBy_38 rfl (Nat.le_of_ble_eq_true rfl) (Nat.le_of_ble_eq_true rfl) ?_
        rw [if_pos (by omega)] at hr
        rw [← hr] at hQ
        exact hQ w_15 g1 (fun j hj => (f1 j hj).trans (hf j hj))
      · refine V_iload_n (Y := mX1_refusedBy) (pc := 31) dX1_refusedBy_31 rfl ?_
        refine V_bipush (Y := mX1_refusedBy) (pc := 32) dX1_refusedBy_32 ⟨by decide, by decide⟩ ?_
        refine V_icmp_ne (tgt := 39) (Y := mX1_refusedBy) (pc := 34) dX1_refusedBy_34 (by decide) ⟨by omega, by omega⟩ ⟨by omega, by omega⟩ (fun h_34 => ?_) (fun h_34 => ?_)
        · refine V_iinc (Y := mX1_refusedBy) (pc := 39) dX1_refusedBy_39 rfl rfl ?_
          refine V_goto (tgt := 2) (Y := mX1_refusedBy) (pc := 42) dX1_refusedBy_42 (by decide) ?_
          rw [if_neg (by omega)] at hr
          refine V_drop 3 ?_
          exact ih (i + 1) _ w_15 (by omega) (by omega) hgd g1 (fun j hj => (f1 j hj).trans (hf j hj)) hr
        · refine V_iload_n (Y := mX1_refusedBy) (pc := 37) dX1_refusedBy_37 rfl ?_
          refine V_iret (Y := mX1_refusedBy) (pc := 38) dX1_refusedBy_38 rfl (Nat.le_of_ble_eq_true rfl) (Nat.le_of_ble_eq_true rfl) ?_
          rw [if_pos (by omega)] at hr
          rw [← hr] at hQ
          exact hQ w_15 g1 (fun j hj => (f1 j hj).trans (hf j hj))
set_option maxRecDepth 100000 in
theorem c_refusedBy {S : vSt} (ho : w 79 = some (rO pl nx tk)) (hc : RowAt w 82 1000 lc) (hlc : lcOK lc) (hwd : ∀ i : Int, 0 ≤ i → i < (lc.length : Int) / 5 → 5 ≤ rAt lc (i * 5) ∧ rAt lc (i * 5) ≤ 9) (hG : vGood S) (hW : WallAt w 20 S) : Ctr mX1_refusedBy (rm 3) [.ref 79, .ref 20] nn w (pI (fun z w' => z = (fTells lc ((lc.length : Int) / 5).toNat 0 S).1 ∧ WallAt w' 20 (fTells lc ((lc.length : Int) / 5).toNat 0 S).2 ∧ frW 20 w w') nn) := by
  refine Ctr_of (lv := [some (.ref 79), some (.ref 20), none, none]) (by decide +kernel) rfl rfl ?_
  refine V_iconst (Y := mX1_refusedBy) (pc := 0) dX1_refusedBy_0 ?_
  refine V_istore_n (Y := mX1_refusedBy) (pc := 1) dX1_refusedBy_1 rfl ?_
  exact lp_refusedBy (r := fTells lc ((lc.length : Int) / 5).toNat 0 S) ho hc hlc hwd (fun w' q1 q2 => pI_of ⟨rfl, q1, q2⟩) ((lc.length : Int) / 5).toNat 0 S w (by omega) (by omega) hG hW (frW.refl 20 w) rfl
end RD
section CLS
variable {nn : Nat} {w : vWd} {n now : Int} {ca po fo : Nat} {rs : Nat → List Int} {S0 S1 : vSt} {k0 k1 rb rn rf : Int} {tx : List Int}
set_option maxRecDepth 100000 in
theorem cx_read (h : XInv w (n, now, ca, po, fo, rs) S0 S1 k0 k1 tx rb rn rf) (hby : byOK tx) : Ctr mX5_read (rm 9) [.ref 0] nn w (pI (fun z w' => z = (fRead (n, now, ca, po, fo, rs) tx).1 ∧ XInv w' (fRead (n, now, ca, po, fo, rs) tx).2 S0 S1 k0 k1 tx rb rn rf ∧ frX w w') nn) := by
  refine Ctr_of (lv := [some (.ref 0), none, none]) (by decide +kernel) rfl rfl ?_
  obtain ⟨ho, hW, hK, hr⟩ := h
  obtain ⟨⟨D, hD, hD2⟩, h2, h3, h4, ⟨pl, nx, tk, lb, lc, e1, e2, e3⟩, h6, h7, h8⟩ := hr
  have hl := h4.len
  have hall := ftR_all (l := tx) (by omega) hby
  refine V_aload_n (Y := mX5_read) (pc := 0) dX5_read_0 rfl ?_
  apply V_get (Y := mX5_read) (pc := 1) dX5_read_1 fl_X5_44
  · assumption
  · rfl
  refine V_aload_n (Y := mX5_read) (pc := 4) dX5_read_4 rfl ?_
  apply V_get (Y := mX5_read) (pc := 5) dX5_read_5 fl_X5_37
  · assumption
  · rfl
  apply V_vI (Y := mX5_read) (pc := 8) dX5_read_8 ok_X1_faultIn ov_X1_faultIn ln_X5_119 (c_faultIn e1 e2 e3 h4 hby)
  · assumption
  · rfl
  · rfl
  · rfl
  · rfl
  · rfl
  rintro z_8 w_8 ⟨hz, g1, f1⟩
  have hz : z_8 = (ftR tx).1 := hz
  have g1 : RdS w_8 (ftR tx).2.1 tx (ftR tx).2.2 := g1
  have o8 := (f1 0 (by omega)).trans ho
  have W8 := hW.keep (w' := w_8) (fun j a b => f1 j (by omega))
  have D8 := hD.keep (w' := w_8) (fun j a b => f1 j (by omega))
  have K8 := hK.keep (w' := w_8) (fun j a b => f1 j (by omega))
  have a8 := h2.keep (w' := w_8) (fun j a b => f1 j (by omega))
  have b8 := h3.keep (w' := w_8) (fun j a b => f1 j (by omega))
  have t8 := h4.keep (w' := w_8) (f1 _ (by omega)) (f1 _ (by omega))
  have r8 := g1.1
  refine V_istore_n (Y := mX5_read) (pc := 11) dX5_read_11 rfl ?_
  refine V_iload_n (Y := mX5_read) (pc := 12) dX5_read_12 rfl ?_
  refine V_iconst (Y := mX5_read) (pc := 13) dX5_read_13 ?_
  refine V_icmp_eq (tgt := 22) (Y := mX5_read) (pc := 14) dX5_read_14 (by decide) ⟨by omega, by omega⟩ ⟨by omega, by omega⟩ (fun h_14 => ?_) (fun h_14 => ?_)
  · refine V_aload_n (Y := mX5_read) (pc := 22) dX5_read_22 rfl ?_
    apply V_get (Y := mX5_read) (pc := 23) dX5_read_23 fl_X5_44
    · assumption
    · rfl
    refine V_aload_n (Y := mX5_read) (pc := 26) dX5_read_26 rfl ?_
    apply V_get (Y := mX5_read) (pc := 27) dX5_read_27 fl_X5_16
    · assumption
    · rfl
    apply V_vI (Y := mX5_read) (pc := 30) dX5_read_30 ok_X1_refusedBy ov_X1_refusedBy ln_X5_123 (c_refusedBy r8 g1.2.2 hall.2.1 (hall.2.2 (by omega)).1.2.2.2.1 hD2 D8)
    · assumption
    · rfl
    · rfl
    · rfl
    · rfl
    · rfl
    rintro z_30 w_30 ⟨hz2, g2, f2⟩
    have hb := (hall.2.2 (by omega)).1
    have hpos := (hall.2.2 (by omega)).2
    have hmm : (((ftR tx).2.2.length : Int) / 5).toNat = ((((ftR tx).2.2.length : Int) / 5).toNat - 1) + 1 := by omega
    have hin := fTells_ind (m := (((ftR tx).2.2.length : Int) / 5).toNat - 1) (hb.2.2.2.2 (by omega)) hD2 vGood_S5
    rw [← hmm] at hin
    have hgd := fTells_good (ftR tx).2.2 (((ftR tx).2.2.length : Int) / 5).toNat 0 D hD2
    have hrg := fTells_rng (ftR tx).2.2 (((ftR tx).2.2.length : Int) / 5).toNat 0 D (by omega)
    have hb2 : ((ftR tx).2.2.length : Int) ≤ 1000 := by have := g1.2.2.len; omega
    have o30 := (f2 0 (by omega)).trans o8
    have W30 := W8.keep (w' := w_30) (fun j a b => f2 j (by omega))
    have K30 := K8.keep (w' := w_30) (fun j a b => f2 j (by omega))
    have a30 := a8.keep (w' := w_30) (fun j a b => f2 j (by omega))
    have b30 := b8.keep (w' := w_30) (fun j a b => f2 j (by omega))
    have t30 := t8.keep (w' := w_30) (f2 _ (by omega)) (f2 _ (by omega))
    have r30 := (f2 79 (by omega)).trans r8
    have rb30 := g1.2.1.keep (w' := w_30) (f2 _ (by omega)) (f2 _ (by omega))
    have rc30 := g1.2.2.keep (w' := w_30) (f2 _ (by omega)) (f2 _ (by omega))
    refine V_istore_n (Y := mX5_read) (pc := 33) dX5_read_33 rfl ?_
    refine V_iload_n (Y := mX5_read) (pc := 34) dX5_read_34 rfl ?_
    refine V_iconst (Y := mX5_read) (pc := 35) dX5_read_35 ?_
    refine V_icmp_eq (tgt := 45) (Y := mX5_read) (pc := 36) dX5_read_36 (by decide) ⟨by omega, by omega⟩ ⟨by omega, by omega⟩ (fun h_36 => ?_) (fun h_36 => ?_)
    · refine V_aload_n (Y := mX5_read) (pc := 45) dX5_read_45 rfl ?_
      apply V_get (Y := mX5_read) (pc := 46) dX5_read_46 fl_X5_10
      · assumption
      · rfl
      refine V_aload_n (Y := mX5_read) (pc := 49) dX5_read_49 rfl ?_
      apply V_get (Y := mX5_read) (pc := 50) dX5_read_50 fl_X5_16
      · assumption
      · rfl
      apply V_vV (Y := mX5_read) (pc := 53) dX5_read_53 ok_X4_copyFrom ov_X4_copyFrom ln_X5_127 ((c_wallCopy (n2 := (fTells (ftR tx).2.2 (((ftR tx).2.2.length : Int) / 5).toNat 0 D).2.1) (now2 := (fTells (ftR tx).2.2 (((ftR tx).2.2.length : Int) / 5).toNat 0 D).2.2.1) (ca2 := (fTells (ftR tx).2.2 (((ftR tx).2.2.length : Int) / 5).toNat 0 D).2.2.2.1) (po2 := (fTells (ftR tx).2.2 (((ftR tx).2.2.length : Int) / 5).toNat 0 D).2.2.2.2.1) (fo2 := (fTells (ftR tx).2.2 (((ftR tx).2.2.length : Int) / 5).toNat 0 D).2.2.2.2.2.1) (rs2 := (fTells (ftR tx).2.2 (((ftR tx).2.2.length : Int) / 5).toNat 0 D).2.2.2.2.2.2) W30 g2 (Or.inl (by omega))))
      · exact W30.obj
      · rfl
      · rfl
      · rfl
      · rfl
      · rfl
      rintro w_53 ⟨g3, f3⟩
      have o53 := (f3 0 (by omega)).trans o30
      have K53 := K30.keep (w' := w_53) (fun j a b => f3 j (by omega))
      obtain ⟨lr, dn, sn, tt, tb, st, F, hk, hlr, hlen, hsh, haok, htt, htb⟩ := K53
      have ok := hk.obj
      have r53 := (f3 79 (by omega)).trans r30
      refine V_aload_n (Y := mX5_read) (pc := 56) dX5_read_56 rfl ?_
      apply V_get (Y := mX5_read) (pc := 57) dX5_read_57 fl_X5_51
      · assumption
      · rfl
      apply V_vV (Y := mX5_read) (pc := 60) dX5_read_60 ok_X3_forget ov_X3_forget ln_X5_78 (c_forget hk)
      · assumption
      · rfl
      · rfl
      · rfl
      · rfl
      · rfl
      rintro w_60 ⟨g4, f4⟩
      have o60 := (f4 0 (by omega)).trans o53
      have r60 := (f4 79 (by omega)).trans r53
      have rc60 := rc30.keep (w' := w_60) ((f4 _ (by omega)).trans (f3 _ (by omega))) ((f4 _ (by omega)).trans (f3 _ (by omega)))
      refine V_aload_n (Y := mX5_read) (pc := 63) dX5_read_63 rfl ?_
      apply V_get (Y := mX5_read) (pc := 64) dX5_read_64 fl_X5_44
      · assumption
      · rfl
      apply V_vR (Y := mX5_read) (pc := 67) dX5_read_67 ok_X1_items ov_X1_items ln_X5_131 (c_items r60 rc60)
      · assumption
      · rfl
      · rfl
      · rfl
      · rfl
      · rfl
      refine V_iret (Y := mX5_read) (pc := 70) dX5_read_70 rfl (Nat.le_of_ble_eq_true rfl) (Nat.le_of_ble_eq_true rfl) ?_
      rw [show fRead (n, now, ca, po, fo, rs) tx = (((ftR tx).2.2.length : Int) / 5, (fTells (ftR tx).2.2 (((ftR tx).2.2.length : Int) / 5).toNat 0 vS5).2) from (if_neg (by omega)).trans (if_neg (by omega)), ← hin.2 (by omega)]
      have f34 : ∀ j, (j < 1 ∨ 20 ≤ j) → (j < 84 ∨ 95 ≤ j) → w_60 j = w_30 j := fun j a b => (f4 j (by omega)).trans (f3 j (by omega))
      have ff : ∀ j, (j < 1 ∨ 39 ≤ j) → (j < 79 ∨ 95 ≤ j) → w_60 j = w j := fun j a b => (f34 j (by omega) (by omega)).trans ((f2 j (by omega)).trans (f1 j (by omega)))
      refine pI_of ⟨rfl, ⟨o60, g3.keep (fun j a b => f4 j (by omega)), WkInv.forget g4 ⟨hlen, hsh, haok, htt, htb⟩, ⟨_, g2.keep (fun j a b => f34 j (by omega) (by omega)), hgd⟩, a30.keep (fun j a b => f34 j (by omega) (by omega)), b30.keep (fun j a b => f34 j (by omega) (by omega)), t30.keep (f34 _ (by omega) (by omega)) (f34 _ (by omega) (by omega)), ⟨_, _, _, _, _, r60, rb30.keep (f34 _ (by omega) (by omega)) (f34 _ (by omega) (by omega)), rc60⟩, ?_, ?_, ?_⟩, fun j hj => ff j (by omega) (by omega)⟩
      · obtain ⟨x, y, q⟩ := h6; exact ⟨x, y, (ff _ (by omega) (by omega)).trans q⟩
      · obtain ⟨x, y, q⟩ := h7; exact ⟨x, y, (ff _ (by omega) (by omega)).trans q⟩
      · obtain ⟨x, q⟩ := h8; exact ⟨x, q.keep (ff _ (by omega) (by omega)) (ff _ (by omega) (by omega))⟩
    · refine V_sipush (Y := mX5_read) (pc := 39) dX5_read_39 ⟨by decide, by decide⟩ ?_
      refine V_iload_n (Y := mX5_read) (pc := 42) dX5_read_42 rfl ?_
      refine V_isub (Y := mX5_read) (pc := 43) dX5_read_43 ?_
      refine V_iret (Y := mX5_read) (pc := 44) dX5_read_44 rfl (Nat.le_of_ble_eq_true rfl) (Nat.le_of_ble_eq_true rfl) ?_
      rw [show fRead (n, now, ca, po, fo, rs) tx = (-1000 - (fTells (ftR tx).2.2 (((ftR tx).2.2.length : Int) / 5).toNat 0 vS5).1, (n, now, ca, po, fo, rs)) from (if_neg (by omega)).trans (if_pos (by omega))]
      have ff : ∀ j, (j < 20 ∨ 39 ≤ j) → (j < 79 ∨ 84 ≤ j) → w_30 j = w j := fun j a b => (f2 j (by omega)).trans (f1 j (by omega))
      refine pI_of ⟨by rw [hz2, hin.1], ⟨o30, W30, K30, ⟨_, g2, hgd⟩, a30, b30, t30, ⟨_, _, _, _, _, r30, rb30, rc30⟩, ?_, ?_, ?_⟩, fun j hj => ff j (by omega) (by omega)⟩
      · obtain ⟨x, y, q⟩ := h6; exact ⟨x, y, (ff _ (by omega) (by omega)).trans q⟩
      · obtain ⟨x, y, q⟩ := h7; exact ⟨x, y, (ff _ (by omega) (by omega)).trans q⟩
      · obtain ⟨x, q⟩ := h8; exact ⟨x, q.keep (ff _ (by omega) (by omega)) (ff _ (by omega) (by omega))⟩
  · refine V_bipush (Y := mX5_read) (pc := 17) dX5_read_17 ⟨by decide, by decide⟩ ?_
    refine V_iload_n (Y := mX5_read) (pc := 19) dX5_read_19 rfl ?_
    refine V_isub (Y := mX5_read) (pc := 20) dX5_read_20 ?_
    refine V_iret (Y := mX5_read) (pc := 21) dX5_read_21 rfl (Nat.le_of_ble_eq_true rfl) (Nat.le_of_ble_eq_true rfl) ?_
    rw [show fRead (n, now, ca, po, fo, rs) tx = (-10 - (ftR tx).1, (n, now, ca, po, fo, rs)) from if_pos (by omega)]
    refine pI_of ⟨by rw [hz], ⟨o8, W8, K8, ⟨D, D8, hD2⟩, a8, b8, t8, ⟨_, _, _, _, _, g1.1, g1.2.1, g1.2.2⟩, ?_, ?_, ?_⟩, fun j hj => f1 j (by omega)⟩
    · obtain ⟨x, y, q⟩ := h6; exact ⟨x, y, (f1 _ (by omega)).trans q⟩
    · obtain ⟨x, y, q⟩ := h7; exact ⟨x, y, (f1 _ (by omega)).trans q⟩
    · obtain ⟨x, q⟩ := h8; exact ⟨x, q.keep (f1 _ (by omega)) (f1 _ (by omega))⟩
end CLS
