/-! ===== what holds of a wall stays ===== -/
theorem rAll {P : Int → Prop} {l : List Int} : (∀ k : Int, 0 ≤ k → k < l.length → P (rAt l k)) ↔ ∀ x ∈ l, P x := by
  constructor
  · intro h x hx
    obtain ⟨j, hj, e⟩ := List.getElem_of_mem hx
    have q := h (j : Int) (by omega) (by omega)
    rw [rAt_in (by omega), List.getD_eq_getElem?_getD, List.getElem?_eq_getElem (by omega)] at q
    simp only [Option.getD_some, Int.toNat_natCast] at q
    rw [e] at q
    exact q
  · intro h k h0 h1
    exact h _ (rAt_mem h0 h1)
theorem rAt_app {l : List Int} {x c : Int} (h0 : 0 ≤ c) (h : c ≤ l.length) : rAt (l ++ [x]) c = if c = l.length then x else rAt l c := by
  rw [rAt_in h0, List.getD_eq_getElem?_getD]
  by_cases hc : c = l.length
  · rw [if_pos hc, List.getElem?_append_right (by omega), show c.toNat - l.length = 0 by omega]; rfl
  · rw [if_neg hc, List.getElem?_append_left (by omega), rAt_in h0, List.getD_eq_getElem?_getD]
theorem app_len (l : List Int) (x : Int) : (l ++ [x]).length = l.length + 1 := by rw [List.length_append]; rfl
theorem rAt_iota {k : Nat} {d : Int} (h0 : 0 ≤ d) (h : d < k) : rAt (iota k) d = d := by
  rw [rAt_in h0, List.getD_eq_getElem?_getD, iota, List.getElem?_map, List.getElem?_range (by omega)]
  show ((d.toNat : Nat) : Int) = d
  omega
section GOOD
variable {n now : Int} {ca po fo : Nat} {rs : Nat → List Int}
theorem vGood.mk' (h1 : 2 ≤ n ∧ n ≤ 7) (h2 : isS n now) (h3 : ca < 128) (h4 : po < 128) (h5 : fo < 128) (h6 : gdOK n rs) (h7 : cvOK n rs) (h8 : orOK rs) (h9 : sgOK n rs) (h10 : ∀ k : Int, 0 ≤ k → k < (rs 8).length → isS n (rAt (rs 8) k)) : vGood (n, now, ca, po, fo, rs) := ⟨h1, h2, h3, h4, h5, h6, h7, h8, h9, h10⟩
theorem vGood.wall (h : vGood (n, now, ca, po, fo, rs)) (k : Int) : vGood (fWall (n, now, ca, po, fo, rs) k).2 := by
  unfold fWall
  split
  · exact h
  · rename_i hk
    have hp := p3_pos k.toNat
    refine vGood.mk' ⟨by omega, by omega⟩ ⟨by omega, hp⟩ (by decide) (by decide) (by decide) ⟨?_, fun d h0 h1 => ?_⟩ ⟨⟨rfl, rfl, rfl⟩, fun c h0 h1 => ?_⟩ (fun o h0 h1 => ?_) ⟨rfl, fun c h0 h1 => ?_⟩ (fun c h0 h1 => ?_)
    · show ((iota k.toNat).length : Int) = k
      rw [iota_len]; omega
    · show 0 ≤ rAt (iota k.toNat) d ∧ rAt (iota k.toNat) d ≤ 6
      rw [rAt_iota h0 (by omega)]; omega
    · exact absurd h1 (by show ¬ c < ((([] : List Int).length : Nat) : Int); simp; omega)
    · exact absurd h1 (by show ¬ o < ((([] : List Int).length : Nat) : Int); simp; omega)
    · exact absurd h1 (by show ¬ c < ((([] : List Int).length : Nat) : Int); simp; omega)
    · exact absurd h1 (by show ¬ c < ((([] : List Int).length : Nat) : Int); simp; omega)
theorem vGood.cord (h : vGood (n, now, ca, po, fo, rs)) (a b k v : Int) : vGood (fCord (n, now, ca, po, fo, rs) a b k v).2 := by
  obtain ⟨hn, hnow, hca, hpo, hfo, hgd, hcv, hor, hsg, hpast⟩ := h.un
  unfold fCord
  split
  · exact h
  · rename_i hk
    split
    · exact h
    · refine vGood.mk' hn hnow hca hpo hfo hgd ⟨⟨?_, ?_, ?_⟩, fun c h0 h1 => ?_⟩ hor hsg hpast
      · show (rs 2 ++ [b]).length = (rs 1 ++ [a]).length
        rw [app_len, app_len, hcv.1.1]
      · show (rs 3 ++ [k]).length = (rs 1 ++ [a]).length
        rw [app_len, app_len, hcv.1.2.1]
      · show (rs 4 ++ [v]).length = (rs 1 ++ [a]).length
        rw [app_len, app_len, hcv.1.2.2]
      · have h1 : c < ((rs 1 ++ [a]).length : Int) := h1
        rw [app_len] at h1
        have e1 := hcv.1.1
        have e2 := hcv.1.2.1
        have e3 := hcv.1.2.2
        show okCord n (rAt (rs 1 ++ [a]) c) (rAt (rs 2 ++ [b]) c) (rAt (rs 3 ++ [k]) c) (rAt (rs 4 ++ [v]) c)
        rw [rAt_app h0 (by omega), rAt_app h0 (by omega), rAt_app h0 (by omega), rAt_app h0 (by omega), e1, e2, e3]
        by_cases hc : c = (rs 1).length
        · rw [if_pos hc, if_pos hc, if_pos hc, if_pos hc]
          exact Decidable.byContradiction hk
        · rw [if_neg hc, if_neg hc, if_neg hc, if_neg hc]
          exact hcv.2 c h0 (by omega)
theorem vGood.catch1 (h : vGood (n, now, ca, po, fo, rs)) (d z : Int) : vGood (fCatch (n, now, ca, po, fo, rs) d z).2 := by
  obtain ⟨hn, hnow, hca, hpo, hfo, hgd, hcv, hor, hsg, hpast⟩ := h.un
  unfold fCatch
  split
  · exact h
  · rename_i hd
    split
    · exact h
    · have hd : isD n d := Decidable.byContradiction hd
      have hp : p2 d.toNat < 2 ^ 7 := Nat.pow_lt_pow_right (by decide) (by omega)
      exact vGood.mk' hn hnow (Nat.xor_lt_two_pow (n := 7) hca hp) hpo hfo hgd hcv hor hsg hpast
theorem vGood.good1 (h : vGood (n, now, ca, po, fo, rs)) (d g : Int) : vGood (fGood (n, now, ca, po, fo, rs) d g).2 := by
  obtain ⟨hn, hnow, hca, hpo, hfo, hgd, hcv, hor, hsg, hpast⟩ := h.un
  unfold fGood
  split
  · exact h
  · rename_i hd
    have hd : isD n d ∧ 0 ≤ g ∧ g < 7 := Decidable.byContradiction hd
    refine vGood.mk' hn hnow hca hpo hfo ⟨?_, fun e h0 h1 => ?_⟩ hcv hor hsg hpast
    · show ((rSet (rs 0) d g).length : Int) = n
      rw [rSet_len]; exact hgd.1
    · show 0 ≤ rAt (rSet (rs 0) d g) e ∧ rAt (rSet (rs 0) d g) e ≤ 6
      have := hgd.2 e h0 h1
      rcases rSet_cases (rs 0) d g e with q | q <;> omega
theorem vGood.order1 (h : vGood (n, now, ca, po, fo, rs)) (g : Int) : vGood (fOrder (n, now, ca, po, fo, rs) g).2 := by
  obtain ⟨hn, hnow, hca, hpo, hfo, hgd, hcv, hor, hsg, hpast⟩ := h.un
  unfold fOrder
  split
  · exact h
  · rename_i hg
    split
    · exact h
    · refine vGood.mk' hn hnow hca hpo hfo hgd hcv (fun o h0 h1 => ?_) hsg hpast
      have h1 : o < ((rs 5 ++ [g]).length : Int) := h1
      rw [app_len] at h1
      show 0 ≤ rAt (rs 5 ++ [g]) o ∧ rAt (rs 5 ++ [g]) o ≤ 6
      rw [rAt_app h0 (by omega)]
      split
      · omega
      · exact hor o h0 (by omega)
theorem vGood.put1 (h : vGood (n, now, ca, po, fo, rs)) (a x : Int) : vGood (fPut (n, now, ca, po, fo, rs) a x).2 := by
  obtain ⟨hn, hnow, hca, hpo, hfo, hgd, hcv, hor, hsg, hpast⟩ := h.un
  unfold fPut
  split
  · exact h
  · split
    · exact vGood.mk' hn hnow hca (by omega) hfo hgd hcv hor hsg hpast
    · exact vGood.mk' hn hnow hca hpo (by omega) hgd hcv hor hsg hpast
theorem vGood.pull1 (h : vGood (n, now, ca, po, fo, rs)) (d : Int) : vGood (fPull (n, now, ca, po, fo, rs) d).2 := by
  obtain ⟨hn, hnow, hca, hpo, hfo, hgd, hcv, hor, hsg, hpast⟩ := h.un
  unfold fPull
  split
  · exact h
  · rename_i hd
    have hd : isD n d := Decidable.byContradiction hd
    refine vGood.mk' hn (aft_rng ca hcv _ hnow hd) hca hpo hfo hgd hcv hor hsg (rAll.mpr (fun x hx => ?_))
    have hp := rAll.mp hpast
    have hx : x ∈ (if 20 ≤ (rs 8).length then (rs 8).tail else rs 8) ++ [now] := hx
    rcases List.mem_append.mp hx with q | q
    · split at q
      · exact hp x (List.mem_of_mem_tail q)
      · exact hp x q
    · simp at q; subst q; exact hnow
theorem vGood.undo1 (h : vGood (n, now, ca, po, fo, rs)) : vGood (fUndo (n, now, ca, po, fo, rs)).2 := by
  obtain ⟨hn, hnow, hca, hpo, hfo, hgd, hcv, hor, hsg, hpast⟩ := h.un
  unfold fUndo
  split
  · exact h
  · rename_i hz
    have hz : ¬ (rs 8).length = 0 := hz
    refine vGood.mk' hn (hpast (((rs 8).length : Int) - 1) (by omega) (by omega)) hca hpo hfo hgd hcv hor hsg (rAll.mpr (fun x hx => ?_))
    exact rAll.mp hpast x ((List.dropLast_sublist _).subset hx)
theorem vGood.sight1 (h : vGood (n, now, ca, po, fo, rs)) (d s : Int) : vGood (fSight (n, now, ca, po, fo, rs) d s).2 := by
  obtain ⟨hn, hnow, hca, hpo, hfo, hgd, hcv, hor, hsg, hpast⟩ := h.un
  unfold fSight
  split
  · exact h
  · rename_i hd
    have hd : isD n d ∧ isS n s := Decidable.byContradiction hd
    split
    · exact h
    · refine vGood.mk' hn hnow hca hpo hfo hgd hcv hor ⟨?_, fun k h0 h1 => ?_⟩ hpast
      · show (rs 7 ++ [s]).length = (rs 6 ++ [d]).length
        rw [app_len, app_len, hsg.1]
      · have h1 : k < ((rs 6 ++ [d]).length : Int) := h1
        rw [app_len] at h1
        have e := hsg.1
        show isD n (rAt (rs 6 ++ [d]) k) ∧ isS n (rAt (rs 7 ++ [s]) k)
        rw [rAt_app h0 (by omega), rAt_app h0 (by omega), e]
        by_cases hk : k = (rs 6).length
        · rw [if_pos hk, if_pos hk]; exact hd
        · rw [if_neg hk, if_neg hk]; exact hsg.2 k h0 (by omega)
theorem vGood.none1 (h : vGood (n, now, ca, po, fo, rs)) (a : Int) : vGood (fNone (n, now, ca, po, fo, rs) a).2 := by
  obtain ⟨hn, hnow, hca, hpo, hfo, hgd, hcv, hor, hsg, hpast⟩ := h.un
  unfold fNone
  split
  · exact h
  · split
    · exact vGood.mk' hn hnow hca hpo hfo hgd hcv (fun o h0 h1 => absurd h1 (by show ¬ o < ((([] : List Int).length : Nat) : Int); simp; omega)) hsg hpast
    · exact vGood.mk' hn hnow hca hpo hfo hgd hcv hor ⟨rfl, fun o h0 h1 => absurd h1 (by show ¬ o < ((([] : List Int).length : Nat) : Int); simp; omega)⟩ hpast
end GOOD
