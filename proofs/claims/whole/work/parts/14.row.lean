/-! ===== DrawerWall$Row: a list of numbers in a row of fixed room ===== -/
def RowAt (w : vWd) (k cap : Nat) (l : List Int) : Prop := ∃ f : Nat → Int, w k = some (.inr (2, [.ref (k + 1), vI l.length])) ∧ w (k + 1) = some (arI cap f) ∧ l.length ≤ cap ∧ cap ≤ 20000 ∧ ∀ i, i < l.length → f i = l.getD i 0
def fr2 (k : Nat) (w w' : vWd) : Prop := ∀ j, j ≠ k → j ≠ k + 1 → w' j = w j
theorem RowAt.keep {w w' : vWd} {k cap : Nat} {l : List Int} (h : RowAt w k cap l) (h1 : w' k = w k) (h2 : w' (k + 1) = w (k + 1)) : RowAt w' k cap l := by
  obtain ⟨f, a, b, c⟩ := h
  exact ⟨f, h1.trans a, h2.trans b, c⟩
theorem RowAt.fr {w w' : vWd} {k cap k2 : Nat} {l : List Int} (h : RowAt w k cap l) (hf : fr2 k2 w w') (h1 : k ≠ k2 ∧ k ≠ k2 + 1 ∧ k + 1 ≠ k2) : RowAt w' k cap l :=
  h.keep (hf _ h1.1 h1.2.1) (hf _ h1.2.2 (by omega))
theorem RowAt.len {w : vWd} {k cap : Nat} {l : List Int} (h : RowAt w k cap l) : l.length ≤ cap ∧ cap ≤ 20000 := by
  obtain ⟨f, a, b, c, d, -⟩ := h
  exact ⟨c, d⟩
theorem RowAt.obj {w : vWd} {k cap : Nat} {l : List Int} (h : RowAt w k cap l) : w k = some (.inr (2, [.ref (k + 1), vI l.length])) := by
  obtain ⟨f, a, -⟩ := h
  exact a
theorem fr2.refl (k : Nat) (w : vWd) : fr2 k w w := fun _ _ _ => rfl
theorem fr2.trans {k : Nat} {w w' w2 : vWd} (h : fr2 k w w') (h2 : fr2 k w' w2) : fr2 k w w2 := fun j a b => (h2 j a b).trans (h j a b)
def rAt (l : List Int) (i : Int) : Int := if 0 ≤ i then l.getD i.toNat 0 else 0
theorem rAt_in {l : List Int} {i : Int} (h : 0 ≤ i) : rAt l i = l.getD i.toNat 0 := if_pos h
theorem rAt_out {l : List Int} {i : Int} (h : i < 0 ∨ l.length ≤ i) : rAt l i = 0 := by
  unfold rAt
  split
  · rw [List.getD_eq_getElem?_getD, List.getElem?_eq_none (by omega)]; rfl
  · rfl
def rSet (l : List Int) (i v : Int) : List Int := if 0 ≤ i then l.set i.toNat v else l
def rAdd (cap : Nat) (l : List Int) (v : Int) : List Int := if l.length < cap then l ++ [v] else l
theorem rSet_out {l : List Int} {i v : Int} (h : i < 0 ∨ l.length ≤ i) : rSet l i v = l := by
  unfold rSet
  split
  · exact List.set_eq_of_length_le (by omega)
  · rfl
theorem rSet_len (l : List Int) (i v : Int) : (rSet l i v).length = l.length := by
  unfold rSet; split <;> simp
theorem rAdd_take {cap : Nat} {l : List Int} {i : Int} (h0 : 0 ≤ i) (h1 : i < l.length) : rAdd cap ((l.take i.toNat).take cap) (rAt l i) = (l.take (i + 1).toNat).take cap := by
  rw [rAt_in h0, show (i + 1).toNat = i.toNat + 1 by omega, List.take_succ, rAdd]
  have h2 : i.toNat < l.length := by omega
  rw [List.getElem?_eq_getElem h2]
  simp only [Option.toList_some, List.length_take]
  split
  · rename_i hc
    rw [List.take_append, List.getD_eq_getElem?_getD, List.getElem?_eq_getElem h2]
    have h3 : (l.take i.toNat).length = i.toNat := by rw [List.length_take]; omega
    rw [h3, show cap - i.toNat = (cap - i.toNat - 1) + 1 by omega]
    simp
  · rename_i hc
    rw [List.take_append_of_le_length]
    rw [List.length_take]; omega
set_option maxRecDepth 100000 in
theorem c_max {n : Nat} {w : vWd} {a b : Int} (ha : inR a) (hb : inR b) : Ctr mJ9_max_7cf53 (rm 0) [vI a, vI b] n w (pR (vI (max a b)) n w) := by
  refine Ctr_ofF (lv := [some (vI a), some (vI b)]) (by decide +kernel) rfl rfl ?_
  refine V_iload_n (Y := mJ9_max_7cf53) (pc := 0) dJ9_max_7cf53_0 rfl ?_
  refine V_iload_n (Y := mJ9_max_7cf53) (pc := 1) dJ9_max_7cf53_1 rfl ?_
  refine V_icmp_lt (tgt := 9) (Y := mJ9_max_7cf53) (pc := 2) dJ9_max_7cf53_2 (by decide) ⟨by omega, by omega⟩ ⟨by omega, by omega⟩ (fun h_2 => ?_) (fun h_2 => ?_)
  · refine V_iload_n (Y := mJ9_max_7cf53) (pc := 9) dJ9_max_7cf53_9 rfl ?_
    refine V_iret (Y := mJ9_max_7cf53) (pc := 10) dJ9_max_7cf53_10 rfl (Nat.le_of_ble_eq_true rfl) (Nat.le_of_ble_eq_true rfl) ?_
    exact pR_I (by omega)
  · refine V_iload_n (Y := mJ9_max_7cf53) (pc := 5) dJ9_max_7cf53_5 rfl ?_
    refine V_goto (tgt := 10) (Y := mJ9_max_7cf53) (pc := 6) dJ9_max_7cf53_6 (by decide) ?_
    refine V_iret (Y := mJ9_max_7cf53) (pc := 10) dJ9_max_7cf53_10 rfl (Nat.le_of_ble_eq_true rfl) (Nat.le_of_ble_eq_true rfl) ?_
    exact pR_I (by omega)
set_option maxRecDepth 100000 in
theorem c_min {n : Nat} {w : vWd} {a b : Int} (ha : inR a) (hb : inR b) : Ctr mJ9_min_7cf53 (rm 0) [vI a, vI b] n w (pR (vI (min a b)) n w) := by
  refine Ctr_ofF (lv := [some (vI a), some (vI b)]) (by decide +kernel) rfl rfl ?_
  refine V_iload_n (Y := mJ9_min_7cf53) (pc := 0) dJ9_min_7cf53_0 rfl ?_
  refine V_iload_n (Y := mJ9_min_7cf53) (pc := 1) dJ9_min_7cf53_1 rfl ?_
  refine V_icmp_gt (tgt := 9) (Y := mJ9_min_7cf53) (pc := 2) dJ9_min_7cf53_2 (by decide) ⟨by omega, by omega⟩ ⟨by omega, by omega⟩ (fun h_2 => ?_) (fun h_2 => ?_)
  · refine V_iload_n (Y := mJ9_min_7cf53) (pc := 9) dJ9_min_7cf53_9 rfl ?_
    refine V_iret (Y := mJ9_min_7cf53) (pc := 10) dJ9_min_7cf53_10 rfl (Nat.le_of_ble_eq_true rfl) (Nat.le_of_ble_eq_true rfl) ?_
    exact pR_I (by omega)
  · refine V_iload_n (Y := mJ9_min_7cf53) (pc := 5) dJ9_min_7cf53_5 rfl ?_
    refine V_goto (tgt := 10) (Y := mJ9_min_7cf53) (pc := 6) dJ9_min_7cf53_6 (by decide) ?_
    refine V_iret (Y := mJ9_min_7cf53) (pc := 10) dJ9_min_7cf53_10 rfl (Nat.le_of_ble_eq_true rfl) (Nat.le_of_ble_eq_true rfl) ?_
    exact pR_I (by omega)
theorem V_max {Y : vMeth} {R : Room} {Q : vPost} {pc : Nat} {lv : vLs} {st : List Value} {n : Nat} {w : vWd} {kc ks idx : Nat} {x y : Int} (hd : decode Y.2.1 pc = .ok (.invokestatic idx, 3)) (hL : okL Y.1.cls idx mJ9_max_7cf53) (hx : inR x) (hy : inR y) (hR : rmOK R mJ9_max_7cf53 (rm 0) kc ks st = true) (k : V Y R Q (pc + 3) lv (vI (max x y) :: st) n w kc ks) : V Y R Q pc lv (vI y :: vI x :: st) n w kc ks :=
  V_sR hd ok_J9_max_7cf53 os_J9_max_7cf53 hL (c_max hx hy) rfl rfl hR k
theorem V_min {Y : vMeth} {R : Room} {Q : vPost} {pc : Nat} {lv : vLs} {st : List Value} {n : Nat} {w : vWd} {kc ks idx : Nat} {x y : Int} (hd : decode Y.2.1 pc = .ok (.invokestatic idx, 3)) (hL : okL Y.1.cls idx mJ9_min_7cf53) (hx : inR x) (hy : inR y) (hR : rmOK R mJ9_min_7cf53 (rm 0) kc ks st = true) (k : V Y R Q (pc + 3) lv (vI (min x y) :: st) n w kc ks) : V Y R Q pc lv (vI y :: vI x :: st) n w kc ks :=
  V_sR hd ok_J9_min_7cf53 os_J9_min_7cf53 hL (c_min hx hy) rfl rfl hR k
set_option maxRecDepth 100000 in
theorem c_Row_size {n : Nat} {w : vWd} {k cap : Nat} {l : List Int} (h : RowAt w k cap l) : Ctr mX2_size (rm 0) [.ref k] n w (pR (vI l.length) n w) := by
  obtain ⟨f, h1, h2, h3, h4, h5⟩ := h
  refine Ctr_of (lv := [some (.ref k)]) (by decide +kernel) rfl rfl ?_
  refine V_aload_n (Y := mX2_size) (pc := 0) dX2_size_0 rfl ?_
  apply V_get (Y := mX2_size) (pc := 1) dX2_size_1 fl_X2_7
  · assumption
  · rfl
  refine V_iret (Y := mX2_size) (pc := 4) dX2_size_4 rfl (Nat.le_of_ble_eq_true rfl) (Nat.le_of_ble_eq_true rfl) ?_
  exact pR_I rfl
set_option maxRecDepth 100000 in
theorem c_Row_isFull {n : Nat} {w : vWd} {k cap : Nat} {l : List Int} (h : RowAt w k cap l) : Ctr mX2_isFull (rm 0) [.ref k] n w (pR (vI (bI ((cap : Int) ≤ l.length))) n w) := by
  obtain ⟨f, h1, h2, h3, h4, h5⟩ := h
  refine Ctr_of (lv := [some (.ref k)]) (by decide +kernel) rfl rfl ?_
  refine V_aload_n (Y := mX2_isFull) (pc := 0) dX2_isFull_0 rfl ?_
  apply V_get (Y := mX2_isFull) (pc := 1) dX2_isFull_1 fl_X2_7
  · assumption
  · rfl
  refine V_aload_n (Y := mX2_isFull) (pc := 4) dX2_isFull_4 rfl ?_
  apply V_get (Y := mX2_isFull) (pc := 5) dX2_isFull_5 fl_X2_19
  · assumption
  · rfl
  apply V_alen (Y := mX2_isFull) (pc := 8) dX2_isFull_8
  · assumption
  refine V_icmp_lt (tgt := 16) (Y := mX2_isFull) (pc := 9) dX2_isFull_9 (by decide) ⟨by omega, by omega⟩ ⟨by omega, by omega⟩ (fun h_9 => ?_) (fun h_9 => ?_)
  · refine V_iconst (Y := mX2_isFull) (pc := 16) dX2_isFull_16 ?_
    refine V_zret (ty := .boolean) (Y := mX2_isFull) (pc := 17) dX2_isFull_17 rfl rfl (Nat.le_of_ble_eq_true rfl) (Nat.le_of_ble_eq_true rfl) ?_
    first | exact pR_I (bI_t (by omega)).symm | exact pR_I (bI_f (by omega)).symm
  · refine V_iconst (Y := mX2_isFull) (pc := 12) dX2_isFull_12 ?_
    refine V_goto (tgt := 17) (Y := mX2_isFull) (pc := 13) dX2_isFull_13 (by decide) ?_
    refine V_zret (ty := .boolean) (Y := mX2_isFull) (pc := 17) dX2_isFull_17 rfl rfl (Nat.le_of_ble_eq_true rfl) (Nat.le_of_ble_eq_true rfl) ?_
    first | exact pR_I (bI_t (by omega)).symm | exact pR_I (bI_f (by omega)).symm
set_option maxRecDepth 100000 in
theorem c_Row_holds {n : Nat} {w : vWd} {k cap : Nat} {l : List Int} {i : Int} (h : RowAt w k cap l) (hi : inR i) : Ctr mX2_holds (rm 0) [.ref k, vI i] n w (pR (vI (bI (0 ≤ i ∧ i < l.length))) n w) := by
  obtain ⟨f, h1, h2, h3, h4, h5⟩ := h
  refine Ctr_of (lv := [some (.ref k), some (vI i)]) (by decide +kernel) rfl rfl ?_
  refine V_iload_n (Y := mX2_holds) (pc := 0) dX2_holds_0 rfl ?_
  refine V_if_lt (tgt := 25) (Y := mX2_holds) (pc := 1) dX2_holds_1 (by decide) ⟨by omega, by omega⟩ (fun h_1 => ?_) (fun h_1 => ?_)
  · refine V_iconst (Y := mX2_holds) (pc := 25) dX2_holds_25 ?_
    refine V_zret (ty := .boolean) (Y := mX2_holds) (pc := 26) dX2_holds_26 rfl rfl (Nat.le_of_ble_eq_true rfl) (Nat.le_of_ble_eq_true rfl) ?_
    first | exact pR_I (bI_t (by omega)).symm | exact pR_I (bI_f (by omega)).symm
  · refine V_iload_n (Y := mX2_holds) (pc := 4) dX2_holds_4 rfl ?_
    refine V_aload_n (Y := mX2_holds) (pc := 5) dX2_holds_5 rfl ?_
    apply V_get (Y := mX2_holds) (pc := 6) dX2_holds_6 fl_X2_7
    · assumption
    · rfl
    refine V_icmp_ge (tgt := 25) (Y := mX2_holds) (pc := 9) dX2_holds_9 (by decide) ⟨by omega, by omega⟩ ⟨by omega, by omega⟩ (fun h_9 => ?_) (fun h_9 => ?_)
    · refine V_iconst (Y := mX2_holds) (pc := 25) dX2_holds_25 ?_
      refine V_zret (ty := .boolean) (Y := mX2_holds) (pc := 26) dX2_holds_26 rfl rfl (Nat.le_of_ble_eq_true rfl) (Nat.le_of_ble_eq_true rfl) ?_
      first | exact pR_I (bI_t (by omega)).symm | exact pR_I (bI_f (by omega)).symm
    · refine V_iload_n (Y := mX2_holds) (pc := 12) dX2_holds_12 rfl ?_
      refine V_aload_n (Y := mX2_holds) (pc := 13) dX2_holds_13 rfl ?_
      apply V_get (Y := mX2_holds) (pc := 14) dX2_holds_14 fl_X2_19
      · assumption
      · rfl
      apply V_alen (Y := mX2_holds) (pc := 17) dX2_holds_17
      · assumption
      refine V_icmp_ge (tgt := 25) (Y := mX2_holds) (pc := 18) dX2_holds_18 (by decide) ⟨by omega, by omega⟩ ⟨by omega, by omega⟩ (fun h_18 => ?_) (fun h_18 => ?_)
      · refine V_iconst (Y := mX2_holds) (pc := 25) dX2_holds_25 ?_
        refine V_zret (ty := .boolean) (Y := mX2_holds) (pc := 26) dX2_holds_26 rfl rfl (Nat.le_of_ble_eq_true rfl) (Nat.le_of_ble_eq_true rfl) ?_
        first | exact pR_I (bI_t (by omega)).symm | exact pR_I (bI_f (by omega)).symm
      · refine V_iconst (Y := mX2_holds) (pc := 21) dX2_holds_21 ?_
        refine V_goto (tgt := 26) (Y := mX2_holds) (pc := 22) dX2_holds_22 (by decide) ?_
        refine V_zret (ty := .boolean) (Y := mX2_holds) (pc := 26) dX2_holds_26 rfl rfl (Nat.le_of_ble_eq_true rfl) (Nat.le_of_ble_eq_true rfl) ?_
        first | exact pR_I (bI_t (by omega)).symm | exact pR_I (bI_f (by omega)).symm
set_option maxRecDepth 100000 in
theorem c_Row_at {n : Nat} {w : vWd} {k cap : Nat} {l : List Int} {i : Int} (h : RowAt w k cap l) (hi : inR i) : Ctr mX2_at (rm 0) [.ref k, vI i] n w (pR (vI (rAt l i)) n w) := by
  obtain ⟨f, h1, h2, h3, h4, h5⟩ := h
  refine Ctr_of (lv := [some (.ref k), some (vI i)]) (by decide +kernel) rfl rfl ?_
  refine V_iload_n (Y := mX2_at) (pc := 0) dX2_at_0 rfl ?_
  refine V_if_lt (tgt := 30) (Y := mX2_at) (pc := 1) dX2_at_1 (by decide) ⟨by omega, by omega⟩ (fun h_1 => ?_) (fun h_1 => ?_)
  · refine V_iconst (Y := mX2_at) (pc := 30) dX2_at_30 ?_
    refine V_iret (Y := mX2_at) (pc := 31) dX2_at_31 rfl (Nat.le_of_ble_eq_true rfl) (Nat.le_of_ble_eq_true rfl) ?_
    exact pR_I (by first | (rw [rAt_in (by omega)]; exact h5 _ (by omega)) | rw [rAt_out (by omega)])
  · refine V_iload_n (Y := mX2_at) (pc := 4) dX2_at_4 rfl ?_
    refine V_aload_n (Y := mX2_at) (pc := 5) dX2_at_5 rfl ?_
    apply V_get (Y := mX2_at) (pc := 6) dX2_at_6 fl_X2_7
    · assumption
    · rfl
    refine V_icmp_ge (tgt := 30) (Y := mX2_at) (pc := 9) dX2_at_9 (by decide) ⟨by omega, by omega⟩ ⟨by omega, by omega⟩ (fun h_9 => ?_) (fun h_9 => ?_)
    · refine V_iconst (Y := mX2_at) (pc := 30) dX2_at_30 ?_
      refine V_iret (Y := mX2_at) (pc := 31) dX2_at_31 rfl (Nat.le_of_ble_eq_true rfl) (Nat.le_of_ble_eq_true rfl) ?_
      exact pR_I (by first | (rw [rAt_in (by omega)]; exact h5 _ (by omega)) | rw [rAt_out (by omega)])
    · refine V_iload_n (Y := mX2_at) (pc := 12) dX2_at_12 rfl ?_
      refine V_aload_n (Y := mX2_at) (pc := 13) dX2_at_13 rfl ?_
      apply V_get (Y := mX2_at) (pc := 14) dX2_at_14 fl_X2_19
      · assumption
      · rfl
      apply V_alen (Y := mX2_at) (pc := 17) dX2_at_17
      · assumption
      refine V_icmp_ge (tgt := 30) (Y := mX2_at) (pc := 18) dX2_at_18 (by decide) ⟨by omega, by omega⟩ ⟨by omega, by omega⟩ (fun h_18 => ?_) (fun h_18 => ?_)
      · refine V_iconst (Y := mX2_at) (pc := 30) dX2_at_30 ?_
        refine V_iret (Y := mX2_at) (pc := 31) dX2_at_31 rfl (Nat.le_of_ble_eq_true rfl) (Nat.le_of_ble_eq_true rfl) ?_
        exact pR_I (by first | (rw [rAt_in (by omega)]; exact h5 _ (by omega)) | rw [rAt_out (by omega)])
      · refine V_aload_n (Y := mX2_at) (pc := 21) dX2_at_21 rfl ?_
        apply V_get (Y := mX2_at) (pc := 22) dX2_at_22 fl_X2_19
        · assumption
        · rfl
        refine V_iload_n (Y := mX2_at) (pc := 25) dX2_at_25 rfl ?_
        apply V_iald (Y := mX2_at) (pc := 26) dX2_at_26
        · assumption
        · exact ⟨by omega, by omega⟩
        · omega
        refine V_goto (tgt := 31) (Y := mX2_at) (pc := 27) dX2_at_27 (by decide) ?_
        refine V_iret (Y := mX2_at) (pc := 31) dX2_at_31 rfl (Nat.le_of_ble_eq_true rfl) (Nat.le_of_ble_eq_true rfl) ?_
        exact pR_I (by first | (rw [rAt_in (by omega)]; exact h5 _ (by omega)) | rw [rAt_out (by omega)])
set_option maxRecDepth 100000 in
theorem c_Row_set {n : Nat} {w : vWd} {k cap : Nat} {l : List Int} {i v : Int} (h : RowAt w k cap l) (hi : inR i) : Ctr mX2_set (rm 0) [.ref k, vI i, vI v] n w (pV (fun w' => RowAt w' k cap (rSet l i v) ∧ fr2 k w w') n) := by
  have h0 := h
  obtain ⟨f, h1, h2, h3, h4, h5⟩ := h
  refine Ctr_of (lv := [some (.ref k), some (vI i), some (vI v)]) (by decide +kernel) rfl rfl ?_
  refine V_iload_n (Y := mX2_set) (pc := 0) dX2_set_0 rfl ?_
  refine V_if_lt (tgt := 28) (Y := mX2_set) (pc := 1) dX2_set_1 (by decide) ⟨by omega, by omega⟩ (fun h_1 => ?_) (fun h_1 => ?_)
  · refine V_vret (Y := mX2_set) (pc := 28) dX2_set_28 rfl (Nat.le_of_ble_eq_true rfl) (Nat.le_of_ble_eq_true rfl) ?_
    first
      | exact pV_of ⟨by rw [rSet_out (by omega)]; exact h0, fr2.refl k w⟩
      | (refine pV_of ⟨⟨va_up f i.toNat v, ?_, h_27, by rw [rSet_len]; exact h3, h4, ?_⟩, fun j a b => f_27 j b⟩
         · rw [rSet_len, f_27 k (by omega)]; exact h1
         · intro j hj
           rw [rSet_len] at hj
           rw [rSet, if_pos (by omega)]
           by_cases hji : j = i.toNat
           · subst hji
             rw [va_up_self, List.getD_eq_getElem?_getD, List.getElem?_set_self hj]; rfl
           · rw [va_up_ne _ _ hji, List.getD_eq_getElem?_getD, List.getElem?_set_ne (Ne.symm hji), h5 j hj, List.getD_eq_getElem?_getD])
  · refine V_iload_n (Y := mX2_set) (pc := 4) dX2_set_4 rfl ?_
    refine V_aload_n (Y := mX2_set) (pc := 5) dX2_set_5 rfl ?_
    apply V_get (Y := mX2_set) (pc := 6) dX2_set_6 fl_X2_7
    · assumption
    · rfl
    refine V_icmp_ge (tgt := 28) (Y := mX2_set) (pc := 9) dX2_set_9 (by decide) ⟨by omega, by omega⟩ ⟨by omega, by omega⟩ (fun h_9 => ?_) (fun h_9 => ?_)
    · refine V_vret (Y := mX2_set) (pc := 28) dX2_set_28 rfl (Nat.le_of_ble_eq_true rfl) (Nat.le_of_ble_eq_true rfl) ?_
      first
        | exact pV_of ⟨by rw [rSet_out (by omega)]; exact h0, fr2.refl k w⟩
        | (refine pV_of ⟨⟨va_up f i.toNat v, ?_, h_27, by rw [rSet_len]; exact h3, h4, ?_⟩, fun j a b => f_27 j b⟩
           · rw [rSet_len, f_27 k (by omega)]; exact h1
           · intro j hj
             rw [rSet_len] at hj
             rw [rSet, if_pos (by omega)]
             by_cases hji : j = i.toNat
             · subst hji
               rw [va_up_self, List.getD_eq_getElem?_getD, List.getElem?_set_self hj]; rfl
             · rw [va_up_ne _ _ hji, List.getD_eq_getElem?_getD, List.getElem?_set_ne (Ne.symm hji), h5 j hj, List.getD_eq_getElem?_getD])
    · refine V_iload_n (Y := mX2_set) (pc := 12) dX2_set_12 rfl ?_
      refine V_aload_n (Y := mX2_set) (pc := 13) dX2_set_13 rfl ?_
      apply V_get (Y := mX2_set) (pc := 14) dX2_set_14 fl_X2_19
      · assumption
      · rfl
      apply V_alen (Y := mX2_set) (pc := 17) dX2_set_17
      · assumption
      refine V_icmp_ge (tgt := 28) (Y := mX2_set) (pc := 18) dX2_set_18 (by decide) ⟨by omega, by omega⟩ ⟨by omega, by omega⟩ (fun h_18 => ?_) (fun h_18 => ?_)
      · refine V_vret (Y := mX2_set) (pc := 28) dX2_set_28 rfl (Nat.le_of_ble_eq_true rfl) (Nat.le_of_ble_eq_true rfl) ?_
        first
          | exact pV_of ⟨by rw [rSet_out (by omega)]; exact h0, fr2.refl k w⟩
          | (refine pV_of ⟨⟨va_up f i.toNat v, ?_, h_27, by rw [rSet_len]; exact h3, h4, ?_⟩, fun j a b => f_27 j b⟩
             · rw [rSet_len, f_27 k (by omega)]; exact h1
             · intro j hj
               rw [rSet_len] at hj
               rw [rSet, if_pos (by omega)]
               by_cases hji : j = i.toNat
               · subst hji
                 rw [va_up_self, List.getD_eq_getElem?_getD, List.getElem?_set_self hj]; rfl
               · rw [va_up_ne _ _ hji, List.getD_eq_getElem?_getD, List.getElem?_set_ne (Ne.symm hji), h5 j hj, List.getD_eq_getElem?_getD])
      · refine V_aload_n (Y := mX2_set) (pc := 21) dX2_set_21 rfl ?_
        apply V_get (Y := mX2_set) (pc := 22) dX2_set_22 fl_X2_19
        · assumption
        · rfl
        refine V_iload_n (Y := mX2_set) (pc := 25) dX2_set_25 rfl ?_
        refine V_iload_n (Y := mX2_set) (pc := 26) dX2_set_26 rfl ?_
        apply V_iastW (Y := mX2_set) (pc := 27) dX2_set_27
        · assumption
        · exact ⟨by omega, by omega⟩
        · omega
        intro w_27 h_27 f_27
        refine V_vret (Y := mX2_set) (pc := 28) dX2_set_28 rfl (Nat.le_of_ble_eq_true rfl) (Nat.le_of_ble_eq_true rfl) ?_
        first
          | exact pV_of ⟨by rw [rSet_out (by omega)]; exact h0, fr2.refl k w⟩
          | (refine pV_of ⟨⟨va_up f i.toNat v, ?_, h_27, by rw [rSet_len]; exact h3, h4, ?_⟩, fun j a b => f_27 j b⟩
             · rw [rSet_len, f_27 k (by omega)]; exact h1
             · intro j hj
               rw [rSet_len] at hj
               rw [rSet, if_pos (by omega)]
               by_cases hji : j = i.toNat
               · subst hji
                 rw [va_up_self, List.getD_eq_getElem?_getD, List.getElem?_set_self hj]; rfl
               · rw [va_up_ne _ _ hji, List.getD_eq_getElem?_getD, List.getElem?_set_ne (Ne.symm hji), h5 j hj, List.getD_eq_getElem?_getD])
set_option maxRecDepth 100000 in
theorem c_Row_drop {n : Nat} {w : vWd} {k cap : Nat} {l : List Int} (h : RowAt w k cap l) : Ctr mX2_drop (rm 0) [.ref k] n w (pV (fun w' => RowAt w' k cap [] ∧ fr2 k w w') n) := by
  obtain ⟨f, h1, h2, h3, h4, h5⟩ := h
  refine Ctr_of (lv := [some (.ref k)]) (by decide +kernel) rfl rfl ?_
  refine V_aload_n (Y := mX2_drop) (pc := 0) dX2_drop_0 rfl ?_
  refine V_iconst (Y := mX2_drop) (pc := 1) dX2_drop_1 ?_
  apply V_putiW (Y := mX2_drop) (pc := 2) dX2_drop_2 fl_X2_7
  · assumption
  · exact Nat.le_of_ble_eq_true rfl
  intro w_2 h_2 f_2
  simp only [List.set_cons_zero, List.set_cons_succ] at h_2
  refine V_vret (Y := mX2_drop) (pc := 5) dX2_drop_5 rfl (Nat.le_of_ble_eq_true rfl) (Nat.le_of_ble_eq_true rfl) ?_
  exact pV_of ⟨⟨f, h_2, by rw [f_2 (k + 1) (by omega)]; exact h2, Nat.zero_le _, h4, fun i hi => absurd hi (Nat.not_lt_zero i)⟩, fun j a b => f_2 j a⟩
set_option maxRecDepth 100000 in
theorem c_Row_add {n : Nat} {w : vWd} {k cap : Nat} {l : List Int} {v : Int} (h : RowAt w k cap l) : Ctr mX2_add (rm 0) [.ref k, vI v] n w (pV (fun w' => RowAt w' k cap (rAdd cap l v) ∧ fr2 k w w') n) := by
  have h0 := h
  obtain ⟨f, h1, h2, h3, h4, h5⟩ := h
  refine Ctr_of (lv := [some (.ref k), some (vI v)]) (by decide +kernel) rfl rfl ?_
  refine V_aload_n (Y := mX2_add) (pc := 0) dX2_add_0 rfl ?_
  apply V_get (Y := mX2_add) (pc := 1) dX2_add_1 fl_X2_7
  · assumption
  · rfl
  refine V_if_lt (tgt := 19) (Y := mX2_add) (pc := 4) dX2_add_4 (by decide) ⟨by omega, by omega⟩ (fun h_4 => ?_) (fun h_4 => ?_)
  · refine V_vret (Y := mX2_add) (pc := 19) dX2_add_19 rfl (Nat.le_of_ble_eq_true rfl) (Nat.le_of_ble_eq_true rfl) ?_
    exact pV_of ⟨by rw [rAdd, if_neg (by omega)]; exact h0, fr2.refl k w⟩
  · refine V_aload_n (Y := mX2_add) (pc := 7) dX2_add_7 rfl ?_
    apply V_get (Y := mX2_add) (pc := 8) dX2_add_8 fl_X2_7
    · assumption
    · rfl
    refine V_aload_n (Y := mX2_add) (pc := 11) dX2_add_11 rfl ?_
    apply V_get (Y := mX2_add) (pc := 12) dX2_add_12 fl_X2_19
    · assumption
    · rfl
    apply V_alen (Y := mX2_add) (pc := 15) dX2_add_15
    · assumption
    refine V_icmp_lt (tgt := 20) (Y := mX2_add) (pc := 16) dX2_add_16 (by decide) ⟨by omega, by omega⟩ ⟨by omega, by omega⟩ (fun h_16 => ?_) (fun h_16 => ?_)
    · refine V_aload_n (Y := mX2_add) (pc := 20) dX2_add_20 rfl ?_
      apply V_get (Y := mX2_add) (pc := 21) dX2_add_21 fl_X2_19
      · assumption
      · rfl
      refine V_aload_n (Y := mX2_add) (pc := 24) dX2_add_24 rfl ?_
      apply V_get (Y := mX2_add) (pc := 25) dX2_add_25 fl_X2_7
      · assumption
      · rfl
      refine V_iload_n (Y := mX2_add) (pc := 28) dX2_add_28 rfl ?_
      apply V_iastW (Y := mX2_add) (pc := 29) dX2_add_29
      · assumption
      · exact ⟨by omega, by omega⟩
      · omega
      intro w_29 h_29 f_29
      have hk := (f_29 k (by omega)).trans h1
      refine V_aload_n (Y := mX2_add) (pc := 30) dX2_add_30 rfl ?_
      refine V_dup (Y := mX2_add) (pc := 31) dX2_add_31 rfl ?_
      apply V_get (Y := mX2_add) (pc := 32) dX2_add_32 fl_X2_7
      · assumption
      · rfl
      refine V_iconst (Y := mX2_add) (pc := 35) dX2_add_35 ?_
      refine V_iadd (Y := mX2_add) (pc := 36) dX2_add_36 ?_
      apply V_putiW (Y := mX2_add) (pc := 37) dX2_add_37 fl_X2_7
      · assumption
      · exact Nat.le_of_ble_eq_true rfl
      intro w_37 h_37 f_37
      simp only [List.set_cons_zero, List.set_cons_succ] at h_37
      refine V_vret (Y := mX2_add) (pc := 40) dX2_add_40 rfl (Nat.le_of_ble_eq_true rfl) (Nat.le_of_ble_eq_true rfl) ?_
      refine pV_of ⟨⟨va_up f l.length v, ?_, ?_, ?_, h4, ?_⟩, fun j a b => (f_37 j a).trans (f_29 j b)⟩
      · rw [rAdd, if_pos (by omega), List.length_append]; exact h_37
      · rw [f_37 _ (by omega)]; exact h_29
      · rw [rAdd, if_pos (by omega), List.length_append, List.length_singleton]; omega
      · intro j hj
        rw [rAdd, if_pos (by omega)] at hj ⊢
        rw [List.length_append, List.length_singleton] at hj
        by_cases hji : j = l.length
        · subst hji
          rw [va_up_self, List.getD_eq_getElem?_getD, List.getElem?_append_right (Nat.le_refl _), Nat.sub_self]; rfl
        · rw [va_up_ne _ _ hji, List.getD_eq_getElem?_getD, List.getElem?_append_left (by omega), h5 j (by omega), List.getD_eq_getElem?_getD]
    · refine V_vret (Y := mX2_add) (pc := 19) dX2_add_19 rfl (Nat.le_of_ble_eq_true rfl) (Nat.le_of_ble_eq_true rfl) ?_
      exact pV_of ⟨by rw [rAdd, if_neg (by omega)]; exact h0, fr2.refl k w⟩
set_option maxRecDepth 100000 in
theorem c_Row_takeLast {n : Nat} {w : vWd} {k cap : Nat} {l : List Int} (h : RowAt w k cap l) : Ctr mX2_takeLast (rm 1) [.ref k] n w (pI (fun z w' => z = rAt l (l.length - 1) ∧ RowAt w' k cap l.dropLast ∧ fr2 k w w') n) := by
  have h0 := h
  obtain ⟨f, h1, h2, h3, h4, h5⟩ := h
  refine Ctr_of (lv := [some (.ref k), none]) (by decide +kernel) rfl rfl ?_
  refine V_aload_n (Y := mX2_takeLast) (pc := 0) dX2_takeLast_0 rfl ?_
  refine V_aload_n (Y := mX2_takeLast) (pc := 1) dX2_takeLast_1 rfl ?_
  apply V_get (Y := mX2_takeLast) (pc := 2) dX2_takeLast_2 fl_X2_7
  · assumption
  · rfl
  refine V_iconst (Y := mX2_takeLast) (pc := 5) dX2_takeLast_5 ?_
  refine V_isub (Y := mX2_takeLast) (pc := 6) dX2_takeLast_6 ?_
  apply V_vR (Y := mX2_takeLast) (pc := 7) dX2_takeLast_7 ok_X2_at ov_X2_at ln_X2_23 (c_Row_at (i := l.length - 1) h0 ⟨by omega, by omega⟩)
  · assumption
  · rfl
  · rfl
  · rfl
  · rfl
  · rfl
  refine V_istore_n (Y := mX2_takeLast) (pc := 10) dX2_takeLast_10 rfl ?_
  refine V_aload_n (Y := mX2_takeLast) (pc := 11) dX2_takeLast_11 rfl ?_
  refine V_iconst (Y := mX2_takeLast) (pc := 12) dX2_takeLast_12 ?_
  refine V_aload_n (Y := mX2_takeLast) (pc := 13) dX2_takeLast_13 rfl ?_
  apply V_get (Y := mX2_takeLast) (pc := 14) dX2_takeLast_14 fl_X2_7
  · assumption
  · rfl
  refine V_iconst (Y := mX2_takeLast) (pc := 17) dX2_takeLast_17 ?_
  refine V_isub (Y := mX2_takeLast) (pc := 18) dX2_takeLast_18 ?_
  refine V_max (Y := mX2_takeLast) (pc := 19) dX2_takeLast_19 ln_X2_13 ⟨by omega, by omega⟩ ⟨by omega, by omega⟩ rfl ?_
  apply V_putiW (Y := mX2_takeLast) (pc := 22) dX2_takeLast_22 fl_X2_7
  · assumption
  · exact Nat.le_of_ble_eq_true rfl
  intro w_22 h_22 f_22
  simp only [List.set_cons_zero, List.set_cons_succ] at h_22
  refine V_iload_n (Y := mX2_takeLast) (pc := 25) dX2_takeLast_25 rfl ?_
  refine V_iret (Y := mX2_takeLast) (pc := 26) dX2_takeLast_26 rfl (Nat.le_of_ble_eq_true rfl) (Nat.le_of_ble_eq_true rfl) ?_
  refine pI_of ⟨rfl, ⟨f, ?_, ?_, ?_, h4, ?_⟩, fun j a b => f_22 j a⟩
  · rw [h_22, List.length_dropLast, show max 0 ((l.length : Int) - 1) = ((l.length - 1 : Nat) : Int) by omega]
  · rw [f_22 _ (by omega)]; exact h2
  · rw [List.length_dropLast]; omega
  · intro j hj
    rw [List.length_dropLast] at hj
    rw [h5 j (by omega), List.getD_eq_getElem?_getD, List.getD_eq_getElem?_getD, List.getElem?_dropLast, if_pos (by omega)]
set_option maxRecDepth 100000 in
theorem lp_Row_dropFirst {n : Nat} {w : vWd} {k cap : Nat} {l : List Int} : ∀ (m : Nat) (i : Int) (w' : vWd) (l' : List Int), 1 ≤ i → i ≤ 30000 → (l.length - i).toNat < m → fr2 k w w' → RowAt w' k cap l' → l'.length = l.length → (∀ j : Nat, l'.getD j 0 = if (j : Int) + 1 < i then l.getD (j + 1) 0 else l.getD j 0) →
    V mX2_dropFirst (rm 1) (pV (fun w' => RowAt w' k cap l.tail ∧ fr2 k w w') n) 2 [some (.ref k), some (vI i)] [] n w' 0 0 := by
  intro m
  induction m with
  | zero => intro i w' l' h1 h2 h3; omega
  | succ m ih =>
    intro i w' l' hi hi2 hm hfr h hlen hl
    have h0 := h
    obtain ⟨f, h1, h2, h3, h4, h5⟩ := h
    rw [hlen] at h1
    refine V_iload_n (Y := mX2_dropFirst) (pc := 2) dX2_dropFirst_2 rfl ?_
    refine V_aload_n (Y := mX2_dropFirst) (pc := 3) dX2_dropFirst_3 rfl ?_
    apply V_get (Y := mX2_dropFirst) (pc := 4) dX2_dropFirst_4 fl_X2_7
    · assumption
    · rfl
    refine V_icmp_ge (tgt := 28) (Y := mX2_dropFirst) (pc := 7) dX2_dropFirst_7 (by decide) ⟨by omega, by omega⟩ ⟨by omega, by omega⟩ (fun h_7 => ?_) (fun h_7 => ?_)
    · refine V_aload_n (Y := mX2_dropFirst) (pc := 28) dX2_dropFirst_28 rfl ?_
      refine V_iconst (Y := mX2_dropFirst) (pc := 29) dX2_dropFirst_29 ?_
      refine V_aload_n (Y := mX2_dropFirst) (pc := 30) dX2_dropFirst_30 rfl ?_
      apply V_get (Y := mX2_dropFirst) (pc := 31) dX2_dropFirst_31 fl_X2_7
      · assumption
      · rfl
      refine V_iconst (Y := mX2_dropFirst) (pc := 34) dX2_dropFirst_34 ?_
      refine V_isub (Y := mX2_dropFirst) (pc := 35) dX2_dropFirst_35 ?_
      refine V_max (Y := mX2_dropFirst) (pc := 36) dX2_dropFirst_36 ln_X2_13 ⟨by omega, by omega⟩ ⟨by omega, by omega⟩ rfl ?_
      apply V_putiW (Y := mX2_dropFirst) (pc := 39) dX2_dropFirst_39 fl_X2_7
      · assumption
      · exact Nat.le_of_ble_eq_true rfl
      intro w_39 h_39 f_39
      simp only [List.set_cons_zero, List.set_cons_succ] at h_39
      refine V_vret (Y := mX2_dropFirst) (pc := 42) dX2_dropFirst_42 rfl (Nat.le_of_ble_eq_true rfl) (Nat.le_of_ble_eq_true rfl) ?_
      refine pV_of ⟨⟨f, ?_, ?_, ?_, h4, ?_⟩, fun j a b => (f_39 j a).trans (hfr j a b)⟩
      · rw [h_39, List.length_tail, show max 0 ((l.length : Int) - 1) = ((l.length - 1 : Nat) : Int) by omega]
      · rw [f_39 _ (by omega)]; exact h2
      · rw [List.length_tail]; omega
      · intro j hj
        rw [List.length_tail] at hj
        rw [h5 j (by omega), hl, if_pos (by omega), List.getD_eq_getElem?_getD, List.getD_eq_getElem?_getD, List.getElem?_tail]
    · refine V_aload_n (Y := mX2_dropFirst) (pc := 10) dX2_dropFirst_10 rfl ?_
      refine V_iload_n (Y := mX2_dropFirst) (pc := 11) dX2_dropFirst_11 rfl ?_
      refine V_iconst (Y := mX2_dropFirst) (pc := 12) dX2_dropFirst_12 ?_
      refine V_isub (Y := mX2_dropFirst) (pc := 13) dX2_dropFirst_13 ?_
      refine V_aload_n (Y := mX2_dropFirst) (pc := 14) dX2_dropFirst_14 rfl ?_
      refine V_iload_n (Y := mX2_dropFirst) (pc := 15) dX2_dropFirst_15 rfl ?_
      apply V_vR (Y := mX2_dropFirst) (pc := 16) dX2_dropFirst_16 ok_X2_at ov_X2_at ln_X2_23 (c_Row_at (i := i) h0 ⟨by omega, by omega⟩)
      · assumption
      · rfl
      · rfl
      · rfl
      · rfl
      · rfl
      apply V_vV (Y := mX2_dropFirst) (pc := 19) dX2_dropFirst_19 ok_X2_set ov_X2_set ln_X2_27 (c_Row_set (i := i - 1) (v := rAt l' i) h0 ⟨by omega, by omega⟩)
      · assumption
      · rfl
      · rfl
      · rfl
      · rfl
      · rfl
      rintro w_19 ⟨g1, g2⟩
      refine V_iinc (Y := mX2_dropFirst) (pc := 22) dX2_dropFirst_22 rfl rfl ?_
      skip
      refine V_goto (tgt := 2) (Y := mX2_dropFirst) (pc := 25) dX2_dropFirst_25 (by decide) ?_
      refine ih (i + 1) w_19 _ (by omega) (by omega) (by omega) (hfr.trans g2) g1 (by rw [rSet_len]; exact hlen) (fun j => ?_)
      have hil : i.toNat < l'.length := by omega
      rw [rSet, if_pos (by omega), List.getD_eq_getElem?_getD]
      by_cases hj : j = (i - 1).toNat
      · subst hj
        rw [List.getElem?_set_self (by omega), if_pos (by omega), Option.getD_some, rAt_in (by omega), hl, if_neg (by omega)]
        congr 1
        omega
      · rw [List.getElem?_set_ne (Ne.symm hj), ← List.getD_eq_getElem?_getD, hl]
        by_cases h6 : (j : Int) + 1 < i
        · rw [if_pos h6, if_pos (by omega)]
        · rw [if_neg h6, if_neg (by omega)]
set_option maxRecDepth 100000 in
theorem c_Row_dropFirst {n : Nat} {w : vWd} {k cap : Nat} {l : List Int} (h : RowAt w k cap l) : Ctr mX2_dropFirst (rm 1) [.ref k] n w (pV (fun w' => RowAt w' k cap l.tail ∧ fr2 k w w') n) := by
  refine Ctr_of (lv := [some (.ref k), none]) (by decide +kernel) rfl rfl ?_
  refine V_iconst (Y := mX2_dropFirst) (pc := 0) dX2_dropFirst_0 ?_
  refine V_istore_n (Y := mX2_dropFirst) (pc := 1) dX2_dropFirst_1 rfl ?_
  exact lp_Row_dropFirst (l.length + 1) 1 w l (by omega) (by omega) (by omega) (fr2.refl k w) h rfl (fun j => by rw [if_neg (by omega)])
set_option maxRecDepth 100000 in
theorem lp_Row_fill {n : Nat} {w : vWd} {k cap N : Nat} {v mny : Int} (hN : N ≤ cap) (hc : cap ≤ 20000) : ∀ (m : Nat) (i : Int) (w' : vWd) (f : Nat → Int), 0 ≤ i → i ≤ N → (N - i).toNat < m → fr2 k w w' → w' k = some (.inr (2, [.ref (k + 1), vI (N : Int)])) → w' (k + 1) = some (arI cap f) → (∀ j : Nat, (j : Int) < i → f j = v) →
    V mX2_fill (rm 1) (pV (fun w' => RowAt w' k cap (List.replicate N v) ∧ fr2 k w w') n) 19 [some (.ref k), some (vI mny), some (vI v), some (vI i)] [] n w' 0 0 := by
  intro m
  induction m with
  | zero => intro i w' l' h1 h2 h3; omega
  | succ m ih =>
    intro i w' f hi hi2 hm hfr h1 h2 hf
    refine V_iload_n (Y := mX2_fill) (pc := 19) dX2_fill_19 rfl ?_
    refine V_aload_n (Y := mX2_fill) (pc := 20) dX2_fill_20 rfl ?_
    apply V_get (Y := mX2_fill) (pc := 21) dX2_fill_21 fl_X2_7
    · assumption
    · rfl
    refine V_icmp_ge (tgt := 49) (Y := mX2_fill) (pc := 24) dX2_fill_24 (by decide) ⟨by omega, by omega⟩ ⟨by omega, by omega⟩ (fun h_24 => ?_) (fun h_24 => ?_)
    · refine V_vret (Y := mX2_fill) (pc := 49) dX2_fill_49 rfl (Nat.le_of_ble_eq_true rfl) (Nat.le_of_ble_eq_true rfl) ?_
      refine pV_of ⟨⟨f, by rw [List.length_replicate]; exact h1, h2, by rw [List.length_replicate]; exact hN, hc, fun j hj => ?_⟩, hfr⟩
      rw [List.length_replicate] at hj
      rw [List.getD_eq_getElem?_getD, List.getElem?_replicate, if_pos hj, hf j (by omega)]; rfl
    · refine V_iload_n (Y := mX2_fill) (pc := 27) dX2_fill_27 rfl ?_
      refine V_aload_n (Y := mX2_fill) (pc := 28) dX2_fill_28 rfl ?_
      apply V_get (Y := mX2_fill) (pc := 29) dX2_fill_29 fl_X2_19
      · assumption
      · rfl
      apply V_alen (Y := mX2_fill) (pc := 32) dX2_fill_32
      · assumption
      refine V_icmp_ge (tgt := 49) (Y := mX2_fill) (pc := 33) dX2_fill_33 (by decide) ⟨by omega, by omega⟩ ⟨by omega, by omega⟩ (fun h_33 => ?_) (fun h_33 => ?_)
      · refine V_vret (Y := mX2_fill) (pc := 49) dX2_fill_49 rfl (Nat.le_of_ble_eq_true rfl) (Nat.le_of_ble_eq_true rfl) ?_
        refine pV_of ⟨⟨f, by rw [List.length_replicate]; exact h1, h2, by rw [List.length_replicate]; exact hN, hc, fun j hj => ?_⟩, hfr⟩
        rw [List.length_replicate] at hj
        rw [List.getD_eq_getElem?_getD, List.getElem?_replicate, if_pos hj, hf j (by omega)]; rfl
      · refine V_aload_n (Y := mX2_fill) (pc := 36) dX2_fill_36 rfl ?_
        apply V_get (Y := mX2_fill) (pc := 37) dX2_fill_37 fl_X2_19
        · assumption
        · rfl
        refine V_iload_n (Y := mX2_fill) (pc := 40) dX2_fill_40 rfl ?_
        refine V_iload_n (Y := mX2_fill) (pc := 41) dX2_fill_41 rfl ?_
        apply V_iastW (Y := mX2_fill) (pc := 42) dX2_fill_42
        · assumption
        · exact ⟨by omega, by omega⟩
        · omega
        intro w_42 h_42 f_42
        have hk := (f_42 k (by omega)).trans h1
        refine V_iinc (Y := mX2_fill) (pc := 43) dX2_fill_43 rfl rfl ?_
        refine V_goto (tgt := 19) (Y := mX2_fill) (pc := 46) dX2_fill_46 (by decide) ?_
        refine ih (i + 1) w_42 _ (by omega) (by omega) (by omega) (fun j a b => (f_42 j b).trans (hfr j a b)) hk h_42 (fun j hj => ?_)
        by_cases hji : j = i.toNat
        · subst hji; rw [va_up_self]
        · rw [va_up_ne _ _ hji]; exact hf j (by omega)
set_option maxRecDepth 100000 in
theorem c_Row_fill {n : Nat} {w : vWd} {k cap : Nat} {l : List Int} {v mny : Int} (h : RowAt w k cap l) (hm : inR mny) : Ctr mX2_fill (rm 1) [.ref k, vI mny, vI v] n w (pV (fun w' => RowAt w' k cap (List.replicate (min mny cap).toNat v) ∧ fr2 k w w') n) := by
  obtain ⟨f, h1, h2, h3, h4, h5⟩ := h
  refine Ctr_of (lv := [some (.ref k), some (vI mny), some (vI v), none]) (by decide +kernel) rfl rfl ?_
  refine V_aload_n (Y := mX2_fill) (pc := 0) dX2_fill_0 rfl ?_
  refine V_iconst (Y := mX2_fill) (pc := 1) dX2_fill_1 ?_
  refine V_iload_n (Y := mX2_fill) (pc := 2) dX2_fill_2 rfl ?_
  refine V_aload_n (Y := mX2_fill) (pc := 3) dX2_fill_3 rfl ?_
  apply V_get (Y := mX2_fill) (pc := 4) dX2_fill_4 fl_X2_19
  · assumption
  · rfl
  apply V_alen (Y := mX2_fill) (pc := 7) dX2_fill_7
  · assumption
  refine V_min (Y := mX2_fill) (pc := 8) dX2_fill_8 ln_X2_31 ⟨by omega, by omega⟩ ⟨by omega, by omega⟩ rfl ?_
  refine V_max (Y := mX2_fill) (pc := 11) dX2_fill_11 ln_X2_13 ⟨by omega, by omega⟩ ⟨by omega, by omega⟩ rfl ?_
  apply V_putiW (Y := mX2_fill) (pc := 14) dX2_fill_14 fl_X2_7
  · assumption
  · exact Nat.le_of_ble_eq_true rfl
  intro w_14 h_14 f_14
  simp only [List.set_cons_zero, List.set_cons_succ] at h_14
  refine V_iconst (Y := mX2_fill) (pc := 17) dX2_fill_17 ?_
  refine V_istore_n (Y := mX2_fill) (pc := 18) dX2_fill_18 rfl ?_
  exact lp_Row_fill (N := (min mny cap).toNat) (by omega) h4 ((min mny cap).toNat + 1) 0 w_14 f (by omega) (by omega) (by omega) (fun j a b => f_14 j a) (by rw [h_14, show max 0 (min mny (cap : Int)) = (((min mny cap).toNat : Nat) : Int) by omega]) ((f_14 _ (by omega)).trans h2) (fun j hj => by omega)
set_option maxRecDepth 100000 in
theorem lp_Row_copyFrom {n : Nat} {w : vWd} {k cap k2 cap2 : Nat} {l2 : List Int} (hd : k ≠ k2 ∧ k2 ≠ k + 1 ∧ k2 + 1 ≠ k) : ∀ (m : Nat) (i : Int) (w' : vWd), 0 ≤ i → i ≤ l2.length → (l2.length - i).toNat < m → fr2 k w w' → RowAt w' k cap ((l2.take i.toNat).take cap) → RowAt w' k2 cap2 l2 →
    V mX2_copyFrom (rm 1) (pV (fun w' => RowAt w' k cap (l2.take cap) ∧ fr2 k w w') n) 7 [some (.ref k), some (.ref k2), some (vI i)] [] n w' 0 0 := by
  intro m
  induction m with
  | zero => intro i w' h1 h2 h3; omega
  | succ m ih =>
    intro i w' hi hi2 hm hfr hk h
    have ho := hk.obj
    have h0 := h
    obtain ⟨f, h1, h2, h3, h4, h5⟩ := h
    refine V_iload_n (Y := mX2_copyFrom) (pc := 7) dX2_copyFrom_7 rfl ?_
    refine V_aload_n (Y := mX2_copyFrom) (pc := 8) dX2_copyFrom_8 rfl ?_
    apply V_get (Y := mX2_copyFrom) (pc := 9) dX2_copyFrom_9 fl_X2_7
    · assumption
    · rfl
    refine V_icmp_ge (tgt := 30) (Y := mX2_copyFrom) (pc := 12) dX2_copyFrom_12 (by decide) ⟨by omega, by omega⟩ ⟨by omega, by omega⟩ (fun h_12 => ?_) (fun h_12 => ?_)
    · refine V_vret (Y := mX2_copyFrom) (pc := 30) dX2_copyFrom_30 rfl (Nat.le_of_ble_eq_true rfl) (Nat.le_of_ble_eq_true rfl) ?_
      refine pV_of ⟨?_, hfr⟩
      rw [show i.toNat = l2.length by omega, List.take_length] at hk
      exact hk
    · refine V_aload_n (Y := mX2_copyFrom) (pc := 15) dX2_copyFrom_15 rfl ?_
      refine V_aload_n (Y := mX2_copyFrom) (pc := 16) dX2_copyFrom_16 rfl ?_
      refine V_iload_n (Y := mX2_copyFrom) (pc := 17) dX2_copyFrom_17 rfl ?_
      apply V_vR (Y := mX2_copyFrom) (pc := 18) dX2_copyFrom_18 ok_X2_at ov_X2_at ln_X2_23 (c_Row_at (i := i) h0 ⟨by omega, by omega⟩)
      · assumption
      · rfl
      · rfl
      · rfl
      · rfl
      · rfl
      apply V_vV (Y := mX2_copyFrom) (pc := 21) dX2_copyFrom_21 ok_X2_add ov_X2_add ln_X2_34 (c_Row_add (v := rAt l2 i) hk)
      · assumption
      · rfl
      · rfl
      · rfl
      · rfl
      · rfl
      rintro w_21 ⟨g1, g2⟩
      refine V_iinc (Y := mX2_copyFrom) (pc := 24) dX2_copyFrom_24 rfl rfl ?_
      skip
      refine V_goto (tgt := 7) (Y := mX2_copyFrom) (pc := 27) dX2_copyFrom_27 (by decide) ?_
      refine ih (i + 1) w_21 (by omega) (by omega) (by omega) (hfr.trans g2) (by rw [← rAdd_take hi (by omega)]; exact g1) (h0.fr g2 ⟨by omega, by omega, by omega⟩)
set_option maxRecDepth 100000 in
theorem c_Row_copyFrom {n : Nat} {w : vWd} {k cap k2 cap2 : Nat} {l l2 : List Int} (h : RowAt w k cap l) (h2 : RowAt w k2 cap2 l2) (hd : k ≠ k2 ∧ k2 ≠ k + 1 ∧ k2 + 1 ≠ k) : Ctr mX2_copyFrom (rm 1) [.ref k, .ref k2] n w (pV (fun w' => RowAt w' k cap (l2.take cap) ∧ fr2 k w w') n) := by
  have g2 := h2
  obtain ⟨f, h1, h2, h3, h4, h5⟩ := h
  refine Ctr_of (lv := [some (.ref k), some (.ref k2), none]) (by decide +kernel) rfl rfl ?_
  refine V_aload_n (Y := mX2_copyFrom) (pc := 0) dX2_copyFrom_0 rfl ?_
  refine V_iconst (Y := mX2_copyFrom) (pc := 1) dX2_copyFrom_1 ?_
  apply V_putiW (Y := mX2_copyFrom) (pc := 2) dX2_copyFrom_2 fl_X2_7
  · assumption
  · exact Nat.le_of_ble_eq_true rfl
  intro w_2 h_2 f_2
  simp only [List.set_cons_zero, List.set_cons_succ] at h_2
  refine V_iconst (Y := mX2_copyFrom) (pc := 5) dX2_copyFrom_5 ?_
  refine V_istore_n (Y := mX2_copyFrom) (pc := 6) dX2_copyFrom_6 rfl ?_
  have hfr : fr2 k w w_2 := fun j a b => f_2 j a
  refine lp_Row_copyFrom hd (l2.length + 1) 0 w_2 (by omega) (by omega) (by omega) hfr ?_ (g2.fr hfr ⟨by omega, by omega, by omega⟩)
  rw [show (Int.toNat 0) = 0 from rfl, List.take_zero, List.take_nil]
  exact ⟨f, h_2, (f_2 _ (by omega)).trans h2, Nat.zero_le _, h4, fun j hj => absurd hj (by simp)⟩
