/-! ===== DrawerWall$Walk: all states behind pulls, nearest first ===== -/
abbrev bF : Type := List Int × List Int × List Int × List Int
def wkCap : Nat → Nat
  | 0 => 15309
  | _ => 2187
def rkOf (st : List Int) (F : bF) : Nat → List Int
  | 0 => st
  | 1 => F.1
  | 2 => F.2.1
  | 3 => F.2.2.1
  | _ => F.2.2.2
abbrev wkO (q : Nat) (lr dn sn tf tt tb : Int) : va_E := .inr (3, [.ref (q + 1), .ref (q + 3), .ref (q + 5), .ref (q + 7), .ref (q + 9), vI lr, vI dn, vI sn, vI tf, vI tt, vI tb])
def WalkAt (w : vWd) (q : Nat) (lr dn sn tf tt tb : Int) (st : List Int) (F : bF) : Prop := w q = some (wkO q lr dn sn tf tt tb) ∧ ∀ i, i < 5 → RowAt w (q + 1 + 2 * i) (wkCap i) (rkOf st F i)
def frK (q : Nat) (w w' : vWd) : Prop := ∀ j, (j < q ∨ q + 11 ≤ j) → w' j = w j
theorem frK.refl (q : Nat) (w : vWd) : frK q w w := fun _ _ => rfl
theorem frK.trans {q : Nat} {w w' w2 : vWd} (h : frK q w w') (h2 : frK q w' w2) : frK q w w2 := fun j a => (h2 j a).trans (h j a)
theorem fr2.K {p q : Nat} {w w' : vWd} (h : fr2 q w w') (h1 : p ≤ q ∧ q + 1 < p + 11) : frK p w w' := fun j a => h j (by omega) (by omega)
section WALK
variable {w w' : vWd} {q : Nat} {lr dn sn tf tt tb : Int} {st : List Int} {F : bF}
theorem WalkAt.obj (h : WalkAt w q lr dn sn tf tt tb st F) : w q = some (wkO q lr dn sn tf tt tb) := h.1
theorem WalkAt.r0 (h : WalkAt w q lr dn sn tf tt tb st F) : RowAt w (q + 1) 15309 st := h.2 0 (by decide)
theorem WalkAt.r1 (h : WalkAt w q lr dn sn tf tt tb st F) : RowAt w (q + 3) 2187 F.1 := h.2 1 (by decide)
theorem WalkAt.r2 (h : WalkAt w q lr dn sn tf tt tb st F) : RowAt w (q + 5) 2187 F.2.1 := h.2 2 (by decide)
theorem WalkAt.r3 (h : WalkAt w q lr dn sn tf tt tb st F) : RowAt w (q + 7) 2187 F.2.2.1 := h.2 3 (by decide)
theorem WalkAt.r4 (h : WalkAt w q lr dn sn tf tt tb st F) : RowAt w (q + 9) 2187 F.2.2.2 := h.2 4 (by decide)
theorem WalkAt.mk' (h0 : w q = some (wkO q lr dn sn tf tt tb)) (g0 : RowAt w (q + 1) 15309 st) (g1 : RowAt w (q + 3) 2187 F.1) (g2 : RowAt w (q + 5) 2187 F.2.1) (g3 : RowAt w (q + 7) 2187 F.2.2.1) (g4 : RowAt w (q + 9) 2187 F.2.2.2) : WalkAt w q lr dn sn tf tt tb st F := by
  refine ⟨h0, fun i hi => ?_⟩
  rcases (show i = 0 ∨ i = 1 ∨ i = 2 ∨ i = 3 ∨ i = 4 by omega) with rfl | rfl | rfl | rfl | rfl
  · exact g0
  · exact g1
  · exact g2
  · exact g3
  · exact g4
/-- one row anew -/
theorem WalkAt.row (h : WalkAt w q lr dn sn tf tt tb st F) {k : Nat} (i : Nat) {st' : List Int} {F' : bF} (hi : i < 5) (hk : k = q + 1 + 2 * i) (hr : RowAt w' k (wkCap i) (rkOf st' F' i)) (hs : ∀ j, j < 5 → j ≠ i → rkOf st' F' j = rkOf st F j) (hf : fr2 k w w') : WalkAt w' q lr dn sn tf tt tb st' F' := by
  refine ⟨(hf q (by omega) (by omega)).trans h.1, fun j hj => ?_⟩
  by_cases hji : j = i
  · subst hji; rw [← hk]; exact hr
  · rw [hs j hj hji]
    exact (h.2 j hj).fr hf ⟨by omega, by omega, by omega⟩
theorem WalkAt.fld (h : WalkAt w q lr dn sn tf tt tb st F) {lr' dn' sn' tf' tt' tb' : Int} (ho : w' q = some (wkO q lr' dn' sn' tf' tt' tb')) (hf : ∀ j, j ≠ q → w' j = w j) : WalkAt w' q lr' dn' sn' tf' tt' tb' st F :=
  ⟨ho, fun j hj => (h.2 j hj).keep (hf _ (by omega)) (hf _ (by omega))⟩
theorem WalkAt.keep (h : WalkAt w q lr dn sn tf tt tb st F) (hf : ∀ j, q ≤ j → j < q + 11 → w' j = w j) : WalkAt w' q lr dn sn tf tt tb st F :=
  ⟨(hf q (by omega) (by omega)).trans h.1, fun j hj => (h.2 j hj).keep (hf _ (by omega) (by omega)) (hf _ (by omega) (by omega))⟩
theorem WallAt.frK {p : Nat} {S : vSt} (h : WallAt w p S) (hf : frK q w w') (hq : p + 19 ≤ q ∨ q + 11 ≤ p) : WallAt w' p S := h.keep (fun j a b => hf j (by omega))
end WALK
def tbl (st : List Int) (s d : Int) : Int := rAt st (d * 2187 + s)
def stpF (st : List Int) (tf tt tb s d : Int) : Int := if d ≠ tf ∨ tbl st s d = s then tbl st s d else mv (tbl st s d) tt.toNat tb
def tbOK (n : Int) (st : List Int) : Prop := ∀ s d : Int, isS n s → isD n d → isS n (tbl st s d)
theorem stpF_rng {n : Int} {st : List Int} {tf tt tb s d : Int} (ht : tbOK n st) (h2 : 0 ≤ n) (htt : tf = -1 ∨ (0 ≤ tt ∧ tt < n)) (hs : isS n s) (hd : isD n d) : isS n (stpF st tf tt tb s d) := by
  unfold stpF
  have h := ht s d hs hd
  split
  · exact h
  · rename_i hc
    exact mv_rng tb h.1 h.2 (by omega)
def fMeet (F : bF) (s f d : Int) : bF := if rAt F.1 s ≠ -1 then F else (rSet F.1 s (if f = -1 then 0 else rAt F.1 f + 1), rSet F.2.1 s f, rSet F.2.2.1 s d, rAdd 2187 F.2.2.2 s)
def fGrowTo (sp : Int → Int → Int) (F : bF) (s : Int) : Nat → bF
  | 0 => F
  | m + 1 => fMeet (fGrowTo sp F s m) (sp s (m : Int)) s (m : Int)
/-- what holds of the tables of a walk over N states -/
def FOK (N : Int) (F : bF) : Prop := (F.1.length : Int) = N ∧ N ≤ 2187 ∧ F.2.1.length = 2187 ∧ F.2.2.1.length = 2187 ∧ (∀ i : Int, -2 ≤ rAt F.1 i ∧ rAt F.1 i ≤ F.2.2.2.length) ∧ F.2.2.2.Nodup ∧ (∀ s ∈ F.2.2.2, 0 ≤ s ∧ s < N ∧ 0 ≤ rAt F.1 s) ∧ (∀ s : Int, 0 ≤ s → s < N → 0 ≤ rAt F.1 s → s ∈ F.2.2.2)
theorem nodup_len : ∀ (N : Nat) (l : List Int), l.Nodup → (∀ s ∈ l, 0 ≤ s ∧ s < N) → l.length ≤ N
  | 0, l, _, h => by
    cases l with
    | nil => exact Nat.le_refl 0
    | cons a l => have := h a List.mem_cons_self; omega
  | N + 1, l, hn, h => by
    by_cases hm : (N : Int) ∈ l
    · have h1 := nodup_len N (l.erase (N : Int)) (hn.erase _) (fun s hs => by
        have := (List.Nodup.mem_erase_iff hn).mp hs
        have h2 := h s this.2
        have h3 := this.1
        omega)
      rw [List.length_erase_of_mem hm] at h1
      omega
    · have h1 := nodup_len N l hn (fun s hs => by
        have h2 := h s hs
        have h3 : s ≠ N := fun e => hm (e ▸ hs)
        omega)
      omega
theorem FOK.len {N : Int} {F : bF} (h : FOK N F) : (F.2.2.2.length : Int) ≤ N := by
  have h0 : 0 ≤ N := by have := h.1; omega
  have := nodup_len N.toNat F.2.2.2 h.2.2.2.2.2.1 (fun s hs => by have := h.2.2.2.2.2.2.1 s hs; omega)
  omega
theorem rAt_set {l : List Int} {i j v : Int} (hi : 0 ≤ i) (h : i < l.length) : rAt (rSet l i v) j = if j = i then v else rAt l j := by
  unfold rSet
  rw [if_pos hi]
  by_cases hj : j = i
  · subst hj
    rw [if_pos rfl, rAt_in hi, List.getD_eq_getElem?_getD, List.getElem?_set_self (by omega)]; rfl
  · rw [if_neg hj]
    unfold rAt
    by_cases hj0 : 0 ≤ j
    · rw [if_pos hj0, if_pos hj0, List.getD_eq_getElem?_getD, List.getElem?_set_ne (by omega), List.getD_eq_getElem?_getD]
    · rw [if_neg hj0, if_neg hj0]
theorem fMeet_old {F : bF} {s f d : Int} (h : rAt F.1 s ≠ -1) : fMeet F s f d = F := if_pos h
theorem fMeet_new {F : bF} {s f d : Int} (h : rAt F.1 s = -1) : fMeet F s f d = (rSet F.1 s (if f = -1 then 0 else rAt F.1 f + 1), rSet F.2.1 s f, rSet F.2.2.1 s d, rAdd 2187 F.2.2.2 s) := if_neg (fun q => q h)
theorem FOK.meet {N : Int} {F : bF} (h : FOK N F) {s f d : Int} (hs : 0 ≤ s ∧ s < N) (hf : f = -1 ∨ f ∈ F.2.2.2) : FOK N (fMeet F s f d) := by
  by_cases hn : rAt F.1 s = -1
  · have hl := h.len
    obtain ⟨h1, h2, h3, h4, h5, h6, h7, h8⟩ := h
    have hns : s ∉ F.2.2.2 := fun q => by have := h7 s q; omega
    have hnd : (F.2.2.2 ++ [s]).Nodup := by
      rw [List.nodup_append]
      exact ⟨h6, by simp, fun a ha b hb => by simp at hb; subst hb; exact fun e => hns (e ▸ ha)⟩
    have hlt : F.2.2.2.length < 2187 := by
      have := nodup_len N.toNat (F.2.2.2 ++ [s]) hnd (fun x hx => by
        rcases List.mem_append.mp hx with q | q
        · have := h7 x q; omega
        · simp at q; subst q; omega)
      rw [List.length_append, List.length_singleton] at this
      omega
    rw [fMeet_new hn]
    have hadd : rAdd 2187 F.2.2.2 s = F.2.2.2 ++ [s] := if_pos hlt
    have hv : 0 ≤ (if f = -1 then 0 else rAt F.1 f + 1) ∧ (if f = -1 then 0 else rAt F.1 f + 1) ≤ F.2.2.2.length + 1 := by
      split
      · omega
      · rename_i hf1
        rcases hf with q | q
        · exact absurd q hf1
        · have a := h7 f q; have b := h5 f; omega
    refine ⟨by rw [rSet_len]; exact h1, h2, by rw [rSet_len]; exact h3, by rw [rSet_len]; exact h4, fun i => ?_, by rw [hadd]; exact hnd, fun x hx => ?_, fun x hx1 hx2 hx3 => ?_⟩
    · show -2 ≤ rAt (rSet F.1 s _) i ∧ rAt (rSet F.1 s _) i ≤ (rAdd 2187 F.2.2.2 s).length
      rw [rAt_set hs.1 (by omega), hadd, List.length_append, List.length_singleton]
      have := h5 i
      split <;> omega
    · rw [hadd] at hx
      show 0 ≤ x ∧ x < N ∧ 0 ≤ rAt (rSet F.1 s _) x
      rw [rAt_set hs.1 (by omega)]
      rcases List.mem_append.mp hx with q | q
      · have a := h7 x q
        refine ⟨a.1, a.2.1, ?_⟩
        split <;> omega
      · simp at q
        subst q
        refine ⟨hs.1, hs.2, ?_⟩
        rw [if_pos rfl]; exact hv.1
    · rw [hadd]
      have hx3 : 0 ≤ rAt (rSet F.1 s _) x := hx3
      rw [rAt_set hs.1 (by omega)] at hx3
      by_cases hxs : x = s
      · subst hxs; exact List.mem_append.mpr (Or.inr (by simp))
      · rw [if_neg hxs] at hx3
        exact List.mem_append.mpr (Or.inl (h8 x hx1 hx2 hx3))
  · rw [fMeet_old hn]; exact h
theorem fMeet_sub {F : bF} {s f d x : Int} (h : x ∈ F.2.2.2) : x ∈ (fMeet F s f d).2.2.2 := by
  by_cases hn : rAt F.1 s = -1
  · rw [fMeet_new hn]
    show x ∈ rAdd 2187 F.2.2.2 s
    unfold rAdd
    split
    · exact List.mem_append.mpr (Or.inl h)
    · exact h
  · rw [fMeet_old hn]; exact h
theorem fGrowTo_ok {N n : Int} {F : bF} (h : FOK N F) {sp : Int → Int → Int} {s : Int} (hsp : ∀ d : Int, 0 ≤ d → d < n → 0 ≤ sp s d ∧ sp s d < N) (hs : s ∈ F.2.2.2) : ∀ m : Nat, (m : Int) ≤ n → FOK N (fGrowTo sp F s m) ∧ s ∈ (fGrowTo sp F s m).2.2.2
  | 0, _ => ⟨h, hs⟩
  | m + 1, hm => by
    have ih := fGrowTo_ok h hsp hs m (by omega)
    have h1 := hsp m (by omega) (by omega)
    exact ⟨ih.1.meet h1 (Or.inr ih.2), fMeet_sub ih.2⟩
set_option maxRecDepth 100000 in
theorem c_forget {nn : Nat} {w : vWd} {q : Nat} {lr dn sn tf tt tb : Int} {st : List Int} {F : bF} (h : WalkAt w q lr dn sn tf tt tb st F) : Ctr mX3_forget (rm 0) [.ref q] nn w (pV (fun w' => WalkAt w' q 0 dn sn tf tt tb st F ∧ frK q w w') nn) := by
  refine Ctr_of (lv := [some (.ref q)]) (by decide +kernel) rfl rfl ?_
  have ho := h.obj
  refine V_aload_n (Y := mX3_forget) (pc := 0) dX3_forget_0 rfl ?_
  refine V_iconst (Y := mX3_forget) (pc := 1) dX3_forget_1 ?_
  apply V_putzW (Y := mX3_forget) (pc := 2) dX3_forget_2 fl_X3_32
  · assumption
  · first | exact Or.inl rfl | exact Or.inr rfl
  · exact Nat.le_of_ble_eq_true rfl
  intro w_2 h_2 f_2
  simp only [List.set_cons_zero, List.set_cons_succ] at h_2
  refine V_vret (Y := mX3_forget) (pc := 5) dX3_forget_5 rfl (Nat.le_of_ble_eq_true rfl) (Nat.le_of_ble_eq_true rfl) ?_
  exact pV_of ⟨h.fld h_2 f_2, fun j hj => f_2 j (by omega)⟩
set_option maxRecDepth 100000 in
theorem c_tied {nn : Nat} {w : vWd} {q : Nat} {lr dn sn tf tt tb tf' tt' tb' : Int} {st : List Int} {F : bF} (h : WalkAt w q lr dn sn tf tt tb st F) : Ctr mX3_tied (rm 0) [.ref q, vI tf', vI tt', vI tb'] nn w (pV (fun w' => WalkAt w' q lr dn sn tf' tt' tb' st F ∧ frK q w w') nn) := by
  refine Ctr_of (lv := [some (.ref q), some (vI tf'), some (vI tt'), some (vI tb')]) (by decide +kernel) rfl rfl ?_
  have ho := h.obj
  refine V_aload_n (Y := mX3_tied) (pc := 0) dX3_tied_0 rfl ?_
  refine V_iload_n (Y := mX3_tied) (pc := 1) dX3_tied_1 rfl ?_
  apply V_putiW (Y := mX3_tied) (pc := 2) dX3_tied_2 fl_X3_43
  · assumption
  · exact Nat.le_of_ble_eq_true rfl
  intro w_2 h_2 f_2
  simp only [List.set_cons_zero, List.set_cons_succ] at h_2
  refine V_aload_n (Y := mX3_tied) (pc := 5) dX3_tied_5 rfl ?_
  refine V_iload_n (Y := mX3_tied) (pc := 6) dX3_tied_6 rfl ?_
  apply V_putiW (Y := mX3_tied) (pc := 7) dX3_tied_7 fl_X3_46
  · assumption
  · exact Nat.le_of_ble_eq_true rfl
  intro w_7 h_7 f_7
  simp only [List.set_cons_zero, List.set_cons_succ] at h_7
  refine V_aload_n (Y := mX3_tied) (pc := 10) dX3_tied_10 rfl ?_
  refine V_iload_n (Y := mX3_tied) (pc := 11) dX3_tied_11 rfl ?_
  apply V_putiW (Y := mX3_tied) (pc := 12) dX3_tied_12 fl_X3_49
  · assumption
  · exact Nat.le_of_ble_eq_true rfl
  intro w_12 h_12 f_12
  simp only [List.set_cons_zero, List.set_cons_succ] at h_12
  refine V_vret (Y := mX3_tied) (pc := 15) dX3_tied_15 rfl (Nat.le_of_ble_eq_true rfl) (Nat.le_of_ble_eq_true rfl) ?_
  exact pV_of ⟨((h.fld h_2 f_2).fld h_7 f_7).fld h_12 f_12, fun j hj => (f_12 j (by omega)).trans ((f_7 j (by omega)).trans (f_2 j (by omega)))⟩
/-- a cord tied is of drawers that there are -/
abbrev tdOK (n tf tt tb : Int) : Prop := (tf = -1 ∧ inR tt ∧ inR tb) ∨ (0 ≤ tf ∧ tf < n ∧ 0 ≤ tt ∧ tt < n ∧ -2 ≤ tb ∧ tb ≤ 2)
set_option maxRecDepth 100000 in
theorem c_step {nn : Nat} {w : vWd} {q : Nat} {lr dn sn n tf tt tb s d : Int} {st : List Int} {F : bF} (h : WalkAt w q lr dn sn tf tt tb st F) (hn : 0 ≤ n ∧ n ≤ 7) (ht : tbOK n st) (htd : tdOK n tf tt tb) (hs : isS n s) (hd : isD n d) : Ctr mX3_step (rm 2) [.ref q, vI s, vI d] nn w (pR (vI (stpF st tf tt tb s d)) nn w) := by
  refine Ctr_of (lv := [some (.ref q), some (vI s), some (vI d), none]) (by decide +kernel) rfl rfl ?_
  have ho := h.obj
  have hp := p3_le n.toNat (by omega)
  have hv := ht s d hs hd
  have hdef : rAt st (d * 2187 + s) = tbl st s d := rfl
  refine V_aload_n (Y := mX3_step) (pc := 0) dX3_step_0 rfl ?_
  apply V_get (Y := mX3_step) (pc := 1) dX3_step_1 fl_X3_14
  · assumption
  · rfl
  refine V_iload_n (Y := mX3_step) (pc := 4) dX3_step_4 rfl ?_
  refine V_sipush (Y := mX3_step) (pc := 5) dX3_step_5 ⟨by decide, by decide⟩ ?_
  refine V_imul (Y := mX3_step) (pc := 8) dX3_step_8 ?_
  refine V_iload_n (Y := mX3_step) (pc := 9) dX3_step_9 rfl ?_
  refine V_iadd (Y := mX3_step) (pc := 10) dX3_step_10 ?_
  apply V_vR (Y := mX3_step) (pc := 11) dX3_step_11 ok_X2_at ov_X2_at ln_X3_74 (c_Row_at (i := d * 2187 + s) h.r0 ⟨by omega, by omega⟩)
  · exact h.r0.obj
  · rfl
  · rfl
  · rfl
  · rfl
  · rfl
  rw [hdef]
  refine V_istore_n (Y := mX3_step) (pc := 14) dX3_step_14 rfl ?_
  refine V_iload_n (Y := mX3_step) (pc := 15) dX3_step_15 rfl ?_
  refine V_aload_n (Y := mX3_step) (pc := 16) dX3_step_16 rfl ?_
  apply V_get (Y := mX3_step) (pc := 17) dX3_step_17 fl_X3_43
  · assumption
  · rfl
  refine V_icmp_ne (tgt := 28) (Y := mX3_step) (pc := 20) dX3_step_20 (by decide) ⟨by omega, by omega⟩ ⟨by omega, by omega⟩ (fun h_20 => ?_) (fun h_20 => ?_)
  · refine V_iload_n (Y := mX3_step) (pc := 28) dX3_step_28 rfl ?_
    refine V_iret (Y := mX3_step) (pc := 29) dX3_step_29 rfl (Nat.le_of_ble_eq_true rfl) (Nat.le_of_ble_eq_true rfl) ?_
    refine pR_I ?_
    rw [stpF]
    first
      | rw [if_pos (Or.inl h_20)]
      | rw [if_pos (Or.inr h_25)]
  · refine V_iload_n (Y := mX3_step) (pc := 23) dX3_step_23 rfl ?_
    refine V_iload_n (Y := mX3_step) (pc := 24) dX3_step_24 rfl ?_
    refine V_icmp_ne (tgt := 30) (Y := mX3_step) (pc := 25) dX3_step_25 (by decide) ⟨by omega, by omega⟩ ⟨by omega, by omega⟩ (fun h_25 => ?_) (fun h_25 => ?_)
    · refine V_iload_n (Y := mX3_step) (pc := 30) dX3_step_30 rfl ?_
      refine V_aload_n (Y := mX3_step) (pc := 31) dX3_step_31 rfl ?_
      apply V_get (Y := mX3_step) (pc := 32) dX3_step_32 fl_X3_46
      · assumption
      · rfl
      refine V_aload_n (Y := mX3_step) (pc := 35) dX3_step_35 rfl ?_
      apply V_get (Y := mX3_step) (pc := 36) dX3_step_36 fl_X3_49
      · assumption
      · rfl
      refine V_moved (Y := mX3_step) (pc := 39) dX3_step_39 ln_X3_77 (by omega) ⟨by omega, by omega⟩ ⟨by omega, by omega⟩ ⟨by omega, by omega⟩ rfl ?_
      refine V_iret (Y := mX3_step) (pc := 42) dX3_step_42 rfl (Nat.le_of_ble_eq_true rfl) (Nat.le_of_ble_eq_true rfl) ?_
      refine pR_I ?_
      rw [stpF, if_neg]
      rintro (q1 | q1)
      · exact q1 h_20
      · exact h_25 q1
    · refine V_iload_n (Y := mX3_step) (pc := 28) dX3_step_28 rfl ?_
      refine V_iret (Y := mX3_step) (pc := 29) dX3_step_29 rfl (Nat.le_of_ble_eq_true rfl) (Nat.le_of_ble_eq_true rfl) ?_
      refine pR_I ?_
      rw [stpF]
      first
        | rw [if_pos (Or.inl h_20)]
        | rw [if_pos (Or.inr h_25)]
set_option maxRecDepth 100000 in
theorem c_begin {nn : Nat} {w : vWd} {q : Nat} {lr dn N tf tt tb : Int} {st : List Int} {F : bF} (h : WalkAt w q lr dn N tf tt tb st F) (hN : 0 ≤ N ∧ N ≤ 2187) : Ctr mX3_begin (rm 2) [.ref q] nn w (pV (fun w' => WalkAt w' q lr dn N tf tt tb st (List.replicate N.toNat (-1), F.2.1, F.2.2.1, []) ∧ frK q w w') nn) := by
  refine Ctr_of (lv := [some (.ref q)]) (by decide +kernel) rfl rfl ?_
  have ho := h.obj
  refine V_aload_n (Y := mX3_begin) (pc := 0) dX3_begin_0 rfl ?_
  apply V_get (Y := mX3_begin) (pc := 1) dX3_begin_1 fl_X3_20
  · assumption
  · rfl
  refine V_aload_n (Y := mX3_begin) (pc := 4) dX3_begin_4 rfl ?_
  apply V_get (Y := mX3_begin) (pc := 5) dX3_begin_5 fl_X3_40
  · assumption
  · rfl
  refine V_iconst (Y := mX3_begin) (pc := 8) dX3_begin_8 ?_
  apply V_vV (Y := mX3_begin) (pc := 9) dX3_begin_9 ok_X2_fill ov_X2_fill ln_X3_52 (c_Row_fill (v := -1) (mny := N) h.r1 ⟨by omega, by omega⟩)
  · exact h.r1.obj
  · rfl
  · rfl
  · rfl
  · rfl
  · rfl
  rintro w_9 ⟨g1, k1⟩
  rw [show (min N ((2187 : Nat) : Int)).toNat = N.toNat by omega] at g1
  have h9 := h.row (F' := (List.replicate N.toNat (-1), F.2.1, F.2.2.1, F.2.2.2)) 1 (by decide) rfl g1 (fun j hj hne => by rcases (show j = 0 ∨ j = 2 ∨ j = 3 ∨ j = 4 by omega) with rfl | rfl | rfl | rfl <;> rfl) k1
  have o9 := h9.obj
  refine V_aload_n (Y := mX3_begin) (pc := 12) dX3_begin_12 rfl ?_
  apply V_get (Y := mX3_begin) (pc := 13) dX3_begin_13 fl_X3_29
  · assumption
  · rfl
  apply V_vV (Y := mX3_begin) (pc := 16) dX3_begin_16 ok_X2_drop ov_X2_drop ln_X3_80 (c_Row_drop h9.r4)
  · exact h9.r4.obj
  · rfl
  · rfl
  · rfl
  · rfl
  · rfl
  rintro w_16 ⟨g2, k2⟩
  have h16 := h9.row (F' := (List.replicate N.toNat (-1), F.2.1, F.2.2.1, [])) 4 (by decide) rfl g2 (fun j hj hne => by rcases (show j = 0 ∨ j = 1 ∨ j = 2 ∨ j = 3 by omega) with rfl | rfl | rfl | rfl <;> rfl) k2
  refine V_vret (Y := mX3_begin) (pc := 19) dX3_begin_19 rfl (Nat.le_of_ble_eq_true rfl) (Nat.le_of_ble_eq_true rfl) ?_
  exact pV_of ⟨h16, (k1.K ⟨by omega, by omega⟩).trans (k2.K ⟨by omega, by omega⟩)⟩
set_option maxRecDepth 100000 in
theorem c_meet {nn : Nat} {w : vWd} {q : Nat} {lr dn N tf tt tb s f d : Int} {st : List Int} {F : bF} (h : WalkAt w q lr dn N tf tt tb st F) (hF : FOK N F) (hs : 0 ≤ s ∧ s < N) (hf : inR f) : Ctr mX3_meet (rm 1) [.ref q, vI s, vI f, vI d] nn w (pV (fun w' => WalkAt w' q lr dn N tf tt tb st (fMeet F s f d) ∧ frK q w w') nn) := by
  refine Ctr_of (lv := [some (.ref q), some (vI s), some (vI f), some (vI d)]) (by decide +kernel) rfl rfl ?_
  have ho := h.obj
  have hl := hF.len
  have hN := hF.2.1
  have hfs := hF.2.2.2.2.1 s
  have hff := hF.2.2.2.2.1 f
  refine V_aload_n (Y := mX3_meet) (pc := 0) dX3_meet_0 rfl ?_
  apply V_get (Y := mX3_meet) (pc := 1) dX3_meet_1 fl_X3_20
  · assumption
  · rfl
  refine V_iload_n (Y := mX3_meet) (pc := 4) dX3_meet_4 rfl ?_
  apply V_vR (Y := mX3_meet) (pc := 5) dX3_meet_5 ok_X2_at ov_X2_at ln_X3_74 (c_Row_at (i := s) h.r1 ⟨by omega, by omega⟩)
  · exact h.r1.obj
  · rfl
  · rfl
  · rfl
  · rfl
  · rfl
  refine V_iconst (Y := mX3_meet) (pc := 8) dX3_meet_8 ?_
  refine V_icmp_eq (tgt := 13) (Y := mX3_meet) (pc := 9) dX3_meet_9 (by decide) ⟨by omega, by omega⟩ ⟨by omega, by omega⟩ (fun h_9 => ?_) (fun h_9 => ?_)
  · refine V_aload_n (Y := mX3_meet) (pc := 13) dX3_meet_13 rfl ?_
    apply V_get (Y := mX3_meet) (pc := 14) dX3_meet_14 fl_X3_20
    · assumption
    · rfl
    refine V_iload_n (Y := mX3_meet) (pc := 17) dX3_meet_17 rfl ?_
    refine V_iload_n (Y := mX3_meet) (pc := 18) dX3_meet_18 rfl ?_
    refine V_iconst (Y := mX3_meet) (pc := 19) dX3_meet_19 ?_
    refine V_icmp_ne (tgt := 27) (Y := mX3_meet) (pc := 20) dX3_meet_20 (by decide) ⟨by omega, by omega⟩ ⟨by omega, by omega⟩ (fun h_20 => ?_) (fun h_20 => ?_)
    · refine V_aload_n (Y := mX3_meet) (pc := 27) dX3_meet_27 rfl ?_
      apply V_get (Y := mX3_meet) (pc := 28) dX3_meet_28 fl_X3_20
      · assumption
      · rfl
      refine V_iload_n (Y := mX3_meet) (pc := 31) dX3_meet_31 rfl ?_
      apply V_vR (Y := mX3_meet) (pc := 32) dX3_meet_32 ok_X2_at ov_X2_at ln_X3_74 (c_Row_at (i := f) h.r1 hf)
      · exact h.r1.obj
      · rfl
      · rfl
      · rfl
      · rfl
      · rfl
      refine V_iconst (Y := mX3_meet) (pc := 35) dX3_meet_35 ?_
      refine V_iadd (Y := mX3_meet) (pc := 36) dX3_meet_36 ?_
      first | rw [show (0 : Int) = (if f = -1 then 0 else rAt F.1 f + 1) from (if_pos h_20).symm] | rw [show rAt F.1 f + 1 = (if f = -1 then 0 else rAt F.1 f + 1) from (if_neg h_20).symm]
      apply V_vV (Y := mX3_meet) (pc := 37) dX3_meet_37 ok_X2_set ov_X2_set ln_X3_71 (c_Row_set (i := s) (v := if f = -1 then 0 else rAt F.1 f + 1) h.r1 ⟨by omega, by omega⟩)
      · exact h.r1.obj
      · rfl
      · rfl
      · rfl
      · rfl
      · rfl
      rintro w_37 ⟨g1, k1⟩
      have h37 := h.row (F' := (rSet F.1 s (if f = -1 then 0 else rAt F.1 f + 1), F.2.1, F.2.2.1, F.2.2.2)) 1 (by decide) rfl g1 (fun j hj hne => by rcases (show j = 0 ∨ j = 2 ∨ j = 3 ∨ j = 4 by omega) with rfl | rfl | rfl | rfl <;> rfl) k1
      have o37 := h37.obj
      refine V_aload_n (Y := mX3_meet) (pc := 40) dX3_meet_40 rfl ?_
      apply V_get (Y := mX3_meet) (pc := 41) dX3_meet_41 fl_X3_23
      · assumption
      · rfl
      refine V_iload_n (Y := mX3_meet) (pc := 44) dX3_meet_44 rfl ?_
      refine V_iload_n (Y := mX3_meet) (pc := 45) dX3_meet_45 rfl ?_
      apply V_vV (Y := mX3_meet) (pc := 46) dX3_meet_46 ok_X2_set ov_X2_set ln_X3_71 (c_Row_set (i := s) (v := f) h37.r2 ⟨by omega, by omega⟩)
      · exact h37.r2.obj
      · rfl
      · rfl
      · rfl
      · rfl
      · rfl
      rintro w_46 ⟨g2, k2⟩
      have h46 := h37.row (F' := (rSet F.1 s (if f = -1 then 0 else rAt F.1 f + 1), rSet F.2.1 s f, F.2.2.1, F.2.2.2)) 2 (by decide) rfl g2 (fun j hj hne => by rcases (show j = 0 ∨ j = 1 ∨ j = 3 ∨ j = 4 by omega) with rfl | rfl | rfl | rfl <;> rfl) k2
      have o46 := h46.obj
      refine V_aload_n (Y := mX3_meet) (pc := 49) dX3_meet_49 rfl ?_
      apply V_get (Y := mX3_meet) (pc := 50) dX3_meet_50 fl_X3_26
      · assumption
      · rfl
      refine V_iload_n (Y := mX3_meet) (pc := 53) dX3_meet_53 rfl ?_
      refine V_iload_n (Y := mX3_meet) (pc := 54) dX3_meet_54 rfl ?_
      apply V_vV (Y := mX3_meet) (pc := 55) dX3_meet_55 ok_X2_set ov_X2_set ln_X3_71 (c_Row_set (i := s) (v := d) h46.r3 ⟨by omega, by omega⟩)
      · exact h46.r3.obj
      · rfl
      · rfl
      · rfl
      · rfl
      · rfl
      rintro w_55 ⟨g3, k3⟩
      have h55 := h46.row (F' := (rSet F.1 s (if f = -1 then 0 else rAt F.1 f + 1), rSet F.2.1 s f, rSet F.2.2.1 s d, F.2.2.2)) 3 (by decide) rfl g3 (fun j hj hne => by rcases (show j = 0 ∨ j = 1 ∨ j = 2 ∨ j = 4 by omega) with rfl | rfl | rfl | rfl <;> rfl) k3
      have o55 := h55.obj
      refine V_aload_n (Y := mX3_meet) (pc := 58) dX3_meet_58 rfl ?_
      apply V_get (Y := mX3_meet) (pc := 59) dX3_meet_59 fl_X3_29
      · assumption
      · rfl
      refine V_iload_n (Y := mX3_meet) (pc := 62) dX3_meet_62 rfl ?_
      apply V_vV (Y := mX3_meet) (pc := 63) dX3_meet_63 ok_X2_add ov_X2_add ln_X3_102 (c_Row_add (v := s) h55.r4)
      · exact h55.r4.obj
      · rfl
      · rfl
      · rfl
      · rfl
      · rfl
      rintro w_63 ⟨g4, k4⟩
      have h63 := h55.row (F' := (rSet F.1 s (if f = -1 then 0 else rAt F.1 f + 1), rSet F.2.1 s f, rSet F.2.2.1 s d, rAdd 2187 F.2.2.2 s)) 4 (by decide) rfl g4 (fun j hj hne => by rcases (show j = 0 ∨ j = 1 ∨ j = 2 ∨ j = 3 by omega) with rfl | rfl | rfl | rfl <;> rfl) k4
      refine V_vret (Y := mX3_meet) (pc := 66) dX3_meet_66 rfl (Nat.le_of_ble_eq_true rfl) (Nat.le_of_ble_eq_true rfl) ?_
      rw [fMeet_new h_9]
      exact pV_of ⟨h63, ((k1.K ⟨by omega, by omega⟩).trans (k2.K ⟨by omega, by omega⟩)).trans ((k3.K ⟨by omega, by omega⟩).trans (k4.K ⟨by omega, by omega⟩))⟩
    · refine V_iconst (Y := mX3_meet) (pc := 23) dX3_meet_23 ?_
      refine V_goto (tgt := 37) (Y := mX3_meet) (pc := 24) dX3_meet_24 (by decide) ?_
      first | rw [show (0 : Int) = (if f = -1 then 0 else rAt F.1 f + 1) from (if_pos h_20).symm] | rw [show rAt F.1 f + 1 = (if f = -1 then 0 else rAt F.1 f + 1) from (if_neg h_20).symm]
      apply V_vV (Y := mX3_meet) (pc := 37) dX3_meet_37 ok_X2_set ov_X2_set ln_X3_71 (c_Row_set (i := s) (v := if f = -1 then 0 else rAt F.1 f + 1) h.r1 ⟨by omega, by omega⟩)
      · exact h.r1.obj
      · rfl
      · rfl
      · rfl
      · rfl
      · rfl
      rintro w_37 ⟨g1, k1⟩
      have h37 := h.row (F' := (rSet F.1 s (if f = -1 then 0 else rAt F.1 f + 1), F.2.1, F.2.2.1, F.2.2.2)) 1 (by decide) rfl g1 (fun j hj hne => by rcases (show j = 0 ∨ j = 2 ∨ j = 3 ∨ j = 4 by omega) with rfl | rfl | rfl | rfl <;> rfl) k1
      have o37 := h37.obj
      refine V_aload_n (Y := mX3_meet) (pc := 40) dX3_meet_40 rfl ?_
      apply V_get (Y := mX3_meet) (pc := 41) dX3_meet_41 fl_X3_23
      · assumption
      · rfl
      refine V_iload_n (Y := mX3_meet) (pc := 44) dX3_meet_44 rfl ?_
      refine V_iload_n (Y := mX3_meet) (pc := 45) dX3_meet_45 rfl ?_
      apply V_vV (Y := mX3_meet) (pc := 46) dX3_meet_46 ok_X2_set ov_X2_set ln_X3_71 (c_Row_set (i := s) (v := f) h37.r2 ⟨by omega, by omega⟩)
      · exact h37.r2.obj
      · rfl
      · rfl
      · rfl
      · rfl
      · rfl
      rintro w_46 ⟨g2, k2⟩
      have h46 := h37.row (F' := (rSet F.1 s (if f = -1 then 0 else rAt F.1 f + 1), rSet F.2.1 s f, F.2.2.1, F.2.2.2)) 2 (by decide) rfl g2 (fun j hj hne => by rcases (show j = 0 ∨ j = 1 ∨ j = 3 ∨ j = 4 by omega) with rfl | rfl | rfl | rfl <;> rfl) k2
      have o46 := h46.obj
      refine V_aload_n (Y := mX3_meet) (pc := 49) dX3_meet_49 rfl ?_
      apply V_get (Y := mX3_meet) (pc := 50) dX3_meet_50 fl_X3_26
      · assumption
      · rfl
      refine V_iload_n (Y := mX3_meet) (pc := 53) dX3_meet_53 rfl ?_
      refine V_iload_n (Y := mX3_meet) (pc := 54) dX3_meet_54 rfl ?_
      apply V_vV (Y := mX3_meet) (pc := 55) dX3_meet_55 ok_X2_set ov_X2_set ln_X3_71 (c_Row_set (i := s) (v := d) h46.r3 ⟨by omega, by omega⟩)
      · exact h46.r3.obj
      · rfl
      · rfl
      · rfl
      · rfl
      · rfl
      rintro w_55 ⟨g3, k3⟩
      have h55 := h46.row (F' := (rSet F.1 s (if f = -1 then 0 else rAt F.1 f + 1), rSet F.2.1 s f, rSet F.2.2.1 s d, F.2.2.2)) 3 (by decide) rfl g3 (fun j hj hne => by rcases (show j = 0 ∨ j = 1 ∨ j = 2 ∨ j = 4 by omega) with rfl | rfl | rfl | rfl <;> rfl) k3
      have o55 := h55.obj
      refine V_aload_n (Y := mX3_meet) (pc := 58) dX3_meet_58 rfl ?_
      apply V_get (Y := mX3_meet) (pc := 59) dX3_meet_59 fl_X3_29
      · assumption
      · rfl
      refine V_iload_n (Y := mX3_meet) (pc := 62) dX3_meet_62 rfl ?_
      apply V_vV (Y := mX3_meet) (pc := 63) dX3_meet_63 ok_X2_add ov_X2_add ln_X3_102 (c_Row_add (v := s) h55.r4)
      · exact h55.r4.obj
      · rfl
      · rfl
      · rfl
      · rfl
      · rfl
      rintro w_63 ⟨g4, k4⟩
      have h63 := h55.row (F' := (rSet F.1 s (if f = -1 then 0 else rAt F.1 f + 1), rSet F.2.1 s f, rSet F.2.2.1 s d, rAdd 2187 F.2.2.2 s)) 4 (by decide) rfl g4 (fun j hj hne => by rcases (show j = 0 ∨ j = 1 ∨ j = 2 ∨ j = 3 by omega) with rfl | rfl | rfl | rfl <;> rfl) k4
      refine V_vret (Y := mX3_meet) (pc := 66) dX3_meet_66 rfl (Nat.le_of_ble_eq_true rfl) (Nat.le_of_ble_eq_true rfl) ?_
      rw [fMeet_new h_9]
      exact pV_of ⟨h63, ((k1.K ⟨by omega, by omega⟩).trans (k2.K ⟨by omega, by omega⟩)).trans ((k3.K ⟨by omega, by omega⟩).trans (k4.K ⟨by omega, by omega⟩))⟩
  · refine V_vret (Y := mX3_meet) (pc := 12) dX3_meet_12 rfl (Nat.le_of_ble_eq_true rfl) (Nat.le_of_ble_eq_true rfl) ?_
    rw [fMeet_old h_9]
    exact pV_of ⟨h, frK.refl q w⟩
/-- the drawers' numbers and the states' that a walk has learned -/
def spOK (n N : Int) (sp : Int → Int → Int) : Prop := ∀ s d : Int, 0 ≤ s ∧ s < N → isD n d → 0 ≤ sp s d ∧ sp s d < N
theorem stpF_ok {n : Int} {st : List Int} {tf tt tb : Int} (hn : 0 ≤ n) (ht : tbOK n st) (htd : tdOK n tf tt tb) : spOK n (p3 n.toNat) (stpF st tf tt tb) := fun s d hs hd => stpF_rng ht hn (by omega) hs hd
set_option maxRecDepth 100000 in
theorem lp_grow {nn : Nat} {w : vWd} {q : Nat} {lr n tf tt tb s : Int} {st : List Int} {F : bF} (hn : 0 ≤ n ∧ n ≤ 7) (ht : tbOK n st) (htd : tdOK n tf tt tb) (hF : FOK (p3 n.toNat) F) (hs : isS n s) (hm : s ∈ F.2.2.2) : ∀ (m : Nat) (i : Int) (w' : vWd), 0 ≤ i → i ≤ n → (n - i).toNat < m → frK q w w' → WalkAt w' q lr n (p3 n.toNat) tf tt tb st (fGrowTo (stpF st tf tt tb) F s i.toNat) →
    V mX3_grow (rm 3) (pV (fun w' => WalkAt w' q lr n (p3 n.toNat) tf tt tb st (fGrowTo (stpF st tf tt tb) F s n.toNat) ∧ frK q w w') nn) 2 [some (.ref q), some (vI s), some (vI i)] [] nn w' 0 0 := by
  intro m
  induction m with
  | zero => intro i w' h1 h2 h3; omega
  | succ m ih =>
    intro i w' hi hi2 hm2 hfr h
    have ho := h.obj
    have hp := p3_le n.toNat (by omega)
    have hg := fGrowTo_ok hF (sp := stpF st tf tt tb) (fun d h1 h2 => stpF_ok hn.1 ht htd s d hs ⟨h1, h2⟩) hm i.toNat (by omega)
    refine V_iload_n (Y := mX3_grow) (pc := 2) dX3_grow_2 rfl ?_
    refine V_aload_n (Y := mX3_grow) (pc := 3) dX3_grow_3 rfl ?_
    apply V_get (Y := mX3_grow) (pc := 4) dX3_grow_4 fl_X3_36
    · assumption
    · rfl
    refine V_icmp_ge (tgt := 28) (Y := mX3_grow) (pc := 7) dX3_grow_7 (by decide) ⟨by omega, by omega⟩ ⟨by omega, by omega⟩ (fun h_7 => ?_) (fun h_7 => ?_)
    · refine V_vret (Y := mX3_grow) (pc := 28) dX3_grow_28 rfl (Nat.le_of_ble_eq_true rfl) (Nat.le_of_ble_eq_true rfl) ?_
      rw [show i = n by omega] at h
      exact pV_of ⟨h, hfr⟩
    · refine V_aload_n (Y := mX3_grow) (pc := 10) dX3_grow_10 rfl ?_
      refine V_aload_n (Y := mX3_grow) (pc := 11) dX3_grow_11 rfl ?_
      refine V_iload_n (Y := mX3_grow) (pc := 12) dX3_grow_12 rfl ?_
      refine V_iload_n (Y := mX3_grow) (pc := 13) dX3_grow_13 rfl ?_
      apply V_vR (Y := mX3_grow) (pc := 14) dX3_grow_14 ok_X3_step ov_X3_step ln_X3_98 (c_step (s := s) (d := i) h hn ht htd hs ⟨by omega, by omega⟩)
      · assumption
      · rfl
      · rfl
      · rfl
      · rfl
      · rfl
      refine V_iload_n (Y := mX3_grow) (pc := 17) dX3_grow_17 rfl ?_
      refine V_iload_n (Y := mX3_grow) (pc := 18) dX3_grow_18 rfl ?_
      apply V_vV (Y := mX3_grow) (pc := 19) dX3_grow_19 ok_X3_meet ov_X3_meet ln_X3_87 (c_meet (s := stpF st tf tt tb s i) (f := s) (d := i) h hg.1 (stpF_ok hn.1 ht htd s i hs ⟨by omega, by omega⟩) ⟨by omega, by omega⟩)
      · assumption
      · rfl
      · rfl
      · rfl
      · rfl
      · rfl
      rintro w_19 ⟨g1, k1⟩
      refine V_iinc (Y := mX3_grow) (pc := 22) dX3_grow_22 rfl rfl ?_
      refine V_goto (tgt := 2) (Y := mX3_grow) (pc := 25) dX3_grow_25 (by decide) ?_
      refine ih (i + 1) w_19 (by omega) (by omega) (by omega) (hfr.trans k1) ?_
      rw [show (i + 1).toNat = i.toNat + 1 by omega, fGrowTo, show ((i.toNat : Nat) : Int) = i by omega]
      exact g1
set_option maxRecDepth 100000 in
theorem c_grow {nn : Nat} {w : vWd} {q : Nat} {lr n tf tt tb s : Int} {st : List Int} {F : bF} (h : WalkAt w q lr n (p3 n.toNat) tf tt tb st F) (hn : 0 ≤ n ∧ n ≤ 7) (ht : tbOK n st) (htd : tdOK n tf tt tb) (hF : FOK (p3 n.toNat) F) (hs : isS n s) (hm : s ∈ F.2.2.2) : Ctr mX3_grow (rm 3) [.ref q, vI s] nn w (pV (fun w' => WalkAt w' q lr n (p3 n.toNat) tf tt tb st (fGrowTo (stpF st tf tt tb) F s n.toNat) ∧ frK q w w') nn) := by
  refine Ctr_of (lv := [some (.ref q), some (vI s), none]) (by decide +kernel) rfl rfl ?_
  refine V_iconst (Y := mX3_grow) (pc := 0) dX3_grow_0 ?_
  refine V_istore_n (Y := mX3_grow) (pc := 1) dX3_grow_1 rfl ?_
  exact lp_grow hn ht htd hF hs hm (n.toNat + 1) 0 w (by omega) (by omega) (by omega) (frK.refl q w) h
