/-! ===== the law: both objects, side by side ===== -/
theorem MInv.keepX {w w' : vWd} {S S0 S1 : vSt} {k0 k1 rb rn rf : Int} {tx : List Int} (h : MInv w S S0 S1 k0 k1 tx rb rn rf) (hf : frX w w') : MInv w' S S0 S1 k0 k1 tx rb rn rf := by
  obtain ⟨⟨⟨ty, a0, sp, tk, vl, mn, fd, sv, ho⟩, ⟨f, hb, hB⟩, hr, hq⟩, hO, hT, hI, hS⟩ := h
  exact ⟨⟨⟨ty, a0, sp, tk, vl, mn, fd, sv, (hf 99 (by omega)).trans ho⟩, ⟨f, (hf 100 (by omega)).trans hb, hB⟩, hr.keep (hf 104 (by omega)), hq⟩, hO.keep (hf 99 (by omega)), hT.keep (hf 105 (by omega)), hI.keep (hf 101 (by omega)) (hf 102 (by omega)), hS.keep (fun j hj => hf j (by omega))⟩
theorem XInv.keepM {w w' : vWd} {S S0 S1 : vSt} {k0 k1 rb rn rf : Int} {tx : List Int} (h : XInv w S S0 S1 k0 k1 tx rb rn rf) (hf : frM w w') : XInv w' S S0 S1 k0 k1 tx rb rn rf :=
  ⟨(hf 0 (by omega)).trans h.1, h.2.1.keep (fun j a b => hf j (by omega)), h.2.2.1.keep (fun j a b => hf j (by omega)), h.2.2.2.keep (fun j a b => hf j (by omega)) (fun j a b => hf j (by omega))⟩
def LI (w : vWd) : Prop := ∃ (n now : Int) (ca po fo : Nat) (rs : Nat → List Int) (S0 S1 : vSt) (k0 k1 rb rn rf : Int) (tx : List Int), XInv w (n, now, ca, po, fo, rs) S0 S1 k0 k1 tx rb rn rf ∧ MInv w (n, now, ca, po, fo, rs) S0 S1 k0 k1 tx rb rn rf ∧ vGood (n, now, ca, po, fo, rs) ∧ vGood S0 ∧ vGood S1 ∧ byOK tx
theorem LI.mk {w : vWd} {S S0 S1 : vSt} {k0 k1 rb rn rf : Int} {tx : List Int} (h1 : XInv w S S0 S1 k0 k1 tx rb rn rf) (h2 : MInv w S S0 S1 k0 k1 tx rb rn rf) (h3 : vGood S) (h4 : vGood S0) (h5 : vGood S1) (h6 : byOK tx) : LI w := by
  obtain ⟨n, now, ca, po, fo, rs⟩ := S
  exact ⟨n, now, ca, po, fo, rs, S0, S1, k0, k1, rb, rn, rf, tx, h1, h2, h3, h4, h5, h6⟩
theorem and_rng (x y : Int32) (m : Nat) (hm : y.toBitVec.toNat = m) (hm2 : m < 2147483648) : 0 ≤ (x &&& y).toInt ∧ (x &&& y).toInt ≤ m := by
  have h1 : (x &&& y).toInt = (x.toBitVec &&& y.toBitVec).toInt := rfl
  have h2 : (x.toBitVec &&& y.toBitVec).toNat ≤ m := by rw [BitVec.toNat_and, hm]; exact Nat.and_le_right
  have h3 := BitVec.toInt_eq_toNat_of_lt (x := x.toBitVec &&& y.toBitVec) (by omega)
  rw [h1, h3]
  omega
theorem and31 (x : Int32) : ∃ t : Int, x &&& iI 31 = iI t ∧ 0 ≤ t ∧ t ≤ 31 :=
  ⟨(x &&& iI 31).toInt, (iI_back _).symm, and_rng x (iI 31) 31 (by decide) (by omega)⟩
theorem byOK_app {l l2 : List Int} (h : byOK l) (h2 : ∀ x ∈ l2, 0 ≤ x ∧ x ≤ 255) : byOK (l ++ l2) := by
  intro j
  unfold rAt
  split
  · rw [List.getD_eq_getElem?_getD]
    by_cases hj : j.toNat < l.length
    · have := h j
      unfold rAt at this
      rw [if_pos (by assumption), List.getD_eq_getElem?_getD] at this
      rw [List.getElem?_append_left hj]
      exact this
    · rw [List.getElem?_append_right (by omega)]
      cases hq : l2[j.toNat - l.length]? with
      | none => exact ⟨by decide, by decide⟩
      | some x => exact h2 x (List.mem_of_getElem? hq)
  · omega
theorem tyB_rng (v : Int64) : ∀ m : Nat, ∀ x ∈ tyB v m, 0 ≤ x ∧ x ≤ 255
  | 0, x, hx => by cases hx
  | m + 1, x, hx => by
    rcases List.mem_cons.mp hx with rfl | hx
    · exact and_rng _ (iI 255) 255 (by decide) (by omega)
    · exact tyB_rng v m x hx
theorem fType_by {tx : List Int} (h : byOK tx) (v : Int64) (k : Int) : byOK (fType tx v k).2 := by
  unfold fType
  split
  · exact h
  · split
    · exact h
    · exact byOK_app h (tyB_rng v _)
theorem byOK_nil : byOK [] := fun j => by
  have e : rAt [] j = 0 := by unfold rAt; split <;> simp
  rw [e]; omega
theorem fImage_good {S S0 S1 : vSt} (h : vGood S) (h0 : vGood S0) (h1 : vGood S1) (k0 k1 i : Int) : vGood (fImage S S0 S1 k0 k1 i).2.1 ∧ vGood (fImage S S0 S1 k0 k1 i).2.2.1 := by
  unfold fImage
  split
  · exact ⟨h0, h1⟩
  · split
    · exact ⟨h, h1⟩
    · exact ⟨h0, h⟩
theorem fFrom_good {S S0 S1 : vSt} (h : vGood S) (h0 : vGood S0) (h1 : vGood S1) (k0 k1 i : Int) : vGood (fFrom S S0 S1 k0 k1 i).2 := by
  unfold fFrom
  split
  · exact h
  · split
    · split
      · exact h
      · exact h0
    · split
      · exact h
      · exact h1
theorem fRead_good {S : vSt} (h : vGood S) (tx : List Int) : vGood (fRead S tx).2 := by
  unfold fRead
  split
  · exact h
  · split
    · exact h
    · exact fTells_good _ _ _ _ vGood_S5
/-- status: its own count -/
theorem MInv.liftS {Y : vMeth} {R : Room} {av : List Value} {nn : Nat} {w : vWd} {S S' S0 S1 : vSt} {k0 k1 rb rn rf rb' rn' rf' z0 : Int} {tx : List Int} (h : MInv w S S0 S1 k0 k1 tx rb rn rf) (hC : Ctr Y R av nn w (pI (fun z w' => z = z0 ∧ MK w' 0 S' rb' rn' rf' ∧ _root_.Jvm.Pilot.CDrawerWallLaw_law_r3136_00b3da.frB w w') nn)) :
    Ctr Y R av nn w (pI (fun z w' => z = z0 ∧ MInv w' S' S0 S1 k0 k1 tx rb' rn' rf' ∧ frM w w') nn) := by
  refine hC.mono ?_
  rintro r n' w' ⟨z, rfl, rfl, hz, hK, hf⟩
  have q := h.frB hK hf
  exact ⟨z, rfl, rfl, hz, q.1, q.2⟩
