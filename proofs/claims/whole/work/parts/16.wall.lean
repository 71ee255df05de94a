/-! ===== DrawerWall$Wall: what is told of a wall ===== -/
/-- drawers, now, catches, poison, food; rows: 0 goods, 1 from, 2 to, 3 kind, 4 by, 5 orders, 6 sights' drawers, 7 sights' states, 8 past -/
abbrev vSt : Type := Int × Int × Nat × Nat × Nat × (Nat → List Int)
def wlCap : Nat → Nat
  | 0 => 7
  | 1 => 10
  | 2 => 10
  | 3 => 10
  | 4 => 10
  | 5 => 6
  | 6 => 8
  | 7 => 8
  | _ => 20
abbrev wlO (p : Nat) (n now : Int) (ca po fo : Nat) : va_E := .inr (4, [vI n, vI now, vI (ca : Int), vI (po : Int), vI (fo : Int), .ref (p + 1), .ref (p + 3), .ref (p + 5), .ref (p + 7), .ref (p + 9), .ref (p + 11), .ref (p + 13), .ref (p + 15), .ref (p + 17)])
def WallAt (w : vWd) (p : Nat) (S : vSt) : Prop := w p = some (wlO p S.1 S.2.1 S.2.2.1 S.2.2.2.1 S.2.2.2.2.1) ∧ ∀ i, i < 9 → RowAt w (p + 1 + 2 * i) (wlCap i) (S.2.2.2.2.2 i)
def frW (p : Nat) (w w' : vWd) : Prop := ∀ j, (j < p ∨ p + 19 ≤ j) → w' j = w j
theorem frW.refl (p : Nat) (w : vWd) : frW p w w := fun _ _ => rfl
theorem frW.trans {p : Nat} {w w' w2 : vWd} (h : frW p w w') (h2 : frW p w' w2) : frW p w w2 := fun j a => (h2 j a).trans (h j a)
theorem fr2.W {p q : Nat} {w w' : vWd} (h : fr2 q w w') (h1 : p ≤ q ∧ q + 1 < p + 19) : frW p w w' := fun j a => h j (by omega) (by omega)
section WALL
variable {w w' : vWd} {p : Nat} {n now : Int} {ca po fo : Nat} {rs : Nat → List Int}
theorem WallAt.r0 (h : WallAt w p (n, now, ca, po, fo, rs)) : RowAt w (p + 1) 7 (rs 0) := h.2 0 (by decide)
theorem WallAt.r1 (h : WallAt w p (n, now, ca, po, fo, rs)) : RowAt w (p + 3) 10 (rs 1) := h.2 1 (by decide)
theorem WallAt.r2 (h : WallAt w p (n, now, ca, po, fo, rs)) : RowAt w (p + 5) 10 (rs 2) := h.2 2 (by decide)
theorem WallAt.r3 (h : WallAt w p (n, now, ca, po, fo, rs)) : RowAt w (p + 7) 10 (rs 3) := h.2 3 (by decide)
theorem WallAt.r4 (h : WallAt w p (n, now, ca, po, fo, rs)) : RowAt w (p + 9) 10 (rs 4) := h.2 4 (by decide)
theorem WallAt.r5 (h : WallAt w p (n, now, ca, po, fo, rs)) : RowAt w (p + 11) 6 (rs 5) := h.2 5 (by decide)
theorem WallAt.r6 (h : WallAt w p (n, now, ca, po, fo, rs)) : RowAt w (p + 13) 8 (rs 6) := h.2 6 (by decide)
theorem WallAt.r7 (h : WallAt w p (n, now, ca, po, fo, rs)) : RowAt w (p + 15) 8 (rs 7) := h.2 7 (by decide)
theorem WallAt.r8 (h : WallAt w p (n, now, ca, po, fo, rs)) : RowAt w (p + 17) 20 (rs 8) := h.2 8 (by decide)
theorem WallAt.obj (h : WallAt w p (n, now, ca, po, fo, rs)) : w p = some (wlO p n now ca po fo) := h.1
theorem WallAt.upd (h : WallAt w p (n, now, ca, po, fo, rs)) {q : Nat} (i : Nat) {l' : List Int} (hi : i < 9) (hq : q = p + 1 + 2 * i) (hr : RowAt w' q (wlCap i) l') (hf : fr2 q w w') : WallAt w' p (n, now, ca, po, fo, va_up rs i l') := by
  refine ⟨(hf p (by omega) (by omega)).trans h.1, fun j hj => ?_⟩
  by_cases hji : j = i
  · subst hji
    show RowAt w' _ _ (va_up rs j l' j)
    rw [va_up_self, ← hq]; exact hr
  · show RowAt w' _ _ (va_up rs i l' j)
    rw [va_up_ne _ _ hji]
    exact (h.2 j hj).fr hf ⟨by omega, by omega, by omega⟩
theorem WallAt.fld (h : WallAt w p (n, now, ca, po, fo, rs)) {n' now' : Int} {ca' po' fo' : Nat} (ho : w' p = some (wlO p n' now' ca' po' fo')) (hf : ∀ j, j ≠ p → w' j = w j) : WallAt w' p (n', now', ca', po', fo', rs) :=
  ⟨ho, fun j hj => (h.2 j hj).keep (hf _ (by omega)) (hf _ (by omega))⟩
theorem WallAt.congr {S : vSt} {rs' : Nat → List Int} (h : WallAt w p (n, now, ca, po, fo, rs)) (he : ∀ i, i < 9 → rs i = rs' i) : WallAt w p (n, now, ca, po, fo, rs') :=
  ⟨h.1, fun j hj => by show RowAt _ _ _ (rs' j); rw [← he j hj]; exact h.2 j hj⟩
theorem WallAt.frame {S : vSt} {q : Nat} (h : WallAt w p S) (hf : frW q w w') (hq : p + 19 ≤ q ∨ q + 19 ≤ p) : WallAt w' p S :=
  ⟨(hf p (by omega)).trans h.1, fun j hj => (h.2 j hj).keep (hf _ (by omega)) (hf _ (by omega))⟩
theorem WallAt.keep {S : vSt} (h : WallAt w p S) (hf : ∀ j, p ≤ j → j < p + 19 → w' j = w j) : WallAt w' p S :=
  ⟨(hf p (by omega) (by omega)).trans h.1, fun j hj => (h.2 j hj).keep (hf _ (by omega) (by omega)) (hf _ (by omega) (by omega))⟩
end WALL
def iota (k : Nat) : List Int := (List.range k).map (fun j : Nat => (j : Int))
theorem iota_len (k : Nat) : (iota k).length = k := by simp [iota]
theorem iota_succ (k : Nat) : iota (k + 1) = iota k ++ [(k : Int)] := by simp [iota, List.range_succ]
def p2 (k : Nat) : Nat := 2 ^ k
theorem p2_le : ∀ k, k ≤ 7 → p2 k ≤ 128 := by decide
theorem p2_pos (k : Nat) : 1 ≤ p2 k := Nat.two_pow_pos k
theorem iI_shl2 {d : Int} (h0 : 0 ≤ d) (h : d < 31) : iI 1 <<< (iI d &&& 31) = iI ((p2 d.toNat : Nat) : Int) := iI_shl1 h0 h
def rsNew (k : Nat) : Nat → List Int := fun i => if i = 0 then iota k else []
abbrev isD (n d : Int) : Prop := 0 ≤ d ∧ d < n
abbrev isS (n s : Int) : Prop := 0 ≤ s ∧ s < p3 n.toNat
def fWall (S : vSt) (k : Int) : Int × vSt := if k < 2 ∨ 7 < k then (-2, S) else (S.1, (k, 0, 0, 0, 0, rsNew k.toNat))
set_option maxRecDepth 100000 in
theorem lp_tellDrawers {nn : Nat} {w : vWd} {p : Nat} {n k : Int} {rs : Nat → List Int} (hk : 2 ≤ k ∧ k ≤ 7) : ∀ (m : Nat) (i : Int) (w' : vWd), 0 ≤ i → i ≤ k → (k - i).toNat < m → frW p w w' → WallAt w' p (k, 0, 0, 0, 0, va_up rs 0 (iota i.toNat)) →
    V mX4_tellDrawers (rm 1) (pI (fun z w' => z = n ∧ WallAt w' p (k, 0, 0, 0, 0, rsNew k.toNat) ∧ frW p w w') nn) 53 [some (.ref p), some (vI k), some (vI n), some (vI i)] [] nn w' 0 0 := by
  intro m
  induction m with
  | zero => intro i w' h1 h2 h3; omega
  | succ m ih =>
    intro i w' hi hi2 hm hfr h
    have ho := h.obj
    have e0 : (va_up rs 0 (iota i.toNat)) 0 = iota i.toNat := va_up_self _ _ _
    refine V_iload_n (Y := mX4_tellDrawers) (pc := 53) dX4_tellDrawers_53 rfl ?_
    refine V_iload_n (Y := mX4_tellDrawers) (pc := 54) dX4_tellDrawers_54 rfl ?_
    refine V_icmp_ge (tgt := 72) (Y := mX4_tellDrawers) (pc := 55) dX4_tellDrawers_55 (by decide) ⟨by omega, by omega⟩ ⟨by omega, by omega⟩ (fun h_55 => ?_) (fun h_55 => ?_)
    · refine V_aload_n (Y := mX4_tellDrawers) (pc := 72) dX4_tellDrawers_72 rfl ?_
      apply V_get (Y := mX4_tellDrawers) (pc := 73) dX4_tellDrawers_73 fl_X4_36
      · assumption
      · rfl
      apply V_vV (Y := mX4_tellDrawers) (pc := 76) dX4_tellDrawers_76 ok_X2_drop ov_X2_drop ln_X4_64 (c_Row_drop h.r1)
      · exact h.r1.obj
      · rfl
      · rfl
      · rfl
      · rfl
      · rfl
      rintro w_76 ⟨g1, g2⟩
      have h76 := h.upd 1 (by decide) rfl g1 g2
      have f76 := hfr.trans (g2.W (p := p) ⟨by omega, by omega⟩)
      have o76 := h76.obj
      refine V_aload_n (Y := mX4_tellDrawers) (pc := 79) dX4_tellDrawers_79 rfl ?_
      apply V_get (Y := mX4_tellDrawers) (pc := 80) dX4_tellDrawers_80 fl_X4_39
      · assumption
      · rfl
      apply V_vV (Y := mX4_tellDrawers) (pc := 83) dX4_tellDrawers_83 ok_X2_drop ov_X2_drop ln_X4_64 (c_Row_drop h76.r2)
      · exact h76.r2.obj
      · rfl
      · rfl
      · rfl
      · rfl
      · rfl
      rintro w_83 ⟨g1, g2⟩
      have h83 := h76.upd 2 (by decide) rfl g1 g2
      have f83 := f76.trans (g2.W (p := p) ⟨by omega, by omega⟩)
      have o83 := h83.obj
      refine V_aload_n (Y := mX4_tellDrawers) (pc := 86) dX4_tellDrawers_86 rfl ?_
      apply V_get (Y := mX4_tellDrawers) (pc := 87) dX4_tellDrawers_87 fl_X4_42
      · assumption
      · rfl
      apply V_vV (Y := mX4_tellDrawers) (pc := 90) dX4_tellDrawers_90 ok_X2_drop ov_X2_drop ln_X4_64 (c_Row_drop h83.r3)
      · exact h83.r3.obj
      · rfl
      · rfl
      · rfl
      · rfl
      · rfl
      rintro w_90 ⟨g1, g2⟩
      have h90 := h83.upd 3 (by decide) rfl g1 g2
      have f90 := f83.trans (g2.W (p := p) ⟨by omega, by omega⟩)
      have o90 := h90.obj
      refine V_aload_n (Y := mX4_tellDrawers) (pc := 93) dX4_tellDrawers_93 rfl ?_
      apply V_get (Y := mX4_tellDrawers) (pc := 94) dX4_tellDrawers_94 fl_X4_45
      · assumption
      · rfl
      apply V_vV (Y := mX4_tellDrawers) (pc := 97) dX4_tellDrawers_97 ok_X2_drop ov_X2_drop ln_X4_64 (c_Row_drop h90.r4)
      · exact h90.r4.obj
      · rfl
      · rfl
      · rfl
      · rfl
      · rfl
      rintro w_97 ⟨g1, g2⟩
      have h97 := h90.upd 4 (by decide) rfl g1 g2
      have f97 := f90.trans (g2.W (p := p) ⟨by omega, by omega⟩)
      have o97 := h97.obj
      refine V_aload_n (Y := mX4_tellDrawers) (pc := 100) dX4_tellDrawers_100 rfl ?_
      apply V_get (Y := mX4_tellDrawers) (pc := 101) dX4_tellDrawers_101 fl_X4_48
      · assumption
      · rfl
      apply V_vV (Y := mX4_tellDrawers) (pc := 104) dX4_tellDrawers_104 ok_X2_drop ov_X2_drop ln_X4_64 (c_Row_drop h97.r5)
      · exact h97.r5.obj
      · rfl
      · rfl
      · rfl
      · rfl
      · rfl
      rintro w_104 ⟨g1, g2⟩
      have h104 := h97.upd 5 (by decide) rfl g1 g2
      have f104 := f97.trans (g2.W (p := p) ⟨by omega, by omega⟩)
      have o104 := h104.obj
      refine V_aload_n (Y := mX4_tellDrawers) (pc := 107) dX4_tellDrawers_107 rfl ?_
      apply V_get (Y := mX4_tellDrawers) (pc := 108) dX4_tellDrawers_108 fl_X4_51
      · assumption
      · rfl
      apply V_vV (Y := mX4_tellDrawers) (pc := 111) dX4_tellDrawers_111 ok_X2_drop ov_X2_drop ln_X4_64 (c_Row_drop h104.r6)
      · exact h104.r6.obj
      · rfl
      · rfl
      · rfl
      · rfl
      · rfl
      rintro w_111 ⟨g1, g2⟩
      have h111 := h104.upd 6 (by decide) rfl g1 g2
      have f111 := f104.trans (g2.W (p := p) ⟨by omega, by omega⟩)
      have o111 := h111.obj
      refine V_aload_n (Y := mX4_tellDrawers) (pc := 114) dX4_tellDrawers_114 rfl ?_
      apply V_get (Y := mX4_tellDrawers) (pc := 115) dX4_tellDrawers_115 fl_X4_54
      · assumption
      · rfl
      apply V_vV (Y := mX4_tellDrawers) (pc := 118) dX4_tellDrawers_118 ok_X2_drop ov_X2_drop ln_X4_64 (c_Row_drop h111.r7)
      · exact h111.r7.obj
      · rfl
      · rfl
      · rfl
      · rfl
      · rfl
      rintro w_118 ⟨g1, g2⟩
      have h118 := h111.upd 7 (by decide) rfl g1 g2
      have f118 := f111.trans (g2.W (p := p) ⟨by omega, by omega⟩)
      have o118 := h118.obj
      refine V_aload_n (Y := mX4_tellDrawers) (pc := 121) dX4_tellDrawers_121 rfl ?_
      apply V_get (Y := mX4_tellDrawers) (pc := 122) dX4_tellDrawers_122 fl_X4_57
      · assumption
      · rfl
      apply V_vV (Y := mX4_tellDrawers) (pc := 125) dX4_tellDrawers_125 ok_X2_drop ov_X2_drop ln_X4_64 (c_Row_drop h118.r8)
      · exact h118.r8.obj
      · rfl
      · rfl
      · rfl
      · rfl
      · rfl
      rintro w_125 ⟨g1, g2⟩
      have h125 := h118.upd 8 (by decide) rfl g1 g2
      have f125 := f118.trans (g2.W (p := p) ⟨by omega, by omega⟩)
      refine V_iload_n (Y := mX4_tellDrawers) (pc := 128) dX4_tellDrawers_128 rfl ?_
      refine V_iret (Y := mX4_tellDrawers) (pc := 129) dX4_tellDrawers_129 rfl (Nat.le_of_ble_eq_true rfl) (Nat.le_of_ble_eq_true rfl) ?_
      refine pI_of ⟨rfl, h125.congr (S := (0, 0, 0, 0, 0, rs)) (fun j hj => ?_), f125⟩
      rw [show i = k by omega]
      rcases (show j = 0 ∨ j = 1 ∨ j = 2 ∨ j = 3 ∨ j = 4 ∨ j = 5 ∨ j = 6 ∨ j = 7 ∨ j = 8 by omega) with rfl | rfl | rfl | rfl | rfl | rfl | rfl | rfl | rfl <;> simp [va_up, rsNew]
    · refine V_aload_n (Y := mX4_tellDrawers) (pc := 58) dX4_tellDrawers_58 rfl ?_
      apply V_get (Y := mX4_tellDrawers) (pc := 59) dX4_tellDrawers_59 fl_X4_32
      · assumption
      · rfl
      refine V_iload_n (Y := mX4_tellDrawers) (pc := 62) dX4_tellDrawers_62 rfl ?_
      apply V_vV (Y := mX4_tellDrawers) (pc := 63) dX4_tellDrawers_63 ok_X2_add ov_X2_add ln_X4_67 (c_Row_add (v := i) h.r0)
      · exact h.r0.obj
      · rfl
      · rfl
      · rfl
      · rfl
      · rfl
      rintro w_63 ⟨g1, g2⟩
      rw [e0] at g1
      rw [rAdd, if_pos (by rw [iota_len]; omega)] at g1
      have h63 := h.upd 0 (by decide) rfl g1 g2
      have e1 : va_up (va_up rs 0 (iota i.toNat)) 0 (iota i.toNat ++ [i]) = va_up rs 0 (iota (i + 1).toNat) := by rw [show (i + 1).toNat = i.toNat + 1 by omega, iota_succ, show ((i.toNat : Nat) : Int) = i by omega]; exact bx_uu _ _ _ _
      rw [e1] at h63
      refine V_iinc (Y := mX4_tellDrawers) (pc := 66) dX4_tellDrawers_66 rfl rfl ?_
      refine V_goto (tgt := 53) (Y := mX4_tellDrawers) (pc := 69) dX4_tellDrawers_69 (by decide) ?_
      exact ih (i + 1) w_63 (by omega) (by omega) (by omega) (hfr.trans (g2.W ⟨by omega, by omega⟩)) h63
set_option maxRecDepth 100000 in
theorem c_tellDrawers {nn : Nat} {w : vWd} {p : Nat} {n now k : Int} {ca po fo : Nat} {rs : Nat → List Int} (h : WallAt w p (n, now, ca, po, fo, rs)) (hk : inR k) : Ctr mX4_tellDrawers (rm 1) [.ref p, vI k] nn w (pI (fun z w' => z = (fWall (n, now, ca, po, fo, rs) k).1 ∧ WallAt w' p (fWall (n, now, ca, po, fo, rs) k).2 ∧ frW p w w') nn) := by
  refine Ctr_of (lv := [some (.ref p), some (vI k), none, none]) (by decide +kernel) rfl rfl ?_
  have ho := h.obj
  refine V_iload_n (Y := mX4_tellDrawers) (pc := 0) dX4_tellDrawers_0 rfl ?_
  refine V_iconst (Y := mX4_tellDrawers) (pc := 1) dX4_tellDrawers_1 ?_
  refine V_icmp_lt (tgt := 11) (Y := mX4_tellDrawers) (pc := 2) dX4_tellDrawers_2 (by decide) ⟨by omega, by omega⟩ ⟨by omega, by omega⟩ (fun h_2 => ?_) (fun h_2 => ?_)
  · refine V_bipush (Y := mX4_tellDrawers) (pc := 11) dX4_tellDrawers_11 ⟨by decide, by decide⟩ ?_
    refine V_iret (Y := mX4_tellDrawers) (pc := 13) dX4_tellDrawers_13 rfl (Nat.le_of_ble_eq_true rfl) (Nat.le_of_ble_eq_true rfl) ?_
    rw [show fWall (n, now, ca, po, fo, rs) k = (-2, (n, now, ca, po, fo, rs)) from if_pos (by omega)]
    exact pI_of ⟨rfl, h, frW.refl p w⟩
  · refine V_iload_n (Y := mX4_tellDrawers) (pc := 5) dX4_tellDrawers_5 rfl ?_
    refine V_bipush (Y := mX4_tellDrawers) (pc := 6) dX4_tellDrawers_6 ⟨by decide, by decide⟩ ?_
    refine V_icmp_le (tgt := 14) (Y := mX4_tellDrawers) (pc := 8) dX4_tellDrawers_8 (by decide) ⟨by omega, by omega⟩ ⟨by omega, by omega⟩ (fun h_8 => ?_) (fun h_8 => ?_)
    · refine V_aload_n (Y := mX4_tellDrawers) (pc := 14) dX4_tellDrawers_14 rfl ?_
      apply V_get (Y := mX4_tellDrawers) (pc := 15) dX4_tellDrawers_15 fl_X4_9
      · assumption
      · rfl
      refine V_istore_n (Y := mX4_tellDrawers) (pc := 18) dX4_tellDrawers_18 rfl ?_
      refine V_aload_n (Y := mX4_tellDrawers) (pc := 19) dX4_tellDrawers_19 rfl ?_
      refine V_iload_n (Y := mX4_tellDrawers) (pc := 20) dX4_tellDrawers_20 rfl ?_
      apply V_putiW (Y := mX4_tellDrawers) (pc := 21) dX4_tellDrawers_21 fl_X4_9
      · assumption
      · exact Nat.le_of_ble_eq_true rfl
      intro w_21 h_21 f_21
      simp only [List.set_cons_zero, List.set_cons_succ] at h_21
      have h21 := h.fld h_21 f_21
      refine V_aload_n (Y := mX4_tellDrawers) (pc := 24) dX4_tellDrawers_24 rfl ?_
      refine V_iconst (Y := mX4_tellDrawers) (pc := 25) dX4_tellDrawers_25 ?_
      apply V_putiW (Y := mX4_tellDrawers) (pc := 26) dX4_tellDrawers_26 fl_X4_15
      · assumption
      · exact Nat.le_of_ble_eq_true rfl
      intro w_26 h_26 f_26
      simp only [List.set_cons_zero, List.set_cons_succ] at h_26
      have h26 := h21.fld h_26 f_26
      refine V_aload_n (Y := mX4_tellDrawers) (pc := 29) dX4_tellDrawers_29 rfl ?_
      refine V_iconst (Y := mX4_tellDrawers) (pc := 30) dX4_tellDrawers_30 ?_
      apply V_putiW (Y := mX4_tellDrawers) (pc := 31) dX4_tellDrawers_31 fl_X4_18
      · assumption
      · exact Nat.le_of_ble_eq_true rfl
      intro w_31 h_31 f_31
      simp only [List.set_cons_zero, List.set_cons_succ] at h_31
      have h31 := h26.fld (ca' := 0) h_31 f_31
      refine V_aload_n (Y := mX4_tellDrawers) (pc := 34) dX4_tellDrawers_34 rfl ?_
      refine V_iconst (Y := mX4_tellDrawers) (pc := 35) dX4_tellDrawers_35 ?_
      apply V_putiW (Y := mX4_tellDrawers) (pc := 36) dX4_tellDrawers_36 fl_X4_21
      · assumption
      · exact Nat.le_of_ble_eq_true rfl
      intro w_36 h_36 f_36
      simp only [List.set_cons_zero, List.set_cons_succ] at h_36
      have h36 := h31.fld (ca' := 0) (po' := 0) h_36 f_36
      refine V_aload_n (Y := mX4_tellDrawers) (pc := 39) dX4_tellDrawers_39 rfl ?_
      refine V_iconst (Y := mX4_tellDrawers) (pc := 40) dX4_tellDrawers_40 ?_
      apply V_putiW (Y := mX4_tellDrawers) (pc := 41) dX4_tellDrawers_41 fl_X4_24
      · assumption
      · exact Nat.le_of_ble_eq_true rfl
      intro w_41 h_41 f_41
      simp only [List.set_cons_zero, List.set_cons_succ] at h_41
      have h41 := h36.fld (ca' := 0) (po' := 0) (fo' := 0) h_41 f_41
      refine V_aload_n (Y := mX4_tellDrawers) (pc := 44) dX4_tellDrawers_44 rfl ?_
      apply V_get (Y := mX4_tellDrawers) (pc := 45) dX4_tellDrawers_45 fl_X4_32
      · assumption
      · rfl
      apply V_vV (Y := mX4_tellDrawers) (pc := 48) dX4_tellDrawers_48 ok_X2_drop ov_X2_drop ln_X4_64 (c_Row_drop h41.r0)
      · exact h41.r0.obj
      · rfl
      · rfl
      · rfl
      · rfl
      · rfl
      rintro w_48 ⟨g1, g2⟩
      have h48 := h41.upd 0 (by decide) rfl g1 g2
      have hF : frW p w w_48 := fun j hj => ((g2.W (p := p) ⟨by omega, by omega⟩) j hj).trans ((f_41 j (by omega)).trans ((f_36 j (by omega)).trans ((f_31 j (by omega)).trans ((f_26 j (by omega)).trans (f_21 j (by omega))))))
      have e : fWall (n, now, ca, po, fo, rs) k = (n, (k, 0, 0, 0, 0, rsNew k.toNat)) := if_neg (by omega)
      rw [e]
      refine V_iconst (Y := mX4_tellDrawers) (pc := 51) dX4_tellDrawers_51 ?_
      refine V_istore_n (Y := mX4_tellDrawers) (pc := 52) dX4_tellDrawers_52 rfl ?_
      exact lp_tellDrawers ⟨by omega, by omega⟩ (k.toNat + 1) 0 w_48 (by omega) (by omega) (by omega) hF h48
    · refine V_bipush (Y := mX4_tellDrawers) (pc := 11) dX4_tellDrawers_11 ⟨by decide, by decide⟩ ?_
      refine V_iret (Y := mX4_tellDrawers) (pc := 13) dX4_tellDrawers_13 rfl (Nat.le_of_ble_eq_true rfl) (Nat.le_of_ble_eq_true rfl) ?_
      rw [show fWall (n, now, ca, po, fo, rs) k = (-2, (n, now, ca, po, fo, rs)) from if_pos (by omega)]
      exact pI_of ⟨rfl, h, frW.refl p w⟩
set_option maxRecDepth 100000 in
theorem c_hasDrawer {nn : Nat} {w : vWd} {p : Nat} {n now d : Int} {ca po fo : Nat} {rs : Nat → List Int} (h : WallAt w p (n, now, ca, po, fo, rs)) (hn : inR n) (hd : inR d) : Ctr mX4_hasDrawer (rm 0) [.ref p, vI d] nn w (pR (vI (bI (isD n d))) nn w) := by
  refine Ctr_of (lv := [some (.ref p), some (vI d)]) (by decide +kernel) rfl rfl ?_
  have ho := h.obj
  refine V_iload_n (Y := mX4_hasDrawer) (pc := 0) dX4_hasDrawer_0 rfl ?_
  refine V_if_lt (tgt := 16) (Y := mX4_hasDrawer) (pc := 1) dX4_hasDrawer_1 (by decide) ⟨by omega, by omega⟩ (fun h_1 => ?_) (fun h_1 => ?_)
  · refine V_iconst (Y := mX4_hasDrawer) (pc := 16) dX4_hasDrawer_16 ?_
    refine V_zret (ty := .boolean) (Y := mX4_hasDrawer) (pc := 17) dX4_hasDrawer_17 rfl rfl (Nat.le_of_ble_eq_true rfl) (Nat.le_of_ble_eq_true rfl) ?_
    first | exact pR_I (bI_t ⟨by omega, by omega⟩).symm | exact pR_I (bI_f (fun z => by have := z.1; have := z.2; omega)).symm
  · refine V_iload_n (Y := mX4_hasDrawer) (pc := 4) dX4_hasDrawer_4 rfl ?_
    refine V_aload_n (Y := mX4_hasDrawer) (pc := 5) dX4_hasDrawer_5 rfl ?_
    apply V_get (Y := mX4_hasDrawer) (pc := 6) dX4_hasDrawer_6 fl_X4_9
    · assumption
    · rfl
    refine V_icmp_ge (tgt := 16) (Y := mX4_hasDrawer) (pc := 9) dX4_hasDrawer_9 (by decide) ⟨by omega, by omega⟩ ⟨by omega, by omega⟩ (fun h_9 => ?_) (fun h_9 => ?_)
    · refine V_iconst (Y := mX4_hasDrawer) (pc := 16) dX4_hasDrawer_16 ?_
      refine V_zret (ty := .boolean) (Y := mX4_hasDrawer) (pc := 17) dX4_hasDrawer_17 rfl rfl (Nat.le_of_ble_eq_true rfl) (Nat.le_of_ble_eq_true rfl) ?_
      first | exact pR_I (bI_t ⟨by omega, by omega⟩).symm | exact pR_I (bI_f (fun z => by have := z.1; have := z.2; omega)).symm
    · refine V_iconst (Y := mX4_hasDrawer) (pc := 12) dX4_hasDrawer_12 ?_
      refine V_goto (tgt := 17) (Y := mX4_hasDrawer) (pc := 13) dX4_hasDrawer_13 (by decide) ?_
      refine V_zret (ty := .boolean) (Y := mX4_hasDrawer) (pc := 17) dX4_hasDrawer_17 rfl rfl (Nat.le_of_ble_eq_true rfl) (Nat.le_of_ble_eq_true rfl) ?_
      first | exact pR_I (bI_t ⟨by omega, by omega⟩).symm | exact pR_I (bI_f (fun z => by have := z.1; have := z.2; omega)).symm
set_option maxRecDepth 100000 in
theorem c_states {nn : Nat} {w : vWd} {p : Nat} {n now : Int} {ca po fo : Nat} {rs : Nat → List Int} (h : WallAt w p (n, now, ca, po, fo, rs)) (hn : 0 ≤ n ∧ n ≤ 7) : Ctr mX4_states (rm 1) [.ref p] nn w (pR (vI (p3 n.toNat)) nn w) := by
  refine Ctr_of (lv := [some (.ref p)]) (by decide +kernel) rfl rfl ?_
  have ho := h.obj
  refine V_aload_n (Y := mX4_states) (pc := 0) dX4_states_0 rfl ?_
  apply V_get (Y := mX4_states) (pc := 1) dX4_states_1 fl_X4_9
  · assumption
  · rfl
  apply V_sR (Y := mX4_states) (pc := 4) dX4_states_4 ok_X5_power os_X5_power ln_X4_96 (c_power hn)
  · rfl
  · rfl
  · rfl
  refine V_iret (Y := mX4_states) (pc := 7) dX4_states_7 rfl (Nat.le_of_ble_eq_true rfl) (Nat.le_of_ble_eq_true rfl) ?_
  exact pR_I rfl
set_option maxRecDepth 100000 in
theorem c_hasState {nn : Nat} {w : vWd} {p : Nat} {n now s : Int} {ca po fo : Nat} {rs : Nat → List Int} (h : WallAt w p (n, now, ca, po, fo, rs)) (hn : 0 ≤ n ∧ n ≤ 7) (hs : inR s) : Ctr mX4_hasState (rm 1) [.ref p, vI s] nn w (pR (vI (bI (isS n s))) nn w) := by
  refine Ctr_of (lv := [some (.ref p), some (vI s)]) (by decide +kernel) rfl rfl ?_
  have ho := h.obj
  have hp := p3_le n.toNat (by omega)
  have hp0 := p3_pos n.toNat
  refine V_iload_n (Y := mX4_hasState) (pc := 0) dX4_hasState_0 rfl ?_
  refine V_if_lt (tgt := 19) (Y := mX4_hasState) (pc := 1) dX4_hasState_1 (by decide) ⟨by omega, by omega⟩ (fun h_1 => ?_) (fun h_1 => ?_)
  · refine V_iconst (Y := mX4_hasState) (pc := 19) dX4_hasState_19 ?_
    refine V_zret (ty := .boolean) (Y := mX4_hasState) (pc := 20) dX4_hasState_20 rfl rfl (Nat.le_of_ble_eq_true rfl) (Nat.le_of_ble_eq_true rfl) ?_
    first | exact pR_I (bI_t ⟨by omega, by omega⟩).symm | exact pR_I (bI_f (fun z => by have := z.1; have := z.2; omega)).symm
  · refine V_iload_n (Y := mX4_hasState) (pc := 4) dX4_hasState_4 rfl ?_
    refine V_aload_n (Y := mX4_hasState) (pc := 5) dX4_hasState_5 rfl ?_
    apply V_get (Y := mX4_hasState) (pc := 6) dX4_hasState_6 fl_X4_9
    · assumption
    · rfl
    apply V_sR (Y := mX4_hasState) (pc := 9) dX4_hasState_9 ok_X5_power os_X5_power ln_X4_96 (c_power hn)
    · rfl
    · rfl
    · rfl
    refine V_icmp_ge (tgt := 19) (Y := mX4_hasState) (pc := 12) dX4_hasState_12 (by decide) ⟨by omega, by omega⟩ ⟨by omega, by omega⟩ (fun h_12 => ?_) (fun h_12 => ?_)
    · refine V_iconst (Y := mX4_hasState) (pc := 19) dX4_hasState_19 ?_
      refine V_zret (ty := .boolean) (Y := mX4_hasState) (pc := 20) dX4_hasState_20 rfl rfl (Nat.le_of_ble_eq_true rfl) (Nat.le_of_ble_eq_true rfl) ?_
      first | exact pR_I (bI_t ⟨by omega, by omega⟩).symm | exact pR_I (bI_f (fun z => by have := z.1; have := z.2; omega)).symm
    · refine V_iconst (Y := mX4_hasState) (pc := 15) dX4_hasState_15 ?_
      refine V_goto (tgt := 20) (Y := mX4_hasState) (pc := 16) dX4_hasState_16 (by decide) ?_
      refine V_zret (ty := .boolean) (Y := mX4_hasState) (pc := 20) dX4_hasState_20 rfl rfl (Nat.le_of_ble_eq_true rfl) (Nat.le_of_ble_eq_true rfl) ?_
      first | exact pR_I (bI_t ⟨by omega, by omega⟩).symm | exact pR_I (bI_f (fun z => by have := z.1; have := z.2; omega)).symm
set_option maxRecDepth 100000 in
theorem c_hasSet {nn : Nat} {w : vWd} {p : Nat} {n now x : Int} {ca po fo : Nat} {rs : Nat → List Int} (h : WallAt w p (n, now, ca, po, fo, rs)) (hn : 0 ≤ n ∧ n ≤ 7) (hx : inR x) : Ctr mX4_hasSet (rm 0) [.ref p, vI x] nn w (pR (vI (bI (0 ≤ x ∧ x < ((p2 n.toNat : Nat) : Int)))) nn w) := by
  refine Ctr_of (lv := [some (.ref p), some (vI x)]) (by decide +kernel) rfl rfl ?_
  have ho := h.obj
  have h2 := p2_le n.toNat (by omega)
  refine V_iload_n (Y := mX4_hasSet) (pc := 0) dX4_hasSet_0 rfl ?_
  refine V_if_lt (tgt := 18) (Y := mX4_hasSet) (pc := 1) dX4_hasSet_1 (by decide) ⟨by omega, by omega⟩ (fun h_1 => ?_) (fun h_1 => ?_)
  · refine V_iconst (Y := mX4_hasSet) (pc := 18) dX4_hasSet_18 ?_
    refine V_zret (ty := .boolean) (Y := mX4_hasSet) (pc := 19) dX4_hasSet_19 rfl rfl (Nat.le_of_ble_eq_true rfl) (Nat.le_of_ble_eq_true rfl) ?_
    first | exact pR_I (bI_t ⟨by omega, by omega⟩).symm | exact pR_I (bI_f (fun z => by have := z.1; have := z.2; omega)).symm
  · refine V_iload_n (Y := mX4_hasSet) (pc := 4) dX4_hasSet_4 rfl ?_
    refine V_iconst (Y := mX4_hasSet) (pc := 5) dX4_hasSet_5 ?_
    refine V_aload_n (Y := mX4_hasSet) (pc := 6) dX4_hasSet_6 rfl ?_
    apply V_get (Y := mX4_hasSet) (pc := 7) dX4_hasSet_7 fl_X4_9
    · assumption
    · rfl
    refine V_ishl (Y := mX4_hasSet) (pc := 10) dX4_hasSet_10 (iI_shl2 (by omega) (by omega)) ?_
    refine V_icmp_ge (tgt := 18) (Y := mX4_hasSet) (pc := 11) dX4_hasSet_11 (by decide) ⟨by omega, by omega⟩ ⟨by omega, by omega⟩ (fun h_11 => ?_) (fun h_11 => ?_)
    · refine V_iconst (Y := mX4_hasSet) (pc := 18) dX4_hasSet_18 ?_
      refine V_zret (ty := .boolean) (Y := mX4_hasSet) (pc := 19) dX4_hasSet_19 rfl rfl (Nat.le_of_ble_eq_true rfl) (Nat.le_of_ble_eq_true rfl) ?_
      first | exact pR_I (bI_t ⟨by omega, by omega⟩).symm | exact pR_I (bI_f (fun z => by have := z.1; have := z.2; omega)).symm
    · refine V_iconst (Y := mX4_hasSet) (pc := 14) dX4_hasSet_14 ?_
      refine V_goto (tgt := 19) (Y := mX4_hasSet) (pc := 15) dX4_hasSet_15 (by decide) ?_
      refine V_zret (ty := .boolean) (Y := mX4_hasSet) (pc := 19) dX4_hasSet_19 rfl rfl (Nat.le_of_ble_eq_true rfl) (Nat.le_of_ble_eq_true rfl) ?_
      first | exact pR_I (bI_t ⟨by omega, by omega⟩).symm | exact pR_I (bI_f (fun z => by have := z.1; have := z.2; omega)).symm
set_option maxRecDepth 100000 in
theorem c_hasCatch {nn : Nat} {w : vWd} {p : Nat} {n now d : Int} {ca po fo : Nat} {rs : Nat → List Int} (h : WallAt w p (n, now, ca, po, fo, rs)) (hc : ca < 2147483648) (hd : 0 ≤ d ∧ d < 32) : Ctr mX4_hasCatch (rm 0) [.ref p, vI d] nn w (pR (vI (bI (ca.testBit d.toNat = true))) nn w) := by
  refine Ctr_of (lv := [some (.ref p), some (vI d)]) (by decide +kernel) rfl rfl ?_
  have ho := h.obj
  have hb := testBit_1 ca d.toNat
  refine V_aload_n (Y := mX4_hasCatch) (pc := 0) dX4_hasCatch_0 rfl ?_
  apply V_get (Y := mX4_hasCatch) (pc := 1) dX4_hasCatch_1 fl_X4_18
  · assumption
  · rfl
  refine V_iload_n (Y := mX4_hasCatch) (pc := 4) dX4_hasCatch_4 rfl ?_
  refine V_ishr (Y := mX4_hasCatch) (pc := 5) dX4_hasCatch_5 (iI_shr hd.1 hd.2 hc) ?_
  refine V_iconst (Y := mX4_hasCatch) (pc := 6) dX4_hasCatch_6 ?_
  refine V_iand (Y := mX4_hasCatch) (pc := 7) dX4_hasCatch_7 (iI_and _ 1) ?_
  rw [hb]
  refine V_iconst (Y := mX4_hasCatch) (pc := 8) dX4_hasCatch_8 ?_
  refine V_icmp_ne (tgt := 16) (Y := mX4_hasCatch) (pc := 9) dX4_hasCatch_9 (by decide) ⟨by split <;> omega, by split <;> omega⟩ ⟨by omega, by omega⟩ (fun h_9 => ?_) (fun h_9 => ?_)
  · refine V_iconst (Y := mX4_hasCatch) (pc := 16) dX4_hasCatch_16 ?_
    refine V_zret (ty := .boolean) (Y := mX4_hasCatch) (pc := 17) dX4_hasCatch_17 rfl rfl (Nat.le_of_ble_eq_true rfl) (Nat.le_of_ble_eq_true rfl) ?_
    first | exact pR_I (bI_t (by revert h_9; split <;> simp_all)).symm | exact pR_I (bI_f (by revert h_9; split <;> simp_all)).symm
  · refine V_iconst (Y := mX4_hasCatch) (pc := 12) dX4_hasCatch_12 ?_
    refine V_goto (tgt := 17) (Y := mX4_hasCatch) (pc := 13) dX4_hasCatch_13 (by decide) ?_
    refine V_zret (ty := .boolean) (Y := mX4_hasCatch) (pc := 17) dX4_hasCatch_17 rfl rfl (Nat.le_of_ble_eq_true rfl) (Nat.le_of_ble_eq_true rfl) ?_
    first | exact pR_I (bI_t (by revert h_9; split <;> simp_all)).symm | exact pR_I (bI_f (by revert h_9; split <;> simp_all)).symm

/-! the calls that tell of a wall -/
def fCatch (S : vSt) (d z : Int) : Int × vSt := if ¬ isD S.1 d then (-2, S) else if bI (S.2.2.1.testBit d.toNat = true) = z then (-3, S) else (1, (S.1, S.2.1, S.2.2.1 ^^^ p2 d.toNat, S.2.2.2.1, S.2.2.2.2.1, S.2.2.2.2.2))
def fGood (S : vSt) (d g : Int) : Int × vSt := if ¬ (isD S.1 d ∧ 0 ≤ g ∧ g < 7) then (-2, S) else (rAt (S.2.2.2.2.2 0) d, (S.1, S.2.1, S.2.2.1, S.2.2.2.1, S.2.2.2.2.1, va_up S.2.2.2.2.2 0 (rSet (S.2.2.2.2.2 0) d g)))
def fOrder (S : vSt) (g : Int) : Int × vSt := if ¬ (0 ≤ g ∧ g < 7) then (-2, S) else if 6 ≤ (S.2.2.2.2.2 5).length then (-4, S) else (((S.2.2.2.2.2 5).length : Int), (S.1, S.2.1, S.2.2.1, S.2.2.2.1, S.2.2.2.2.1, va_up S.2.2.2.2.2 5 (S.2.2.2.2.2 5 ++ [g])))
abbrev okCord (n a b k v : Int) : Prop := isD n a ∧ isD n b ∧ a ≠ b ∧ 0 ≤ k ∧ k < 6 ∧ -2 ≤ v ∧ v ≤ 2 ∧ v ≠ 0
def rsCord (rs : Nat → List Int) (a b k v : Int) : Nat → List Int := va_up (va_up (va_up (va_up rs 1 (rs 1 ++ [a])) 2 (rs 2 ++ [b])) 3 (rs 3 ++ [k])) 4 (rs 4 ++ [v])
def fCord (S : vSt) (a b k v : Int) : Int × vSt := if ¬ okCord S.1 a b k v then (-2, S) else if 10 ≤ (S.2.2.2.2.2 1).length then (-4, S) else (((S.2.2.2.2.2 1).length : Int), (S.1, S.2.1, S.2.2.1, S.2.2.2.1, S.2.2.2.2.1, rsCord S.2.2.2.2.2 a b k v))
set_option maxRecDepth 100000 in
theorem c_tellCatch {nn : Nat} {w : vWd} {p : Nat} {n now d z : Int} {ca po fo : Nat} {rs : Nat → List Int} (h : WallAt w p (n, now, ca, po, fo, rs)) (hn : 0 ≤ n ∧ n ≤ 7) (hc : ca < 128) (hd : inR d) (hz : z = 0 ∨ z = 1) : Ctr mX4_tellCatch (rm 1) [.ref p, vI d, vI z] nn w (pI (fun r w' => r = (fCatch (n, now, ca, po, fo, rs) d z).1 ∧ WallAt w' p (fCatch (n, now, ca, po, fo, rs) d z).2 ∧ frW p w w') nn) := by
  refine Ctr_of (lv := [some (.ref p), some (vI d), some (vI z)]) (by decide +kernel) rfl rfl ?_
  have ho := h.obj
  have hb := bI_01 (ca.testBit d.toNat = true)
  refine V_aload_n (Y := mX4_tellCatch) (pc := 0) dX4_tellCatch_0 rfl ?_
  refine V_iload_n (Y := mX4_tellCatch) (pc := 1) dX4_tellCatch_1 rfl ?_
  apply V_vR (Y := mX4_tellCatch) (pc := 2) dX4_tellCatch_2 ok_X4_hasDrawer ov_X4_hasDrawer ln_X4_70 (c_hasDrawer h ⟨by omega, by omega⟩ hd)
  · assumption
  · rfl
  · rfl
  · rfl
  · rfl
  · rfl
  refine V_if_neB (tgt := 11) (Y := mX4_tellCatch) (pc := 5) dX4_tellCatch_5 (by decide) (fun h_5 => ?_) (fun h_5 => ?_)
  · refine V_aload_n (Y := mX4_tellCatch) (pc := 11) dX4_tellCatch_11 rfl ?_
    refine V_iload_n (Y := mX4_tellCatch) (pc := 12) dX4_tellCatch_12 rfl ?_
    apply V_vR (Y := mX4_tellCatch) (pc := 13) dX4_tellCatch_13 ok_X4_hasCatch ov_X4_hasCatch ln_X4_82 (c_hasCatch (d := d) h (by omega) ⟨by omega, by omega⟩)
    · assumption
    · rfl
    · rfl
    · rfl
    · rfl
    · rfl
    refine V_iload_n (Y := mX4_tellCatch) (pc := 16) dX4_tellCatch_16 rfl ?_
    refine V_icmp_ne (tgt := 23) (Y := mX4_tellCatch) (pc := 17) dX4_tellCatch_17 (by decide) ⟨by omega, by omega⟩ ⟨by omega, by omega⟩ (fun h_17 => ?_) (fun h_17 => ?_)
    · refine V_aload_n (Y := mX4_tellCatch) (pc := 23) dX4_tellCatch_23 rfl ?_
      refine V_dup (Y := mX4_tellCatch) (pc := 24) dX4_tellCatch_24 rfl ?_
      apply V_get (Y := mX4_tellCatch) (pc := 25) dX4_tellCatch_25 fl_X4_18
      · assumption
      · rfl
      refine V_iconst (Y := mX4_tellCatch) (pc := 28) dX4_tellCatch_28 ?_
      refine V_iload_n (Y := mX4_tellCatch) (pc := 29) dX4_tellCatch_29 rfl ?_
      refine V_ishl (Y := mX4_tellCatch) (pc := 30) dX4_tellCatch_30 (iI_shl2 (by omega) (by omega)) ?_
      refine V_ixor (Y := mX4_tellCatch) (pc := 31) dX4_tellCatch_31 (iI_xor _ _) ?_
      apply V_putiW (Y := mX4_tellCatch) (pc := 32) dX4_tellCatch_32 fl_X4_18
      · assumption
      · exact Nat.le_of_ble_eq_true rfl
      intro w_32 h_32 f_32
      simp only [List.set_cons_zero, List.set_cons_succ] at h_32
      refine V_iconst (Y := mX4_tellCatch) (pc := 35) dX4_tellCatch_35 ?_
      refine V_iret (Y := mX4_tellCatch) (pc := 36) dX4_tellCatch_36 rfl (Nat.le_of_ble_eq_true rfl) (Nat.le_of_ble_eq_true rfl) ?_
      rw [show fCatch (n, now, ca, po, fo, rs) d z = (1, (n, now, ca ^^^ p2 d.toNat, po, fo, rs)) from (if_neg (fun q => q h_5)).trans (if_neg h_17)]
      exact pI_of ⟨rfl, h.fld h_32 f_32, fun j hj => f_32 j (by omega)⟩
    · refine V_bipush (Y := mX4_tellCatch) (pc := 20) dX4_tellCatch_20 ⟨by decide, by decide⟩ ?_
      refine V_iret (Y := mX4_tellCatch) (pc := 22) dX4_tellCatch_22 rfl (Nat.le_of_ble_eq_true rfl) (Nat.le_of_ble_eq_true rfl) ?_
      rw [show fCatch (n, now, ca, po, fo, rs) d z = (-3, (n, now, ca, po, fo, rs)) from (if_neg (fun q => q h_5)).trans (if_pos h_17)]
      exact pI_of ⟨rfl, h, frW.refl p w⟩
  · refine V_bipush (Y := mX4_tellCatch) (pc := 8) dX4_tellCatch_8 ⟨by decide, by decide⟩ ?_
    refine V_iret (Y := mX4_tellCatch) (pc := 10) dX4_tellCatch_10 rfl (Nat.le_of_ble_eq_true rfl) (Nat.le_of_ble_eq_true rfl) ?_
    rw [show fCatch (n, now, ca, po, fo, rs) d z = (-2, (n, now, ca, po, fo, rs)) from if_pos h_5]
    exact pI_of ⟨rfl, h, frW.refl p w⟩
set_option maxRecDepth 100000 in
theorem c_tellGoods {nn : Nat} {w : vWd} {p : Nat} {n now d g : Int} {ca po fo : Nat} {rs : Nat → List Int} (h : WallAt w p (n, now, ca, po, fo, rs)) (hn : 0 ≤ n ∧ n ≤ 7) (hd : inR d) (hg : inR g) : Ctr mX4_tellGoods (rm 1) [.ref p, vI d, vI g] nn w (pI (fun r w' => r = (fGood (n, now, ca, po, fo, rs) d g).1 ∧ WallAt w' p (fGood (n, now, ca, po, fo, rs) d g).2 ∧ frW p w w') nn) := by
  refine Ctr_of (lv := [some (.ref p), some (vI d), some (vI g), none]) (by decide +kernel) rfl rfl ?_
  have ho := h.obj
  refine V_aload_n (Y := mX4_tellGoods) (pc := 0) dX4_tellGoods_0 rfl ?_
  refine V_iload_n (Y := mX4_tellGoods) (pc := 1) dX4_tellGoods_1 rfl ?_
  apply V_vR (Y := mX4_tellGoods) (pc := 2) dX4_tellGoods_2 ok_X4_hasDrawer ov_X4_hasDrawer ln_X4_70 (c_hasDrawer h ⟨by omega, by omega⟩ hd)
  · assumption
  · rfl
  · rfl
  · rfl
  · rfl
  · rfl
  refine V_if_eqB (tgt := 18) (Y := mX4_tellGoods) (pc := 5) dX4_tellGoods_5 (by decide) (fun h_5 => ?_) (fun h_5 => ?_)
  · refine V_bipush (Y := mX4_tellGoods) (pc := 18) dX4_tellGoods_18 ⟨by decide, by decide⟩ ?_
    refine V_iret (Y := mX4_tellGoods) (pc := 20) dX4_tellGoods_20 rfl (Nat.le_of_ble_eq_true rfl) (Nat.le_of_ble_eq_true rfl) ?_
    rw [show fGood (n, now, ca, po, fo, rs) d g = (-2, (n, now, ca, po, fo, rs)) from if_pos (fun q => by first | exact h_5 q.1 | (have := q.2; omega))]
    exact pI_of ⟨rfl, h, frW.refl p w⟩
  · refine V_iload_n (Y := mX4_tellGoods) (pc := 8) dX4_tellGoods_8 rfl ?_
    refine V_if_lt (tgt := 18) (Y := mX4_tellGoods) (pc := 9) dX4_tellGoods_9 (by decide) ⟨by omega, by omega⟩ (fun h_9 => ?_) (fun h_9 => ?_)
    · refine V_bipush (Y := mX4_tellGoods) (pc := 18) dX4_tellGoods_18 ⟨by decide, by decide⟩ ?_
      refine V_iret (Y := mX4_tellGoods) (pc := 20) dX4_tellGoods_20 rfl (Nat.le_of_ble_eq_true rfl) (Nat.le_of_ble_eq_true rfl) ?_
      rw [show fGood (n, now, ca, po, fo, rs) d g = (-2, (n, now, ca, po, fo, rs)) from if_pos (fun q => by first | exact h_5 q.1 | (have := q.2; omega))]
      exact pI_of ⟨rfl, h, frW.refl p w⟩
    · refine V_iload_n (Y := mX4_tellGoods) (pc := 12) dX4_tellGoods_12 rfl ?_
      refine V_bipush (Y := mX4_tellGoods) (pc := 13) dX4_tellGoods_13 ⟨by decide, by decide⟩ ?_
      refine V_icmp_lt (tgt := 21) (Y := mX4_tellGoods) (pc := 15) dX4_tellGoods_15 (by decide) ⟨by omega, by omega⟩ ⟨by omega, by omega⟩ (fun h_15 => ?_) (fun h_15 => ?_)
      · refine V_aload_n (Y := mX4_tellGoods) (pc := 21) dX4_tellGoods_21 rfl ?_
        apply V_get (Y := mX4_tellGoods) (pc := 22) dX4_tellGoods_22 fl_X4_32
        · assumption
        · rfl
        refine V_iload_n (Y := mX4_tellGoods) (pc := 25) dX4_tellGoods_25 rfl ?_
        apply V_vR (Y := mX4_tellGoods) (pc := 26) dX4_tellGoods_26 ok_X2_at ov_X2_at ln_X4_85 (c_Row_at (i := d) h.r0 hd)
        · exact h.r0.obj
        · rfl
        · rfl
        · rfl
        · rfl
        · rfl
        refine V_istore_n (Y := mX4_tellGoods) (pc := 29) dX4_tellGoods_29 rfl ?_
        refine V_aload_n (Y := mX4_tellGoods) (pc := 30) dX4_tellGoods_30 rfl ?_
        apply V_get (Y := mX4_tellGoods) (pc := 31) dX4_tellGoods_31 fl_X4_32
        · assumption
        · rfl
        refine V_iload_n (Y := mX4_tellGoods) (pc := 34) dX4_tellGoods_34 rfl ?_
        refine V_iload_n (Y := mX4_tellGoods) (pc := 35) dX4_tellGoods_35 rfl ?_
        apply V_vV (Y := mX4_tellGoods) (pc := 36) dX4_tellGoods_36 ok_X2_set ov_X2_set ln_X4_88 (c_Row_set (i := d) (v := g) h.r0 hd)
        · exact h.r0.obj
        · rfl
        · rfl
        · rfl
        · rfl
        · rfl
        rintro w_36 ⟨g1, g2⟩
        refine V_iload_n (Y := mX4_tellGoods) (pc := 39) dX4_tellGoods_39 rfl ?_
        refine V_iret (Y := mX4_tellGoods) (pc := 40) dX4_tellGoods_40 rfl (Nat.le_of_ble_eq_true rfl) (Nat.le_of_ble_eq_true rfl) ?_
        rw [show fGood (n, now, ca, po, fo, rs) d g = (rAt (rs 0) d, (n, now, ca, po, fo, va_up rs 0 (rSet (rs 0) d g))) from if_neg (fun q => q ⟨h_5, by omega, by omega⟩)]
        exact pI_of ⟨rfl, h.upd 0 (by decide) rfl g1 g2, g2.W ⟨by omega, by omega⟩⟩
      · refine V_bipush (Y := mX4_tellGoods) (pc := 18) dX4_tellGoods_18 ⟨by decide, by decide⟩ ?_
        refine V_iret (Y := mX4_tellGoods) (pc := 20) dX4_tellGoods_20 rfl (Nat.le_of_ble_eq_true rfl) (Nat.le_of_ble_eq_true rfl) ?_
        rw [show fGood (n, now, ca, po, fo, rs) d g = (-2, (n, now, ca, po, fo, rs)) from if_pos (fun q => by first | exact h_5 q.1 | (have := q.2; omega))]
        exact pI_of ⟨rfl, h, frW.refl p w⟩
set_option maxRecDepth 100000 in
theorem c_tellOrder {nn : Nat} {w : vWd} {p : Nat} {n now g : Int} {ca po fo : Nat} {rs : Nat → List Int} (h : WallAt w p (n, now, ca, po, fo, rs)) (hg : inR g) : Ctr mX4_tellOrder (rm 1) [.ref p, vI g] nn w (pI (fun r w' => r = (fOrder (n, now, ca, po, fo, rs) g).1 ∧ WallAt w' p (fOrder (n, now, ca, po, fo, rs) g).2 ∧ frW p w w') nn) := by
  refine Ctr_of (lv := [some (.ref p), some (vI g)]) (by decide +kernel) rfl rfl ?_
  have ho := h.obj
  refine V_iload_n (Y := mX4_tellOrder) (pc := 0) dX4_tellOrder_0 rfl ?_
  refine V_if_lt (tgt := 10) (Y := mX4_tellOrder) (pc := 1) dX4_tellOrder_1 (by decide) ⟨by omega, by omega⟩ (fun h_1 => ?_) (fun h_1 => ?_)
  · refine V_bipush (Y := mX4_tellOrder) (pc := 10) dX4_tellOrder_10 ⟨by decide, by decide⟩ ?_
    refine V_iret (Y := mX4_tellOrder) (pc := 12) dX4_tellOrder_12 rfl (Nat.le_of_ble_eq_true rfl) (Nat.le_of_ble_eq_true rfl) ?_
    rw [show fOrder (n, now, ca, po, fo, rs) g = (-2, (n, now, ca, po, fo, rs)) from if_pos (by omega)]
    exact pI_of ⟨rfl, h, frW.refl p w⟩
  · refine V_iload_n (Y := mX4_tellOrder) (pc := 4) dX4_tellOrder_4 rfl ?_
    refine V_bipush (Y := mX4_tellOrder) (pc := 5) dX4_tellOrder_5 ⟨by decide, by decide⟩ ?_
    refine V_icmp_lt (tgt := 13) (Y := mX4_tellOrder) (pc := 7) dX4_tellOrder_7 (by decide) ⟨by omega, by omega⟩ ⟨by omega, by omega⟩ (fun h_7 => ?_) (fun h_7 => ?_)
    · refine V_aload_n (Y := mX4_tellOrder) (pc := 13) dX4_tellOrder_13 rfl ?_
      apply V_get (Y := mX4_tellOrder) (pc := 14) dX4_tellOrder_14 fl_X4_48
      · assumption
      · rfl
      apply V_vR (Y := mX4_tellOrder) (pc := 17) dX4_tellOrder_17 ok_X2_isFull ov_X2_isFull ln_X4_74 (c_Row_isFull h.r5)
      · exact h.r5.obj
      · rfl
      · rfl
      · rfl
      · rfl
      · rfl
      refine V_if_eqB (tgt := 26) (Y := mX4_tellOrder) (pc := 20) dX4_tellOrder_20 (by decide) (fun h_20 => ?_) (fun h_20 => ?_)
      · refine V_aload_n (Y := mX4_tellOrder) (pc := 26) dX4_tellOrder_26 rfl ?_
        apply V_get (Y := mX4_tellOrder) (pc := 27) dX4_tellOrder_27 fl_X4_48
        · assumption
        · rfl
        refine V_iload_n (Y := mX4_tellOrder) (pc := 30) dX4_tellOrder_30 rfl ?_
        apply V_vV (Y := mX4_tellOrder) (pc := 31) dX4_tellOrder_31 ok_X2_add ov_X2_add ln_X4_67 (c_Row_add (v := g) h.r5)
        · exact h.r5.obj
        · rfl
        · rfl
        · rfl
        · rfl
        · rfl
        rintro w_31 ⟨g1, g2⟩
        rw [rAdd, if_pos (by omega)] at g1
        have h31 := h.upd 5 (by decide) rfl g1 g2
        have o31 := h31.obj
        refine V_aload_n (Y := mX4_tellOrder) (pc := 34) dX4_tellOrder_34 rfl ?_
        apply V_get (Y := mX4_tellOrder) (pc := 35) dX4_tellOrder_35 fl_X4_48
        · assumption
        · rfl
        apply V_vR (Y := mX4_tellOrder) (pc := 38) dX4_tellOrder_38 ok_X2_size ov_X2_size ln_X4_78 (c_Row_size g1)
        · exact g1.obj
        · rfl
        · rfl
        · rfl
        · rfl
        · rfl
        refine V_iconst (Y := mX4_tellOrder) (pc := 41) dX4_tellOrder_41 ?_
        refine V_isub (Y := mX4_tellOrder) (pc := 42) dX4_tellOrder_42 ?_
        refine V_iret (Y := mX4_tellOrder) (pc := 43) dX4_tellOrder_43 rfl (Nat.le_of_ble_eq_true rfl) (Nat.le_of_ble_eq_true rfl) ?_
        rw [show fOrder (n, now, ca, po, fo, rs) g = (((rs 5).length : Int), (n, now, ca, po, fo, va_up rs 5 (rs 5 ++ [g]))) from (if_neg (by omega)).trans (if_neg (by show ¬ 6 ≤ (rs 5).length; omega))]
        exact pI_of ⟨by rw [List.length_append, List.length_singleton]; show ((rs 5).length + 1 : Nat) - 1 = ((rs 5).length : Int); omega, h31, g2.W ⟨by omega, by omega⟩⟩
      · refine V_bipush (Y := mX4_tellOrder) (pc := 23) dX4_tellOrder_23 ⟨by decide, by decide⟩ ?_
        refine V_iret (Y := mX4_tellOrder) (pc := 25) dX4_tellOrder_25 rfl (Nat.le_of_ble_eq_true rfl) (Nat.le_of_ble_eq_true rfl) ?_
        rw [show fOrder (n, now, ca, po, fo, rs) g = (-4, (n, now, ca, po, fo, rs)) from (if_neg (by omega)).trans (if_pos (by show 6 ≤ (rs 5).length; omega))]
        exact pI_of ⟨rfl, h, frW.refl p w⟩
    · refine V_bipush (Y := mX4_tellOrder) (pc := 10) dX4_tellOrder_10 ⟨by decide, by decide⟩ ?_
      refine V_iret (Y := mX4_tellOrder) (pc := 12) dX4_tellOrder_12 rfl (Nat.le_of_ble_eq_true rfl) (Nat.le_of_ble_eq_true rfl) ?_
      rw [show fOrder (n, now, ca, po, fo, rs) g = (-2, (n, now, ca, po, fo, rs)) from if_pos (by omega)]
      exact pI_of ⟨rfl, h, frW.refl p w⟩
set_option maxRecDepth 100000 in
theorem c_tellCord {nn : Nat} {w : vWd} {p : Nat} {n now a b k v : Int} {ca po fo : Nat} {rs : Nat → List Int} (h : WallAt w p (n, now, ca, po, fo, rs)) (hn : 0 ≤ n ∧ n ≤ 7) (hl : (rs 2).length = (rs 1).length ∧ (rs 3).length = (rs 1).length ∧ (rs 4).length = (rs 1).length) (ha : inR a) (hb : inR b) (hk : inR k) (hv : inR v) : Ctr mX4_tellCord (rm 1) [.ref p, vI a, vI b, vI k, vI v] nn w (pI (fun r w' => r = (fCord (n, now, ca, po, fo, rs) a b k v).1 ∧ WallAt w' p (fCord (n, now, ca, po, fo, rs) a b k v).2 ∧ frW p w w') nn) := by
  refine Ctr_of (lv := [some (.ref p), some (vI a), some (vI b), some (vI k), some (vI v)]) (by decide +kernel) rfl rfl ?_
  have ho := h.obj
  refine V_aload_n (Y := mX4_tellCord) (pc := 0) dX4_tellCord_0 rfl ?_
  refine V_iload_n (Y := mX4_tellCord) (pc := 1) dX4_tellCord_1 rfl ?_
  apply V_vR (Y := mX4_tellCord) (pc := 2) dX4_tellCord_2 ok_X4_hasDrawer ov_X4_hasDrawer ln_X4_70 (c_hasDrawer h ⟨by omega, by omega⟩ ha)
  · assumption
  · rfl
  · rfl
  · rfl
  · rfl
  · rfl
  refine V_if_eqB (tgt := 21) (Y := mX4_tellCord) (pc := 5) dX4_tellCord_5 (by decide) (fun h_5 => ?_) (fun h_5 => ?_)
  · refine V_bipush (Y := mX4_tellCord) (pc := 21) dX4_tellCord_21 ⟨by decide, by decide⟩ ?_
    refine V_iret (Y := mX4_tellCord) (pc := 23) dX4_tellCord_23 rfl (Nat.le_of_ble_eq_true rfl) (Nat.le_of_ble_eq_true rfl) ?_
    rw [show fCord (n, now, ca, po, fo, rs) a b k v = (-2, (n, now, ca, po, fo, rs)) from if_pos (fun q => by first | exact h_5 q.1 | exact h_13 q.2.1 | exact q.2.2.1 h_18)]
    exact pI_of ⟨rfl, h, frW.refl p w⟩
  · refine V_aload_n (Y := mX4_tellCord) (pc := 8) dX4_tellCord_8 rfl ?_
    refine V_iload_n (Y := mX4_tellCord) (pc := 9) dX4_tellCord_9 rfl ?_
    apply V_vR (Y := mX4_tellCord) (pc := 10) dX4_tellCord_10 ok_X4_hasDrawer ov_X4_hasDrawer ln_X4_70 (c_hasDrawer h ⟨by omega, by omega⟩ hb)
    · assumption
    · rfl
    · rfl
    · rfl
    · rfl
    · rfl
    refine V_if_eqB (tgt := 21) (Y := mX4_tellCord) (pc := 13) dX4_tellCord_13 (by decide) (fun h_13 => ?_) (fun h_13 => ?_)
    · refine V_bipush (Y := mX4_tellCord) (pc := 21) dX4_tellCord_21 ⟨by decide, by decide⟩ ?_
      refine V_iret (Y := mX4_tellCord) (pc := 23) dX4_tellCord_23 rfl (Nat.le_of_ble_eq_true rfl) (Nat.le_of_ble_eq_true rfl) ?_
      rw [show fCord (n, now, ca, po, fo, rs) a b k v = (-2, (n, now, ca, po, fo, rs)) from if_pos (fun q => by first | exact h_5 q.1 | exact h_13 q.2.1 | exact q.2.2.1 h_18)]
      exact pI_of ⟨rfl, h, frW.refl p w⟩
    · refine V_iload_n (Y := mX4_tellCord) (pc := 16) dX4_tellCord_16 rfl ?_
      refine V_iload_n (Y := mX4_tellCord) (pc := 17) dX4_tellCord_17 rfl ?_
      refine V_icmp_ne (tgt := 24) (Y := mX4_tellCord) (pc := 18) dX4_tellCord_18 (by decide) ⟨by omega, by omega⟩ ⟨by omega, by omega⟩ (fun h_18 => ?_) (fun h_18 => ?_)
      · refine V_iload_n (Y := mX4_tellCord) (pc := 24) dX4_tellCord_24 rfl ?_
        refine V_if_lt (tgt := 52) (Y := mX4_tellCord) (pc := 25) dX4_tellCord_25 (by decide) ⟨by omega, by omega⟩ (fun h_25 => ?_) (fun h_25 => ?_)
        · refine V_bipush (Y := mX4_tellCord) (pc := 52) dX4_tellCord_52 ⟨by decide, by decide⟩ ?_
          refine V_iret (Y := mX4_tellCord) (pc := 54) dX4_tellCord_54 rfl (Nat.le_of_ble_eq_true rfl) (Nat.le_of_ble_eq_true rfl) ?_
          rw [show fCord (n, now, ca, po, fo, rs) a b k v = (-2, (n, now, ca, po, fo, rs)) from if_pos (fun q => by have := q.2.2; omega)]
          exact pI_of ⟨rfl, h, frW.refl p w⟩
        · refine V_iload_n (Y := mX4_tellCord) (pc := 28) dX4_tellCord_28 rfl ?_
          refine V_bipush (Y := mX4_tellCord) (pc := 29) dX4_tellCord_29 ⟨by decide, by decide⟩ ?_
          refine V_icmp_ge (tgt := 52) (Y := mX4_tellCord) (pc := 31) dX4_tellCord_31 (by decide) ⟨by omega, by omega⟩ ⟨by omega, by omega⟩ (fun h_31 => ?_) (fun h_31 => ?_)
          · refine V_bipush (Y := mX4_tellCord) (pc := 52) dX4_tellCord_52 ⟨by decide, by decide⟩ ?_
            refine V_iret (Y := mX4_tellCord) (pc := 54) dX4_tellCord_54 rfl (Nat.le_of_ble_eq_true rfl) (Nat.le_of_ble_eq_true rfl) ?_
            rw [show fCord (n, now, ca, po, fo, rs) a b k v = (-2, (n, now, ca, po, fo, rs)) from if_pos (fun q => by have := q.2.2; omega)]
            exact pI_of ⟨rfl, h, frW.refl p w⟩
          · refine V_iload (Y := mX4_tellCord) (pc := 34) dX4_tellCord_34 rfl ?_
            refine V_bipush (Y := mX4_tellCord) (pc := 36) dX4_tellCord_36 ⟨by decide, by decide⟩ ?_
            refine V_icmp_lt (tgt := 52) (Y := mX4_tellCord) (pc := 38) dX4_tellCord_38 (by decide) ⟨by omega, by omega⟩ ⟨by omega, by omega⟩ (fun h_38 => ?_) (fun h_38 => ?_)
            · refine V_bipush (Y := mX4_tellCord) (pc := 52) dX4_tellCord_52 ⟨by decide, by decide⟩ ?_
              refine V_iret (Y := mX4_tellCord) (pc := 54) dX4_tellCord_54 rfl (Nat.le_of_ble_eq_true rfl) (Nat.le_of_ble_eq_true rfl) ?_
              rw [show fCord (n, now, ca, po, fo, rs) a b k v = (-2, (n, now, ca, po, fo, rs)) from if_pos (fun q => by have := q.2.2; omega)]
              exact pI_of ⟨rfl, h, frW.refl p w⟩
            · refine V_iload (Y := mX4_tellCord) (pc := 41) dX4_tellCord_41 rfl ?_
              refine V_iconst (Y := mX4_tellCord) (pc := 43) dX4_tellCord_43 ?_
              refine V_icmp_gt (tgt := 52) (Y := mX4_tellCord) (pc := 44) dX4_tellCord_44 (by decide) ⟨by omega, by omega⟩ ⟨by omega, by omega⟩ (fun h_44 => ?_) (fun h_44 => ?_)
              · refine V_bipush (Y := mX4_tellCord) (pc := 52) dX4_tellCord_52 ⟨by decide, by decide⟩ ?_
                refine V_iret (Y := mX4_tellCord) (pc := 54) dX4_tellCord_54 rfl (Nat.le_of_ble_eq_true rfl) (Nat.le_of_ble_eq_true rfl) ?_
                rw [show fCord (n, now, ca, po, fo, rs) a b k v = (-2, (n, now, ca, po, fo, rs)) from if_pos (fun q => by have := q.2.2; omega)]
                exact pI_of ⟨rfl, h, frW.refl p w⟩
              · refine V_iload (Y := mX4_tellCord) (pc := 47) dX4_tellCord_47 rfl ?_
                refine V_if_ne (tgt := 55) (Y := mX4_tellCord) (pc := 49) dX4_tellCord_49 (by decide) ⟨by omega, by omega⟩ (fun h_49 => ?_) (fun h_49 => ?_)
                · refine V_aload_n (Y := mX4_tellCord) (pc := 55) dX4_tellCord_55 rfl ?_
                  apply V_get (Y := mX4_tellCord) (pc := 56) dX4_tellCord_56 fl_X4_36
                  · assumption
                  · rfl
                  apply V_vR (Y := mX4_tellCord) (pc := 59) dX4_tellCord_59 ok_X2_isFull ov_X2_isFull ln_X4_74 (c_Row_isFull h.r1)
                  · exact h.r1.obj
                  · rfl
                  · rfl
                  · rfl
                  · rfl
                  · rfl
                  refine V_if_eqB (tgt := 68) (Y := mX4_tellCord) (pc := 62) dX4_tellCord_62 (by decide) (fun h_62 => ?_) (fun h_62 => ?_)
                  · refine V_aload_n (Y := mX4_tellCord) (pc := 68) dX4_tellCord_68 rfl ?_
                    apply V_get (Y := mX4_tellCord) (pc := 69) dX4_tellCord_69 fl_X4_36
                    · assumption
                    · rfl
                    refine V_iload_n (Y := mX4_tellCord) (pc := 72) dX4_tellCord_72 rfl ?_
                    apply V_vV (Y := mX4_tellCord) (pc := 73) dX4_tellCord_73 ok_X2_add ov_X2_add ln_X4_67 (c_Row_add (v := a) h.r1)
                    · exact h.r1.obj
                    · rfl
                    · rfl
                    · rfl
                    · rfl
                    · rfl
                    rintro w_73 ⟨g1, k1⟩
                    rw [rAdd, if_pos (by omega)] at g1
                    have h73 := h.upd 1 (by decide) rfl g1 k1
                    have o73 := h73.obj
                    refine V_aload_n (Y := mX4_tellCord) (pc := 76) dX4_tellCord_76 rfl ?_
                    apply V_get (Y := mX4_tellCord) (pc := 77) dX4_tellCord_77 fl_X4_39
                    · assumption
                    · rfl
                    refine V_iload_n (Y := mX4_tellCord) (pc := 80) dX4_tellCord_80 rfl ?_
                    apply V_vV (Y := mX4_tellCord) (pc := 81) dX4_tellCord_81 ok_X2_add ov_X2_add ln_X4_67 (c_Row_add (v := b) h73.r2)
                    · exact h73.r2.obj
                    · rfl
                    · rfl
                    · rfl
                    · rfl
                    · rfl
                    rintro w_81 ⟨g2, k2⟩
                    rw [show va_up rs 1 (rs 1 ++ [a]) 2 = rs 2 from rfl, rAdd, if_pos (by omega)] at g2
                    have h81 := h73.upd 2 (by decide) rfl g2 k2
                    have o81 := h81.obj
                    refine V_aload_n (Y := mX4_tellCord) (pc := 84) dX4_tellCord_84 rfl ?_
                    apply V_get (Y := mX4_tellCord) (pc := 85) dX4_tellCord_85 fl_X4_42
                    · assumption
                    · rfl
                    refine V_iload_n (Y := mX4_tellCord) (pc := 88) dX4_tellCord_88 rfl ?_
                    apply V_vV (Y := mX4_tellCord) (pc := 89) dX4_tellCord_89 ok_X2_add ov_X2_add ln_X4_67 (c_Row_add (v := k) h81.r3)
                    · exact h81.r3.obj
                    · rfl
                    · rfl
                    · rfl
                    · rfl
                    · rfl
                    rintro w_89 ⟨g3, k3⟩
                    rw [show va_up (va_up rs 1 (rs 1 ++ [a])) 2 (rs 2 ++ [b]) 3 = rs 3 from rfl, rAdd, if_pos (by omega)] at g3
                    have h89 := h81.upd 3 (by decide) rfl g3 k3
                    have o89 := h89.obj
                    refine V_aload_n (Y := mX4_tellCord) (pc := 92) dX4_tellCord_92 rfl ?_
                    apply V_get (Y := mX4_tellCord) (pc := 93) dX4_tellCord_93 fl_X4_45
                    · assumption
                    · rfl
                    refine V_iload (Y := mX4_tellCord) (pc := 96) dX4_tellCord_96 rfl ?_
                    apply V_vV (Y := mX4_tellCord) (pc := 98) dX4_tellCord_98 ok_X2_add ov_X2_add ln_X4_67 (c_Row_add (v := v) h89.r4)
                    · exact h89.r4.obj
                    · rfl
                    · rfl
                    · rfl
                    · rfl
                    · rfl
                    rintro w_98 ⟨g4, k4⟩
                    rw [show va_up (va_up (va_up rs 1 (rs 1 ++ [a])) 2 (rs 2 ++ [b])) 3 (rs 3 ++ [k]) 4 = rs 4 from rfl, rAdd, if_pos (by omega)] at g4
                    have h98 := h89.upd 4 (by decide) rfl g4 k4
                    have o98 := h98.obj
                    refine V_aload_n (Y := mX4_tellCord) (pc := 101) dX4_tellCord_101 rfl ?_
                    apply V_get (Y := mX4_tellCord) (pc := 102) dX4_tellCord_102 fl_X4_36
                    · assumption
                    · rfl
                    apply V_vR (Y := mX4_tellCord) (pc := 105) dX4_tellCord_105 ok_X2_size ov_X2_size ln_X4_78 (c_Row_size h98.r1)
                    · exact h98.r1.obj
                    · rfl
                    · rfl
                    · rfl
                    · rfl
                    · rfl
                    refine V_iconst (Y := mX4_tellCord) (pc := 108) dX4_tellCord_108 ?_
                    refine V_isub (Y := mX4_tellCord) (pc := 109) dX4_tellCord_109 ?_
                    refine V_iret (Y := mX4_tellCord) (pc := 110) dX4_tellCord_110 rfl (Nat.le_of_ble_eq_true rfl) (Nat.le_of_ble_eq_true rfl) ?_
                    rw [show fCord (n, now, ca, po, fo, rs) a b k v = (((rs 1).length : Int), (n, now, ca, po, fo, rsCord rs a b k v)) from (if_neg (fun q => q ⟨h_5, h_13, by omega, by omega, by omega, by omega, by omega, by omega⟩)).trans (if_neg (by show ¬ 10 ≤ (rs 1).length; omega))]
                    refine pI_of ⟨?_, h98, ((k1.W ⟨by omega, by omega⟩).trans (k2.W ⟨by omega, by omega⟩)).trans ((k3.W ⟨by omega, by omega⟩).trans (k4.W ⟨by omega, by omega⟩))⟩
                    show ((rs 1 ++ [a]).length : Int) - 1 = ((rs 1).length : Int)
                    rw [List.length_append, List.length_singleton]
                    omega
                  · refine V_bipush (Y := mX4_tellCord) (pc := 65) dX4_tellCord_65 ⟨by decide, by decide⟩ ?_
                    refine V_iret (Y := mX4_tellCord) (pc := 67) dX4_tellCord_67 rfl (Nat.le_of_ble_eq_true rfl) (Nat.le_of_ble_eq_true rfl) ?_
                    rw [show fCord (n, now, ca, po, fo, rs) a b k v = (-4, (n, now, ca, po, fo, rs)) from (if_neg (fun q => q ⟨h_5, h_13, by omega, by omega, by omega, by omega, by omega, by omega⟩)).trans (if_pos (by show 10 ≤ (rs 1).length; omega))]
                    exact pI_of ⟨rfl, h, frW.refl p w⟩
                · refine V_bipush (Y := mX4_tellCord) (pc := 52) dX4_tellCord_52 ⟨by decide, by decide⟩ ?_
                  refine V_iret (Y := mX4_tellCord) (pc := 54) dX4_tellCord_54 rfl (Nat.le_of_ble_eq_true rfl) (Nat.le_of_ble_eq_true rfl) ?_
                  rw [show fCord (n, now, ca, po, fo, rs) a b k v = (-2, (n, now, ca, po, fo, rs)) from if_pos (fun q => by have := q.2.2; omega)]
                  exact pI_of ⟨rfl, h, frW.refl p w⟩
      · refine V_bipush (Y := mX4_tellCord) (pc := 21) dX4_tellCord_21 ⟨by decide, by decide⟩ ?_
        refine V_iret (Y := mX4_tellCord) (pc := 23) dX4_tellCord_23 rfl (Nat.le_of_ble_eq_true rfl) (Nat.le_of_ble_eq_true rfl) ?_
        rw [show fCord (n, now, ca, po, fo, rs) a b k v = (-2, (n, now, ca, po, fo, rs)) from if_pos (fun q => by first | exact h_5 q.1 | exact h_13 q.2.1 | exact q.2.2.1 h_18)]
        exact pI_of ⟨rfl, h, frW.refl p w⟩
set_option maxRecDepth 100000 in
theorem c_remember {nn : Nat} {w : vWd} {p : Nat} {n now : Int} {ca po fo : Nat} {rs : Nat → List Int} (h : WallAt w p (n, now, ca, po, fo, rs)) : Ctr mX4_remember (rm 2) [.ref p] nn w (pV (fun w' => WallAt w' p (n, now, ca, po, fo, va_up rs 8 ((if 20 ≤ (rs 8).length then (rs 8).tail else rs 8) ++ [now])) ∧ frW p w w') nn) := by
  refine Ctr_of (lv := [some (.ref p)]) (by decide +kernel) rfl rfl ?_
  have ho := h.obj
  have hl := h.r8.len
  refine V_aload_n (Y := mX4_remember) (pc := 0) dX4_remember_0 rfl ?_
  apply V_get (Y := mX4_remember) (pc := 1) dX4_remember_1 fl_X4_57
  · assumption
  · rfl
  apply V_vR (Y := mX4_remember) (pc := 4) dX4_remember_4 ok_X2_isFull ov_X2_isFull ln_X4_74 (c_Row_isFull h.r8)
  · exact h.r8.obj
  · rfl
  · rfl
  · rfl
  · rfl
  · rfl
  refine V_if_eqB (tgt := 17) (Y := mX4_remember) (pc := 7) dX4_remember_7 (by decide) (fun h_7 => ?_) (fun h_7 => ?_)
  · refine V_aload_n (Y := mX4_remember) (pc := 17) dX4_remember_17 rfl ?_
    skip
    apply V_get (Y := mX4_remember) (pc := 18) dX4_remember_18 fl_X4_57
    · assumption
    · rfl
    refine V_aload_n (Y := mX4_remember) (pc := 21) dX4_remember_21 rfl ?_
    apply V_get (Y := mX4_remember) (pc := 22) dX4_remember_22 fl_X4_15
    · assumption
    · rfl
    apply V_vV (Y := mX4_remember) (pc := 25) dX4_remember_25 ok_X2_add ov_X2_add ln_X4_67 (c_Row_add (v := now) (by first | exact h14.r8 | exact h.r8))
    · first | exact h14.r8.obj | exact h.r8.obj
    · rfl
    · rfl
    · rfl
    · rfl
    · rfl
    rintro w_25 ⟨g2, k2⟩
    refine V_vret (Y := mX4_remember) (pc := 28) dX4_remember_28 rfl (Nat.le_of_ble_eq_true rfl) (Nat.le_of_ble_eq_true rfl) ?_
    first
      | (have e : (if 20 ≤ (rs 8).length then (rs 8).tail else rs 8) = (rs 8).tail := if_pos (by omega)
         rw [e]
         have g3 : RowAt w_25 (p + 17) 20 ((rs 8).tail ++ [now]) := by
           have e2 : va_up rs 8 (rs 8).tail 8 = (rs 8).tail := rfl
           rw [e2, rAdd, if_pos (by rw [List.length_tail]; omega)] at g2
           exact g2
         have h25 := h14.upd 8 (by decide) rfl g3 k2
         rw [bx_uu] at h25
         exact pV_of ⟨h25, (k1.W ⟨by omega, by omega⟩).trans (k2.W ⟨by omega, by omega⟩)⟩)
      | (have e : (if 20 ≤ (rs 8).length then (rs 8).tail else rs 8) = rs 8 := if_neg (by omega)
         rw [e]
         rw [rAdd, if_pos (by omega)] at g2
         exact pV_of ⟨h.upd 8 (by decide) rfl g2 k2, k2.W ⟨by omega, by omega⟩⟩)
  · refine V_aload_n (Y := mX4_remember) (pc := 10) dX4_remember_10 rfl ?_
    apply V_get (Y := mX4_remember) (pc := 11) dX4_remember_11 fl_X4_57
    · assumption
    · rfl
    apply V_vV (Y := mX4_remember) (pc := 14) dX4_remember_14 ok_X2_dropFirst ov_X2_dropFirst ln_X4_99 (c_Row_dropFirst h.r8)
    · exact h.r8.obj
    · rfl
    · rfl
    · rfl
    · rfl
    · rfl
    rintro w_14 ⟨g1, k1⟩
    have h14 := h.upd 8 (by decide) rfl g1 k1
    have o14 := h14.obj
    refine V_aload_n (Y := mX4_remember) (pc := 17) dX4_remember_17 rfl ?_
    skip
    apply V_get (Y := mX4_remember) (pc := 18) dX4_remember_18 fl_X4_57
    · assumption
    · rfl
    refine V_aload_n (Y := mX4_remember) (pc := 21) dX4_remember_21 rfl ?_
    apply V_get (Y := mX4_remember) (pc := 22) dX4_remember_22 fl_X4_15
    · assumption
    · rfl
    apply V_vV (Y := mX4_remember) (pc := 25) dX4_remember_25 ok_X2_add ov_X2_add ln_X4_67 (c_Row_add (v := now) (by first | exact h14.r8 | exact h.r8))
    · first | exact h14.r8.obj | exact h.r8.obj
    · rfl
    · rfl
    · rfl
    · rfl
    · rfl
    rintro w_25 ⟨g2, k2⟩
    refine V_vret (Y := mX4_remember) (pc := 28) dX4_remember_28 rfl (Nat.le_of_ble_eq_true rfl) (Nat.le_of_ble_eq_true rfl) ?_
    first
      | (have e : (if 20 ≤ (rs 8).length then (rs 8).tail else rs 8) = (rs 8).tail := if_pos (by omega)
         rw [e]
         have g3 : RowAt w_25 (p + 17) 20 ((rs 8).tail ++ [now]) := by
           have e2 : va_up rs 8 (rs 8).tail 8 = (rs 8).tail := rfl
           rw [e2, rAdd, if_pos (by rw [List.length_tail]; omega)] at g2
           exact g2
         have h25 := h14.upd 8 (by decide) rfl g3 k2
         rw [bx_uu] at h25
         exact pV_of ⟨h25, (k1.W ⟨by omega, by omega⟩).trans (k2.W ⟨by omega, by omega⟩)⟩)
      | (have e : (if 20 ≤ (rs 8).length then (rs 8).tail else rs 8) = rs 8 := if_neg (by omega)
         rw [e]
         rw [rAdd, if_pos (by omega)] at g2
         exact pV_of ⟨h.upd 8 (by decide) rfl g2 k2, k2.W ⟨by omega, by omega⟩⟩)
