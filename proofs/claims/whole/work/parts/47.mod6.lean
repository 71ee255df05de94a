/-! ===== DrawerWallModel: counts, the digest, images, the text ===== -/
def MObj (w : vWd) (ty : Int) : Prop := ∃ a0 sp tk vl mn fd sv : Int, w 99 = some (mO 0 ty a0 sp tk vl mn fd sv)
def TxM (w : vWd) (tx : List Int) : Prop := ∃ t : Nat → Int, w 105 = some (arI 200 t) ∧ tx.length ≤ 200 ∧ ∀ k : Int, 0 ≤ k → k < tx.length → t k.toNat = rAt tx k
def BkS (f : Nat → Int) (S : vSt) : Prop := BkOf f S.1 S.2.1 S.2.2.1 S.2.2.2.1 S.2.2.2.2.1 S.2.2.2.2.2
def ImM (w : vWd) (S0 S1 : vSt) (k0 k1 : Int) : Prop := ∃ g h : Nat → Int, w 101 = some (arI 196 g) ∧ w 102 = some (arZ 2 h) ∧ h 0 = k0 ∧ h 1 = k1 ∧ (k0 = 0 ∨ k0 = 1) ∧ (k1 = 0 ∨ k1 = 1) ∧ (k0 = 1 → BkS g S0) ∧ (k1 = 1 → BkS (fun i => g (98 + i)) S1)
def ScM (w : vWd) : Prop := (∃ g, w 103 = some (arI 98 g)) ∧ (∃ g, w 106 = some (arI 250 g)) ∧ (∃ g, w 107 = some (arI 15309 g)) ∧ (∃ g, w 108 = some (arI 2187 g)) ∧ (∃ g, w 109 = some (arZ 2187 g)) ∧ ∃ g, w 110 = some (arI 2187 g)
def MInv (w : vWd) (S S0 S1 : vSt) (k0 k1 : Int) (tx : List Int) (rb rn rf : Int) : Prop := MK w 0 S rb rn rf ∧ MObj w tx.length ∧ TxM w tx ∧ ImM w S0 S1 k0 k1 ∧ ScM w
def frM (w w' : vWd) : Prop := ∀ j, j < 99 → w' j = w j
theorem frM.refl (w : vWd) : frM w w := fun _ _ => rfl
theorem TxM.keep {w w' : vWd} {tx : List Int} (h : TxM w tx) (h1 : w' 105 = w 105) : TxM w' tx := by
  obtain ⟨t, a, b⟩ := h; exact ⟨t, h1.trans a, b⟩
theorem ImM.keep {w w' : vWd} {S0 S1 : vSt} {k0 k1 : Int} (h : ImM w S0 S1 k0 k1) (h1 : w' 101 = w 101) (h2 : w' 102 = w 102) : ImM w' S0 S1 k0 k1 := by
  obtain ⟨g, q, a, b, c⟩ := h; exact ⟨g, q, h1.trans a, h2.trans b, c⟩
theorem ScM.keep {w w' : vWd} (h : ScM w) (hf : ∀ j, j = 103 ∨ (106 ≤ j ∧ j ≤ 110) → w' j = w j) : ScM w' := by
  obtain ⟨⟨a, ha⟩, ⟨b, hb⟩, ⟨c, hc⟩, ⟨d, hd⟩, ⟨e, he⟩, ⟨g, hg⟩⟩ := h
  exact ⟨⟨a, (hf _ (by omega)).trans ha⟩, ⟨b, (hf _ (by omega)).trans hb⟩, ⟨c, (hf _ (by omega)).trans hc⟩, ⟨d, (hf _ (by omega)).trans hd⟩, ⟨e, (hf _ (by omega)).trans he⟩, ⟨g, (hf _ (by omega)).trans hg⟩⟩
theorem MObj.keep {w w' : vWd} {ty : Int} (h : MObj w ty) (h1 : w' 99 = w 99) : MObj w' ty := by
  obtain ⟨a, b, c, d, e, f, g, q⟩ := h; exact ⟨a, b, c, d, e, f, g, h1.trans q⟩
theorem MInv.frB {w w' : vWd} {S S' S0 S1 : vSt} {k0 k1 rb rn rf rb' rn' rf' : Int} {tx : List Int} (h : MInv w S S0 S1 k0 k1 tx rb rn rf) (hK : MK w' 0 S' rb' rn' rf') (hf : frB w w') : MInv w' S' S0 S1 k0 k1 tx rb' rn' rf' ∧ frM w w' :=
  ⟨⟨hK, h.2.1.keep (hf _ (by omega) (by omega)), h.2.2.1.keep (hf _ (by omega) (by omega)), h.2.2.2.1.keep (hf _ (by omega) (by omega)) (hf _ (by omega) (by omega)), h.2.2.2.2.keep (fun j hj => hf j (by omega) (by omega))⟩, fun j hj => hf j (by omega) (by omega)⟩
/-- a call's contract over the whole picture -/
theorem MInv.lift {Y : vMeth} {R : Room} {av : List Value} {nn : Nat} {w : vWd} {S S' S0 S1 : vSt} {k0 k1 rb rn rf z0 : Int} {tx : List Int} (h : MInv w S S0 S1 k0 k1 tx rb rn rf) (hC : Ctr Y R av nn w (pI (fun z w' => z = z0 ∧ MK w' 0 S' (tq 0 (-2) z rb) (tq 0 (-3) z rn) (tq 0 (-4) z rf) ∧ _root_.Jvm.Pilot.CDrawerWallLaw_law_r3136_00b3da.frB w w') nn)) :
    Ctr Y R av nn w (pI (fun z w' => z = z0 ∧ MInv w' S' S0 S1 k0 k1 tx (tl1 (-2) z rb) (tl1 (-3) z rn) (tl1 (-4) z rf) ∧ frM w w') nn) := by
  refine hC.mono ?_
  rintro r n' w' ⟨z, rfl, rfl, hz, hK, hf⟩
  rw [tq_0, tq_0, tq_0] at hK
  have q := h.frB hK hf
  exact ⟨z, rfl, rfl, hz, q.1, q.2⟩
theorem hMx_congr {f g : Nat → Int} {h0 : Int} : ∀ m : Nat, (∀ k, k < m → f k = g k) → hMx f h0 m = hMx g h0 m
  | 0, _ => rfl
  | m + 1, h => by rw [hMx, hMx, hMx_congr m (fun k hk => h k (by omega)), h m (by omega)]
section MOD
variable {nn : Nat} {w : vWd} {n now : Int} {ca po fo : Nat} {rs : Nat → List Int} {qt : Int} {rb rn rf k0 k1 : Int} {S0 S1 : vSt} {tx : List Int}
set_option maxRecDepth 100000 in
theorem cm_countOf {a : Int} (hK : MK w 0 (n, now, ca, po, fo, rs) rb rn rf) (hO : MObj w tx.length) (ha : 0 ≤ a ∧ a ≤ 6) : Ctr mX6_countOf (rm 0) [.ref 99, vI a] nn w (pR (vI (cntOf (n, now, ca, po, fo, rs) tx a)) nn w) := by
  refine Ctr_of (lv := [some (.ref 99), some (vI a)]) (by decide +kernel) rfl rfl ?_
  obtain ⟨a0, sp, tk, vl, mn, fd, sv, ho⟩ := hO
  obtain ⟨-, ⟨f, hb, hB⟩, -⟩ := hK
  have hB : BkOf f n now ca po fo rs := hB
  have e7 : f (7 : Int).toNat = now := hB.1.2.2.2.2.1
  have e8 : f (8 : Int).toNat = (rs 8).length := hB.1.2.2.2.2.2
  refine V_iload_n (Y := mX6_countOf) (pc := 0) dX6_countOf_0 rfl ?_
  refine V_iconst (Y := mX6_countOf) (pc := 1) dX6_countOf_1 ?_
  refine V_icmp_ge (tgt := 14) (Y := mX6_countOf) (pc := 2) dX6_countOf_2 (by decide) ⟨by omega, by omega⟩ ⟨by omega, by omega⟩ (fun h_2 => ?_) (fun h_2 => ?_)
  · refine V_iload_n (Y := mX6_countOf) (pc := 14) dX6_countOf_14 rfl ?_
    refine V_iconst (Y := mX6_countOf) (pc := 15) dX6_countOf_15 ?_
    refine V_icmp_ne (tgt := 26) (Y := mX6_countOf) (pc := 16) dX6_countOf_16 (by decide) ⟨by omega, by omega⟩ ⟨by omega, by omega⟩ (fun h_16 => ?_) (fun h_16 => ?_)
    · refine V_iload_n (Y := mX6_countOf) (pc := 26) dX6_countOf_26 rfl ?_
      refine V_iconst (Y := mX6_countOf) (pc := 27) dX6_countOf_27 ?_
      refine V_icmp_ne (tgt := 41) (Y := mX6_countOf) (pc := 28) dX6_countOf_28 (by decide) ⟨by omega, by omega⟩ ⟨by omega, by omega⟩ (fun h_28 => ?_) (fun h_28 => ?_)
      · refine V_aload_n (Y := mX6_countOf) (pc := 41) dX6_countOf_41 rfl ?_
        apply V_get (Y := mX6_countOf) (pc := 42) dX6_countOf_42 fl_X6_7
        · assumption
        · rfl
        refine V_bipush (Y := mX6_countOf) (pc := 45) dX6_countOf_45 ⟨by decide, by decide⟩ ?_
        apply V_iald (Y := mX6_countOf) (pc := 47) dX6_countOf_47
        · assumption
        · exact ⟨by omega, by omega⟩
        · omega
        rw [e7]
        refine V_iret (Y := mX6_countOf) (pc := 48) dX6_countOf_48 rfl (Nat.le_of_ble_eq_true rfl) (Nat.le_of_ble_eq_true rfl) ?_
        refine pR_I ?_
        first
          | (rcases (show a = 0 ∨ a = 1 ∨ a = 2 ∨ a = 3 by omega) with rfl | rfl | rfl | rfl
             · exact hB.1.1.1
             · exact hB.1.1.2.1
             · exact hB.1.1.2.2.1
             · exact hB.1.1.2.2.2)
          | (have h4 : a = 4 := by omega
             subst h4; rfl)
          | (have h5 : a = 5 := by omega
             subst h5; rfl)
          | (have h6 : a = 6 := by omega
             subst h6; rfl)
      · refine V_aload_n (Y := mX6_countOf) (pc := 31) dX6_countOf_31 rfl ?_
        apply V_get (Y := mX6_countOf) (pc := 32) dX6_countOf_32 fl_X6_7
        · assumption
        · rfl
        refine V_bipush (Y := mX6_countOf) (pc := 35) dX6_countOf_35 ⟨by decide, by decide⟩ ?_
        apply V_iald (Y := mX6_countOf) (pc := 37) dX6_countOf_37
        · assumption
        · exact ⟨by omega, by omega⟩
        · omega
        rw [e8]
        refine V_goto (tgt := 48) (Y := mX6_countOf) (pc := 38) dX6_countOf_38 (by decide) ?_
        refine V_iret (Y := mX6_countOf) (pc := 48) dX6_countOf_48 rfl (Nat.le_of_ble_eq_true rfl) (Nat.le_of_ble_eq_true rfl) ?_
        refine pR_I ?_
        first
          | (rcases (show a = 0 ∨ a = 1 ∨ a = 2 ∨ a = 3 by omega) with rfl | rfl | rfl | rfl
             · exact hB.1.1.1
             · exact hB.1.1.2.1
             · exact hB.1.1.2.2.1
             · exact hB.1.1.2.2.2)
          | (have h4 : a = 4 := by omega
             subst h4; rfl)
          | (have h5 : a = 5 := by omega
             subst h5; rfl)
          | (have h6 : a = 6 := by omega
             subst h6; rfl)
    · refine V_aload_n (Y := mX6_countOf) (pc := 19) dX6_countOf_19 rfl ?_
      apply V_get (Y := mX6_countOf) (pc := 20) dX6_countOf_20 fl_X6_107
      · assumption
      · rfl
      refine V_goto (tgt := 48) (Y := mX6_countOf) (pc := 23) dX6_countOf_23 (by decide) ?_
      refine V_iret (Y := mX6_countOf) (pc := 48) dX6_countOf_48 rfl (Nat.le_of_ble_eq_true rfl) (Nat.le_of_ble_eq_true rfl) ?_
      refine pR_I ?_
      first
        | (rcases (show a = 0 ∨ a = 1 ∨ a = 2 ∨ a = 3 by omega) with rfl | rfl | rfl | rfl
           · exact hB.1.1.1
           · exact hB.1.1.2.1
           · exact hB.1.1.2.2.1
           · exact hB.1.1.2.2.2)
        | (have h4 : a = 4 := by omega
           subst h4; rfl)
        | (have h5 : a = 5 := by omega
           subst h5; rfl)
        | (have h6 : a = 6 := by omega
           subst h6; rfl)
  · refine V_aload_n (Y := mX6_countOf) (pc := 5) dX6_countOf_5 rfl ?_
    apply V_get (Y := mX6_countOf) (pc := 6) dX6_countOf_6 fl_X6_7
    · assumption
    · rfl
    refine V_iload_n (Y := mX6_countOf) (pc := 9) dX6_countOf_9 rfl ?_
    apply V_iald (Y := mX6_countOf) (pc := 10) dX6_countOf_10
    · assumption
    · exact ⟨by omega, by omega⟩
    · omega
    refine V_goto (tgt := 48) (Y := mX6_countOf) (pc := 11) dX6_countOf_11 (by decide) ?_
    refine V_iret (Y := mX6_countOf) (pc := 48) dX6_countOf_48 rfl (Nat.le_of_ble_eq_true rfl) (Nat.le_of_ble_eq_true rfl) ?_
    refine pR_I ?_
    first
      | (rcases (show a = 0 ∨ a = 1 ∨ a = 2 ∨ a = 3 by omega) with rfl | rfl | rfl | rfl
         · exact hB.1.1.1
         · exact hB.1.1.2.1
         · exact hB.1.1.2.2.1
         · exact hB.1.1.2.2.2)
      | (have h4 : a = 4 := by omega
         subst h4; rfl)
      | (have h5 : a = 5 := by omega
         subst h5; rfl)
      | (have h6 : a = 6 := by omega
         subst h6; rfl)
theorem cntM_rng (hG : vGood (n, now, ca, po, fo, rs)) (hl : (rs 1).length ≤ 10 ∧ (rs 5).length ≤ 6 ∧ (rs 6).length ≤ 8 ∧ (rs 8).length ≤ 20 ∧ tx.length ≤ 200) (a : Int) : 0 ≤ cntOf (n, now, ca, po, fo, rs) tx a ∧ cntOf (n, now, ca, po, fo, rs) tx a ≤ 20000 := by
  obtain ⟨hn, hnow, -⟩ := hG.un
  have hp := p3_le n.toNat (by omega)
  unfold cntOf
  split
  · show 0 ≤ n ∧ n ≤ 20000; omega
  · split
    · show 0 ≤ ((rs 1).length : Int) ∧ ((rs 1).length : Int) ≤ 20000; omega
    · split
      · show 0 ≤ ((rs 5).length : Int) ∧ ((rs 5).length : Int) ≤ 20000; omega
      · split
        · show 0 ≤ ((rs 6).length : Int) ∧ ((rs 6).length : Int) ≤ 20000; omega
        · split
          · show 0 ≤ (tx.length : Int) ∧ (tx.length : Int) ≤ 20000; omega
          · split
            · show 0 ≤ ((rs 8).length : Int) ∧ ((rs 8).length : Int) ≤ 20000; omega
            · show 0 ≤ now ∧ now ≤ 20000; omega
set_option maxRecDepth 100000 in
theorem mx_count {a : Int} (h : MInv w (n, now, ca, po, fo, rs) S0 S1 k0 k1 tx rb rn rf) (hG : vGood (n, now, ca, po, fo, rs)) (ha : inR a) : Ctr mX6_count (rm 2) [.ref 99, vI a] nn w (pI (fun z w' => z = fCount (n, now, ca, po, fo, rs) tx a ∧ MInv w' (n, now, ca, po, fo, rs) S0 S1 k0 k1 tx (tl1 (-2) z rb) (tl1 (-3) z rn) (tl1 (-4) z rf) ∧ frM w w') nn) := by
  refine MInv.lift h ?_
  refine Ctr_of (lv := [some (.ref 99), some (vI a)]) (by decide +kernel) rfl rfl ?_
  have h0 := h
  obtain ⟨hK, hO, hT, hI, hS⟩ := h
  have hK0 := hK
  have hO0 := hO
  obtain ⟨a0, sp, tk, vl, mn, fd, sv, ho⟩ := hO
  obtain ⟨-, ⟨f, hb0, hB⟩, hr, hq⟩ := hK
  have hB : BkOf f n now ca po fo rs := hB
  have hl := hB.2.1
  obtain ⟨t, ht1, ht2, -⟩ := hT
  have hrg := cntM_rng (tx := tx) hG ⟨hl.1, hl.2.1, hl.2.2.1, hl.2.2.2.1, ht2⟩ a
  refine V_iload_n (Y := mX6_count) (pc := 0) dX6_count_0 rfl ?_
  refine V_i2l (Y := mX6_count) (pc := 1) dX6_count_1 ha ?_
  refine V_lconst (Y := mX6_count) (pc := 2) dX6_count_2 ?_
  refine V_ldc2 (z := (6 : Int)) (Y := mX6_count) (pc := 3) dX6_count_3 cl_X6_101 (by decide) ?_
  apply V_sR (Y := mX6_count) (pc := 6) dX6_count_6 ok_X6_in os_X6_in ln_X6_56 (cm_in (a := a) (b := 0) (c := 6) ha ⟨by omega, by omega⟩ ⟨by omega, by omega⟩)
  · rfl
  · rfl
  · rfl
  refine V_if_eqB (tgt := 20) (Y := mX6_count) (pc := 9) dX6_count_9 (by decide) (fun h_9 => ?_) (fun h_9 => ?_)
  · refine V_aload_n (Y := mX6_count) (pc := 20) dX6_count_20 rfl ?_
    apply V_vI (Y := mX6_count) (pc := 21) dX6_count_21 ok_X6_bad ov_X6_bad ln_X6_79 (cm_bad ho hr hq)
    · assumption
    · rfl
    · rfl
    · rfl
    · rfl
    · rfl
    rintro z_9 w_9 ⟨hz2, g1, f1⟩
    subst hz2
    refine V_iret (Y := mX6_count) (pc := 24) dX6_count_24 rfl (Nat.le_of_ble_eq_true rfl) (Nat.le_of_ble_eq_true rfl) ?_
    first
      | (rw [show fCount (n, now, ca, po, fo, rs) tx a = cntOf (n, now, ca, po, fo, rs) tx a from if_pos h_9]
         exact pI_of ⟨rfl, hK0.tq0 (by omega), frB.refl w⟩)
      | (rw [show fCount (n, now, ca, po, fo, rs) tx a = -2 from if_neg h_9]
         exact pI_of ⟨rfl, ⟨⟨_, _, _, _, _, _, _, _, (f1 _ (by omega)).trans ho⟩, ⟨f, (f1 _ (by omega)).trans hb0, hB⟩, g1, hq⟩, fun j a b => f1 j b⟩)
  · refine V_aload_n (Y := mX6_count) (pc := 12) dX6_count_12 rfl ?_
    refine V_iload_n (Y := mX6_count) (pc := 13) dX6_count_13 rfl ?_
    apply V_vR (Y := mX6_count) (pc := 14) dX6_count_14 ok_X6_countOf ov_X6_countOf ln_X6_232 (cm_countOf (a := a) (tx := tx) hK0 hO0 h_9)
    · assumption
    · rfl
    · rfl
    · rfl
    · rfl
    · rfl
    refine V_goto (tgt := 24) (Y := mX6_count) (pc := 17) dX6_count_17 (by decide) ?_
    refine V_iret (Y := mX6_count) (pc := 24) dX6_count_24 rfl (Nat.le_of_ble_eq_true rfl) (Nat.le_of_ble_eq_true rfl) ?_
    first
      | (rw [show fCount (n, now, ca, po, fo, rs) tx a = cntOf (n, now, ca, po, fo, rs) tx a from if_pos h_9]
         exact pI_of ⟨rfl, hK0.tq0 (by omega), frB.refl w⟩)
      | (rw [show fCount (n, now, ca, po, fo, rs) tx a = -2 from if_neg h_9]
         exact pI_of ⟨rfl, ⟨⟨_, _, _, _, _, _, _, _, (f1 _ (by omega)).trans ho⟩, ⟨f, (f1 _ (by omega)).trans hb0, hB⟩, g1, hq⟩, fun j a b => f1 j b⟩)
set_option maxRecDepth 100000 in
theorem lpm_mixed {h0 at0 N : Int} {f : Nat → Int} (ho : ∃ qt ty a0 sp tk vl mn fd sv : Int, w 99 = some (mO qt ty a0 sp tk vl mn fd sv)) (hb : w 100 = some (arI 98 f)) (hN : 0 ≤ at0 ∧ at0 + N ≤ 98) (hr : ∀ k : Int, 0 ≤ k → k < N → inR (f (at0 + k).toNat)) : ∀ (m : Nat) (i : Int), 0 ≤ i → i + m = N →
    V mX6_mixed (rm 0) (pR (vJ (hMx (fun k => f (at0 + k).toNat) h0 N.toNat)) nn w) 6 [some (.ref 99), some (vJ h0), none, some (vI at0), some (vI N), some (vJ (hMx (fun k => f (at0 + k).toNat) h0 i.toNat)), none, some (vI i)] [] nn w 0 0 := by
  obtain ⟨qt, ty, a0, sp, tk, vl, mn, fd, sv, ho⟩ := ho
  intro m
  induction m with
  | zero =>
    intro i hi him
    refine V_iload (Y := mX6_mixed) (pc := 6) dX6_mixed_6 rfl ?_
    refine V_iload (Y := mX6_mixed) (pc := 8) dX6_mixed_8 rfl ?_
    refine V_icmp_ge (tgt := 38) (Y := mX6_mixed) (pc := 10) dX6_mixed_10 (by decide) ⟨by omega, by omega⟩ ⟨by omega, by omega⟩ (fun h_10 => ?_) (fun h_10 => absurd h_10 (by omega))
    refine V_lload (Y := mX6_mixed) (pc := 38) dX6_mixed_38 rfl ?_
    refine V_lret (Y := mX6_mixed) (pc := 40) dX6_mixed_40 rfl (Nat.le_of_ble_eq_true rfl) (Nat.le_of_ble_eq_true rfl) ?_
    exact ⟨by rw [show i = N by omega], rfl, rfl⟩
  | succ m ih =>
    intro i hi him
    have k := ih (i + 1) (by omega) (by omega)
    rw [show (i + 1).toNat = i.toNat + 1 by omega, hMx] at k
    have hri := hr i hi (by omega)
    refine V_iload (Y := mX6_mixed) (pc := 6) dX6_mixed_6 rfl ?_
    refine V_iload (Y := mX6_mixed) (pc := 8) dX6_mixed_8 rfl ?_
    refine V_icmp_ge (tgt := 38) (Y := mX6_mixed) (pc := 10) dX6_mixed_10 (by decide) ⟨by omega, by omega⟩ ⟨by omega, by omega⟩ (fun h_10 => absurd h_10 (by omega)) (fun h_10 => ?_)
    refine V_ldc2 (z := (31 : Int)) (Y := mX6_mixed) (pc := 13) dX6_mixed_13 cl_X6_235 (by decide) ?_
    refine V_lload (Y := mX6_mixed) (pc := 16) dX6_mixed_16 rfl ?_
    refine V_lmul (Y := mX6_mixed) (pc := 18) dX6_mixed_18 ?_
    refine V_aload_n (Y := mX6_mixed) (pc := 19) dX6_mixed_19 rfl ?_
    apply V_get (Y := mX6_mixed) (pc := 20) dX6_mixed_20 fl_X6_7
    · assumption
    · rfl
    refine V_iload_n (Y := mX6_mixed) (pc := 23) dX6_mixed_23 rfl ?_
    refine V_iload (Y := mX6_mixed) (pc := 24) dX6_mixed_24 rfl ?_
    refine V_iadd (Y := mX6_mixed) (pc := 26) dX6_mixed_26 ?_
    apply V_iald (Y := mX6_mixed) (pc := 27) dX6_mixed_27
    · assumption
    · exact ⟨by omega, by omega⟩
    · omega
    refine V_i2l (Y := mX6_mixed) (pc := 28) dX6_mixed_28 hri ?_
    refine V_ladd (Y := mX6_mixed) (pc := 29) dX6_mixed_29 ?_
    refine V_lstore (Y := mX6_mixed) (pc := 30) dX6_mixed_30 rfl (by decide) ?_
    refine V_iinc (Y := mX6_mixed) (pc := 32) dX6_mixed_32 rfl rfl ?_
    refine V_goto (tgt := 6) (Y := mX6_mixed) (pc := 35) dX6_mixed_35 (by decide) ?_
    rw [show ((i.toNat : Nat) : Int) = i by omega] at k
    exact k
set_option maxRecDepth 100000 in
theorem cm_mixed {h0 at0 N : Int} {f : Nat → Int} (ho : ∃ qt ty a0 sp tk vl mn fd sv : Int, w 99 = some (mO qt ty a0 sp tk vl mn fd sv)) (hb : w 100 = some (arI 98 f)) (hN : 0 ≤ N) (hN2 : 0 ≤ at0 ∧ at0 + N ≤ 98) (hr : ∀ k : Int, 0 ≤ k → k < N → inR (f (at0 + k).toNat)) : Ctr mX6_mixed (rm 0) [.ref 99, vJ h0, vI at0, vI N] nn w (pR (vJ (hMx (fun k => f (at0 + k).toNat) h0 N.toNat)) nn w) := by
  refine Ctr_of (lv := [some (.ref 99), some (vJ h0), none, some (vI at0), some (vI N), none, none, none]) (by decide +kernel) rfl rfl ?_
  refine V_lload_n (Y := mX6_mixed) (pc := 0) dX6_mixed_0 rfl ?_
  refine V_lstore (Y := mX6_mixed) (pc := 1) dX6_mixed_1 rfl (by decide) ?_
  refine V_iconst (Y := mX6_mixed) (pc := 3) dX6_mixed_3 ?_
  refine V_istore (Y := mX6_mixed) (pc := 4) dX6_mixed_4 rfl ?_
  exact lpm_mixed ho hb hN2 hr N.toNat 0 (by omega) (by omega)
end MOD
