/-! ===== Walk: rows to a goal; what it learns ===== -/
def bkF (F : bF) (s : Int) : Nat → Int
  | 0 => s
  | m + 1 => rAt F.2.1 (bkF F s m)
def AOK (F : bF) : Prop := ∀ j : Int, -1 ≤ rAt F.2.1 j ∧ rAt F.2.1 j ≤ 3000
set_option maxRecDepth 100000 in
theorem lp_pulledAt {nn : Nat} {w : vWd} {q : Nat} {lr dn sn tf tt tb s i : Int} {st : List Int} {F : bF} (h : WalkAt w q lr dn sn tf tt tb st F) (hA : AOK F) (hs : inR s) (hi : inR i) : ∀ (m : Nat) (k : Int), -1 ≤ k → k ≤ 3000 → -1 ≤ i → (k - i).toNat < m → ∀ (c : Nat), inR (bkF F s c) →
    V mX3_pulledAt (rm 1) (pR (vI (rAt F.2.2.1 (bkF F s (c + (k - i).toNat)))) nn w) 14 [some (.ref q), some (vI s), some (vI i), some (vI (bkF F s c)), some (vI k)] [] nn w 0 0 := by
  intro m
  induction m with
  | zero => intro k h1 h2 h3 h4; omega
  | succ m ih =>
    intro k hk hk2 hi2 hm c hc
    have ho := h.obj
    have hb := hA (bkF F s c)
    refine V_iload (Y := mX3_pulledAt) (pc := 14) dX3_pulledAt_14 rfl ?_
    refine V_iload_n (Y := mX3_pulledAt) (pc := 16) dX3_pulledAt_16 rfl ?_
    refine V_icmp_le (tgt := 35) (Y := mX3_pulledAt) (pc := 17) dX3_pulledAt_17 (by decide) ⟨by omega, by omega⟩ ⟨by omega, by omega⟩ (fun h_17 => ?_) (fun h_17 => ?_)
    · refine V_aload_n (Y := mX3_pulledAt) (pc := 35) dX3_pulledAt_35 rfl ?_
      apply V_get (Y := mX3_pulledAt) (pc := 36) dX3_pulledAt_36 fl_X3_26
      · assumption
      · rfl
      refine V_iload_n (Y := mX3_pulledAt) (pc := 39) dX3_pulledAt_39 rfl ?_
      apply V_vR (Y := mX3_pulledAt) (pc := 40) dX3_pulledAt_40 ok_X2_at ov_X2_at ln_X3_74 (c_Row_at (i := bkF F s c) h.r3 hc)
      · exact h.r3.obj
      · rfl
      · rfl
      · rfl
      · rfl
      · rfl
      refine V_iret (Y := mX3_pulledAt) (pc := 43) dX3_pulledAt_43 rfl (Nat.le_of_ble_eq_true rfl) (Nat.le_of_ble_eq_true rfl) ?_
      exact pR_I (by rw [show (k - i).toNat = 0 by omega]; rfl)
    · refine V_aload_n (Y := mX3_pulledAt) (pc := 20) dX3_pulledAt_20 rfl ?_
      apply V_get (Y := mX3_pulledAt) (pc := 21) dX3_pulledAt_21 fl_X3_23
      · assumption
      · rfl
      refine V_iload_n (Y := mX3_pulledAt) (pc := 24) dX3_pulledAt_24 rfl ?_
      apply V_vR (Y := mX3_pulledAt) (pc := 25) dX3_pulledAt_25 ok_X2_at ov_X2_at ln_X3_74 (c_Row_at (i := bkF F s c) h.r2 hc)
      · exact h.r2.obj
      · rfl
      · rfl
      · rfl
      · rfl
      · rfl
      refine V_istore_n (Y := mX3_pulledAt) (pc := 28) dX3_pulledAt_28 rfl ?_
      refine V_iinc (Y := mX3_pulledAt) (pc := 29) dX3_pulledAt_29 rfl rfl ?_
      refine V_goto (tgt := 14) (Y := mX3_pulledAt) (pc := 32) dX3_pulledAt_32 (by decide) ?_
      have k2 := ih (k - 1) (by omega) (by omega) hi2 (by omega) (c + 1) ⟨by show _ ≤ rAt F.2.1 (bkF F s c); omega, by show rAt F.2.1 (bkF F s c) ≤ _; omega⟩
      rw [show c + 1 + (k - 1 - i).toNat = c + (k - i).toNat by omega] at k2
      exact k2
set_option maxRecDepth 100000 in
theorem c_pulledAt {nn : Nat} {w : vWd} {q : Nat} {lr dn sn tf tt tb s i : Int} {st : List Int} {F : bF} (h : WalkAt w q lr dn sn tf tt tb st F) (hA : AOK F) (hs : inR s) (hi : inR i) (hi2 : 0 ≤ i) (hf : 0 ≤ rAt F.1 s ∧ rAt F.1 s ≤ 3000) : Ctr mX3_pulledAt (rm 1) [.ref q, vI s, vI i] nn w (pR (vI (rAt F.2.2.1 (bkF F s (rAt F.1 s - 1 - i).toNat))) nn w) := by
  refine Ctr_of (lv := [some (.ref q), some (vI s), some (vI i), none, none]) (by decide +kernel) rfl rfl ?_
  have ho := h.obj
  have k := lp_pulledAt (nn := nn) h hA hs hi ((rAt F.1 s - 1 - i).toNat + 1) (rAt F.1 s - 1) (by omega) (by omega) (by omega) (by omega) 0 hs
  rw [Nat.zero_add] at k
  refine V_iload_n (Y := mX3_pulledAt) (pc := 0) dX3_pulledAt_0 rfl ?_
  refine V_istore_n (Y := mX3_pulledAt) (pc := 1) dX3_pulledAt_1 rfl ?_
  refine V_aload_n (Y := mX3_pulledAt) (pc := 2) dX3_pulledAt_2 rfl ?_
  apply V_get (Y := mX3_pulledAt) (pc := 3) dX3_pulledAt_3 fl_X3_20
  · assumption
  · rfl
  refine V_iload_n (Y := mX3_pulledAt) (pc := 6) dX3_pulledAt_6 rfl ?_
  apply V_vR (Y := mX3_pulledAt) (pc := 7) dX3_pulledAt_7 ok_X2_at ov_X2_at ln_X3_74 (c_Row_at (i := s) h.r1 hs)
  · exact h.r1.obj
  · rfl
  · rfl
  · rfl
  · rfl
  · rfl
  refine V_iconst (Y := mX3_pulledAt) (pc := 10) dX3_pulledAt_10 ?_
  refine V_isub (Y := mX3_pulledAt) (pc := 11) dX3_pulledAt_11 ?_
  refine V_istore (Y := mX3_pulledAt) (pc := 12) dX3_pulledAt_12 rfl ?_
  exact k
/-- the first found with a goal, and the tables then -/
noncomputable def fFirst (sp : Int → Int → Int) (n : Nat) (G : Int → Prop) : Nat → Nat → bF → Int × bF
  | 0, _, F => (-1, F)
  | m + 1, k, F => if k < F.2.2.2.length then @ite (Int × bF) (G (rAt F.2.2.2 (k : Int))) (Classical.propDecidable _) (rAt F.2.2.2 (k : Int), F) (fFirst sp n G m (k + 1) (fGrowTo sp F (rAt F.2.2.2 (k : Int)) n)) else (-1, F)
theorem fFirst_e {sp : Int → Int → Int} {n : Nat} {G : Int → Prop} {m k : Nat} {F : bF} (h : ¬ k < F.2.2.2.length) : fFirst sp n G (m + 1) k F = (-1, F) := if_neg h
theorem fFirst_t {sp : Int → Int → Int} {n : Nat} {G : Int → Prop} {m k : Nat} {F : bF} (h : k < F.2.2.2.length) (hg : G (rAt F.2.2.2 (k : Int))) : fFirst sp n G (m + 1) k F = (rAt F.2.2.2 (k : Int), F) := (if_pos h).trans (if_pos hg)
theorem fFirst_f {sp : Int → Int → Int} {n : Nat} {G : Int → Prop} {m k : Nat} {F : bF} (h : k < F.2.2.2.length) (hg : ¬ G (rAt F.2.2.2 (k : Int))) : fFirst sp n G (m + 1) k F = fFirst sp n G m (k + 1) (fGrowTo sp F (rAt F.2.2.2 (k : Int)) n) := (if_pos h).trans (if_neg hg)
def goalP (a b : Nat) (s : Int) : Prop := (drB s 2 7 &&& a) = a ∧ (drB s 0 7 &&& b) = b
theorem and_lt128 {x y : Nat} (h : x < 128) : (x &&& y) < 128 := Nat.lt_of_le_of_lt Nat.and_le_left h
set_option maxRecDepth 100000 in
theorem lp_firstWith {nn : Nat} {w : vWd} {q a b : Nat} {lr n tf tt tb s0 : Int} {st : List Int} (hn : 0 ≤ n ∧ n ≤ 7) (ht : tbOK n st) (htd : tdOK n tf tt tb) (ha : a < 128) (hb : b < 128) {G : Int × bF} : ∀ (m : Nat) (i : Int) (w' : vWd) (F : bF), 0 ≤ i → (p3 n.toNat - i).toNat < m → i ≤ F.2.2.2.length → frK q w w' → FOK (p3 n.toNat) F → WalkAt w' q lr n (p3 n.toNat) tf tt tb st F → fFirst (stpF st tf tt tb) n.toNat (goalP a b) m i.toNat F = G →
    V mX3_firstWith (rm 4) (pI (fun z w' => z = G.1 ∧ WalkAt w' q lr n (p3 n.toNat) tf tt tb st G.2 ∧ frK q w w') nn) 10 [some (.ref q), some (vI s0), some (vI (a : Int)), some (vI (b : Int)), some (vI i), none, none] [] nn w' 0 0 := by
  intro m
  induction m with
  | zero => intro i w' F h1 h2; omega
  | succ m ih =>
    intro i w' F hi hm2 hi2 hfr hF h hG
    have ho := h.obj
    have hp := p3_le n.toNat (by omega)
    have hp0 := p3_pos n.toNat
    have hl := hF.len
    refine V_iload (Y := mX3_firstWith) (pc := 10) dX3_firstWith_10 rfl ?_
    refine V_aload_n (Y := mX3_firstWith) (pc := 12) dX3_firstWith_12 rfl ?_
    apply V_get (Y := mX3_firstWith) (pc := 13) dX3_firstWith_13 fl_X3_29
    · assumption
    · rfl
    apply V_vR (Y := mX3_firstWith) (pc := 16) dX3_firstWith_16 ok_X2_size ov_X2_size ln_X3_91 (c_Row_size h.r4)
    · exact h.r4.obj
    · rfl
    · rfl
    · rfl
    · rfl
    · rfl
    refine V_icmp_ge (tgt := 93) (Y := mX3_firstWith) (pc := 19) dX3_firstWith_19 (by decide) ⟨by omega, by omega⟩ ⟨by omega, by omega⟩ (fun h_19 => ?_) (fun h_19 => ?_)
    · refine V_iconst (Y := mX3_firstWith) (pc := 93) dX3_firstWith_93 ?_
      refine V_iret (Y := mX3_firstWith) (pc := 94) dX3_firstWith_94 rfl (Nat.le_of_ble_eq_true rfl) (Nat.le_of_ble_eq_true rfl) ?_
      rw [fFirst_e (by omega)] at hG
      subst hG
      exact pI_of ⟨rfl, h, hfr⟩
    · refine V_iload (Y := mX3_firstWith) (pc := 22) dX3_firstWith_22 rfl ?_
      refine V_aload_n (Y := mX3_firstWith) (pc := 24) dX3_firstWith_24 rfl ?_
      apply V_get (Y := mX3_firstWith) (pc := 25) dX3_firstWith_25 fl_X3_40
      · assumption
      · rfl
      refine V_icmp_ge (tgt := 93) (Y := mX3_firstWith) (pc := 28) dX3_firstWith_28 (by decide) ⟨by omega, by omega⟩ ⟨by omega, by omega⟩ (fun h_28 => absurd h_28 (by omega)) (fun h_28 => ?_)
      have hmem := rAt_mem (l := F.2.2.2) hi (by omega)
      have hr := hF.2.2.2.2.2.2.1 _ hmem
      have hx := fGrowTo_ok hF (sp := stpF st tf tt tb) (fun d h1 h2 => stpF_ok hn.1 ht htd _ d ⟨hr.1, hr.2.1⟩ ⟨h1, h2⟩) hmem n.toNat (by omega)
      have q1 := and_lt128 (y := a) (drB_lt (rAt F.2.2.2 i) 2 7)
      have q2 := and_lt128 (y := b) (drB_lt (rAt F.2.2.2 i) 0 7)
      refine V_aload_n (Y := mX3_firstWith) (pc := 31) dX3_firstWith_31 rfl ?_
      apply V_get (Y := mX3_firstWith) (pc := 32) dX3_firstWith_32 fl_X3_29
      · assumption
      · rfl
      refine V_iload (Y := mX3_firstWith) (pc := 35) dX3_firstWith_35 rfl ?_
      apply V_vR (Y := mX3_firstWith) (pc := 37) dX3_firstWith_37 ok_X2_at ov_X2_at ln_X3_74 (c_Row_at (i := i) h.r4 ⟨by omega, by omega⟩)
      · exact h.r4.obj
      · rfl
      · rfl
      · rfl
      · rfl
      · rfl
      refine V_istore (Y := mX3_firstWith) (pc := 40) dX3_firstWith_40 rfl ?_
      refine V_iload (Y := mX3_firstWith) (pc := 42) dX3_firstWith_42 rfl ?_
      refine V_iconst (Y := mX3_firstWith) (pc := 44) dX3_firstWith_44 ?_
      apply V_sR (Y := mX3_firstWith) (pc := 45) dX3_firstWith_45 ok_X5_drawersOutBy os_X5_drawersOutBy ln_X3_105 (c_drawersOut (s := rAt F.2.2.2 i) (v := 2) hr.1 ⟨by omega, by omega⟩ ⟨by omega, by omega⟩)
      · rfl
      · rfl
      · rfl
      refine V_iload_n (Y := mX3_firstWith) (pc := 48) dX3_firstWith_48 rfl ?_
      refine V_iand (Y := mX3_firstWith) (pc := 49) dX3_firstWith_49 (iI_and _ _) ?_
      refine V_iload_n (Y := mX3_firstWith) (pc := 50) dX3_firstWith_50 rfl ?_
      refine V_icmp_ne (tgt := 58) (Y := mX3_firstWith) (pc := 51) dX3_firstWith_51 (by decide) ⟨by omega, by omega⟩ ⟨by omega, by omega⟩ (fun h_51 => ?_) (fun h_51 => ?_)
      · refine V_iconst (Y := mX3_firstWith) (pc := 58) dX3_firstWith_58 ?_
        refine V_istore (Y := mX3_firstWith) (pc := 59) dX3_firstWith_59 rfl ?_
        refine V_iload (Y := mX3_firstWith) (pc := 61) dX3_firstWith_61 rfl ?_
        refine V_if_eq (tgt := 81) (Y := mX3_firstWith) (pc := 63) dX3_firstWith_63 (by decide) ⟨by omega, by omega⟩ (fun h_63 => ?_) (fun h_63 => ?_)
        · refine V_aload_n (Y := mX3_firstWith) (pc := 81) dX3_firstWith_81 rfl ?_
          refine V_iload (Y := mX3_firstWith) (pc := 82) dX3_firstWith_82 rfl ?_
          apply V_vV (Y := mX3_firstWith) (pc := 84) dX3_firstWith_84 ok_X3_grow ov_X3_grow ln_X3_95 (c_grow (s := rAt F.2.2.2 i) h hn ht htd hF ⟨hr.1, hr.2.1⟩ hmem)
          · assumption
          · rfl
          · rfl
          · rfl
          · rfl
          · rfl
          rintro w_84 ⟨g1, k1⟩
          refine V_iinc (Y := mX3_firstWith) (pc := 87) dX3_firstWith_87 rfl rfl ?_
          refine V_goto (tgt := 10) (Y := mX3_firstWith) (pc := 90) dX3_firstWith_90 (by decide) ?_
          refine V_drop 5 (V_drop 6 ?_)
          first
            | (exfalso; omega)
            | (rw [fFirst_f (by omega) (by rw [show ((i.toNat : Nat) : Int) = i by omega]; exact fun z => by first | exact h_51 (by rw [z.1]) | exact h_75 (by rw [z.2])), show ((i.toNat : Nat) : Int) = i by omega, show i.toNat + 1 = (i + 1).toNat by omega] at hG
               exact ih (i + 1) w_84 _ (by omega) (by omega) (by have := fGrowTo_len (stpF st tf tt tb) F (rAt F.2.2.2 i) n.toNat; omega) (hfr.trans k1) hx.1 g1 hG)
        · refine V_iload (Y := mX3_firstWith) (pc := 66) dX3_firstWith_66 rfl ?_
          refine V_iconst (Y := mX3_firstWith) (pc := 68) dX3_firstWith_68 ?_
          apply V_sR (Y := mX3_firstWith) (pc := 69) dX3_firstWith_69 ok_X5_drawersOutBy os_X5_drawersOutBy ln_X3_105 (c_drawersOut (s := rAt F.2.2.2 i) (v := 0) hr.1 ⟨by omega, by omega⟩ ⟨by omega, by omega⟩)
          · rfl
          · rfl
          · rfl
          refine V_iload_n (Y := mX3_firstWith) (pc := 72) dX3_firstWith_72 rfl ?_
          refine V_iand (Y := mX3_firstWith) (pc := 73) dX3_firstWith_73 (iI_and _ _) ?_
          refine V_iload_n (Y := mX3_firstWith) (pc := 74) dX3_firstWith_74 rfl ?_
          refine V_icmp_ne (tgt := 81) (Y := mX3_firstWith) (pc := 75) dX3_firstWith_75 (by decide) ⟨by omega, by omega⟩ ⟨by omega, by omega⟩ (fun h_75 => ?_) (fun h_75 => ?_)
          · refine V_aload_n (Y := mX3_firstWith) (pc := 81) dX3_firstWith_81 rfl ?_
            refine V_iload (Y := mX3_firstWith) (pc := 82) dX3_firstWith_82 rfl ?_
            apply V_vV (Y := mX3_firstWith) (pc := 84) dX3_firstWith_84 ok_X3_grow ov_X3_grow ln_X3_95 (c_grow (s := rAt F.2.2.2 i) h hn ht htd hF ⟨hr.1, hr.2.1⟩ hmem)
            · assumption
            · rfl
            · rfl
            · rfl
            · rfl
            · rfl
            rintro w_84 ⟨g1, k1⟩
            refine V_iinc (Y := mX3_firstWith) (pc := 87) dX3_firstWith_87 rfl rfl ?_
            refine V_goto (tgt := 10) (Y := mX3_firstWith) (pc := 90) dX3_firstWith_90 (by decide) ?_
            refine V_drop 5 (V_drop 6 ?_)
            first
              | (exfalso; omega)
              | (rw [fFirst_f (by omega) (by rw [show ((i.toNat : Nat) : Int) = i by omega]; exact fun z => by first | exact h_51 (by rw [z.1]) | exact h_75 (by rw [z.2])), show ((i.toNat : Nat) : Int) = i by omega, show i.toNat + 1 = (i + 1).toNat by omega] at hG
                 exact ih (i + 1) w_84 _ (by omega) (by omega) (by have := fGrowTo_len (stpF st tf tt tb) F (rAt F.2.2.2 i) n.toNat; omega) (hfr.trans k1) hx.1 g1 hG)
          · refine V_iload (Y := mX3_firstWith) (pc := 78) dX3_firstWith_78 rfl ?_
            refine V_iret (Y := mX3_firstWith) (pc := 80) dX3_firstWith_80 rfl (Nat.le_of_ble_eq_true rfl) (Nat.le_of_ble_eq_true rfl) ?_
            first
              | (exfalso; omega)
              | (rw [fFirst_t (by omega) (by rw [show ((i.toNat : Nat) : Int) = i by omega]; exact ⟨by omega, by omega⟩), show ((i.toNat : Nat) : Int) = i by omega] at hG
                 subst hG
                 exact pI_of ⟨rfl, h, hfr⟩)
      · refine V_iconst (Y := mX3_firstWith) (pc := 54) dX3_firstWith_54 ?_
        refine V_goto (tgt := 59) (Y := mX3_firstWith) (pc := 55) dX3_firstWith_55 (by decide) ?_
        refine V_istore (Y := mX3_firstWith) (pc := 59) dX3_firstWith_59 rfl ?_
        refine V_iload (Y := mX3_firstWith) (pc := 61) dX3_firstWith_61 rfl ?_
        refine V_if_eq (tgt := 81) (Y := mX3_firstWith) (pc := 63) dX3_firstWith_63 (by decide) ⟨by omega, by omega⟩ (fun h_63 => ?_) (fun h_63 => ?_)
        · refine V_aload_n (Y := mX3_firstWith) (pc := 81) dX3_firstWith_81 rfl ?_
          refine V_iload (Y := mX3_firstWith) (pc := 82) dX3_firstWith_82 rfl ?_
          apply V_vV (Y := mX3_firstWith) (pc := 84) dX3_firstWith_84 ok_X3_grow ov_X3_grow ln_X3_95 (c_grow (s := rAt F.2.2.2 i) h hn ht htd hF ⟨hr.1, hr.2.1⟩ hmem)
          · assumption
          · rfl
          · rfl
          · rfl
          · rfl
          · rfl
          rintro w_84 ⟨g1, k1⟩
          refine V_iinc (Y := mX3_firstWith) (pc := 87) dX3_firstWith_87 rfl rfl ?_
          refine V_goto (tgt := 10) (Y := mX3_firstWith) (pc := 90) dX3_firstWith_90 (by decide) ?_
          refine V_drop 5 (V_drop 6 ?_)
          first
            | (exfalso; omega)
            | (rw [fFirst_f (by omega) (by rw [show ((i.toNat : Nat) : Int) = i by omega]; exact fun z => by first | exact h_51 (by rw [z.1]) | exact h_75 (by rw [z.2])), show ((i.toNat : Nat) : Int) = i by omega, show i.toNat + 1 = (i + 1).toNat by omega] at hG
               exact ih (i + 1) w_84 _ (by omega) (by omega) (by have := fGrowTo_len (stpF st tf tt tb) F (rAt F.2.2.2 i) n.toNat; omega) (hfr.trans k1) hx.1 g1 hG)
        · refine V_iload (Y := mX3_firstWith) (pc := 66) dX3_firstWith_66 rfl ?_
          refine V_iconst (Y := mX3_firstWith) (pc := 68) dX3_firstWith_68 ?_
          apply V_sR (Y := mX3_firstWith) (pc := 69) dX3_firstWith_69 ok_X5_drawersOutBy os_X5_drawersOutBy ln_X3_105 (c_drawersOut (s := rAt F.2.2.2 i) (v := 0) hr.1 ⟨by omega, by omega⟩ ⟨by omega, by omega⟩)
          · rfl
          · rfl
          · rfl
          refine V_iload_n (Y := mX3_firstWith) (pc := 72) dX3_firstWith_72 rfl ?_
          refine V_iand (Y := mX3_firstWith) (pc := 73) dX3_firstWith_73 (iI_and _ _) ?_
          refine V_iload_n (Y := mX3_firstWith) (pc := 74) dX3_firstWith_74 rfl ?_
          refine V_icmp_ne (tgt := 81) (Y := mX3_firstWith) (pc := 75) dX3_firstWith_75 (by decide) ⟨by omega, by omega⟩ ⟨by omega, by omega⟩ (fun h_75 => ?_) (fun h_75 => ?_)
          · refine V_aload_n (Y := mX3_firstWith) (pc := 81) dX3_firstWith_81 rfl ?_
            refine V_iload (Y := mX3_firstWith) (pc := 82) dX3_firstWith_82 rfl ?_
            apply V_vV (Y := mX3_firstWith) (pc := 84) dX3_firstWith_84 ok_X3_grow ov_X3_grow ln_X3_95 (c_grow (s := rAt F.2.2.2 i) h hn ht htd hF ⟨hr.1, hr.2.1⟩ hmem)
            · assumption
            · rfl
            · rfl
            · rfl
            · rfl
            · rfl
            rintro w_84 ⟨g1, k1⟩
            refine V_iinc (Y := mX3_firstWith) (pc := 87) dX3_firstWith_87 rfl rfl ?_
            refine V_goto (tgt := 10) (Y := mX3_firstWith) (pc := 90) dX3_firstWith_90 (by decide) ?_
            refine V_drop 5 (V_drop 6 ?_)
            first
              | (exfalso; omega)
              | (rw [fFirst_f (by omega) (by rw [show ((i.toNat : Nat) : Int) = i by omega]; exact fun z => by first | exact h_51 (by rw [z.1]) | exact h_75 (by rw [z.2])), show ((i.toNat : Nat) : Int) = i by omega, show i.toNat + 1 = (i + 1).toNat by omega] at hG
                 exact ih (i + 1) w_84 _ (by omega) (by omega) (by have := fGrowTo_len (stpF st tf tt tb) F (rAt F.2.2.2 i) n.toNat; omega) (hfr.trans k1) hx.1 g1 hG)
          · refine V_iload (Y := mX3_firstWith) (pc := 78) dX3_firstWith_78 rfl ?_
            refine V_iret (Y := mX3_firstWith) (pc := 80) dX3_firstWith_80 rfl (Nat.le_of_ble_eq_true rfl) (Nat.le_of_ble_eq_true rfl) ?_
            first
              | (exfalso; omega)
              | (rw [fFirst_t (by omega) (by rw [show ((i.toNat : Nat) : Int) = i by omega]; exact ⟨by omega, by omega⟩), show ((i.toNat : Nat) : Int) = i by omega] at hG
                 subst hG
                 exact pI_of ⟨rfl, h, hfr⟩)
set_option maxRecDepth 100000 in
theorem c_firstWith {nn : Nat} {w : vWd} {q a b : Nat} {lr n tf tt tb s : Int} {st : List Int} {F : bF} (h : WalkAt w q lr n (p3 n.toNat) tf tt tb st F) (hn : 0 ≤ n ∧ n ≤ 7) (ht : tbOK n st) (htd : tdOK n tf tt tb) (ha : a < 128) (hb : b < 128) (hF : FOK (p3 n.toNat) F) (hs : isS n s) : Ctr mX3_firstWith (rm 4) [.ref q, vI s, vI (a : Int), vI (b : Int)] nn w (pI (fun z w' => z = (fFirst (stpF st tf tt tb) n.toNat (goalP a b) 2188 0 (fMeet F s (-1) (-1))).1 ∧ WalkAt w' q lr n (p3 n.toNat) tf tt tb st (fFirst (stpF st tf tt tb) n.toNat (goalP a b) 2188 0 (fMeet F s (-1) (-1))).2 ∧ frK q w w') nn) := by
  refine Ctr_of (lv := [some (.ref q), some (vI s), some (vI (a : Int)), some (vI (b : Int)), none, none, none]) (by decide +kernel) rfl rfl ?_
  have ho := h.obj
  have hp := p3_le n.toNat (by omega)
  refine V_aload_n (Y := mX3_firstWith) (pc := 0) dX3_firstWith_0 rfl ?_
  refine V_iload_n (Y := mX3_firstWith) (pc := 1) dX3_firstWith_1 rfl ?_
  refine V_iconst (Y := mX3_firstWith) (pc := 2) dX3_firstWith_2 ?_
  refine V_iconst (Y := mX3_firstWith) (pc := 3) dX3_firstWith_3 ?_
  apply V_vV (Y := mX3_firstWith) (pc := 4) dX3_firstWith_4 ok_X3_meet ov_X3_meet ln_X3_87 (c_meet (s := s) (f := -1) (d := -1) h hF hs ⟨by omega, by omega⟩)
  · assumption
  · rfl
  · rfl
  · rfl
  · rfl
  · rfl
  rintro w_4 ⟨g1, k1⟩
  refine V_iconst (Y := mX3_firstWith) (pc := 7) dX3_firstWith_7 ?_
  refine V_istore (Y := mX3_firstWith) (pc := 8) dX3_firstWith_8 rfl ?_
  exact lp_firstWith hn ht htd ha hb 2188 0 w_4 _ (by omega) (by omega) (by omega) k1 (hF.meet hs (Or.inl rfl)) g1 rfl
/-! what it learns -/
noncomputable def fBar (P : Int → Prop) (l : List Int) : Nat → List Int
  | 0 => l
  | m + 1 => @ite (List Int) (P (m : Int)) (Classical.propDecidable _) (rSet (fBar P l m) (m : Int) (-2)) (fBar P l m)
theorem fBar_t {P : Int → Prop} {l : List Int} {m : Nat} (h : P (m : Int)) : fBar P l (m + 1) = rSet (fBar P l m) (m : Int) (-2) := if_pos h
theorem fBar_f {P : Int → Prop} {l : List Int} {m : Nat} (h : ¬ P (m : Int)) : fBar P l (m + 1) = fBar P l m := if_neg h
set_option maxRecDepth 100000 in
theorem lp_barDangers {nn : Nat} {w : vWd} {p q : Nat} {lr dn tf tt tb n now : Int} {st : List Int} {F : bF} {ca po fo : Nat} {rs : Nat → List Int} (hn : 0 ≤ n ∧ n ≤ 7) (hpo : po < 128) (hfo : fo < 128) (hgd : gdOK n rs) (hpq : p + 19 ≤ q) : ∀ (m : Nat) (i : Int) (w' : vWd), 0 ≤ i → i ≤ p3 n.toNat → (p3 n.toNat - i).toNat < m → frK q w w' → WallAt w' p (n, now, ca, po, fo, rs) → WalkAt w' q lr dn (p3 n.toNat) tf tt tb st (fBar (fun s => dgBits n po fo rs s ≠ 0) F.1 i.toNat, F.2.1, F.2.2.1, F.2.2.2) →
    V mX3_barDangers (rm 3) (pV (fun w' => WalkAt w' q lr dn (p3 n.toNat) tf tt tb st (fBar (fun s => dgBits n po fo rs s ≠ 0) F.1 (p3 n.toNat).toNat, F.2.1, F.2.2.1, F.2.2.2) ∧ frK q w w') nn) 2 [some (.ref q), some (.ref p), some (vI i)] [] nn w' 0 0 := by
  intro m
  induction m with
  | zero => intro i w' h1 h2 h3; omega
  | succ m ih =>
    intro i w' hi hi2 hm hfr hw h
    have ho := h.obj
    have how := hw.obj
    have hp := p3_le n.toNat (by omega)
    refine V_iload_n (Y := mX3_barDangers) (pc := 2) dX3_barDangers_2 rfl ?_
    refine V_aload_n (Y := mX3_barDangers) (pc := 3) dX3_barDangers_3 rfl ?_
    apply V_get (Y := mX3_barDangers) (pc := 4) dX3_barDangers_4 fl_X3_40
    · assumption
    · rfl
    refine V_icmp_ge (tgt := 34) (Y := mX3_barDangers) (pc := 7) dX3_barDangers_7 (by decide) ⟨by omega, by omega⟩ ⟨by omega, by omega⟩ (fun h_7 => ?_) (fun h_7 => ?_)
    · refine V_vret (Y := mX3_barDangers) (pc := 34) dX3_barDangers_34 rfl (Nat.le_of_ble_eq_true rfl) (Nat.le_of_ble_eq_true rfl) ?_
      rw [show i = p3 n.toNat by omega] at h
      exact pV_of ⟨h, hfr⟩
    · refine V_aload_n (Y := mX3_barDangers) (pc := 10) dX3_barDangers_10 rfl ?_
      refine V_iload_n (Y := mX3_barDangers) (pc := 11) dX3_barDangers_11 rfl ?_
      apply V_vR (Y := mX3_barDangers) (pc := 12) dX3_barDangers_12 ok_X4_isDanger ov_X4_isDanger ln_X3_83 (c_isDanger (s := i) hw hn hpo hfo hgd ⟨by omega, by omega⟩)
      · assumption
      · rfl
      · rfl
      · rfl
      · rfl
      · rfl
      refine V_if_eqB (tgt := 28) (Y := mX3_barDangers) (pc := 15) dX3_barDangers_15 (by decide) (fun h_15 => ?_) (fun h_15 => ?_)
      · refine V_iinc (Y := mX3_barDangers) (pc := 28) dX3_barDangers_28 rfl rfl ?_
        refine V_goto (tgt := 2) (Y := mX3_barDangers) (pc := 31) dX3_barDangers_31 (by decide) ?_
        first
          | (refine ih (i + 1) w_25 (by omega) (by omega) (by omega) (hfr.trans (k1.K ⟨by omega, by omega⟩)) (hw.frK (q := q) (k1.K ⟨by omega, by omega⟩) (by omega)) ?_
             have e : fBar (fun s => dgBits n po fo rs s ≠ 0) F.1 (i + 1).toNat = rSet (fBar (fun s => dgBits n po fo rs s ≠ 0) F.1 i.toNat) i (-2) := by
               rw [show (i + 1).toNat = i.toNat + 1 by omega, fBar_t (by rw [show ((i.toNat : Nat) : Int) = i by omega]; exact h_15), show ((i.toNat : Nat) : Int) = i by omega]
             rw [e]; exact h25)
          | (refine ih (i + 1) w' (by omega) (by omega) (by omega) hfr hw ?_
             have e : fBar (fun s => dgBits n po fo rs s ≠ 0) F.1 (i + 1).toNat = fBar (fun s => dgBits n po fo rs s ≠ 0) F.1 i.toNat := by
               rw [show (i + 1).toNat = i.toNat + 1 by omega, fBar_f (by rw [show ((i.toNat : Nat) : Int) = i by omega]; exact h_15)]
             rw [e]; exact h)
      · refine V_aload_n (Y := mX3_barDangers) (pc := 18) dX3_barDangers_18 rfl ?_
        apply V_get (Y := mX3_barDangers) (pc := 19) dX3_barDangers_19 fl_X3_20
        · assumption
        · rfl
        refine V_iload_n (Y := mX3_barDangers) (pc := 22) dX3_barDangers_22 rfl ?_
        refine V_bipush (Y := mX3_barDangers) (pc := 23) dX3_barDangers_23 ⟨by decide, by decide⟩ ?_
        apply V_vV (Y := mX3_barDangers) (pc := 25) dX3_barDangers_25 ok_X2_set ov_X2_set ln_X3_71 (c_Row_set (i := i) (v := -2) h.r1 ⟨by omega, by omega⟩)
        · exact h.r1.obj
        · rfl
        · rfl
        · rfl
        · rfl
        · rfl
        rintro w_25 ⟨g1, k1⟩
        have h25 := h.row (F' := (rSet (fBar (fun s => dgBits n po fo rs s ≠ 0) F.1 i.toNat) i (-2), F.2.1, F.2.2.1, F.2.2.2)) 1 (by decide) rfl g1 (fun j hj hne => by rcases (show j = 0 ∨ j = 2 ∨ j = 3 ∨ j = 4 by omega) with rfl | rfl | rfl | rfl <;> rfl) k1
        refine V_iinc (Y := mX3_barDangers) (pc := 28) dX3_barDangers_28 rfl rfl ?_
        refine V_goto (tgt := 2) (Y := mX3_barDangers) (pc := 31) dX3_barDangers_31 (by decide) ?_
        first
          | (refine ih (i + 1) w_25 (by omega) (by omega) (by omega) (hfr.trans (k1.K ⟨by omega, by omega⟩)) (hw.frK (q := q) (k1.K ⟨by omega, by omega⟩) (by omega)) ?_
             have e : fBar (fun s => dgBits n po fo rs s ≠ 0) F.1 (i + 1).toNat = rSet (fBar (fun s => dgBits n po fo rs s ≠ 0) F.1 i.toNat) i (-2) := by
               rw [show (i + 1).toNat = i.toNat + 1 by omega, fBar_t (by rw [show ((i.toNat : Nat) : Int) = i by omega]; exact h_15), show ((i.toNat : Nat) : Int) = i by omega]
             rw [e]; exact h25)
          | (refine ih (i + 1) w' (by omega) (by omega) (by omega) hfr hw ?_
             have e : fBar (fun s => dgBits n po fo rs s ≠ 0) F.1 (i + 1).toNat = fBar (fun s => dgBits n po fo rs s ≠ 0) F.1 i.toNat := by
               rw [show (i + 1).toNat = i.toNat + 1 by omega, fBar_f (by rw [show ((i.toNat : Nat) : Int) = i by omega]; exact h_15)]
             rw [e]; exact h)
set_option maxRecDepth 100000 in
theorem c_barDangers {nn : Nat} {w : vWd} {p q : Nat} {lr dn tf tt tb n now : Int} {st : List Int} {F : bF} {ca po fo : Nat} {rs : Nat → List Int} (h : WalkAt w q lr dn (p3 n.toNat) tf tt tb st F) (hw : WallAt w p (n, now, ca, po, fo, rs)) (hn : 0 ≤ n ∧ n ≤ 7) (hpo : po < 128) (hfo : fo < 128) (hgd : gdOK n rs) (hpq : p + 19 ≤ q) : Ctr mX3_barDangers (rm 3) [.ref q, .ref p] nn w (pV (fun w' => WalkAt w' q lr dn (p3 n.toNat) tf tt tb st (fBar (fun s => dgBits n po fo rs s ≠ 0) F.1 (p3 n.toNat).toNat, F.2.1, F.2.2.1, F.2.2.2) ∧ frK q w w') nn) := by
  refine Ctr_of (lv := [some (.ref q), some (.ref p), none]) (by decide +kernel) rfl rfl ?_
  have hp := p3_pos n.toNat
  refine V_iconst (Y := mX3_barDangers) (pc := 0) dX3_barDangers_0 ?_
  refine V_istore_n (Y := mX3_barDangers) (pc := 1) dX3_barDangers_1 rfl ?_
  exact lp_barDangers hn hpo hfo hgd hpq ((p3 n.toNat).toNat + 1) 0 w (by omega) (by omega) (by omega) (frK.refl q w) hw h
def fLearn (g : Int → Int) (d : Int) (st : List Int) : Nat → List Int
  | 0 => st
  | m + 1 => rSet (fLearn g d st m) (d * 2187 + (m : Int)) (g (m : Int))
set_option maxRecDepth 100000 in
theorem lp_learnDrawer {nn : Nat} {w : vWd} {p q : Nat} {lr dn tf tt tb n now d : Int} {x : Int32} {st : List Int} {F : bF} {ca po fo : Nat} {rs : Nat → List Int} (hn : 0 ≤ n ∧ n ≤ 7) (hcv : cvOK n rs) (hc : ca < 128) (hd : isD n d) (hpq : p + 19 ≤ q) : ∀ (m : Nat) (i : Int) (w' : vWd), 0 ≤ i → i ≤ p3 n.toNat → (p3 n.toNat - i).toNat < m → frK q w w' → WallAt w' p (n, now, ca, po, fo, rs) → WalkAt w' q lr dn (p3 n.toNat) tf tt tb (fLearn (fun s => aft ca rs s d x) d st i.toNat) F →
    V mX3_learnDrawer (rm 4) (pV (fun w' => WalkAt w' q lr dn (p3 n.toNat) tf tt tb (fLearn (fun s => aft ca rs s d x) d st (p3 n.toNat).toNat) F ∧ frK q w w') nn) 3 [some (.ref q), some (.ref p), some (vI d), some (.int x), some (vI i)] [] nn w' 0 0 := by
  intro m
  induction m with
  | zero => intro i w' h1 h2 h3; omega
  | succ m ih =>
    intro i w' hi hi2 hm hfr hw h
    have ho := h.obj
    have how := hw.obj
    have hp := p3_le n.toNat (by omega)
    refine V_iload (Y := mX3_learnDrawer) (pc := 3) dX3_learnDrawer_3 rfl ?_
    refine V_aload_n (Y := mX3_learnDrawer) (pc := 5) dX3_learnDrawer_5 rfl ?_
    apply V_get (Y := mX3_learnDrawer) (pc := 6) dX3_learnDrawer_6 fl_X3_40
    · assumption
    · rfl
    refine V_icmp_ge (tgt := 41) (Y := mX3_learnDrawer) (pc := 9) dX3_learnDrawer_9 (by decide) ⟨by omega, by omega⟩ ⟨by omega, by omega⟩ (fun h_9 => ?_) (fun h_9 => ?_)
    · refine V_vret (Y := mX3_learnDrawer) (pc := 41) dX3_learnDrawer_41 rfl (Nat.le_of_ble_eq_true rfl) (Nat.le_of_ble_eq_true rfl) ?_
      rw [show i = p3 n.toNat by omega] at h
      exact pV_of ⟨h, hfr⟩
    · refine V_aload_n (Y := mX3_learnDrawer) (pc := 12) dX3_learnDrawer_12 rfl ?_
      apply V_get (Y := mX3_learnDrawer) (pc := 13) dX3_learnDrawer_13 fl_X3_14
      · assumption
      · rfl
      refine V_iload_n (Y := mX3_learnDrawer) (pc := 16) dX3_learnDrawer_16 rfl ?_
      refine V_sipush (Y := mX3_learnDrawer) (pc := 17) dX3_learnDrawer_17 ⟨by decide, by decide⟩ ?_
      refine V_imul (Y := mX3_learnDrawer) (pc := 20) dX3_learnDrawer_20 ?_
      refine V_iload (Y := mX3_learnDrawer) (pc := 21) dX3_learnDrawer_21 rfl ?_
      refine V_iadd (Y := mX3_learnDrawer) (pc := 23) dX3_learnDrawer_23 ?_
      refine V_aload_n (Y := mX3_learnDrawer) (pc := 24) dX3_learnDrawer_24 rfl ?_
      refine V_iload (Y := mX3_learnDrawer) (pc := 25) dX3_learnDrawer_25 rfl ?_
      refine V_iload_n (Y := mX3_learnDrawer) (pc := 27) dX3_learnDrawer_27 rfl ?_
      refine V_iload_n (Y := mX3_learnDrawer) (pc := 28) dX3_learnDrawer_28 rfl ?_
      apply V_vR (Y := mX3_learnDrawer) (pc := 29) dX3_learnDrawer_29 ok_X4_after ov_X4_after ln_X3_67 (c_after (s := i) (d := d) (x := x) hw hn hcv hc ⟨by omega, by omega⟩ hd)
      · assumption
      · rfl
      · rfl
      · rfl
      · rfl
      · rfl
      apply V_vV (Y := mX3_learnDrawer) (pc := 32) dX3_learnDrawer_32 ok_X2_set ov_X2_set ln_X3_71 (c_Row_set (i := d * 2187 + i) (v := aft ca rs i d x) h.r0 ⟨by omega, by omega⟩)
      · exact h.r0.obj
      · rfl
      · rfl
      · rfl
      · rfl
      · rfl
      rintro w_32 ⟨g1, k1⟩
      have h32 := h.row (F' := F) (st' := rSet (fLearn (fun s => aft ca rs s d x) d st i.toNat) (d * 2187 + i) (aft ca rs i d x)) 0 (by decide) rfl g1 (fun j hj hne => by rcases (show j = 1 ∨ j = 2 ∨ j = 3 ∨ j = 4 by omega) with rfl | rfl | rfl | rfl <;> rfl) k1
      refine V_iinc (Y := mX3_learnDrawer) (pc := 35) dX3_learnDrawer_35 rfl rfl ?_
      refine V_goto (tgt := 3) (Y := mX3_learnDrawer) (pc := 38) dX3_learnDrawer_38 (by decide) ?_
      refine ih (i + 1) w_32 (by omega) (by omega) (by omega) (hfr.trans (k1.K ⟨by omega, by omega⟩)) (hw.frK (q := q) (k1.K ⟨by omega, by omega⟩) (by omega)) ?_
      rw [show (i + 1).toNat = i.toNat + 1 by omega, fLearn, show ((i.toNat : Nat) : Int) = i by omega]
      exact h32
set_option maxRecDepth 100000 in
theorem c_learnDrawer {nn : Nat} {w : vWd} {p q : Nat} {lr dn tf tt tb n now d : Int} {x : Int32} {st : List Int} {F : bF} {ca po fo : Nat} {rs : Nat → List Int} (h : WalkAt w q lr dn (p3 n.toNat) tf tt tb st F) (hw : WallAt w p (n, now, ca, po, fo, rs)) (hn : 0 ≤ n ∧ n ≤ 7) (hcv : cvOK n rs) (hc : ca < 128) (hd : isD n d) (hpq : p + 19 ≤ q) : Ctr mX3_learnDrawer (rm 4) [.ref q, .ref p, vI d, .int x] nn w (pV (fun w' => WalkAt w' q lr dn (p3 n.toNat) tf tt tb (fLearn (fun s => aft ca rs s d x) d st (p3 n.toNat).toNat) F ∧ frK q w w') nn) := by
  refine Ctr_of (lv := [some (.ref q), some (.ref p), some (vI d), some (.int x), none]) (by decide +kernel) rfl rfl ?_
  have hp := p3_pos n.toNat
  refine V_iconst (Y := mX3_learnDrawer) (pc := 0) dX3_learnDrawer_0 ?_
  refine V_istore (Y := mX3_learnDrawer) (pc := 1) dX3_learnDrawer_1 rfl ?_
  exact lp_learnDrawer hn hcv hc hd hpq ((p3 n.toNat).toNat + 1) 0 w (by omega) (by omega) (by omega) (frK.refl q w) hw h
theorem fLearn_len (g : Int → Int) (d : Int) (st : List Int) : ∀ m, (fLearn g d st m).length = st.length
  | 0 => rfl
  | m + 1 => by rw [fLearn, rSet_len, fLearn_len g d st m]
theorem fLearn_at {g : Int → Int} {d : Int} {st : List Int} (hl : st.length = 15309) (hd : 0 ≤ d ∧ d < 7) (j : Int) : ∀ m : Nat, m ≤ 2187 → rAt (fLearn g d st m) j = if d * 2187 ≤ j ∧ j < d * 2187 + m then g (j - d * 2187) else rAt st j
  | 0, _ => by rw [fLearn, if_neg (by omega)]
  | m + 1, hm => by
    rw [fLearn, rAt_set (by omega) (by rw [fLearn_len]; omega), fLearn_at hl hd j m (by omega)]
    by_cases h : j = d * 2187 + m
    · subst h
      rw [if_pos rfl, if_pos (by omega)]
      congr 1
      omega
    · rw [if_neg h]
      by_cases h2 : d * 2187 ≤ j ∧ j < d * 2187 + m
      · rw [if_pos h2, if_pos (by omega)]
      · rw [if_neg h2, if_neg (by omega)]
def tbIs (n : Int) (ca : Nat) (rs : Nat → List Int) (st : List Int) : Prop := ∀ s d : Int, isS n s → isD n d → tbl st s d = aft ca rs s d (iI (-1))
theorem tbIs.ok {n : Int} {ca : Nat} {rs : Nat → List Int} {st : List Int} (h : tbIs n ca rs st) (hcv : cvOK n rs) : tbOK n st := fun s d hs hd => by rw [h s d hs hd]; exact aft_rng ca hcv _ hs hd
set_option maxRecDepth 100000 in
theorem lp_learn {nn : Nat} {w : vWd} {p q : Nat} {tf tt tb n now : Int} {F : bF} {ca po fo : Nat} {rs : Nat → List Int} (hn : 0 ≤ n ∧ n ≤ 7) (hcv : cvOK n rs) (hc : ca < 128) (hpq : p + 19 ≤ q) : ∀ (m : Nat) (i : Int) (w' : vWd) (st : List Int), 0 ≤ i → i ≤ n → (n - i).toNat < m → frK q w w' → st.length = 15309 → WallAt w' p (n, now, ca, po, fo, rs) → WalkAt w' q 1 n (p3 n.toNat) tf tt tb st F → (∀ s d : Int, isS n s → 0 ≤ d → d < i → tbl st s d = aft ca rs s d (iI (-1))) →
    V mX3_learn (rm 5) (pV (fun w' => ∃ st, WalkAt w' q 1 n (p3 n.toNat) tf tt tb st F ∧ st.length = 15309 ∧ tbIs n ca rs st ∧ frK q w w') nn) 34 [some (.ref q), some (.ref p), some (vI i)] [] nn w' 0 0 := by
  intro m
  induction m with
  | zero => intro i w' st h1 h2 h3; omega
  | succ m ih =>
    intro i w' st hi hi2 hm hfr hlen hw h ht
    have ho := h.obj
    have how := hw.obj
    have hp := p3_le n.toNat (by omega)
    refine V_iload_n (Y := mX3_learn) (pc := 34) dX3_learn_34 rfl ?_
    refine V_aload_n (Y := mX3_learn) (pc := 35) dX3_learn_35 rfl ?_
    apply V_get (Y := mX3_learn) (pc := 36) dX3_learn_36 fl_X3_36
    · assumption
    · rfl
    refine V_icmp_ge (tgt := 55) (Y := mX3_learn) (pc := 39) dX3_learn_39 (by decide) ⟨by omega, by omega⟩ ⟨by omega, by omega⟩ (fun h_39 => ?_) (fun h_39 => ?_)
    · refine V_vret (Y := mX3_learn) (pc := 55) dX3_learn_55 rfl (Nat.le_of_ble_eq_true rfl) (Nat.le_of_ble_eq_true rfl) ?_
      rw [show i = n by omega] at ht
      exact pV_of ⟨st, h, hlen, fun s d hs hd => ht s d hs hd.1 hd.2, hfr⟩
    · refine V_aload_n (Y := mX3_learn) (pc := 42) dX3_learn_42 rfl ?_
      refine V_aload_n (Y := mX3_learn) (pc := 43) dX3_learn_43 rfl ?_
      refine V_iload_n (Y := mX3_learn) (pc := 44) dX3_learn_44 rfl ?_
      refine V_iconst (Y := mX3_learn) (pc := 45) dX3_learn_45 ?_
      apply V_vV (Y := mX3_learn) (pc := 46) dX3_learn_46 ok_X3_learnDrawer ov_X3_learnDrawer ln_X3_63 (c_learnDrawer (d := i) (x := iI (-1)) h hw hn hcv hc ⟨by omega, by omega⟩ hpq)
      · assumption
      · rfl
      · rfl
      · rfl
      · rfl
      · rfl
      rintro w_46 ⟨g1, k1⟩
      refine V_iinc (Y := mX3_learn) (pc := 49) dX3_learn_49 rfl rfl ?_
      refine V_goto (tgt := 34) (Y := mX3_learn) (pc := 52) dX3_learn_52 (by decide) ?_
      refine ih (i + 1) w_46 _ (by omega) (by omega) (by omega) (hfr.trans k1) (by rw [fLearn_len]; exact hlen) (hw.frK k1 (by omega)) g1 (fun s d hs h1 h2 => ?_)
      have hp0 := p3_pos n.toNat
      unfold tbl
      rw [fLearn_at hlen ⟨by omega, by omega⟩ _ _ (by omega)]
      by_cases hd : d = i
      · subst hd
        rw [if_pos (by have := hs.1; have := hs.2; omega)]
        congr 1
        omega
      · rw [if_neg (by have := hs.1; have := hs.2; omega)]
        exact ht s d hs h1 (by omega)
set_option maxRecDepth 100000 in
theorem c_learn {nn : Nat} {w : vWd} {p q : Nat} {lr dn sn tf tt tb n now : Int} {st : List Int} {F : bF} {ca po fo : Nat} {rs : Nat → List Int} (h : WalkAt w q lr dn sn tf tt tb st F) (hw : WallAt w p (n, now, ca, po, fo, rs)) (hn : 0 ≤ n ∧ n ≤ 7) (hcv : cvOK n rs) (hc : ca < 128) (hpq : p + 19 ≤ q) (hlr : lr = 0 ∨ (lr = 1 ∧ dn = n ∧ sn = p3 n.toNat ∧ tbIs n ca rs st)) (hlen : st.length = 15309) : Ctr mX3_learn (rm 5) [.ref q, .ref p] nn w (pV (fun w' => ∃ st, WalkAt w' q 1 n (p3 n.toNat) tf tt tb st F ∧ st.length = 15309 ∧ tbIs n ca rs st ∧ frK q w w') nn) := by
  refine Ctr_of (lv := [some (.ref q), some (.ref p), none]) (by decide +kernel) rfl rfl ?_
  have ho := h.obj
  have how := hw.obj
  refine V_aload_n (Y := mX3_learn) (pc := 0) dX3_learn_0 rfl ?_
  apply V_get (Y := mX3_learn) (pc := 1) dX3_learn_1 fl_X3_32
  · assumption
  · rfl
  refine V_if_eq (tgt := 8) (Y := mX3_learn) (pc := 4) dX3_learn_4 (by decide) ⟨by omega, by omega⟩ (fun h_4 => ?_) (fun h_4 => ?_)
  · refine V_aload_n (Y := mX3_learn) (pc := 8) dX3_learn_8 rfl ?_
    refine V_iconst (Y := mX3_learn) (pc := 9) dX3_learn_9 ?_
    apply V_putzW (Y := mX3_learn) (pc := 10) dX3_learn_10 fl_X3_32
    · assumption
    · first | exact Or.inl rfl | exact Or.inr rfl
    · exact Nat.le_of_ble_eq_true rfl
    intro w_10 h_10 f_10
    simp only [List.set_cons_zero, List.set_cons_succ] at h_10
    have h10 := h.fld h_10 f_10
    have w10 := hw.frK (q := q) (w' := w_10) (fun j hj => f_10 j (by omega)) (by omega)
    have o10 := w10.obj
    refine V_aload_n (Y := mX3_learn) (pc := 13) dX3_learn_13 rfl ?_
    refine V_aload_n (Y := mX3_learn) (pc := 14) dX3_learn_14 rfl ?_
    apply V_get (Y := mX3_learn) (pc := 15) dX3_learn_15 fl_X3_56
    · assumption
    · rfl
    apply V_putiW (Y := mX3_learn) (pc := 18) dX3_learn_18 fl_X3_36
    · assumption
    · exact Nat.le_of_ble_eq_true rfl
    intro w_18 h_18 f_18
    simp only [List.set_cons_zero, List.set_cons_succ] at h_18
    have h18 := h10.fld h_18 f_18
    have w18 := w10.frK (q := q) (w' := w_18) (fun j hj => f_18 j (by omega)) (by omega)
    have o18 := w18.obj
    refine V_aload_n (Y := mX3_learn) (pc := 21) dX3_learn_21 rfl ?_
    refine V_aload_n (Y := mX3_learn) (pc := 22) dX3_learn_22 rfl ?_
    apply V_get (Y := mX3_learn) (pc := 23) dX3_learn_23 fl_X3_56
    · assumption
    · rfl
    apply V_sR (Y := mX3_learn) (pc := 26) dX3_learn_26 ok_X5_power os_X5_power ln_X3_59 (c_power (d := n) hn)
    · rfl
    · rfl
    · rfl
    apply V_putiW (Y := mX3_learn) (pc := 29) dX3_learn_29 fl_X3_40
    · assumption
    · exact Nat.le_of_ble_eq_true rfl
    intro w_29 h_29 f_29
    simp only [List.set_cons_zero, List.set_cons_succ] at h_29
    have h29 := h18.fld h_29 f_29
    have w29 := w18.frK (q := q) (w' := w_29) (fun j hj => f_29 j (by omega)) (by omega)
    refine V_iconst (Y := mX3_learn) (pc := 32) dX3_learn_32 ?_
    refine V_istore_n (Y := mX3_learn) (pc := 33) dX3_learn_33 rfl ?_
    exact lp_learn hn hcv hc hpq (n.toNat + 1) 0 w_29 st (by omega) (by omega) (by omega) (fun j hj => (f_29 j (by omega)).trans ((f_18 j (by omega)).trans (f_10 j (by omega)))) hlen w29 h29 (fun s d hs h1 h2 => by omega)
  · refine V_vret (Y := mX3_learn) (pc := 7) dX3_learn_7 rfl (Nat.le_of_ble_eq_true rfl) (Nat.le_of_ble_eq_true rfl) ?_
    rcases hlr with h0 | ⟨h1, h2, h3, h4⟩
    · exact absurd h0 h_4
    · subst h1; subst h2; subst h3
      exact pV_of ⟨st, h, hlen, h4, frK.refl q w⟩
/-! two of Integer's own, on few bits -/
theorem ntz_x : ∀ a, a < 128 → ∃ x r : Int, (iI ((a : Nat) : Int) ^^^ iI (-1)) &&& iI (((a : Nat) : Int) - 1) = iI x ∧ ((a = 0 ∧ x = -1 ∧ r = 32) ∨ (∃ k : Nat, k < 7 ∧ r = (k : Int) ∧ x = ((2 ^ k - 1 : Nat) : Int) ∧ a.testBit k = true ∧ ∀ j, j < k → a.testBit j = false)) := by
  intro a ha
  have key : ∀ a, a < 128 → (a = 0 ∧ (iI ((a : Nat) : Int) ^^^ iI (-1)) &&& iI (((a : Nat) : Int) - 1) = iI (-1)) ∨ ∃ k, k < 7 ∧ (iI ((a : Nat) : Int) ^^^ iI (-1)) &&& iI (((a : Nat) : Int) - 1) = iI ((2 ^ k - 1 : Nat) : Int) ∧ a.testBit k = true ∧ ∀ j, j < k → a.testBit j = false := by decide +kernel
  rcases key a ha with ⟨h1, h2⟩ | ⟨k, hk, h1, h2, h3⟩
  · exact ⟨-1, 32, h2, Or.inl ⟨h1, rfl, rfl⟩⟩
  · exact ⟨_, (k : Int), h1, Or.inr ⟨k, hk, rfl, rfl, h2, h3⟩⟩
/-- the least drawer of a set; 32 of none -/
def isNtz (a : Nat) (r : Int) : Prop := (a = 0 ∧ r = 32) ∨ (∃ k : Nat, k < 7 ∧ r = (k : Int) ∧ a.testBit k = true ∧ ∀ j, j < k → a.testBit j = false)
