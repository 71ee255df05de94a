/-! ===== Walk: the loops over what was found ===== -/
theorem rAt_mem {l : List Int} {i : Int} (h0 : 0 ≤ i) (h : i < l.length) : rAt l i ∈ l := by
  rw [rAt_in h0, List.getD_eq_getElem?_getD, List.getElem?_eq_getElem (by omega)]
  exact List.getElem_mem _
theorem fMeet_len (F : bF) (s f d : Int) : F.2.2.2.length ≤ (fMeet F s f d).2.2.2.length := by
  by_cases hn : rAt F.1 s = -1
  · rw [fMeet_new hn]
    show _ ≤ (rAdd 2187 F.2.2.2 s).length
    unfold rAdd
    split
    · rw [List.length_append]; omega
    · exact Nat.le_refl _
  · rw [fMeet_old hn]; exact Nat.le_refl _
theorem fGrowTo_len (sp : Int → Int → Int) (F : bF) (s : Int) : ∀ m : Nat, F.2.2.2.length ≤ (fGrowTo sp F s m).2.2.2.length
  | 0 => Nat.le_refl _
  | m + 1 => Nat.le_trans (fGrowTo_len sp F s m) (fMeet_len _ _ _ _)
def fSpread (sp : Int → Int → Int) (n : Nat) : Nat → Nat → bF → bF
  | 0, _, F => F
  | m + 1, k, F => if k < F.2.2.2.length then fSpread sp n m (k + 1) (fGrowTo sp F (rAt F.2.2.2 (k : Int)) n) else F
theorem fSpread_ok {N n : Int} {sp : Int → Int → Int} (hn : 0 ≤ n) (hsp : spOK n N sp) : ∀ (m k : Nat) (F : bF), FOK N F → FOK N (fSpread sp n.toNat m k F)
  | 0, _, F, h => h
  | m + 1, k, F, h => by
    rw [fSpread]
    split
    · rename_i hk
      have hm := rAt_mem (l := F.2.2.2) (i := (k : Int)) (by omega) (by omega)
      have hr := h.2.2.2.2.2.2.1 _ hm
      exact fSpread_ok hn hsp m (k + 1) _ (fGrowTo_ok h (fun d h1 h2 => hsp _ d ⟨hr.1, hr.2.1⟩ ⟨h1, h2⟩) hm n.toNat (by omega)).1
    · exact h
set_option maxRecDepth 100000 in
theorem lp_spread {nn : Nat} {w : vWd} {q : Nat} {lr n tf tt tb s0 : Int} {st : List Int} (hn : 0 ≤ n ∧ n ≤ 7) (ht : tbOK n st) (htd : tdOK n tf tt tb) {G : bF} : ∀ (m : Nat) (i : Int) (w' : vWd) (F : bF), 0 ≤ i → (p3 n.toNat - i).toNat < m → i ≤ F.2.2.2.length → frK q w w' → FOK (p3 n.toNat) F → WalkAt w' q lr n (p3 n.toNat) tf tt tb st F → fSpread (stpF st tf tt tb) n.toNat m i.toNat F = G →
    V mX3_spread (rm 4) (pV (fun w' => WalkAt w' q lr n (p3 n.toNat) tf tt tb st G ∧ frK q w w') nn) 9 [some (.ref q), some (vI s0), some (vI i)] [] nn w' 0 0 := by
  intro m
  induction m with
  | zero => intro i w' F h1 h2; omega
  | succ m ih =>
    intro i w' F hi hm2 hi2 hfr hF h hG
    have ho := h.obj
    have hp := p3_le n.toNat (by omega)
    have hp0 := p3_pos n.toNat
    have hl := hF.len
    refine V_iload_n (Y := mX3_spread) (pc := 9) dX3_spread_9 rfl ?_
    refine V_aload_n (Y := mX3_spread) (pc := 10) dX3_spread_10 rfl ?_
    apply V_get (Y := mX3_spread) (pc := 11) dX3_spread_11 fl_X3_29
    · assumption
    · rfl
    apply V_vR (Y := mX3_spread) (pc := 14) dX3_spread_14 ok_X2_size ov_X2_size ln_X3_91 (c_Row_size h.r4)
    · exact h.r4.obj
    · rfl
    · rfl
    · rfl
    · rfl
    · rfl
    refine V_icmp_ge (tgt := 46) (Y := mX3_spread) (pc := 17) dX3_spread_17 (by decide) ⟨by omega, by omega⟩ ⟨by omega, by omega⟩ (fun h_17 => ?_) (fun h_17 => ?_)
    · refine V_vret (Y := mX3_spread) (pc := 46) dX3_spread_46 rfl (Nat.le_of_ble_eq_true rfl) (Nat.le_of_ble_eq_true rfl) ?_
      rw [fSpread, if_neg (by omega)] at hG
      subst hG
      exact pV_of ⟨h, hfr⟩
    · refine V_iload_n (Y := mX3_spread) (pc := 20) dX3_spread_20 rfl ?_
      refine V_aload_n (Y := mX3_spread) (pc := 21) dX3_spread_21 rfl ?_
      apply V_get (Y := mX3_spread) (pc := 22) dX3_spread_22 fl_X3_40
      · assumption
      · rfl
      refine V_icmp_ge (tgt := 46) (Y := mX3_spread) (pc := 25) dX3_spread_25 (by decide) ⟨by omega, by omega⟩ ⟨by omega, by omega⟩ (fun h_25 => absurd h_25 (by omega)) (fun h_25 => ?_)
      have hmem := rAt_mem (l := F.2.2.2) hi (by omega)
      have hr := hF.2.2.2.2.2.2.1 _ hmem
      have hx := fGrowTo_ok hF (sp := stpF st tf tt tb) (fun d h1 h2 => stpF_ok hn.1 ht htd _ d ⟨hr.1, hr.2.1⟩ ⟨h1, h2⟩) hmem n.toNat (by omega)
      refine V_aload_n (Y := mX3_spread) (pc := 28) dX3_spread_28 rfl ?_
      refine V_aload_n (Y := mX3_spread) (pc := 29) dX3_spread_29 rfl ?_
      apply V_get (Y := mX3_spread) (pc := 30) dX3_spread_30 fl_X3_29
      · assumption
      · rfl
      refine V_iload_n (Y := mX3_spread) (pc := 33) dX3_spread_33 rfl ?_
      apply V_vR (Y := mX3_spread) (pc := 34) dX3_spread_34 ok_X2_at ov_X2_at ln_X3_74 (c_Row_at (i := i) h.r4 ⟨by omega, by omega⟩)
      · exact h.r4.obj
      · rfl
      · rfl
      · rfl
      · rfl
      · rfl
      apply V_vV (Y := mX3_spread) (pc := 37) dX3_spread_37 ok_X3_grow ov_X3_grow ln_X3_95 (c_grow (s := rAt F.2.2.2 i) h hn ht htd hF ⟨hr.1, hr.2.1⟩ hmem)
      · assumption
      · rfl
      · rfl
      · rfl
      · rfl
      · rfl
      rintro w_37 ⟨g1, k1⟩
      refine V_iinc (Y := mX3_spread) (pc := 40) dX3_spread_40 rfl rfl ?_
      refine V_goto (tgt := 9) (Y := mX3_spread) (pc := 43) dX3_spread_43 (by decide) ?_
      refine ih (i + 1) w_37 _ (by omega) (by omega) ?_ (hfr.trans k1) hx.1 g1 ?_
      · have := List.length_pos_of_mem hx.2
        have hsub : F.2.2.2.length ≤ (fGrowTo (stpF st tf tt tb) F (rAt F.2.2.2 i) n.toNat).2.2.2.length := fGrowTo_len _ _ _ _
        omega
      · rw [← hG, fSpread, if_pos (by omega), show ((i.toNat : Nat) : Int) = i by omega, show (i + 1).toNat = i.toNat + 1 by omega]
set_option maxRecDepth 100000 in
theorem c_spread {nn : Nat} {w : vWd} {q : Nat} {lr n tf tt tb s : Int} {st : List Int} {F : bF} (h : WalkAt w q lr n (p3 n.toNat) tf tt tb st F) (hn : 0 ≤ n ∧ n ≤ 7) (ht : tbOK n st) (htd : tdOK n tf tt tb) (hF : FOK (p3 n.toNat) F) (hs : isS n s) : Ctr mX3_spread (rm 4) [.ref q, vI s] nn w (pV (fun w' => WalkAt w' q lr n (p3 n.toNat) tf tt tb st (fSpread (stpF st tf tt tb) n.toNat 2188 0 (fMeet F s (-1) (-1))) ∧ frK q w w') nn) := by
  refine Ctr_of (lv := [some (.ref q), some (vI s), none]) (by decide +kernel) rfl rfl ?_
  have ho := h.obj
  have hp := p3_le n.toNat (by omega)
  refine V_aload_n (Y := mX3_spread) (pc := 0) dX3_spread_0 rfl ?_
  refine V_iload_n (Y := mX3_spread) (pc := 1) dX3_spread_1 rfl ?_
  refine V_iconst (Y := mX3_spread) (pc := 2) dX3_spread_2 ?_
  refine V_iconst (Y := mX3_spread) (pc := 3) dX3_spread_3 ?_
  apply V_vV (Y := mX3_spread) (pc := 4) dX3_spread_4 ok_X3_meet ov_X3_meet ln_X3_87 (c_meet (s := s) (f := -1) (d := -1) h hF hs ⟨by omega, by omega⟩)
  · assumption
  · rfl
  · rfl
  · rfl
  · rfl
  · rfl
  rintro w_4 ⟨g1, k1⟩
  refine V_iconst (Y := mX3_spread) (pc := 7) dX3_spread_7 ?_
  refine V_istore_n (Y := mX3_spread) (pc := 8) dX3_spread_8 rfl ?_
  exact lp_spread hn ht htd 2188 0 w_4 _ (by omega) (by omega) (by omega) k1 (hF.meet hs (Or.inl rfl)) g1 rfl
def evB (l : List Int) : Nat → Nat
  | 0 => 0
  | m + 1 => evB l m ||| drB (rAt l (m : Int)) 2 7
set_option maxRecDepth 100000 in
theorem lp_everOpen {nn : Nat} {w : vWd} {q : Nat} {lr dn N tf tt tb : Int} {st : List Int} {F : bF} (h : WalkAt w q lr dn N tf tt tb st F) (hF : FOK N F) : ∀ (m : Nat) (i : Int), 0 ≤ i → i ≤ F.2.2.2.length → (F.2.2.2.length - i).toNat < m →
    V mX3_everOpen (rm 1) (pR (vI (evB F.2.2.2 F.2.2.2.length : Nat)) nn w) 4 [some (.ref q), some (vI (evB F.2.2.2 i.toNat : Nat)), some (vI i)] [] nn w 0 0 := by
  intro m
  induction m with
  | zero => intro i h1 h2 h3; omega
  | succ m ih =>
    intro i hi hi2 hm
    have ho := h.obj
    have hl := hF.len
    have hN := hF.2.1
    have k := ih (i + 1) (by omega)
    rw [show (i + 1).toNat = i.toNat + 1 by omega, evB, show ((i.toNat : Nat) : Int) = i by omega] at k
    refine V_iload_n (Y := mX3_everOpen) (pc := 4) dX3_everOpen_4 rfl ?_
    refine V_aload_n (Y := mX3_everOpen) (pc := 5) dX3_everOpen_5 rfl ?_
    apply V_get (Y := mX3_everOpen) (pc := 6) dX3_everOpen_6 fl_X3_29
    · assumption
    · rfl
    apply V_vR (Y := mX3_everOpen) (pc := 9) dX3_everOpen_9 ok_X2_size ov_X2_size ln_X3_91 (c_Row_size h.r4)
    · exact h.r4.obj
    · rfl
    · rfl
    · rfl
    · rfl
    · rfl
    
    refine V_icmp_ge (tgt := 36) (Y := mX3_everOpen) (pc := 12) dX3_everOpen_12 (by decide) ⟨by omega, by omega⟩ ⟨by omega, by omega⟩ (fun h_12 => ?_) (fun h_12 => ?_)
    · refine V_iload_n (Y := mX3_everOpen) (pc := 36) dX3_everOpen_36 rfl ?_
      refine V_iret (Y := mX3_everOpen) (pc := 37) dX3_everOpen_37 rfl (Nat.le_of_ble_eq_true rfl) (Nat.le_of_ble_eq_true rfl) ?_
      exact pR_I (by rw [show i.toNat = F.2.2.2.length by omega])
    · refine V_iload_n (Y := mX3_everOpen) (pc := 15) dX3_everOpen_15 rfl ?_
      refine V_aload_n (Y := mX3_everOpen) (pc := 16) dX3_everOpen_16 rfl ?_
      apply V_get (Y := mX3_everOpen) (pc := 17) dX3_everOpen_17 fl_X3_29
      · assumption
      · rfl
      refine V_iload_n (Y := mX3_everOpen) (pc := 20) dX3_everOpen_20 rfl ?_
      apply V_vR (Y := mX3_everOpen) (pc := 21) dX3_everOpen_21 ok_X2_at ov_X2_at ln_X3_74 (c_Row_at (i := i) h.r4 ⟨by omega, by omega⟩)
      · exact h.r4.obj
      · rfl
      · rfl
      · rfl
      · rfl
      · rfl
      have hr := hF.2.2.2.2.2.2.1 _ (rAt_mem (l := F.2.2.2) hi (by omega))
      refine V_iconst (Y := mX3_everOpen) (pc := 24) dX3_everOpen_24 ?_
      apply V_sR (Y := mX3_everOpen) (pc := 25) dX3_everOpen_25 ok_X5_drawersOutBy os_X5_drawersOutBy ln_X3_105 (c_drawersOut (s := rAt F.2.2.2 i) (v := 2) hr.1 ⟨by omega, by omega⟩ ⟨by omega, by omega⟩)
      · rfl
      · rfl
      · rfl
      refine V_ior (Y := mX3_everOpen) (pc := 28) dX3_everOpen_28 (iI_or _ _) ?_
      refine V_istore_n (Y := mX3_everOpen) (pc := 29) dX3_everOpen_29 rfl ?_
      refine V_iinc (Y := mX3_everOpen) (pc := 30) dX3_everOpen_30 rfl rfl ?_
      refine V_goto (tgt := 4) (Y := mX3_everOpen) (pc := 33) dX3_everOpen_33 (by decide) ?_
      exact k (by omega) (by omega)
set_option maxRecDepth 100000 in
theorem c_everOpen {nn : Nat} {w : vWd} {q : Nat} {lr dn N tf tt tb : Int} {st : List Int} {F : bF} (h : WalkAt w q lr dn N tf tt tb st F) (hF : FOK N F) : Ctr mX3_everOpen (rm 1) [.ref q] nn w (pR (vI (evB F.2.2.2 F.2.2.2.length : Nat)) nn w) := by
  refine Ctr_of (lv := [some (.ref q), none, none]) (by decide +kernel) rfl rfl ?_
  refine V_iconst (Y := mX3_everOpen) (pc := 0) dX3_everOpen_0 ?_
  refine V_istore_n (Y := mX3_everOpen) (pc := 1) dX3_everOpen_1 rfl ?_
  refine V_iconst (Y := mX3_everOpen) (pc := 2) dX3_everOpen_2 ?_
  refine V_istore_n (Y := mX3_everOpen) (pc := 3) dX3_everOpen_3 rfl ?_
  exact lp_everOpen h hF (F.2.2.2.length + 1) 0 (by omega) (by omega) (by omega)
def jamP (sp : Int → Int → Int) (n s : Int) : Prop := ∀ d : Int, isD n d → sp s d = s
theorem cI_0 {p : Prop} : cI p = 0 ↔ ¬ p := by
  constructor
  · intro h hp; rw [cI_1.mpr hp] at h; cases h
  · intro h; unfold cI; exact @bI_f p (Classical.propDecidable p) h
set_option maxRecDepth 100000 in
theorem lp_isJam {nn : Nat} {w : vWd} {q : Nat} {lr n sn tf tt tb s : Int} {st : List Int} {F : bF} (h : WalkAt w q lr n sn tf tt tb st F) (hn : 0 ≤ n ∧ n ≤ 7) (ht : tbOK n st) (htd : tdOK n tf tt tb) (hs : isS n s) : ∀ (m : Nat) (i : Int), 0 ≤ i → i ≤ n → (n - i).toNat < m → (∀ d : Int, 0 ≤ d → d < i → stpF st tf tt tb s d = s) →
    V mX3_isJam (rm 3) (pR (vI (cI (jamP (stpF st tf tt tb) n s))) nn w) 2 [some (.ref q), some (vI s), some (vI i)] [] nn w 0 0 := by
  intro m
  induction m with
  | zero => intro i h1 h2 h3; omega
  | succ m ih =>
    intro i hi hi2 hm hj
    have ho := h.obj
    have hp := p3_le n.toNat (by omega)
    have hv := fun hd => stpF_ok hn.1 ht htd s i hs hd
    refine V_iload_n (Y := mX3_isJam) (pc := 2) dX3_isJam_2 rfl ?_
    refine V_aload_n (Y := mX3_isJam) (pc := 3) dX3_isJam_3 rfl ?_
    apply V_get (Y := mX3_isJam) (pc := 4) dX3_isJam_4 fl_X3_36
    · assumption
    · rfl
    refine V_icmp_ge (tgt := 28) (Y := mX3_isJam) (pc := 7) dX3_isJam_7 (by decide) ⟨by omega, by omega⟩ ⟨by omega, by omega⟩ (fun h_7 => ?_) (fun h_7 => ?_)
    · try (have hv2 := hv ⟨by omega, by omega⟩)
      refine V_iconst (Y := mX3_isJam) (pc := 28) dX3_isJam_28 ?_
      refine V_zret (ty := .boolean) (Y := mX3_isJam) (pc := 29) dX3_isJam_29 rfl rfl (Nat.le_of_ble_eq_true rfl) (Nat.le_of_ble_eq_true rfl) ?_
      exact pR_I (cI_1.mpr (fun d hd => hj d hd.1 (by omega))).symm
    · try (have hv2 := hv ⟨by omega, by omega⟩)
      refine V_aload_n (Y := mX3_isJam) (pc := 10) dX3_isJam_10 rfl ?_
      refine V_iload_n (Y := mX3_isJam) (pc := 11) dX3_isJam_11 rfl ?_
      refine V_iload_n (Y := mX3_isJam) (pc := 12) dX3_isJam_12 rfl ?_
      apply V_vR (Y := mX3_isJam) (pc := 13) dX3_isJam_13 ok_X3_step ov_X3_step ln_X3_98 (c_step (s := s) (d := i) h hn ht htd hs ⟨by omega, by omega⟩)
      · assumption
      · rfl
      · rfl
      · rfl
      · rfl
      · rfl
      refine V_iload_n (Y := mX3_isJam) (pc := 16) dX3_isJam_16 rfl ?_
      refine V_icmp_eq (tgt := 22) (Y := mX3_isJam) (pc := 17) dX3_isJam_17 (by decide) ⟨by omega, by omega⟩ ⟨by omega, by omega⟩ (fun h_17 => ?_) (fun h_17 => ?_)
      · refine V_iinc (Y := mX3_isJam) (pc := 22) dX3_isJam_22 rfl rfl ?_
        refine V_goto (tgt := 2) (Y := mX3_isJam) (pc := 25) dX3_isJam_25 (by decide) ?_
        refine ih (i + 1) (by omega) (by omega) (by omega) (fun d h1 h2 => ?_)
        rcases (show d < i ∨ d = i by omega) with h3 | h3
        · exact hj d h1 h3
        · rw [h3]; exact h_17
      · refine V_iconst (Y := mX3_isJam) (pc := 20) dX3_isJam_20 ?_
        refine V_zret (ty := .boolean) (Y := mX3_isJam) (pc := 21) dX3_isJam_21 rfl rfl (Nat.le_of_ble_eq_true rfl) (Nat.le_of_ble_eq_true rfl) ?_
        exact pR_I (cI_0.mpr (fun q => h_17 (q i ⟨by omega, by omega⟩))).symm
set_option maxRecDepth 100000 in
theorem c_isJam {nn : Nat} {w : vWd} {q : Nat} {lr n sn tf tt tb s : Int} {st : List Int} {F : bF} (h : WalkAt w q lr n sn tf tt tb st F) (hn : 0 ≤ n ∧ n ≤ 7) (ht : tbOK n st) (htd : tdOK n tf tt tb) (hs : isS n s) : Ctr mX3_isJam (rm 3) [.ref q, vI s] nn w (pR (vI (cI (jamP (stpF st tf tt tb) n s))) nn w) := by
  refine Ctr_of (lv := [some (.ref q), some (vI s), none]) (by decide +kernel) rfl rfl ?_
  refine V_iconst (Y := mX3_isJam) (pc := 0) dX3_isJam_0 ?_
  refine V_istore_n (Y := mX3_isJam) (pc := 1) dX3_isJam_1 rfl ?_
  exact lp_isJam h hn ht htd hs (n.toNat + 1) 0 (by omega) (by omega) (by omega) (fun d h1 h2 => by omega)
noncomputable def jmC (sp : Int → Int → Int) (n : Int) (l : List Int) : Nat → Int
  | 0 => 0
  | m + 1 => jmC sp n l m + cI (jamP sp n (rAt l (m : Int)))
theorem cI_01 (p : Prop) : cI p = 0 ∨ cI p = 1 := @bI_01 p (Classical.propDecidable p)
set_option maxRecDepth 100000 in
theorem lp_jams {nn : Nat} {w : vWd} {q : Nat} {lr n tf tt tb : Int} {st : List Int} {F : bF} (h : WalkAt w q lr n (p3 n.toNat) tf tt tb st F) (hn : 0 ≤ n ∧ n ≤ 7) (ht : tbOK n st) (htd : tdOK n tf tt tb) (hF : FOK (p3 n.toNat) F) : ∀ (m : Nat) (i : Int), 0 ≤ i → i ≤ F.2.2.2.length → (F.2.2.2.length - i).toNat < m →
    V mX3_jams (rm 4) (pR (vI (jmC (stpF st tf tt tb) n F.2.2.2 F.2.2.2.length)) nn w) 4 [some (.ref q), some (vI (jmC (stpF st tf tt tb) n F.2.2.2 i.toNat)), some (vI i)] [] nn w 0 0 := by
  intro m
  induction m with
  | zero => intro i h1 h2 h3; omega
  | succ m ih =>
    intro i hi hi2 hm
    have ho := h.obj
    have hl := hF.len
    have hN := hF.2.1
    have k := ih (i + 1) (by omega)
    rw [show (i + 1).toNat = i.toNat + 1 by omega, jmC, show ((i.toNat : Nat) : Int) = i by omega] at k
    refine V_iload_n (Y := mX3_jams) (pc := 4) dX3_jams_4 rfl ?_
    refine V_aload_n (Y := mX3_jams) (pc := 5) dX3_jams_5 rfl ?_
    apply V_get (Y := mX3_jams) (pc := 6) dX3_jams_6 fl_X3_29
    · assumption
    · rfl
    apply V_vR (Y := mX3_jams) (pc := 9) dX3_jams_9 ok_X2_size ov_X2_size ln_X3_91 (c_Row_size h.r4)
    · exact h.r4.obj
    · rfl
    · rfl
    · rfl
    · rfl
    · rfl
    
    refine V_icmp_ge (tgt := 39) (Y := mX3_jams) (pc := 12) dX3_jams_12 (by decide) ⟨by omega, by omega⟩ ⟨by omega, by omega⟩ (fun h_12 => ?_) (fun h_12 => ?_)
    · refine V_iload_n (Y := mX3_jams) (pc := 39) dX3_jams_39 rfl ?_
      refine V_iret (Y := mX3_jams) (pc := 40) dX3_jams_40 rfl (Nat.le_of_ble_eq_true rfl) (Nat.le_of_ble_eq_true rfl) ?_
      exact pR_I (by rw [show i.toNat = F.2.2.2.length by omega])
    · refine V_aload_n (Y := mX3_jams) (pc := 15) dX3_jams_15 rfl ?_
      refine V_aload_n (Y := mX3_jams) (pc := 16) dX3_jams_16 rfl ?_
      apply V_get (Y := mX3_jams) (pc := 17) dX3_jams_17 fl_X3_29
      · assumption
      · rfl
      refine V_iload_n (Y := mX3_jams) (pc := 20) dX3_jams_20 rfl ?_
      apply V_vR (Y := mX3_jams) (pc := 21) dX3_jams_21 ok_X2_at ov_X2_at ln_X3_74 (c_Row_at (i := i) h.r4 ⟨by omega, by omega⟩)
      · exact h.r4.obj
      · rfl
      · rfl
      · rfl
      · rfl
      · rfl
      have hr := hF.2.2.2.2.2.2.1 _ (rAt_mem (l := F.2.2.2) hi (by omega))
      apply V_vR (Y := mX3_jams) (pc := 24) dX3_jams_24 ok_X3_isJam ov_X3_isJam ln_X3_113 (c_isJam (s := rAt F.2.2.2 i) h hn ht htd ⟨hr.1, hr.2.1⟩)
      · assumption
      · rfl
      · rfl
      · rfl
      · rfl
      · rfl
      refine V_if_eq (tgt := 33) (Y := mX3_jams) (pc := 27) dX3_jams_27 (by decide) (cI_R _) (fun h_27 => ?_) (fun h_27 => ?_)
      · refine V_iinc (Y := mX3_jams) (pc := 33) dX3_jams_33 rfl rfl ?_
        refine V_goto (tgt := 4) (Y := mX3_jams) (pc := 36) dX3_jams_36 (by decide) ?_
        first
          | (rw [h_27, Int.add_zero] at k; exact k (by omega) (by omega))
          | (rw [show cI (jamP (stpF st tf tt tb) n (rAt F.2.2.2 i)) = 1 from (cI_01 _).resolve_left h_27] at k; exact k (by omega) (by omega))
      · refine V_iinc (Y := mX3_jams) (pc := 30) dX3_jams_30 rfl rfl ?_
        refine V_iinc (Y := mX3_jams) (pc := 33) dX3_jams_33 rfl rfl ?_
        refine V_goto (tgt := 4) (Y := mX3_jams) (pc := 36) dX3_jams_36 (by decide) ?_
        first
          | (rw [h_27, Int.add_zero] at k; exact k (by omega) (by omega))
          | (rw [show cI (jamP (stpF st tf tt tb) n (rAt F.2.2.2 i)) = 1 from (cI_01 _).resolve_left h_27] at k; exact k (by omega) (by omega))
set_option maxRecDepth 100000 in
theorem c_jams {nn : Nat} {w : vWd} {q : Nat} {lr n tf tt tb : Int} {st : List Int} {F : bF} (h : WalkAt w q lr n (p3 n.toNat) tf tt tb st F) (hn : 0 ≤ n ∧ n ≤ 7) (ht : tbOK n st) (htd : tdOK n tf tt tb) (hF : FOK (p3 n.toNat) F) : Ctr mX3_jams (rm 4) [.ref q] nn w (pR (vI (jmC (stpF st tf tt tb) n F.2.2.2 F.2.2.2.length)) nn w) := by
  refine Ctr_of (lv := [some (.ref q), none, none]) (by decide +kernel) rfl rfl ?_
  refine V_iconst (Y := mX3_jams) (pc := 0) dX3_jams_0 ?_
  refine V_istore_n (Y := mX3_jams) (pc := 1) dX3_jams_1 rfl ?_
  refine V_iconst (Y := mX3_jams) (pc := 2) dX3_jams_2 ?_
  refine V_istore_n (Y := mX3_jams) (pc := 3) dX3_jams_3 rfl ?_
  exact lp_jams h hn ht htd hF (F.2.2.2.length + 1) 0 (by omega) (by omega) (by omega)
noncomputable def fst1 (P : Int → Prop) : Nat → Int → Int
  | 0, _ => -1
  | m + 1, s => @ite Int (P s) (Classical.propDecidable _) s (fst1 P m (s + 1))
theorem fst1_t {P : Int → Prop} {m : Nat} {s : Int} (h : P s) : fst1 P (m + 1) s = s := if_pos h
theorem fst1_f {P : Int → Prop} {m : Nat} {s : Int} (h : ¬ P s) : fst1 P (m + 1) s = fst1 P m (s + 1) := if_neg h
set_option maxRecDepth 100000 in
theorem lp_leastJam {nn : Nat} {w : vWd} {q : Nat} {lr n tf tt tb r : Int} {st : List Int} {F : bF} (h : WalkAt w q lr n (p3 n.toNat) tf tt tb st F) (hn : 0 ≤ n ∧ n ≤ 7) (ht : tbOK n st) (htd : tdOK n tf tt tb) (hF : FOK (p3 n.toNat) F) : ∀ (m : Nat) (i : Int), 0 ≤ i → i ≤ p3 n.toNat → (p3 n.toNat - i).toNat = m → fst1 (fun s => rAt F.1 s ≠ -1 ∧ jamP (stpF st tf tt tb) n s) m i = r →
    V mX3_leastJam (rm 4) (pR (vI r) nn w) 2 [some (.ref q), some (vI i)] [] nn w 0 0 := by
  intro m
  induction m with
  | zero =>
    intro i hi hi2 hm hr
    have ho := h.obj
    have hp := p3_le n.toNat (by omega)
    refine V_iload_n (Y := mX3_leastJam) (pc := 2) dX3_leastJam_2 rfl ?_
    refine V_aload_n (Y := mX3_leastJam) (pc := 3) dX3_leastJam_3 rfl ?_
    apply V_get (Y := mX3_leastJam) (pc := 4) dX3_leastJam_4 fl_X3_40
    · assumption
    · rfl
    refine V_icmp_ge (tgt := 38) (Y := mX3_leastJam) (pc := 7) dX3_leastJam_7 (by decide) ⟨by omega, by omega⟩ ⟨by omega, by omega⟩ (fun h_7 => ?_) (fun h_7 => absurd h_7 (by omega))
    refine V_iconst (Y := mX3_leastJam) (pc := 38) dX3_leastJam_38 ?_
    refine V_iret (Y := mX3_leastJam) (pc := 39) dX3_leastJam_39 rfl (Nat.le_of_ble_eq_true rfl) (Nat.le_of_ble_eq_true rfl) ?_
    exact pR_I hr
  | succ m ih =>
    intro i hi hi2 hm hr
    have ho := h.obj
    have hp := p3_le n.toNat (by omega)
    have hfi := hF.2.2.2.2.1 i
    have hl := hF.len
    refine V_iload_n (Y := mX3_leastJam) (pc := 2) dX3_leastJam_2 rfl ?_
    refine V_aload_n (Y := mX3_leastJam) (pc := 3) dX3_leastJam_3 rfl ?_
    apply V_get (Y := mX3_leastJam) (pc := 4) dX3_leastJam_4 fl_X3_40
    · assumption
    · rfl
    refine V_icmp_ge (tgt := 38) (Y := mX3_leastJam) (pc := 7) dX3_leastJam_7 (by decide) ⟨by omega, by omega⟩ ⟨by omega, by omega⟩ (fun h_7 => absurd h_7 (by omega)) (fun h_7 => ?_)
    refine V_aload_n (Y := mX3_leastJam) (pc := 10) dX3_leastJam_10 rfl ?_
    apply V_get (Y := mX3_leastJam) (pc := 11) dX3_leastJam_11 fl_X3_20
    · assumption
    · rfl
    refine V_iload_n (Y := mX3_leastJam) (pc := 14) dX3_leastJam_14 rfl ?_
    apply V_vR (Y := mX3_leastJam) (pc := 15) dX3_leastJam_15 ok_X2_at ov_X2_at ln_X3_74 (c_Row_at (i := i) h.r1 ⟨by omega, by omega⟩)
    · exact h.r1.obj
    · rfl
    · rfl
    · rfl
    · rfl
    · rfl
    refine V_iconst (Y := mX3_leastJam) (pc := 18) dX3_leastJam_18 ?_
    refine V_icmp_eq (tgt := 32) (Y := mX3_leastJam) (pc := 19) dX3_leastJam_19 (by decide) ⟨by omega, by omega⟩ ⟨by omega, by omega⟩ (fun h_19 => ?_) (fun h_19 => ?_)
    · refine V_iinc (Y := mX3_leastJam) (pc := 32) dX3_leastJam_32 rfl rfl ?_
      refine V_goto (tgt := 2) (Y := mX3_leastJam) (pc := 35) dX3_leastJam_35 (by decide) ?_
      refine ih (i + 1) (by omega) (by omega) (by omega) ?_
      rw [fst1_f (fun q => by first | exact q.1 h_19 | exact (cI_0.mp h_27) q.2)] at hr
      exact hr
    · refine V_aload_n (Y := mX3_leastJam) (pc := 22) dX3_leastJam_22 rfl ?_
      refine V_iload_n (Y := mX3_leastJam) (pc := 23) dX3_leastJam_23 rfl ?_
      apply V_vR (Y := mX3_leastJam) (pc := 24) dX3_leastJam_24 ok_X3_isJam ov_X3_isJam ln_X3_113 (c_isJam (s := i) h hn ht htd ⟨by omega, by omega⟩)
      · assumption
      · rfl
      · rfl
      · rfl
      · rfl
      · rfl
      refine V_if_eq (tgt := 32) (Y := mX3_leastJam) (pc := 27) dX3_leastJam_27 (by decide) (cI_R _) (fun h_27 => ?_) (fun h_27 => ?_)
      · refine V_iinc (Y := mX3_leastJam) (pc := 32) dX3_leastJam_32 rfl rfl ?_
        refine V_goto (tgt := 2) (Y := mX3_leastJam) (pc := 35) dX3_leastJam_35 (by decide) ?_
        refine ih (i + 1) (by omega) (by omega) (by omega) ?_
        rw [fst1_f (fun q => by first | exact q.1 h_19 | exact (cI_0.mp h_27) q.2)] at hr
        exact hr
      · refine V_iload_n (Y := mX3_leastJam) (pc := 30) dX3_leastJam_30 rfl ?_
        refine V_iret (Y := mX3_leastJam) (pc := 31) dX3_leastJam_31 rfl (Nat.le_of_ble_eq_true rfl) (Nat.le_of_ble_eq_true rfl) ?_
        rw [fst1_t ⟨h_19, cI_1.mp ((cI_01 _).resolve_left h_27)⟩] at hr
        exact pR_I hr
set_option maxRecDepth 100000 in
theorem c_leastJam {nn : Nat} {w : vWd} {q : Nat} {lr n tf tt tb : Int} {st : List Int} {F : bF} (h : WalkAt w q lr n (p3 n.toNat) tf tt tb st F) (hn : 0 ≤ n ∧ n ≤ 7) (ht : tbOK n st) (htd : tdOK n tf tt tb) (hF : FOK (p3 n.toNat) F) : Ctr mX3_leastJam (rm 4) [.ref q] nn w (pR (vI (fst1 (fun s => rAt F.1 s ≠ -1 ∧ jamP (stpF st tf tt tb) n s) (p3 n.toNat).toNat 0)) nn w) := by
  refine Ctr_of (lv := [some (.ref q), none]) (by decide +kernel) rfl rfl ?_
  have hp0 := p3_pos n.toNat
  refine V_iconst (Y := mX3_leastJam) (pc := 0) dX3_leastJam_0 ?_
  refine V_istore_n (Y := mX3_leastJam) (pc := 1) dX3_leastJam_1 rfl ?_
  exact lp_leastJam h hn ht htd hF _ 0 (by omega) (by omega) (by omega) rfl
