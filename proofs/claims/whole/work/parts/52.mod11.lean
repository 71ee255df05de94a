/-! ===== DrawerWallModel: reach, kept ===== -/
theorem spX_al {ca : Nat} {rs : Nat → List Int} (h : (rs 1).length ≤ 10) : spX ca rs (iI (alI rs)) = spP ca rs := by
  funext s d; exact aft_al h
noncomputable def lsM (sp : Int → Int → Int) (n : Int) (L : List Int) : Nat → Int
  | 0 => -1
  | m + 1 => @ite Int (jamP sp n (rAt L (m : Int)) ∧ (lsM sp n L m = -1 ∨ rAt L (m : Int) < lsM sp n L m)) (Classical.propDecidable _) (rAt L (m : Int)) (lsM sp n L m)
theorem lsM_sp {sp : Int → Int → Int} {n : Int} {L : List Int} (hL : ∀ x ∈ L, isS n x) : ∀ m : Nat, m ≤ L.length → (lsM sp n L m = -1 ∧ ∀ j : Int, 0 ≤ j → j < m → ¬ jamP sp n (rAt L j)) ∨ ((0 ≤ lsM sp n L m ∧ lsM sp n L m < p3 n.toNat) ∧ (∃ j : Int, 0 ≤ j ∧ j < m ∧ rAt L j = lsM sp n L m ∧ jamP sp n (rAt L j)) ∧ ∀ j : Int, 0 ≤ j → j < m → jamP sp n (rAt L j) → lsM sp n L m ≤ rAt L j)
  | 0, _ => Or.inl ⟨rfl, fun j h0 h1 => by omega⟩
  | m + 1, hm => by
    have ih := lsM_sp (sp := sp) hL m (by omega)
    have hr : isS n (rAt L (m : Int)) := hL _ (rAt_mem (by omega) (by omega))
    rw [lsM]
    by_cases hj : jamP sp n (rAt L (m : Int)) ∧ (lsM sp n L m = -1 ∨ rAt L (m : Int) < lsM sp n L m)
    · rw [if_pos hj]
      refine Or.inr ⟨hr, ⟨m, by omega, by omega, rfl, hj.1⟩, fun j h0 h1 h2 => ?_⟩
      by_cases hjm : j = m
      · subst hjm; exact Int.le_refl _
      · rcases ih with ⟨e, h⟩ | ⟨e, -, h⟩
        · exact absurd h2 (h j h0 (by omega))
        · have := h j h0 (by omega) h2
          rcases hj.2 with q | q
          · omega
          · omega
    · rw [if_neg hj]
      rcases ih with ⟨e, h⟩ | ⟨e, ⟨j, j0, j1, j2, j3⟩, h⟩
      · refine Or.inl ⟨e, fun j h0 h1 h2 => ?_⟩
        by_cases hjm : j = m
        · subst hjm; exact hj ⟨h2, Or.inl e⟩
        · exact h j h0 (by omega) h2
      · refine Or.inr ⟨e, ⟨j, j0, by omega, j2, j3⟩, fun j h0 h1 h2 => ?_⟩
        by_cases hjm : j = m
        · subst hjm
          rcases Int.lt_or_le (rAt L (m : Int)) (lsM sp n L m) with q | q
          · exact absurd ⟨h2, Or.inr q⟩ hj
          · exact q
        · exact h j h0 (by omega) h2
theorem fst1_none {P : Int → Prop} : ∀ (m : Nat) (i : Int), (∀ s : Int, i ≤ s → s < i + m → ¬ P s) → fst1 P m i = -1
  | 0, i, h => rfl
  | m + 1, i, h => by
    rw [fst1_f (h i (by omega) (by omega))]
    exact fst1_none m (i + 1) (fun s h0 h1 => h s (by omega) (by omega))
theorem fst1_min {P : Int → Prop} {r : Int} (hp : P r) : ∀ (m : Nat) (i : Int), i ≤ r → r < i + m → (∀ s : Int, i ≤ s → s < r → ¬ P s) → fst1 P m i = r
  | 0, i, h0, h1, h => by omega
  | m + 1, i, h0, h1, h => by
    by_cases hi : i = r
    · subst hi; exact fst1_t hp
    · rw [fst1_f (h i (by omega) (by omega))]
      exact fst1_min hp m (i + 1) (by omega) (by omega) (fun s q0 q1 => h s (by omega) q1)
theorem lsM_fst {sp : Int → Int → Int} {n : Int} {L : List Int} (hL : ∀ x ∈ L, isS n x) : lsM sp n L L.length = fst1 (fun s => s ∈ L ∧ jamP sp n s) (p3 n.toNat).toNat 0 := by
  have hp := p3_1 n.toNat
  rcases lsM_sp (sp := sp) hL L.length (Nat.le_refl _) with ⟨e, h⟩ | ⟨e, ⟨j, j0, j1, j2, j3⟩, h⟩
  · rw [e, fst1_none]
    rintro s - - ⟨hs, hj⟩
    obtain ⟨i, hi, rfl⟩ := List.getElem_of_mem hs
    refine h (i : Int) (by omega) (by omega) ?_
    rw [rAt_in (by omega), show ((i : Int)).toNat = i by omega, List.getD_eq_getElem?_getD, List.getElem?_eq_getElem hi]
    exact hj
  · have h1 : lsM sp n L L.length ∈ L := by rw [← j2]; exact rAt_mem j0 (by omega)
    have h2 : jamP sp n (lsM sp n L L.length) := by rw [← j2]; exact j3
    have h3 : ∀ s : Int, 0 ≤ s → s < lsM sp n L L.length → ¬ (s ∈ L ∧ jamP sp n s) := by
      rintro s - hs ⟨hm, hj⟩
      obtain ⟨i, hi, rfl⟩ := List.getElem_of_mem hm
      have e2 : rAt L (i : Int) = L[i] := by
        rw [rAt_in (by omega), show ((i : Int)).toNat = i by omega, List.getD_eq_getElem?_getD, List.getElem?_eq_getElem hi]; rfl
      have := h (i : Int) (by omega) (by omega) (by rw [e2]; exact hj)
      omega
    exact (fst1_min ⟨h1, h2⟩ _ _ e.1 (by omega) h3).symm
theorem MInv.frG {w w' : vWd} {S S0 S1 : vSt} {k0 k1 rb rn rf a0 sp tk vl mn fd sv : Int} {tx : List Int} (h : MInv w S S0 S1 k0 k1 tx rb rn rf) (ho : w' 99 = some (mO 0 tx.length a0 sp tk vl mn fd sv)) (hf : frG w w') (h9 : ∃ g, w' 109 = some (arZ 2187 g)) (h10 : ∃ g, w' 110 = some (arI 2187 g)) : MInv w' S S0 S1 k0 k1 tx rb rn rf ∧ frM w w' := by
  obtain ⟨⟨-, ⟨f, hb, hB⟩, hr, hq⟩, -, hT, hI, s1, s2, s3, s4, -, -⟩ := h
  have o := fun (j : Nat) (q : j < 99 ∨ (100 ≤ j ∧ j < 109)) => hf j (by omega) (by omega) (by omega)
  refine ⟨⟨⟨⟨_, _, _, _, _, _, _, _, ho⟩, ⟨f, (o _ (by omega)).trans hb, hB⟩, hr.keep (o _ (by omega)), hq⟩, ⟨_, _, _, _, _, _, _, ho⟩, hT.keep (o _ (by omega)), hI.keep (o _ (by omega)) (o _ (by omega)), ?_, ?_, ?_, ?_, h9, h10⟩, fun j hj => o j (by omega)⟩
  · obtain ⟨g, q⟩ := s1; exact ⟨g, (o _ (by omega)).trans q⟩
  · obtain ⟨g, q⟩ := s2; exact ⟨g, (o _ (by omega)).trans q⟩
  · obtain ⟨g, q⟩ := s3; exact ⟨g, (o _ (by omega)).trans q⟩
  · obtain ⟨g, q⟩ := s4; exact ⟨g, (o _ (by omega)).trans q⟩
section MOD
variable {nn : Nat} {w : vWd} {n now : Int} {ca po fo : Nat} {rs : Nat → List Int} {qt ty a0 sp tk vl mn sv rb rn rf k0 k1 : Int} {f : Nat → Int} {S0 S1 : vSt} {tx : List Int}
set_option maxRecDepth 100000 in
theorem lpm_rch2 {a c l k s : Int} {L : List Int} {qu : Nat → Int} {Q : vPost} (hM : MS w n now ca po fo rs) (hG : vGood (n, now, ca, po, fo, rs)) (ho : w 99 = some (mO qt ty a0 sp tk vl mn L.length sv)) (h10 : w 110 = some (arI 2187 qu)) (hk : 0 ≤ k ∧ k < 2187) (hs : qu k.toNat = s) (hss : isS n s) (K : ∀ z : Int, zP z (jamP (spP ca rs) n s) → V mX6_reach (rm 6) Q 103 [some (.ref 99), some (vI a), some (vI c), some (vI l), some (vI k), some (vI z), none] [] nn w 0 0) : ∀ (m : Nat) (i z : Int), 0 ≤ i → i + m = n → zP z (∀ d : Int, 0 ≤ d → d < i → spP ca rs s d = s) →
    V mX6_reach (rm 6) Q 47 [some (.ref 99), some (vI a), some (vI c), some (vI l), some (vI k), some (vI z), some (vI i)] [] nn w 0 0 := by
  have hM0 := hM
  obtain ⟨hn, hnow, hca, hpo, hfo, hgd, hcv, hor, hsg, hpast⟩ := hG.un
  obtain ⟨f, -, hb0, hB⟩ := hM
  have e0 : f (0 : Int).toNat = n := hB.1.1.1
  have hp := p3_le n.toNat (by omega)
  intro m
  induction m with
  | zero =>
    intro i z hi him hz
    have hin : i = n := by omega
    subst hin
    refine V_iload (Y := mX6_reach) (pc := 47) dX6_reach_47 rfl ?_
    refine V_aload_n (Y := mX6_reach) (pc := 49) dX6_reach_49 rfl ?_
    apply V_get (Y := mX6_reach) (pc := 50) dX6_reach_50 fl_X6_7
    · assumption
    · rfl
    refine V_iconst (Y := mX6_reach) (pc := 53) dX6_reach_53 ?_
    apply V_iald (Y := mX6_reach) (pc := 54) dX6_reach_54
    · assumption
    · exact ⟨by omega, by omega⟩
    · omega
    rw [e0]
    refine V_icmp_ge (tgt := 103) (Y := mX6_reach) (pc := 55) dX6_reach_55 (by decide) ⟨by omega, by omega⟩ ⟨by omega, by omega⟩ (fun h_55 => ?_) (fun h_55 => absurd h_55 (by omega))
    exact V_drop 6 (K z (by rcases hz with h | h; exact Or.inl ⟨h.1, fun d hd => h.2 d hd.1 hd.2⟩; exact Or.inr ⟨h.1, fun q => h.2 (fun d h0 h1 => q d ⟨h0, h1⟩)⟩))
  | succ m ih =>
    intro i z hi him hz
    have hzz : z = 0 ∨ z = 1 := by rcases hz with h | h <;> omega
    have hsr := spP_ok (ca := ca) hcv s i hss ⟨hi, by omega⟩
    have ih1 := fun (z' : Int) (hz' : zP z' (∀ d : Int, 0 ≤ d → d < i + 1 → spP ca rs s d = s)) => ih (i + 1) z' (by omega) (by omega) hz'
    refine V_iload (Y := mX6_reach) (pc := 47) dX6_reach_47 rfl ?_
    refine V_aload_n (Y := mX6_reach) (pc := 49) dX6_reach_49 rfl ?_
    apply V_get (Y := mX6_reach) (pc := 50) dX6_reach_50 fl_X6_7
    · assumption
    · rfl
    refine V_iconst (Y := mX6_reach) (pc := 53) dX6_reach_53 ?_
    apply V_iald (Y := mX6_reach) (pc := 54) dX6_reach_54
    · assumption
    · exact ⟨by omega, by omega⟩
    · omega
    rw [e0]
    refine V_icmp_ge (tgt := 103) (Y := mX6_reach) (pc := 55) dX6_reach_55 (by decide) ⟨by omega, by omega⟩ ⟨by omega, by omega⟩ (fun h_55 => absurd h_55 (by omega)) (fun h_55 => ?_)
    refine V_iload (Y := mX6_reach) (pc := 58) dX6_reach_58 rfl ?_
    refine V_if_eq (tgt := 94) (Y := mX6_reach) (pc := 60) dX6_reach_60 (by decide) ⟨by omega, by omega⟩ (fun h_60 => ?_) (fun h_60 => ?_)
    · refine V_iconst (Y := mX6_reach) (pc := 94) dX6_reach_94 ?_
      refine V_istore (Y := mX6_reach) (pc := 95) dX6_reach_95 rfl ?_
      refine V_iinc (Y := mX6_reach) (pc := 97) dX6_reach_97 rfl rfl ?_
      refine V_goto (tgt := 47) (Y := mX6_reach) (pc := 100) dX6_reach_100 (by decide) ?_
      first
        | exact ih1 _ (zP.t (fun d h0 h1 => by
             by_cases hd : d = i
             · subst hd; exact h_87
             · rcases hz with h | h
               · exact h.2 d h0 (by omega)
               · exfalso; omega))
        | exact ih1 _ (zP.f (fun q => h_87 (q i hi (by omega))))
        | exact ih1 _ (zP.f (fun q => by
             rcases hz with h | h
             · omega
             · exact h.2 (fun d h0 h1 => q d h0 (by omega))))
    · refine V_aload_n (Y := mX6_reach) (pc := 63) dX6_reach_63 rfl ?_
      refine V_aload_n (Y := mX6_reach) (pc := 64) dX6_reach_64 rfl ?_
      apply V_get (Y := mX6_reach) (pc := 65) dX6_reach_65 fl_X6_41
      · assumption
      · rfl
      refine V_iload (Y := mX6_reach) (pc := 68) dX6_reach_68 rfl ?_
      apply V_iald (Y := mX6_reach) (pc := 70) dX6_reach_70
      · assumption
      · exact ⟨by omega, by omega⟩
      · omega
      rw [hs]
      refine V_iload (Y := mX6_reach) (pc := 71) dX6_reach_71 rfl ?_
      refine V_aload_n (Y := mX6_reach) (pc := 73) dX6_reach_73 rfl ?_
      apply V_vR (Y := mX6_reach) (pc := 74) dX6_reach_74 ok_X6_allCords ov_X6_allCords ln_X6_176 (cm_allCords hM0)
      · assumption
      · rfl
      · rfl
      · rfl
      · rfl
      · rfl
      apply V_vR (Y := mX6_reach) (pc := 77) dX6_reach_77 ok_X6_pulled ov_X6_pulled ln_X6_179 (cm_pulledA (s := s) (d := i) hM0 hn hcv hca hss ⟨hi, by omega⟩)
      · assumption
      · rfl
      · rfl
      · rfl
      · rfl
      · rfl
      refine V_aload_n (Y := mX6_reach) (pc := 80) dX6_reach_80 rfl ?_
      apply V_get (Y := mX6_reach) (pc := 81) dX6_reach_81 fl_X6_41
      · assumption
      · rfl
      refine V_iload (Y := mX6_reach) (pc := 84) dX6_reach_84 rfl ?_
      apply V_iald (Y := mX6_reach) (pc := 86) dX6_reach_86
      · assumption
      · exact ⟨by omega, by omega⟩
      · omega
      rw [hs]
      refine V_icmp_ne (tgt := 94) (Y := mX6_reach) (pc := 87) dX6_reach_87 (by decide) ⟨by omega, by omega⟩ ⟨by omega, by omega⟩ (fun h_87 => ?_) (fun h_87 => ?_)
      · refine V_iconst (Y := mX6_reach) (pc := 94) dX6_reach_94 ?_
        refine V_istore (Y := mX6_reach) (pc := 95) dX6_reach_95 rfl ?_
        refine V_iinc (Y := mX6_reach) (pc := 97) dX6_reach_97 rfl rfl ?_
        refine V_goto (tgt := 47) (Y := mX6_reach) (pc := 100) dX6_reach_100 (by decide) ?_
        first
          | exact ih1 _ (zP.t (fun d h0 h1 => by
               by_cases hd : d = i
               · subst hd; exact h_87
               · rcases hz with h | h
                 · exact h.2 d h0 (by omega)
                 · exfalso; omega))
          | exact ih1 _ (zP.f (fun q => h_87 (q i hi (by omega))))
          | exact ih1 _ (zP.f (fun q => by
               rcases hz with h | h
               · omega
               · exact h.2 (fun d h0 h1 => q d h0 (by omega))))
      · refine V_iconst (Y := mX6_reach) (pc := 90) dX6_reach_90 ?_
        refine V_goto (tgt := 95) (Y := mX6_reach) (pc := 91) dX6_reach_91 (by decide) ?_
        refine V_istore (Y := mX6_reach) (pc := 95) dX6_reach_95 rfl ?_
        refine V_iinc (Y := mX6_reach) (pc := 97) dX6_reach_97 rfl rfl ?_
        refine V_goto (tgt := 47) (Y := mX6_reach) (pc := 100) dX6_reach_100 (by decide) ?_
        first
          | exact ih1 _ (zP.t (fun d h0 h1 => by
               by_cases hd : d = i
               · subst hd; exact h_87
               · rcases hz with h | h
                 · exact h.2 d h0 (by omega)
                 · exfalso; omega))
          | exact ih1 _ (zP.f (fun q => h_87 (q i hi (by omega))))
          | exact ih1 _ (zP.f (fun q => by
               rcases hz with h | h
               · omega
               · exact h.2 (fun d h0 h1 => q d h0 (by omega))))
set_option maxRecDepth 100000 in
theorem lpm_rch3 {a k z : Int} {L : List Int} {qu : Nat → Int} {Q : vPost} (ho : w 99 = some (mO qt ty a0 sp tk vl mn L.length sv)) (h10 : w 110 = some (arI 2187 qu)) (hk : 0 ≤ k ∧ k < 2187) (hs : qu k.toNat = rAt L k) (hL : ∀ x ∈ L, isS n x) (hkl : k < L.length) (hn : 2 ≤ n ∧ n ≤ 7) (hz : zP z (jamP (spP ca rs) n (rAt L k))) (K : V mX6_reach (rm 6) Q 32 [some (.ref 99), some (vI a), some (vI (jmC (spP ca rs) n L (k + 1).toNat)), some (vI (lsM (spP ca rs) n L (k + 1).toNat)), some (vI (k + 1)), none, none] [] nn w 0 0) :
    V mX6_reach (rm 6) Q 103 [some (.ref 99), some (vI a), some (vI (jmC (spP ca rs) n L k.toNat)), some (vI (lsM (spP ca rs) n L k.toNat)), some (vI k), some (vI z), none] [] nn w 0 0 := by
  have hp := p3_le n.toNat (by omega)
  have hr : isS n (rAt L k) := hL _ (rAt_mem hk.1 hkl)
  have hls := lsM_sp (sp := spP ca rs) hL k.toNat (by omega)
  have hlr : -1 ≤ lsM (spP ca rs) n L k.toNat ∧ lsM (spP ca rs) n L k.toNat ≤ 2187 := by rcases hls with h | h <;> omega
  have hzz : z = 0 ∨ z = 1 := by rcases hz with h | h <;> omega
  rw [show (k + 1).toNat = k.toNat + 1 by omega, jmC, lsM, show ((k.toNat : Nat) : Int) = k by omega] at K
  refine V_iload_n (Y := mX6_reach) (pc := 103) dX6_reach_103 rfl ?_
  refine V_iload (Y := mX6_reach) (pc := 104) dX6_reach_104 rfl ?_
  refine V_if_eq (tgt := 113) (Y := mX6_reach) (pc := 106) dX6_reach_106 (by decide) ⟨by omega, by omega⟩ (fun h_106 => ?_) (fun h_106 => ?_)
  · refine V_iconst (Y := mX6_reach) (pc := 113) dX6_reach_113 ?_
    refine V_iadd (Y := mX6_reach) (pc := 114) dX6_reach_114 ?_
    refine V_istore_n (Y := mX6_reach) (pc := 115) dX6_reach_115 rfl ?_
    refine V_iload (Y := mX6_reach) (pc := 116) dX6_reach_116 rfl ?_
    refine V_if_eq (tgt := 147) (Y := mX6_reach) (pc := 118) dX6_reach_118 (by decide) ⟨by omega, by omega⟩ (fun h_118 => ?_) (fun h_118 => ?_)
    · refine V_iload_n (Y := mX6_reach) (pc := 147) dX6_reach_147 rfl ?_
      refine V_istore_n (Y := mX6_reach) (pc := 148) dX6_reach_148 rfl ?_
      refine V_iinc (Y := mX6_reach) (pc := 149) dX6_reach_149 rfl rfl ?_
      refine V_goto (tgt := 32) (Y := mX6_reach) (pc := 152) dX6_reach_152 (by decide) ?_
      refine V_drop 5 ?_
      rcases hz with ⟨hz1, hj⟩ | ⟨hz1, hj⟩
      · rw [cI_t hj] at K
        first
          | (exfalso; omega)
          | (have e : jamP (spP ca rs) n (rAt L k) ∧ (lsM (spP ca rs) n L k.toNat = -1 ∨ rAt L k < lsM (spP ca rs) n L k.toNat) := ⟨hj, by omega⟩
             rw [if_pos e] at K; exact K)
          | (have e : ¬ (jamP (spP ca rs) n (rAt L k) ∧ (lsM (spP ca rs) n L k.toNat = -1 ∨ rAt L k < lsM (spP ca rs) n L k.toNat)) := fun q => by have := q.2; omega
             rw [if_neg e] at K; exact K)
      · rw [cI_f hj, if_neg (fun q => hj q.1)] at K
        first
          | (exfalso; omega)
          | exact K
    · refine V_iload_n (Y := mX6_reach) (pc := 121) dX6_reach_121 rfl ?_
      refine V_iconst (Y := mX6_reach) (pc := 122) dX6_reach_122 ?_
      refine V_icmp_eq (tgt := 137) (Y := mX6_reach) (pc := 123) dX6_reach_123 (by decide) ⟨by omega, by omega⟩ ⟨by omega, by omega⟩ (fun h_123 => ?_) (fun h_123 => ?_)
      · refine V_aload_n (Y := mX6_reach) (pc := 137) dX6_reach_137 rfl ?_
        apply V_get (Y := mX6_reach) (pc := 138) dX6_reach_138 fl_X6_41
        · assumption
        · rfl
        refine V_iload (Y := mX6_reach) (pc := 141) dX6_reach_141 rfl ?_
        apply V_iald (Y := mX6_reach) (pc := 143) dX6_reach_143
        · assumption
        · exact ⟨by omega, by omega⟩
        · omega
        rw [hs]
        refine V_goto (tgt := 148) (Y := mX6_reach) (pc := 144) dX6_reach_144 (by decide) ?_
        refine V_istore_n (Y := mX6_reach) (pc := 148) dX6_reach_148 rfl ?_
        refine V_iinc (Y := mX6_reach) (pc := 149) dX6_reach_149 rfl rfl ?_
        refine V_goto (tgt := 32) (Y := mX6_reach) (pc := 152) dX6_reach_152 (by decide) ?_
        refine V_drop 5 ?_
        rcases hz with ⟨hz1, hj⟩ | ⟨hz1, hj⟩
        · rw [cI_t hj] at K
          first
            | (exfalso; omega)
            | (have e : jamP (spP ca rs) n (rAt L k) ∧ (lsM (spP ca rs) n L k.toNat = -1 ∨ rAt L k < lsM (spP ca rs) n L k.toNat) := ⟨hj, by omega⟩
               rw [if_pos e] at K; exact K)
            | (have e : ¬ (jamP (spP ca rs) n (rAt L k) ∧ (lsM (spP ca rs) n L k.toNat = -1 ∨ rAt L k < lsM (spP ca rs) n L k.toNat)) := fun q => by have := q.2; omega
               rw [if_neg e] at K; exact K)
        · rw [cI_f hj, if_neg (fun q => hj q.1)] at K
          first
            | (exfalso; omega)
            | exact K
      · refine V_aload_n (Y := mX6_reach) (pc := 126) dX6_reach_126 rfl ?_
        apply V_get (Y := mX6_reach) (pc := 127) dX6_reach_127 fl_X6_41
        · assumption
        · rfl
        refine V_iload (Y := mX6_reach) (pc := 130) dX6_reach_130 rfl ?_
        apply V_iald (Y := mX6_reach) (pc := 132) dX6_reach_132
        · assumption
        · exact ⟨by omega, by omega⟩
        · omega
        rw [hs]
        refine V_iload_n (Y := mX6_reach) (pc := 133) dX6_reach_133 rfl ?_
        refine V_icmp_ge (tgt := 147) (Y := mX6_reach) (pc := 134) dX6_reach_134 (by decide) ⟨by omega, by omega⟩ ⟨by omega, by omega⟩ (fun h_134 => ?_) (fun h_134 => ?_)
        · refine V_iload_n (Y := mX6_reach) (pc := 147) dX6_reach_147 rfl ?_
          refine V_istore_n (Y := mX6_reach) (pc := 148) dX6_reach_148 rfl ?_
          refine V_iinc (Y := mX6_reach) (pc := 149) dX6_reach_149 rfl rfl ?_
          refine V_goto (tgt := 32) (Y := mX6_reach) (pc := 152) dX6_reach_152 (by decide) ?_
          refine V_drop 5 ?_
          rcases hz with ⟨hz1, hj⟩ | ⟨hz1, hj⟩
          · rw [cI_t hj] at K
            first
              | (exfalso; omega)
              | (have e : jamP (spP ca rs) n (rAt L k) ∧ (lsM (spP ca rs) n L k.toNat = -1 ∨ rAt L k < lsM (spP ca rs) n L k.toNat) := ⟨hj, by omega⟩
                 rw [if_pos e] at K; exact K)
              | (have e : ¬ (jamP (spP ca rs) n (rAt L k) ∧ (lsM (spP ca rs) n L k.toNat = -1 ∨ rAt L k < lsM (spP ca rs) n L k.toNat)) := fun q => by have := q.2; omega
                 rw [if_neg e] at K; exact K)
          · rw [cI_f hj, if_neg (fun q => hj q.1)] at K
            first
              | (exfalso; omega)
              | exact K
        · refine V_aload_n (Y := mX6_reach) (pc := 137) dX6_reach_137 rfl ?_
          apply V_get (Y := mX6_reach) (pc := 138) dX6_reach_138 fl_X6_41
          · assumption
          · rfl
          refine V_iload (Y := mX6_reach) (pc := 141) dX6_reach_141 rfl ?_
          apply V_iald (Y := mX6_reach) (pc := 143) dX6_reach_143
          · assumption
          · exact ⟨by omega, by omega⟩
          · omega
          rw [hs]
          refine V_goto (tgt := 148) (Y := mX6_reach) (pc := 144) dX6_reach_144 (by decide) ?_
          refine V_istore_n (Y := mX6_reach) (pc := 148) dX6_reach_148 rfl ?_
          refine V_iinc (Y := mX6_reach) (pc := 149) dX6_reach_149 rfl rfl ?_
          refine V_goto (tgt := 32) (Y := mX6_reach) (pc := 152) dX6_reach_152 (by decide) ?_
          refine V_drop 5 ?_
          rcases hz with ⟨hz1, hj⟩ | ⟨hz1, hj⟩
          · rw [cI_t hj] at K
            first
              | (exfalso; omega)
              | (have e : jamP (spP ca rs) n (rAt L k) ∧ (lsM (spP ca rs) n L k.toNat = -1 ∨ rAt L k < lsM (spP ca rs) n L k.toNat) := ⟨hj, by omega⟩
                 rw [if_pos e] at K; exact K)
              | (have e : ¬ (jamP (spP ca rs) n (rAt L k) ∧ (lsM (spP ca rs) n L k.toNat = -1 ∨ rAt L k < lsM (spP ca rs) n L k.toNat)) := fun q => by have := q.2; omega
                 rw [if_neg e] at K; exact K)
          · rw [cI_f hj, if_neg (fun q => hj q.1)] at K
            first
              | (exfalso; omega)
              | exact K
  · refine V_iconst (Y := mX6_reach) (pc := 109) dX6_reach_109 ?_
    refine V_goto (tgt := 114) (Y := mX6_reach) (pc := 110) dX6_reach_110 (by decide) ?_
    refine V_iadd (Y := mX6_reach) (pc := 114) dX6_reach_114 ?_
    refine V_istore_n (Y := mX6_reach) (pc := 115) dX6_reach_115 rfl ?_
    refine V_iload (Y := mX6_reach) (pc := 116) dX6_reach_116 rfl ?_
    refine V_if_eq (tgt := 147) (Y := mX6_reach) (pc := 118) dX6_reach_118 (by decide) ⟨by omega, by omega⟩ (fun h_118 => ?_) (fun h_118 => ?_)
    · refine V_iload_n (Y := mX6_reach) (pc := 147) dX6_reach_147 rfl ?_
      refine V_istore_n (Y := mX6_reach) (pc := 148) dX6_reach_148 rfl ?_
      refine V_iinc (Y := mX6_reach) (pc := 149) dX6_reach_149 rfl rfl ?_
      refine V_goto (tgt := 32) (Y := mX6_reach) (pc := 152) dX6_reach_152 (by decide) ?_
      refine V_drop 5 ?_
      rcases hz with ⟨hz1, hj⟩ | ⟨hz1, hj⟩
      · rw [cI_t hj] at K
        first
          | (exfalso; omega)
          | (have e : jamP (spP ca rs) n (rAt L k) ∧ (lsM (spP ca rs) n L k.toNat = -1 ∨ rAt L k < lsM (spP ca rs) n L k.toNat) := ⟨hj, by omega⟩
             rw [if_pos e] at K; exact K)
          | (have e : ¬ (jamP (spP ca rs) n (rAt L k) ∧ (lsM (spP ca rs) n L k.toNat = -1 ∨ rAt L k < lsM (spP ca rs) n L k.toNat)) := fun q => by have := q.2; omega
             rw [if_neg e] at K; exact K)
      · rw [cI_f hj, if_neg (fun q => hj q.1)] at K
        first
          | (exfalso; omega)
          | exact K
    · refine V_iload_n (Y := mX6_reach) (pc := 121) dX6_reach_121 rfl ?_
      refine V_iconst (Y := mX6_reach) (pc := 122) dX6_reach_122 ?_
      refine V_icmp_eq (tgt := 137) (Y := mX6_reach) (pc := 123) dX6_reach_123 (by decide) ⟨by omega, by omega⟩ ⟨by omega, by omega⟩ (fun h_123 => ?_) (fun h_123 => ?_)
      · refine V_aload_n (Y := mX6_reach) (pc := 137) dX6_reach_137 rfl ?_
        apply V_get (Y := mX6_reach) (pc := 138) dX6_reach_138 fl_X6_41
        · assumption
        · rfl
        refine V_iload (Y := mX6_reach) (pc := 141) dX6_reach_141 rfl ?_
        apply V_iald (Y := mX6_reach) (pc := 143) dX6_reach_143
        · assumption
        · exact ⟨by omega, by omega⟩
        · omega
        rw [hs]
        refine V_goto (tgt := 148) (Y := mX6_reach) (pc := 144) dX6_reach_144 (by decide) ?_
        refine V_istore_n (Y := mX6_reach) (pc := 148) dX6_reach_148 rfl ?_
        refine V_iinc (Y := mX6_reach) (pc := 149) dX6_reach_149 rfl rfl ?_
        refine V_goto (tgt := 32) (Y := mX6_reach) (pc := 152) dX6_reach_152 (by decide) ?_
        refine V_drop 5 ?_
        rcases hz with ⟨hz1, hj⟩ | ⟨hz1, hj⟩
        · rw [cI_t hj] at K
          first
            | (exfalso; omega)
            | (have e : jamP (spP ca rs) n (rAt L k) ∧ (lsM (spP ca rs) n L k.toNat = -1 ∨ rAt L k < lsM (spP ca rs) n L k.toNat) := ⟨hj, by omega⟩
               rw [if_pos e] at K; exact K)
            | (have e : ¬ (jamP (spP ca rs) n (rAt L k) ∧ (lsM (spP ca rs) n L k.toNat = -1 ∨ rAt L k < lsM (spP ca rs) n L k.toNat)) := fun q => by have := q.2; omega
               rw [if_neg e] at K; exact K)
        · rw [cI_f hj, if_neg (fun q => hj q.1)] at K
          first
            | (exfalso; omega)
            | exact K
      · refine V_aload_n (Y := mX6_reach) (pc := 126) dX6_reach_126 rfl ?_
        apply V_get (Y := mX6_reach) (pc := 127) dX6_reach_127 fl_X6_41
        · assumption
        · rfl
        refine V_iload (Y := mX6_reach) (pc := 130) dX6_reach_130 rfl ?_
        apply V_iald (Y := mX6_reach) (pc := 132) dX6_reach_132
        · assumption
        · exact ⟨by omega, by omega⟩
        · omega
        rw [hs]
        refine V_iload_n (Y := mX6_reach) (pc := 133) dX6_reach_133 rfl ?_
        refine V_icmp_ge (tgt := 147) (Y := mX6_reach) (pc := 134) dX6_reach_134 (by decide) ⟨by omega, by omega⟩ ⟨by omega, by omega⟩ (fun h_134 => ?_) (fun h_134 => ?_)
        · refine V_iload_n (Y := mX6_reach) (pc := 147) dX6_reach_147 rfl ?_
          refine V_istore_n (Y := mX6_reach) (pc := 148) dX6_reach_148 rfl ?_
          refine V_iinc (Y := mX6_reach) (pc := 149) dX6_reach_149 rfl rfl ?_
          refine V_goto (tgt := 32) (Y := mX6_reach) (pc := 152) dX6_reach_152 (by decide) ?_
          refine V_drop 5 ?_
          rcases hz with ⟨hz1, hj⟩ | ⟨hz1, hj⟩
          · rw [cI_t hj] at K
            first
              | (exfalso; omega)
              | (have e : jamP (spP ca rs) n (rAt L k) ∧ (lsM (spP ca rs) n L k.toNat = -1 ∨ rAt L k < lsM (spP ca rs) n L k.toNat) := ⟨hj, by omega⟩
                 rw [if_pos e] at K; exact K)
              | (have e : ¬ (jamP (spP ca rs) n (rAt L k) ∧ (lsM (spP ca rs) n L k.toNat = -1 ∨ rAt L k < lsM (spP ca rs) n L k.toNat)) := fun q => by have := q.2; omega
                 rw [if_neg e] at K; exact K)
          · rw [cI_f hj, if_neg (fun q => hj q.1)] at K
            first
              | (exfalso; omega)
              | exact K
        · refine V_aload_n (Y := mX6_reach) (pc := 137) dX6_reach_137 rfl ?_
          apply V_get (Y := mX6_reach) (pc := 138) dX6_reach_138 fl_X6_41
          · assumption
          · rfl
          refine V_iload (Y := mX6_reach) (pc := 141) dX6_reach_141 rfl ?_
          apply V_iald (Y := mX6_reach) (pc := 143) dX6_reach_143
          · assumption
          · exact ⟨by omega, by omega⟩
          · omega
          rw [hs]
          refine V_goto (tgt := 148) (Y := mX6_reach) (pc := 144) dX6_reach_144 (by decide) ?_
          refine V_istore_n (Y := mX6_reach) (pc := 148) dX6_reach_148 rfl ?_
          refine V_iinc (Y := mX6_reach) (pc := 149) dX6_reach_149 rfl rfl ?_
          refine V_goto (tgt := 32) (Y := mX6_reach) (pc := 152) dX6_reach_152 (by decide) ?_
          refine V_drop 5 ?_
          rcases hz with ⟨hz1, hj⟩ | ⟨hz1, hj⟩
          · rw [cI_t hj] at K
            first
              | (exfalso; omega)
              | (have e : jamP (spP ca rs) n (rAt L k) ∧ (lsM (spP ca rs) n L k.toNat = -1 ∨ rAt L k < lsM (spP ca rs) n L k.toNat) := ⟨hj, by omega⟩
                 rw [if_pos e] at K; exact K)
              | (have e : ¬ (jamP (spP ca rs) n (rAt L k) ∧ (lsM (spP ca rs) n L k.toNat = -1 ∨ rAt L k < lsM (spP ca rs) n L k.toNat)) := fun q => by have := q.2; omega
                 rw [if_neg e] at K; exact K)
          · rw [cI_f hj, if_neg (fun q => hj q.1)] at K
            first
              | (exfalso; omega)
              | exact K
set_option maxRecDepth 100000 in
theorem lpm_rch1 {a : Int} {L : List Int} {Q : vPost} (hM : MS w n now ca po fo rs) (hG : vGood (n, now, ca, po, fo, rs)) (hI : GI w n qt ty a0 sp tk vl mn sv L) (ha : 0 ≤ a ∧ a ≤ 2) (K : Q (some (vI (if a = 0 then (L.length : Int) else if a = 1 then jmC (spP ca rs) n L L.length else lsM (spP ca rs) n L L.length))) nn w) : ∀ (m : Nat) (k : Int), 0 ≤ k → k + m = L.length →
    V mX6_reach (rm 6) Q 32 [some (.ref 99), some (vI a), some (vI (jmC (spP ca rs) n L k.toNat)), some (vI (lsM (spP ca rs) n L k.toNat)), some (vI k), none, none] [] nn w 0 0 := by
  have hn := hG.un.1
  obtain ⟨ho, -, ⟨qu, h10, hql, hqu⟩, hd, hL, hpos⟩ := hI
  intro m
  induction m with
  | zero =>
    intro k hk hkm
    have ek : k.toNat = L.length := by omega
    refine V_iload (Y := mX6_reach) (pc := 32) dX6_reach_32 rfl ?_
    refine V_aload_n (Y := mX6_reach) (pc := 34) dX6_reach_34 rfl ?_
    apply V_get (Y := mX6_reach) (pc := 35) dX6_reach_35 fl_X6_210
    · assumption
    · rfl
    refine V_icmp_ge (tgt := 155) (Y := mX6_reach) (pc := 38) dX6_reach_38 (by decide) ⟨by omega, by omega⟩ ⟨by omega, by omega⟩ (fun h_38 => ?_) (fun h_38 => absurd h_38 (by omega))
    refine V_iload_n (Y := mX6_reach) (pc := 155) dX6_reach_155 rfl ?_
    refine V_if_ne (tgt := 166) (Y := mX6_reach) (pc := 156) dX6_reach_156 (by decide) ⟨by omega, by omega⟩ (fun h_156 => ?_) (fun h_156 => ?_)
    · refine V_iload_n (Y := mX6_reach) (pc := 166) dX6_reach_166 rfl ?_
      refine V_iconst (Y := mX6_reach) (pc := 167) dX6_reach_167 ?_
      refine V_icmp_ne (tgt := 175) (Y := mX6_reach) (pc := 168) dX6_reach_168 (by decide) ⟨by omega, by omega⟩ ⟨by omega, by omega⟩ (fun h_168 => ?_) (fun h_168 => ?_)
      · refine V_iload_n (Y := mX6_reach) (pc := 175) dX6_reach_175 rfl ?_
        refine V_iret (Y := mX6_reach) (pc := 176) dX6_reach_176 rfl (Nat.le_of_ble_eq_true rfl) (Nat.le_of_ble_eq_true rfl) ?_
        rw [← ek] at K
        first
          | (rw [if_pos (by omega)] at K; rw [ek] at K; exact K)
          | (rw [if_neg (by omega), if_pos (by omega)] at K; exact K)
          | (rw [if_neg (by omega), if_neg (by omega)] at K; exact K)
      · refine V_iload_n (Y := mX6_reach) (pc := 171) dX6_reach_171 rfl ?_
        refine V_goto (tgt := 176) (Y := mX6_reach) (pc := 172) dX6_reach_172 (by decide) ?_
        refine V_iret (Y := mX6_reach) (pc := 176) dX6_reach_176 rfl (Nat.le_of_ble_eq_true rfl) (Nat.le_of_ble_eq_true rfl) ?_
        rw [← ek] at K
        first
          | (rw [if_pos (by omega)] at K; rw [ek] at K; exact K)
          | (rw [if_neg (by omega), if_pos (by omega)] at K; exact K)
          | (rw [if_neg (by omega), if_neg (by omega)] at K; exact K)
    · refine V_aload_n (Y := mX6_reach) (pc := 159) dX6_reach_159 rfl ?_
      apply V_get (Y := mX6_reach) (pc := 160) dX6_reach_160 fl_X6_210
      · assumption
      · rfl
      refine V_goto (tgt := 176) (Y := mX6_reach) (pc := 163) dX6_reach_163 (by decide) ?_
      refine V_iret (Y := mX6_reach) (pc := 176) dX6_reach_176 rfl (Nat.le_of_ble_eq_true rfl) (Nat.le_of_ble_eq_true rfl) ?_
      rw [← ek] at K
      first
        | (rw [if_pos (by omega)] at K; rw [ek] at K; exact K)
        | (rw [if_neg (by omega), if_pos (by omega)] at K; exact K)
        | (rw [if_neg (by omega), if_neg (by omega)] at K; exact K)
  | succ m ih =>
    intro k hk hkm
    have ih1 := ih (k + 1) (by omega) (by omega)
    have hs := hqu k hk (by omega)
    refine V_iload (Y := mX6_reach) (pc := 32) dX6_reach_32 rfl ?_
    refine V_aload_n (Y := mX6_reach) (pc := 34) dX6_reach_34 rfl ?_
    apply V_get (Y := mX6_reach) (pc := 35) dX6_reach_35 fl_X6_210
    · assumption
    · rfl
    refine V_icmp_ge (tgt := 155) (Y := mX6_reach) (pc := 38) dX6_reach_38 (by decide) ⟨by omega, by omega⟩ ⟨by omega, by omega⟩ (fun h_38 => absurd h_38 (by omega)) (fun h_38 => ?_)
    refine V_iconst (Y := mX6_reach) (pc := 41) dX6_reach_41 ?_
    refine V_istore (Y := mX6_reach) (pc := 42) dX6_reach_42 rfl ?_
    refine V_iconst (Y := mX6_reach) (pc := 44) dX6_reach_44 ?_
    refine V_istore (Y := mX6_reach) (pc := 45) dX6_reach_45 rfl ?_
    exact lpm_rch2 (L := L) (s := rAt L k) hM hG ho h10 ⟨hk, by omega⟩ hs (hL _ (rAt_mem hk (by omega))) (fun z hz => lpm_rch3 ho h10 ⟨hk, by omega⟩ hs hL (by omega) hn hz ih1) n.toNat 0 1 (by omega) (by omega) (zP.t (fun d h0 h1 => by omega))
set_option maxRecDepth 100000 in
theorem mx_reach {a : Int} (h : MInv w (n, now, ca, po, fo, rs) S0 S1 k0 k1 tx rb rn rf) (hG : vGood (n, now, ca, po, fo, rs)) (ha : inR a) : Ctr mX6_reach (rm 6) [.ref 99, vI a] nn w (pI (fun z w' => z = fReach (n, now, ca, po, fo, rs) a ∧ MInv w' (n, now, ca, po, fo, rs) S0 S1 k0 k1 tx (tl1 (-2) z rb) (tl1 (-3) z rn) (tl1 (-4) z rf) ∧ frM w w') nn) := by
  refine Ctr_of (lv := [some (.ref 99), some (vI a), none, none, none, none, none]) (by decide +kernel) rfl rfl ?_
  have h0 := h
  have hM := h.1.ms
  have hn := hG.un.1
  obtain ⟨⟨-, ⟨f, hb, hB⟩, hr, hq⟩, ⟨a0, sp, tk, vl, mn, fd, sv, ho⟩, hT, hI, -, -, -, -, ⟨th, h9⟩, ⟨qu, h10⟩⟩ := h
  have hB : BkOf f n now ca po fo rs := hB
  have hl : (rs 1).length ≤ 10 := hB.2.1.1
  refine V_iload_n (Y := mX6_reach) (pc := 0) dX6_reach_0 rfl ?_
  refine V_i2l (Y := mX6_reach) (pc := 1) dX6_reach_1 ha ?_
  refine V_lconst (Y := mX6_reach) (pc := 2) dX6_reach_2 ?_
  refine V_ldc2 (z := (2 : Int)) (Y := mX6_reach) (pc := 3) dX6_reach_3 cl_X6_75 (by decide) ?_
  apply V_sR (Y := mX6_reach) (pc := 6) dX6_reach_6 ok_X6_in os_X6_in ln_X6_56 (cm_in (a := a) (b := 0) (c := 2) ha ⟨by omega, by omega⟩ ⟨by omega, by omega⟩)
  · rfl
  · rfl
  · rfl
  refine V_if_neB (tgt := 17) (Y := mX6_reach) (pc := 9) dX6_reach_9 (by decide) (fun h_9 => ?_) (fun h_9 => ?_)
  · refine V_aload_n (Y := mX6_reach) (pc := 17) dX6_reach_17 rfl ?_
    refine V_aload_n (Y := mX6_reach) (pc := 18) dX6_reach_18 rfl ?_
    apply V_vR (Y := mX6_reach) (pc := 19) dX6_reach_19 ok_X6_allCords ov_X6_allCords ln_X6_176 (cm_allCords hM)
    · assumption
    · rfl
    · rfl
    · rfl
    · rfl
    · rfl
    apply V_vV (Y := mX6_reach) (pc := 22) dX6_reach_22 ok_X6_goes ov_X6_goes ln_X6_213 (cm_goes (x := iI (alI rs)) ho hb hB hG h9 h10)
    · assumption
    · rfl
    · rfl
    · rfl
    · rfl
    · rfl
    rintro w_22 ⟨g1, f1⟩
    rw [spX_al hl] at g1
    have g0 := g1
    obtain ⟨o22, ⟨th2, t22, -⟩, ⟨qu2, q22, ql, -⟩, hd, hL, hpos⟩ := g1
    have hI2 := h0.frG o22 f1 ⟨_, t22⟩ ⟨_, q22⟩
    refine V_iconst (Y := mX6_reach) (pc := 25) dX6_reach_25 ?_
    refine V_istore_n (Y := mX6_reach) (pc := 26) dX6_reach_26 rfl ?_
    refine V_iconst (Y := mX6_reach) (pc := 27) dX6_reach_27 ?_
    refine V_istore_n (Y := mX6_reach) (pc := 28) dX6_reach_28 rfl ?_
    refine V_iconst (Y := mX6_reach) (pc := 29) dX6_reach_29 ?_
    refine V_istore (Y := mX6_reach) (pc := 30) dX6_reach_30 rfl ?_
    have hM2 := hI2.1.1.ms
    have ef : fReach (n, now, ca, po, fo, rs) a = (if a = 0 then ((gFnd (spP ca rs) n now).length : Int) else if a = 1 then jmC (spP ca rs) n (gFnd (spP ca rs) n now) (gFnd (spP ca rs) n now).length else lsM (spP ca rs) n (gFnd (spP ca rs) n now) (gFnd (spP ca rs) n now).length) := by rw [lsM_fst hL]; exact if_neg (by omega)
    refine lpm_rch1 (L := gFnd (spP ca rs) n now) hM2 hG g0 h_9 ?_ (gFnd (spP ca rs) n now).length 0 (by omega) (by omega)
    rw [← ef]
    have hz : -1 ≤ fReach (n, now, ca, po, fo, rs) a := by
      rw [ef]
      have := jmC_rng (spP ca rs) n (gFnd (spP ca rs) n now) (gFnd (spP ca rs) n now).length
      have h2 := lsM_sp (sp := spP ca rs) hL (gFnd (spP ca rs) n now).length (Nat.le_refl _)
      split
      · omega
      · split
        · omega
        · rcases h2 with h2 | h2 <;> omega
    refine pI_of ⟨rfl, ?_, hI2.2⟩
    rw [tl1_ne (by omega), tl1_ne (by omega), tl1_ne (by omega)]
    exact hI2.1
  · refine V_aload_n (Y := mX6_reach) (pc := 12) dX6_reach_12 rfl ?_
    apply V_vI (Y := mX6_reach) (pc := 13) dX6_reach_13 ok_X6_bad ov_X6_bad ln_X6_79 (cm_bad ho hr hq)
    · assumption
    · rfl
    · rfl
    · rfl
    · rfl
    · rfl
    rintro z_9 w_9 ⟨hz2, g1, f1⟩
    subst hz2
    refine V_iret (Y := mX6_reach) (pc := 16) dX6_reach_16 rfl (Nat.le_of_ble_eq_true rfl) (Nat.le_of_ble_eq_true rfl) ?_
    rw [show fReach (n, now, ca, po, fo, rs) a = -2 from if_pos h_9]
    have hK' : MK w_9 0 (n, now, ca, po, fo, rs) (tq 0 (-2) (-2) rb) (tq 0 (-3) (-2) rn) (tq 0 (-4) (-2) rf) := ⟨⟨_, _, _, _, _, _, _, _, (f1 _ (by omega)).trans ho⟩, ⟨f, (f1 _ (by omega)).trans hb, hB⟩, g1, hq⟩
    rw [tq_0, tq_0, tq_0] at hK'
    have qq := h0.frB hK' (fun j a b => f1 j b)
    exact pI_of ⟨rfl, qq.1, qq.2⟩
end MOD
