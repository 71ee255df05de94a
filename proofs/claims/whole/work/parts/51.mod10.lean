/-! ===== DrawerWallModel: REACH ===== -/
noncomputable def spX (ca : Nat) (rs : Nat → List Int) (x : Int32) (s d : Int) : Int := aft ca rs s d x
theorem spX_ok {n : Int} {ca : Nat} {rs : Nat → List Int} (hcv : cvOK n rs) (x : Int32) : spOK n (p3 n.toNat) (spX ca rs x) := fun s d hs hd => aft_rng ca hcv x hs hd
def QuM (w : vWd) (L : List Int) : Prop := ∃ qu : Nat → Int, w 110 = some (arI 2187 qu) ∧ L.length ≤ 2187 ∧ ∀ i : Int, 0 ≤ i → i < L.length → qu i.toNat = rAt L i
def frG (w w' : vWd) : Prop := ∀ j, j ≠ 99 → j ≠ 109 → j ≠ 110 → w' j = w j
theorem frG.trans {w w' w2 : vWd} (h : frG w w') (h2 : frG w' w2) : frG w w2 := fun j a b c => (h2 j a b c).trans (h j a b c)
/-- what there is while the STATES are met -/
def GI (w : vWd) (n : Int) (qt ty a0 sp tk vl mn sv : Int) (L : List Int) : Prop := w 99 = some (mO qt ty a0 sp tk vl mn L.length sv) ∧ (∃ th : Nat → Int, w 109 = some (arZ 2187 th) ∧ ∀ s : Int, isS n s → th s.toNat = cI (s ∈ L)) ∧ QuM w L ∧ L.Nodup ∧ (∀ x ∈ L, isS n x) ∧ 0 < L.length
theorem gMeet_pre {L : List Int} {t i : Int} (h : i < L.length) : rAt (gMeet L t) i = rAt L i := by
  unfold gMeet
  split
  · rfl
  · exact rAt_appL h
theorem gMeet_len (L : List Int) (t : Int) : L.length ≤ (gMeet L t).length := by
  unfold gMeet
  split
  · exact Nat.le_refl _
  · rw [List.length_append]; omega
theorem gGrow_len (sp : Int → Int → Int) (L : List Int) (s : Int) : ∀ m : Nat, L.length ≤ (gGrow sp L s m).length
  | 0 => Nat.le_refl _
  | m + 1 => Nat.le_trans (gGrow_len sp L s m) (gMeet_len _ _)
theorem gGrow_pre {sp : Int → Int → Int} {L : List Int} {s i : Int} (h : i < L.length) : ∀ m : Nat, rAt (gGrow sp L s m) i = rAt L i
  | 0 => rfl
  | m + 1 => by
    have := gGrow_len sp L s m
    rw [gGrow, gMeet_pre (by omega), gGrow_pre h m]
theorem gSpread_pre {sp : Int → Int → Int} {n : Nat} {i : Int} : ∀ (m k : Nat) (L : List Int), i < L.length → rAt (gSpread sp n m k L) i = rAt L i
  | 0, k, L, h => rfl
  | m + 1, k, L, h => by
    have := gGrow_len sp L (rAt L (k : Int)) n
    rw [gSpread]
    split
    · rw [gSpread_pre m (k + 1) _ (by omega), gGrow_pre h]
    · rfl
theorem gSpread_len {sp : Int → Int → Int} {n : Nat} : ∀ (m k : Nat) (L : List Int), L.length ≤ (gSpread sp n m k L).length
  | 0, k, L => Nat.le_refl _
  | m + 1, k, L => by
    have := gGrow_len sp L (rAt L (k : Int)) n
    rw [gSpread]
    split
    · exact Nat.le_trans this (gSpread_len m (k + 1) _)
    · exact Nat.le_refl _
theorem gFnd_0 (sp : Int → Int → Int) (n s : Int) : rAt (gFnd sp n s) 0 = s ∧ 0 < (gFnd sp n s).length := by
  have h1 := gSpread_len (sp := sp) (n := n.toNat) 2188 0 [s]
  have h2 := gSpread_pre (sp := sp) (n := n.toNat) (i := 0) 2188 0 [s] (by simp)
  exact ⟨h2, Nat.lt_of_lt_of_le (by simp) h1⟩
section MOD
variable {nn : Nat} {w : vWd} {n now : Int} {ca po fo : Nat} {rs : Nat → List Int} {qt ty a0 sp tk vl mn sv : Int} {f : Nat → Int}
theorem GI.app {L : List Int} {t : Int} {w' : vWd} {th qu : Nat → Int} (hn : 0 ≤ n ∧ n ≤ 7) (hd : L.Nodup) (hL : ∀ x ∈ L, isS n x) (hl : L.length < 2187) (ht : isS n t) (htL : t ∉ L) (h1 : w' 99 = some (mO qt ty a0 sp tk vl mn (L.length + 1) sv)) (h2 : w' 109 = some (arZ 2187 (va_up th t.toNat 1))) (h3 : w' 110 = some (arI 2187 (va_up qu ((L.length : Int)).toNat t))) (hth : ∀ s : Int, isS n s → th s.toNat = cI (s ∈ L)) (hqu : ∀ i : Int, 0 ≤ i → i < L.length → qu i.toNat = rAt L i) : GI w' n qt ty a0 sp tk vl mn sv (L ++ [t]) := by
  refine ⟨by rw [app_len]; exact h1, ⟨_, h2, fun s hs => ?_⟩, ⟨_, h3, by rw [app_len]; omega, fun i q1 q2 => ?_⟩, ?_, fun x hx => ?_, by rw [app_len]; omega⟩
  · by_cases hst : s = t
    · subst hst
      rw [va_up_self, cI_t (List.mem_append_right _ (List.mem_singleton.mpr rfl))]
    · rw [va_up_ne _ _ (by omega), hth s hs]
      exact cI_congr ⟨fun q => List.mem_append_left _ q, fun q => (List.mem_append.mp q).elim id (fun q => absurd (List.mem_singleton.mp q) hst)⟩
  · rw [app_len] at q2
    rw [rAt_app q1 (by omega)]
    by_cases hi : i = L.length
    · rw [if_pos hi, hi, va_up_self]
    · rw [if_neg hi, va_up_ne _ _ (by omega)]; exact hqu i q1 (by omega)
  · exact List.nodup_append.mpr ⟨hd, List.nodup_cons.mpr ⟨List.not_mem_nil, List.nodup_nil⟩, fun a ha b hb => by rw [List.mem_singleton.mp hb]; exact fun q => htL (q ▸ ha)⟩
  · exact (List.mem_append.mp hx).elim (hL x) (fun q => by rw [List.mem_singleton.mp q]; exact ht)
set_option maxRecDepth 100000 in
theorem lpm_goes3 {x : Int32} {k s : Int} {L0 : List Int} {Q : vPost} (hb : w 100 = some (arI 98 f)) (hB : BkOf f n now ca po fo rs) (hG : vGood (n, now, ca, po, fo, rs)) (hk : 0 ≤ k ∧ k < L0.length) (hs : s = rAt L0 k) (hss : isS n s) (K : ∀ w', GI w' n qt ty a0 sp tk vl mn sv (gGrow (spX ca rs x) L0 s n.toNat) → frG w w' → V mX6_goes (rm 5) Q 58 [some (.ref 99), some (.int x), some (vI (k + 1)), none, none] [] nn w' 0 0) : ∀ (m : Nat) (i : Int) (w' : vWd), 0 ≤ i → i + m = n → frG w w' → GI w' n qt ty a0 sp tk vl mn sv (gGrow (spX ca rs x) L0 s i.toNat) →
    V mX6_goes (rm 5) Q 68 [some (.ref 99), some (.int x), some (vI k), some (vI i), none] [] nn w' 0 0 := by
  obtain ⟨hn, hnow, hca, hpo, hfo, hgd, hcv, hor, hsg, hpast⟩ := hG.un
  have hp := p3_le n.toNat (by omega)
  have e0 : f (0 : Int).toNat = n := hB.1.1.1
  intro m
  induction m with
  | zero =>
    intro i w' hi him hf hI
    have hin : i = n := by omega
    rw [hin] at hI ⊢
    have K2 := K w' hI hf
    obtain ⟨ho, ⟨th, h9, hth⟩, ⟨qu, h10, hql, hqu⟩, hd, hL, hpos⟩ := hI
    have hb' := (hf 100 (by omega) (by omega) (by omega)).trans hb
    refine V_iload_n (Y := mX6_goes) (pc := 68) dX6_goes_68 rfl ?_
    refine V_aload_n (Y := mX6_goes) (pc := 69) dX6_goes_69 rfl ?_
    apply V_get (Y := mX6_goes) (pc := 70) dX6_goes_70 fl_X6_7
    · assumption
    · rfl
    refine V_iconst (Y := mX6_goes) (pc := 73) dX6_goes_73 ?_
    apply V_iald (Y := mX6_goes) (pc := 74) dX6_goes_74
    · assumption
    · exact ⟨by omega, by omega⟩
    · omega
    rw [e0]
    refine V_icmp_ge (tgt := 137) (Y := mX6_goes) (pc := 75) dX6_goes_75 (by decide) ⟨by omega, by omega⟩ ⟨by omega, by omega⟩ (fun h_75 => ?_) (fun h_75 => absurd h_75 (by omega))
    refine V_iinc (Y := mX6_goes) (pc := 137) dX6_goes_137 rfl rfl ?_
    refine V_goto (tgt := 58) (Y := mX6_goes) (pc := 140) dX6_goes_140 (by decide) ?_
    exact V_drop 3 K2
  | succ m ih =>
    intro i w' hi him hf hI
    have hpre := gGrow_pre (sp := spX ca rs x) (s := s) hk.2 i.toNat
    have hlen := gGrow_len (spX ca rs x) L0 s i.toNat
    have hg : gGrow (spX ca rs x) L0 s (i + 1).toNat = gMeet (gGrow (spX ca rs x) L0 s i.toNat) (spX ca rs x s i) := by
      rw [show (i + 1).toNat = i.toNat + 1 by omega, gGrow, show ((i.toNat : Nat) : Int) = i by omega]
    have ih1 := fun (w2 : vWd) => ih (i + 1) w2 (by omega) (by omega)
    rw [hg] at ih1
    have hI0 := hI
    generalize hLi : gGrow (spX ca rs x) L0 s i.toNat = L at *
    obtain ⟨ho, ⟨th, h9, hth⟩, ⟨qu, h10, hql, hqu⟩, hd, hL, hpos⟩ := hI
    have hb' := (hf 100 (by omega) (by omega) (by omega)).trans hb
    have hM : MS w' n now ca po fo rs := ⟨f, ⟨_, _, _, _, _, _, _, _, _, ho⟩, hb', hB⟩
    have hqk : qu k.toNat = s := by rw [hqu k hk.1 (by omega), hpre, hs]
    have ht : isS n (spX ca rs x s i) := spX_ok hcv x s i hss ⟨hi, by omega⟩
    have htt : th (spX ca rs x s i).toNat = cI (spX ca rs x s i ∈ L) := hth _ ht
    refine V_iload_n (Y := mX6_goes) (pc := 68) dX6_goes_68 rfl ?_
    refine V_aload_n (Y := mX6_goes) (pc := 69) dX6_goes_69 rfl ?_
    apply V_get (Y := mX6_goes) (pc := 70) dX6_goes_70 fl_X6_7
    · assumption
    · rfl
    refine V_iconst (Y := mX6_goes) (pc := 73) dX6_goes_73 ?_
    apply V_iald (Y := mX6_goes) (pc := 74) dX6_goes_74
    · assumption
    · exact ⟨by omega, by omega⟩
    · omega
    rw [e0]
    refine V_icmp_ge (tgt := 137) (Y := mX6_goes) (pc := 75) dX6_goes_75 (by decide) ⟨by omega, by omega⟩ ⟨by omega, by omega⟩ (fun h_75 => absurd h_75 (by omega)) (fun h_75 => ?_)
    refine V_aload_n (Y := mX6_goes) (pc := 78) dX6_goes_78 rfl ?_
    refine V_aload_n (Y := mX6_goes) (pc := 79) dX6_goes_79 rfl ?_
    apply V_get (Y := mX6_goes) (pc := 80) dX6_goes_80 fl_X6_41
    · assumption
    · rfl
    refine V_iload_n (Y := mX6_goes) (pc := 83) dX6_goes_83 rfl ?_
    apply V_iald (Y := mX6_goes) (pc := 84) dX6_goes_84
    · assumption
    · exact ⟨by omega, by omega⟩
    · omega
    rw [hqk]
    refine V_iload_n (Y := mX6_goes) (pc := 85) dX6_goes_85 rfl ?_
    refine V_iload_n (Y := mX6_goes) (pc := 86) dX6_goes_86 rfl ?_
    apply V_vR (Y := mX6_goes) (pc := 87) dX6_goes_87 ok_X6_pulled ov_X6_pulled ln_X6_179 (cm_pulled (s := s) (d := i) (x := x) hM hn hcv hca hss ⟨hi, by omega⟩)
    · assumption
    · rfl
    · rfl
    · rfl
    · rfl
    · rfl
    rw [show aft ca rs s i x = spX ca rs x s i from rfl]
    refine V_istore (Y := mX6_goes) (pc := 90) dX6_goes_90 rfl ?_
    refine V_aload_n (Y := mX6_goes) (pc := 92) dX6_goes_92 rfl ?_
    apply V_get (Y := mX6_goes) (pc := 93) dX6_goes_93 fl_X6_38
    · assumption
    · rfl
    refine V_iload (Y := mX6_goes) (pc := 96) dX6_goes_96 rfl ?_
    apply V_zald (Y := mX6_goes) (pc := 98) dX6_goes_98
    · assumption
    · exact ⟨by omega, by omega⟩
    · omega
    rw [htt]
    refine V_if_ne (tgt := 131) (Y := mX6_goes) (pc := 99) dX6_goes_99 (by decide) (cI_R _) (fun h_99 => ?_) (fun h_99 => ?_)
    · have hmm : gMeet L (spX ca rs x s i) = if spX ca rs x s i ∈ L then L else L ++ [spX ca rs x s i] := rfl
      refine V_iinc (Y := mX6_goes) (pc := 131) dX6_goes_131 rfl rfl ?_
      refine V_goto (tgt := 68) (Y := mX6_goes) (pc := 134) dX6_goes_134 (by decide) ?_
      refine V_drop 4 ?_
      first
        | (rw [hmm, if_pos (cI_n h_99)] at ih1
           exact ih1 w' hf hI0)
        | (rw [hmm, if_neg htL] at ih1
           refine ih1 w_128 (fun j a b c => (f_128 j a).trans ((f_120 j c).trans ((f_109 j b).trans (hf j a b c)))) ?_
           exact GI.app ⟨by omega, by omega⟩ hd hL hl2 ht htL h_128 ((f_128 _ (by omega)).trans ((f_120 _ (by omega)).trans h_109)) ((f_128 _ (by omega)).trans h_120) hth hqu)
    · have hmm : gMeet L (spX ca rs x s i) = if spX ca rs x s i ∈ L then L else L ++ [spX ca rs x s i] := rfl
      refine V_aload_n (Y := mX6_goes) (pc := 102) dX6_goes_102 rfl ?_
      apply V_get (Y := mX6_goes) (pc := 103) dX6_goes_103 fl_X6_38
      · assumption
      · rfl
      refine V_iload (Y := mX6_goes) (pc := 106) dX6_goes_106 rfl ?_
      refine V_iconst (Y := mX6_goes) (pc := 108) dX6_goes_108 ?_
      apply V_zastW (Y := mX6_goes) (pc := 109) dX6_goes_109
      · assumption
      · exact ⟨by omega, by omega⟩
      · omega
      · exact (by exact Or.inr rfl)
      intro w_109 h_109 f_109
      have o109 := (f_109 99 (by omega)).trans ho
      have q109 := (f_109 110 (by omega)).trans h10
      have htL := cI_0.mp h_99
      have hl2 := fnd_lt (N := p3 n.toNat) (by omega) hd (fun y hy => hL y hy) ht htL
      refine V_aload_n (Y := mX6_goes) (pc := 110) dX6_goes_110 rfl ?_
      apply V_get (Y := mX6_goes) (pc := 111) dX6_goes_111 fl_X6_41
      · assumption
      · rfl
      refine V_aload_n (Y := mX6_goes) (pc := 114) dX6_goes_114 rfl ?_
      apply V_get (Y := mX6_goes) (pc := 115) dX6_goes_115 fl_X6_210
      · assumption
      · rfl
      refine V_iload (Y := mX6_goes) (pc := 118) dX6_goes_118 rfl ?_
      apply V_iastW (Y := mX6_goes) (pc := 120) dX6_goes_120
      · assumption
      · exact ⟨by omega, by omega⟩
      · omega
      intro w_120 h_120 f_120
      have o120 := (f_120 99 (by omega)).trans o109
      refine V_aload_n (Y := mX6_goes) (pc := 121) dX6_goes_121 rfl ?_
      refine V_dup (Y := mX6_goes) (pc := 122) dX6_goes_122 rfl ?_
      apply V_get (Y := mX6_goes) (pc := 123) dX6_goes_123 fl_X6_210
      · assumption
      · rfl
      refine V_iconst (Y := mX6_goes) (pc := 126) dX6_goes_126 ?_
      refine V_iadd (Y := mX6_goes) (pc := 127) dX6_goes_127 ?_
      apply V_putiW (Y := mX6_goes) (pc := 128) dX6_goes_128 fl_X6_210
      · assumption
      · exact Nat.le_of_ble_eq_true rfl
      intro w_128 h_128 f_128
      simp only [List.set_cons_zero, List.set_cons_succ] at h_128
      refine V_iinc (Y := mX6_goes) (pc := 131) dX6_goes_131 rfl rfl ?_
      refine V_goto (tgt := 68) (Y := mX6_goes) (pc := 134) dX6_goes_134 (by decide) ?_
      refine V_drop 4 ?_
      first
        | (rw [hmm, if_pos (cI_n h_99)] at ih1
           exact ih1 w' hf hI0)
        | (rw [hmm, if_neg htL] at ih1
           refine ih1 w_128 (fun j a b c => (f_128 j a).trans ((f_120 j c).trans ((f_109 j b).trans (hf j a b c)))) ?_
           exact GI.app ⟨by omega, by omega⟩ hd hL hl2 ht htL h_128 ((f_128 _ (by omega)).trans ((f_120 _ (by omega)).trans h_109)) ((f_128 _ (by omega)).trans h_120) hth hqu)
set_option maxRecDepth 100000 in
theorem lpm_goes2 {x : Int32} {G : List Int} {Q : vPost} (hb : w 100 = some (arI 98 f)) (hB : BkOf f n now ca po fo rs) (hG : vGood (n, now, ca, po, fo, rs)) (K : ∀ w', GI w' n qt ty a0 sp tk vl mn sv G → frG w w' → Q none nn w') : ∀ (m : Nat) (k : Int) (w' : vWd) (L : List Int), 0 ≤ k → k + m = 2188 → k ≤ L.length → frG w w' → GI w' n qt ty a0 sp tk vl mn sv L → gSpread (spX ca rs x) n.toNat m k.toNat L = G →
    V mX6_goes (rm 5) Q 58 [some (.ref 99), some (.int x), some (vI k), none, none] [] nn w' 0 0 := by
  have hG0 := hG
  obtain ⟨hn, hnow, hca, hpo, hfo, hgd, hcv, hor, hsg, hpast⟩ := hG.un
  intro m
  induction m with
  | zero =>
    intro k w' L hk hkm hkl hf hI hg
    have := hI.2.2.1
    obtain ⟨qu, h10, hql, hqu⟩ := this
    exfalso
    omega
  | succ m ih =>
    intro k w' L hk hkm hkl hf hI hg
    have hI0 := hI
    obtain ⟨ho, ⟨th, h9, hth⟩, ⟨qu, h10, hql, hqu⟩, hd, hL, hpos⟩ := hI
    have hb' := (hf 100 (by omega) (by omega) (by omega)).trans hb
    rw [gSpread] at hg
    rw [show ((k.toNat : Nat) : Int) = k by omega] at hg
    refine V_iload_n (Y := mX6_goes) (pc := 58) dX6_goes_58 rfl ?_
    refine V_aload_n (Y := mX6_goes) (pc := 59) dX6_goes_59 rfl ?_
    apply V_get (Y := mX6_goes) (pc := 60) dX6_goes_60 fl_X6_210
    · assumption
    · rfl
    refine V_icmp_ge (tgt := 143) (Y := mX6_goes) (pc := 63) dX6_goes_63 (by decide) ⟨by omega, by omega⟩ ⟨by omega, by omega⟩ (fun h_63 => ?_) (fun h_63 => ?_)
    · refine V_vret (Y := mX6_goes) (pc := 143) dX6_goes_143 rfl (Nat.le_of_ble_eq_true rfl) (Nat.le_of_ble_eq_true rfl) ?_
      rw [if_neg (by omega)] at hg
      rw [hg] at hI0
      exact K w' hI0 hf
    · refine V_iconst (Y := mX6_goes) (pc := 66) dX6_goes_66 ?_
      refine V_istore_n (Y := mX6_goes) (pc := 67) dX6_goes_67 rfl ?_
      rw [if_pos (by omega)] at hg
      have hlen := gGrow_len (spX ca rs x) L (rAt L k) n.toNat
      refine lpm_goes3 (L0 := L) (s := rAt L k) hb' hB hG0 ⟨hk, by omega⟩ rfl (hL _ (rAt_mem hk (by omega))) (fun w2 q1 q2 => ih (k + 1) w2 _ (by omega) (by omega) (by omega) (hf.trans q2) q1 (by rw [show (k + 1).toNat = k.toNat + 1 by omega]; exact hg)) n.toNat 0 w' (by omega) (by omega) (fun _ _ _ _ => rfl) hI0
set_option maxRecDepth 100000 in
theorem lpm_goes1 {x : Int32} {fd : Int} {Q : vPost} (ho : w 99 = some (mO qt ty a0 sp tk vl mn fd sv)) (hb : w 100 = some (arI 98 f)) (hB : BkOf f n now ca po fo rs) (hG : vGood (n, now, ca, po, fo, rs)) {qu : Nat → Int} (h10 : w 110 = some (arI 2187 qu)) (K : ∀ w', GI w' n qt ty a0 sp tk vl mn sv (gFnd (spX ca rs x) n now) → frG w w' → Q none nn w') : ∀ (m : Nat) (i : Int) (w' : vWd) (th : Nat → Int), 0 ≤ i → i + m = p3 n.toNat → (∀ j, j ≠ 109 → w' j = w j) → w' 109 = some (arZ 2187 th) → (∀ s : Int, 0 ≤ s → s < i → th s.toNat = cI (s ∈ [now])) →
    V mX6_goes (rm 5) Q 2 [some (.ref 99), some (.int x), some (vI i), none, none] [] nn w' 0 0 := by
  have hG0 := hG
  obtain ⟨hn, hnow, hca, hpo, hfo, hgd, hcv, hor, hsg, hpast⟩ := hG.un
  have hp := p3_le n.toNat (by omega)
  have e7 : f (7 : Int).toNat = now := hB.1.2.2.2.2.1
  intro m
  induction m with
  | zero =>
    intro i w' th hi him hf h9 hth
    have ho' := (hf 99 (by omega)).trans ho
    have hb' := (hf 100 (by omega)).trans hb
    have h10' := (hf 110 (by omega)).trans h10
    have hM : MS w' n now ca po fo rs := ⟨f, ⟨_, _, _, _, _, _, _, _, _, ho'⟩, hb', hB⟩
    refine V_iload_n (Y := mX6_goes) (pc := 2) dX6_goes_2 rfl ?_
    refine V_aload_n (Y := mX6_goes) (pc := 3) dX6_goes_3 rfl ?_
    apply V_vR (Y := mX6_goes) (pc := 4) dX6_goes_4 ok_X6_states ov_X6_states ln_X6_183 (cm_states hM hn)
    · assumption
    · rfl
    · rfl
    · rfl
    · rfl
    · rfl
    refine V_icmp_ge (tgt := 38) (Y := mX6_goes) (pc := 7) dX6_goes_7 (by decide) ⟨by omega, by omega⟩ ⟨by omega, by omega⟩ (fun h_7 => ?_) (fun h_7 => absurd h_7 (by omega))
    refine V_aload_n (Y := mX6_goes) (pc := 38) dX6_goes_38 rfl ?_
    apply V_get (Y := mX6_goes) (pc := 39) dX6_goes_39 fl_X6_41
    · assumption
    · rfl
    refine V_iconst (Y := mX6_goes) (pc := 42) dX6_goes_42 ?_
    refine V_aload_n (Y := mX6_goes) (pc := 43) dX6_goes_43 rfl ?_
    apply V_get (Y := mX6_goes) (pc := 44) dX6_goes_44 fl_X6_7
    · assumption
    · rfl
    refine V_bipush (Y := mX6_goes) (pc := 47) dX6_goes_47 ⟨by decide, by decide⟩ ?_
    apply V_iald (Y := mX6_goes) (pc := 49) dX6_goes_49
    · assumption
    · exact ⟨by omega, by omega⟩
    · omega
    rw [e7]
    apply V_iastW (Y := mX6_goes) (pc := 50) dX6_goes_50
    · assumption
    · exact ⟨by omega, by omega⟩
    · omega
    intro w_50 h_50 f_50
    have o50 := (f_50 99 (by omega)).trans ho'
    refine V_aload_n (Y := mX6_goes) (pc := 51) dX6_goes_51 rfl ?_
    refine V_iconst (Y := mX6_goes) (pc := 52) dX6_goes_52 ?_
    apply V_putiW (Y := mX6_goes) (pc := 53) dX6_goes_53 fl_X6_210
    · assumption
    · exact Nat.le_of_ble_eq_true rfl
    intro w_53 h_53 f_53
    simp only [List.set_cons_zero, List.set_cons_succ] at h_53
    refine V_iconst (Y := mX6_goes) (pc := 56) dX6_goes_56 ?_
    refine V_istore_n (Y := mX6_goes) (pc := 57) dX6_goes_57 rfl ?_
    refine lpm_goes2 (w := w) hb hB hG0 K 2188 0 w_53 [now] (by omega) (by omega) (by simp) (fun j a b c => (f_53 j a).trans ((f_50 j c).trans (hf j b))) ⟨h_53, ⟨th, (f_53 _ (by omega)).trans ((f_50 _ (by omega)).trans h9), fun s hs => hth s hs.1 (by omega)⟩, ⟨_, (f_53 _ (by omega)).trans h_50, by simp, fun j q1 q2 => ?_⟩, List.nodup_cons.mpr ⟨List.not_mem_nil, List.nodup_nil⟩, fun y hy => by rw [List.mem_singleton.mp hy]; exact hnow, by simp⟩ rfl
    have q2 : j < (1 : Nat) := q2
    rw [show j = 0 by omega]; rfl
  | succ m ih =>
    intro i w' th hi him hf h9 hth
    have ho' := (hf 99 (by omega)).trans ho
    have hb' := (hf 100 (by omega)).trans hb
    have hM : MS w' n now ca po fo rs := ⟨f, ⟨_, _, _, _, _, _, _, _, _, ho'⟩, hb', hB⟩
    refine V_iload_n (Y := mX6_goes) (pc := 2) dX6_goes_2 rfl ?_
    refine V_aload_n (Y := mX6_goes) (pc := 3) dX6_goes_3 rfl ?_
    apply V_vR (Y := mX6_goes) (pc := 4) dX6_goes_4 ok_X6_states ov_X6_states ln_X6_183 (cm_states hM hn)
    · assumption
    · rfl
    · rfl
    · rfl
    · rfl
    · rfl
    refine V_icmp_ge (tgt := 38) (Y := mX6_goes) (pc := 7) dX6_goes_7 (by decide) ⟨by omega, by omega⟩ ⟨by omega, by omega⟩ (fun h_7 => absurd h_7 (by omega)) (fun h_7 => ?_)
    refine V_aload_n (Y := mX6_goes) (pc := 10) dX6_goes_10 rfl ?_
    apply V_get (Y := mX6_goes) (pc := 11) dX6_goes_11 fl_X6_38
    · assumption
    · rfl
    refine V_iload_n (Y := mX6_goes) (pc := 14) dX6_goes_14 rfl ?_
    refine V_iload_n (Y := mX6_goes) (pc := 15) dX6_goes_15 rfl ?_
    refine V_aload_n (Y := mX6_goes) (pc := 16) dX6_goes_16 rfl ?_
    apply V_get (Y := mX6_goes) (pc := 17) dX6_goes_17 fl_X6_7
    · assumption
    · rfl
    refine V_bipush (Y := mX6_goes) (pc := 20) dX6_goes_20 ⟨by decide, by decide⟩ ?_
    apply V_iald (Y := mX6_goes) (pc := 22) dX6_goes_22
    · assumption
    · exact ⟨by omega, by omega⟩
    · omega
    rw [e7]
    refine V_icmp_ne (tgt := 30) (Y := mX6_goes) (pc := 23) dX6_goes_23 (by decide) ⟨by omega, by omega⟩ ⟨by omega, by omega⟩ (fun h_23 => ?_) (fun h_23 => ?_)
    · refine V_iconst (Y := mX6_goes) (pc := 30) dX6_goes_30 ?_
      apply V_zastW (Y := mX6_goes) (pc := 31) dX6_goes_31
      · assumption
      · exact ⟨by omega, by omega⟩
      · omega
      · exact (by first | exact Or.inl rfl | exact Or.inr rfl)
      intro w_31 h_31 f_31
      refine V_iinc (Y := mX6_goes) (pc := 32) dX6_goes_32 rfl rfl ?_
      refine V_goto (tgt := 2) (Y := mX6_goes) (pc := 35) dX6_goes_35 (by decide) ?_
      refine ih (i + 1) w_31 _ (by omega) (by omega) (fun j hj => (f_31 j hj).trans (hf j hj)) h_31 (fun s q1 q2 => ?_)
      by_cases hs : s = i
      · subst hs
        rw [va_up_self]
        first
          | exact (cI_t (List.mem_singleton.mpr h_23)).symm
          | exact (cI_f (fun q => h_23 (List.mem_singleton.mp q))).symm
      · rw [va_up_ne _ _ (by omega)]; exact hth s q1 (by omega)
    · refine V_iconst (Y := mX6_goes) (pc := 26) dX6_goes_26 ?_
      refine V_goto (tgt := 31) (Y := mX6_goes) (pc := 27) dX6_goes_27 (by decide) ?_
      apply V_zastW (Y := mX6_goes) (pc := 31) dX6_goes_31
      · assumption
      · exact ⟨by omega, by omega⟩
      · omega
      · exact (by first | exact Or.inl rfl | exact Or.inr rfl)
      intro w_31 h_31 f_31
      refine V_iinc (Y := mX6_goes) (pc := 32) dX6_goes_32 rfl rfl ?_
      refine V_goto (tgt := 2) (Y := mX6_goes) (pc := 35) dX6_goes_35 (by decide) ?_
      refine ih (i + 1) w_31 _ (by omega) (by omega) (fun j hj => (f_31 j hj).trans (hf j hj)) h_31 (fun s q1 q2 => ?_)
      by_cases hs : s = i
      · subst hs
        rw [va_up_self]
        first
          | exact (cI_t (List.mem_singleton.mpr h_23)).symm
          | exact (cI_f (fun q => h_23 (List.mem_singleton.mp q))).symm
      · rw [va_up_ne _ _ (by omega)]; exact hth s q1 (by omega)
set_option maxRecDepth 100000 in
theorem cm_goes {x : Int32} {fd : Int} {qu th : Nat → Int} (ho : w 99 = some (mO qt ty a0 sp tk vl mn fd sv)) (hb : w 100 = some (arI 98 f)) (hB : BkOf f n now ca po fo rs) (hG : vGood (n, now, ca, po, fo, rs)) (h9 : w 109 = some (arZ 2187 th)) (h10 : w 110 = some (arI 2187 qu)) : Ctr mX6_goes (rm 5) [.ref 99, .int x] nn w (pV (fun w' => GI w' n qt ty a0 sp tk vl mn sv (gFnd (spX ca rs x) n now) ∧ frG w w') nn) := by
  refine Ctr_of (lv := [some (.ref 99), some (.int x), none, none, none]) (by decide +kernel) rfl rfl ?_
  have hp := p3_1 n.toNat
  refine V_iconst (Y := mX6_goes) (pc := 0) dX6_goes_0 ?_
  refine V_istore_n (Y := mX6_goes) (pc := 1) dX6_goes_1 rfl ?_
  exact lpm_goes1 ho hb hB hG h10 (fun w' q1 q2 => pV_of ⟨q1, q2⟩) (p3 n.toNat).toNat 0 w th (by omega) (by omega) (fun _ _ => rfl) h9 (fun s q1 q2 => by omega)
end MOD
