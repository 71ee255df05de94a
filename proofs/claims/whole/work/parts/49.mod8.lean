/-! ===== DrawerWallModel: FITS, images, the text ===== -/
theorem ftL_0 (P : Int → Prop) : ∀ m : Nat, ftC P m = 0 → ftL P m = -1
  | 0 => fun _ => rfl
  | m + 1 => fun h => by
    have h1 := ftC_rng P m
    have h2 := cI_01 (P m)
    rw [ftC] at h
    have hp : ¬ P m := cI_0.mp (by omega)
    rw [ftL, if_neg (fun q => hp q.2)]
    exact ftL_0 P m (by omega)
theorem ftL_iff (P : Int → Prop) (m : Nat) : ftL P m = -1 ↔ ftC P m = 0 :=
  ⟨fun h => by
    by_cases hc : ftC P m = 0
    · exact hc
    · have := ftL_pos P m hc; omega, ftL_0 P m⟩
theorem BkS.ext {f f' : Nat → Int} {S : vSt} (h : BkS f S) (he : ∀ i, i < 98 → f' i = f i) : BkS f' S := by
  obtain ⟨⟨⟨b0, b1, b2, b3⟩, b4, b5, b6, b7, b8⟩, ⟨l1, l5, l6, l8, l0⟩, hd, hc, hor, hs, hp⟩ := h
  refine ⟨⟨⟨(he 0 (by omega)).trans b0, (he 1 (by omega)).trans b1, (he 2 (by omega)).trans b2, (he 3 (by omega)).trans b3⟩, (he 4 (by omega)).trans b4, (he 5 (by omega)).trans b5, (he 6 (by omega)).trans b6, (he 7 (by omega)).trans b7, (he 8 (by omega)).trans b8⟩, ⟨l1, l5, l6, l8, l0⟩, fun d q1 q2 => (he _ (by omega)).trans (hd d q1 q2), fun c q1 q2 => ?_, fun d q1 q2 => (he _ (by omega)).trans (hor d q1 q2), fun c q1 q2 => ?_, fun d q1 q2 => (he _ (by omega)).trans (hp d q1 q2)⟩
  · obtain ⟨c1, c2, c3, c4⟩ := hc c q1 q2
    exact ⟨(he _ (by omega)).trans c1, (he _ (by omega)).trans c2, (he _ (by omega)).trans c3, (he _ (by omega)).trans c4⟩
  · obtain ⟨c1, c2⟩ := hs c q1 q2
    exact ⟨(he _ (by omega)).trans c1, (he _ (by omega)).trans c2⟩
theorem seen_no {ca : Nat} {rs : Nat → List Int} {x : Int32} {k N : Nat} (h : k ≤ N) (hn : ¬ seenP ca rs x k) : ¬ seenP ca rs x N := fun q => hn (fun j h0 h1 => q j h0 (by omega))
section MOD
variable {nn : Nat} {w : vWd} {n now : Int} {ca po fo : Nat} {rs : Nat → List Int} {qt : Int} {rb rn rf k0 k1 : Int} {S0 S1 : vSt} {tx : List Int}
set_option maxRecDepth 100000 in
theorem lpm_fit2 {a c l x : Int} {Q : vPost} (hM : MS w n now ca po fo rs) (hG : vGood (n, now, ca, po, fo, rs)) (K : ∀ z : Int, zP z (seenP ca rs (iI x) (rs 6).length) → V mX6_fits (rm 5) Q 114 [some (.ref 99), some (vI a), some (vI c), some (vI l), some (vI x), some (vI z), none, none, none] [] nn w 0 0) : ∀ (m : Nat) (k z : Int), 0 ≤ k → k + m = (rs 6).length → zP z (seenP ca rs (iI x) k.toNat) →
    V mX6_fits (rm 5) Q 40 [some (.ref 99), some (vI a), some (vI c), some (vI l), some (vI x), some (vI z), some (vI (sgPrev rs k)), some (vI k), none] [] nn w 0 0 := by
  have hM0 := hM
  obtain ⟨hn, hnow, hca, hpo, hfo, hgd, hcv, hor, hsg, hpast⟩ := hG.un
  obtain ⟨f, ⟨qt, ty, a0, sp, tk, vl, mn, fd, sv, ho⟩, hb0, hB⟩ := hM
  have e3 : f (3 : Int).toNat = (rs 6).length := hB.1.1.2.2.2
  have hl := hB.2.1
  have hp := p3_le n.toNat (by omega)
  intro m
  induction m with
  | zero =>
    intro k z hk hkm hz
    refine V_iload (Y := mX6_fits) (pc := 40) dX6_fits_40 rfl ?_
    refine V_aload_n (Y := mX6_fits) (pc := 42) dX6_fits_42 rfl ?_
    apply V_get (Y := mX6_fits) (pc := 43) dX6_fits_43 fl_X6_7
    · assumption
    · rfl
    refine V_iconst (Y := mX6_fits) (pc := 46) dX6_fits_46 ?_
    apply V_iald (Y := mX6_fits) (pc := 47) dX6_fits_47
    · assumption
    · exact ⟨by omega, by omega⟩
    · omega
    rw [e3]
    refine V_icmp_ge (tgt := 114) (Y := mX6_fits) (pc := 48) dX6_fits_48 (by decide) ⟨by omega, by omega⟩ ⟨by omega, by omega⟩ (fun h_48 => ?_) (fun h_48 => absurd h_48 (by omega))
    rw [show k.toNat = (rs 6).length by omega] at hz
    exact V_drop 6 (V_drop 7 (K z hz))
  | succ m ih =>
    intro k z hk hkm hz
    have q := hsg.2 k hk (by omega)
    have hpv : isS n (sgPrev rs k) := by
      unfold sgPrev
      split
      · exact ⟨by omega, by have := p3_1 n.toNat; omega⟩
      · exact (hsg.2 (k - 1) (by omega) (by omega)).2
    obtain ⟨b1, b2⟩ := hB.2.2.2.2.2.1 k hk (by omega)
    have ek : sgPrev rs (k + 1) = rAt (rs 7) k := by rw [sgPrev, if_neg (by omega)]; congr 1; omega
    have hzz : z = 0 ∨ z = 1 := by rcases hz with h | h <;> omega
    have hsr := aft_rng ca hcv (iI x) hpv q.1
    have ih1 := fun (z' : Int) (hz' : zP z' (seenP ca rs (iI x) (k.toNat + 1))) => ih (k + 1) z' (by omega) (by omega) (by rw [show (k + 1).toNat = k.toNat + 1 by omega]; exact hz')
    rw [ek] at ih1
    have hsucc : seenP ca rs (iI x) (k.toNat + 1) ↔ (seenP ca rs (iI x) k.toNat ∧ aft ca rs (sgPrev rs k) (rAt (rs 6) k) (iI x) = rAt (rs 7) k) :=
      ⟨fun h => ⟨fun j h0 h1 => h j h0 (by omega), h k hk (by omega)⟩, fun h j h0 h1 => by
        by_cases hj : j = k
        · subst hj; exact h.2
        · exact h.1 j h0 (by omega)⟩
    refine V_iload (Y := mX6_fits) (pc := 40) dX6_fits_40 rfl ?_
    refine V_aload_n (Y := mX6_fits) (pc := 42) dX6_fits_42 rfl ?_
    apply V_get (Y := mX6_fits) (pc := 43) dX6_fits_43 fl_X6_7
    · assumption
    · rfl
    refine V_iconst (Y := mX6_fits) (pc := 46) dX6_fits_46 ?_
    apply V_iald (Y := mX6_fits) (pc := 47) dX6_fits_47
    · assumption
    · exact ⟨by omega, by omega⟩
    · omega
    rw [e3]
    refine V_icmp_ge (tgt := 114) (Y := mX6_fits) (pc := 48) dX6_fits_48 (by decide) ⟨by omega, by omega⟩ ⟨by omega, by omega⟩ (fun h_48 => absurd h_48 (by omega)) (fun h_48 => ?_)
    refine V_iload (Y := mX6_fits) (pc := 51) dX6_fits_51 rfl ?_
    refine V_if_eq (tgt := 114) (Y := mX6_fits) (pc := 53) dX6_fits_53 (by decide) ⟨by omega, by omega⟩ (fun h_53 => ?_) (fun h_53 => ?_)
    · refine V_drop 6 (V_drop 7 (K z ?_))
      rcases hz with hz | hz
      · exfalso; omega
      · exact Or.inr ⟨hz.1, seen_no (by omega) hz.2⟩
    · refine V_aload_n (Y := mX6_fits) (pc := 56) dX6_fits_56 rfl ?_
      apply V_get (Y := mX6_fits) (pc := 57) dX6_fits_57 fl_X6_7
      · assumption
      · rfl
      refine V_bipush (Y := mX6_fits) (pc := 60) dX6_fits_60 ⟨by decide, by decide⟩ ?_
      refine V_iconst (Y := mX6_fits) (pc := 62) dX6_fits_62 ?_
      refine V_iload (Y := mX6_fits) (pc := 63) dX6_fits_63 rfl ?_
      refine V_imul (Y := mX6_fits) (pc := 65) dX6_fits_65 ?_
      refine V_iadd (Y := mX6_fits) (pc := 66) dX6_fits_66 ?_
      refine V_iconst (Y := mX6_fits) (pc := 67) dX6_fits_67 ?_
      refine V_iadd (Y := mX6_fits) (pc := 68) dX6_fits_68 ?_
      apply V_iald (Y := mX6_fits) (pc := 69) dX6_fits_69
      · assumption
      · exact ⟨by omega, by omega⟩
      · omega
      rw [b2]
      refine V_istore (Y := mX6_fits) (pc := 70) dX6_fits_70 rfl ?_
      refine V_aload_n (Y := mX6_fits) (pc := 72) dX6_fits_72 rfl ?_
      refine V_iload (Y := mX6_fits) (pc := 73) dX6_fits_73 rfl ?_
      refine V_aload_n (Y := mX6_fits) (pc := 75) dX6_fits_75 rfl ?_
      apply V_get (Y := mX6_fits) (pc := 76) dX6_fits_76 fl_X6_7
      · assumption
      · rfl
      refine V_bipush (Y := mX6_fits) (pc := 79) dX6_fits_79 ⟨by decide, by decide⟩ ?_
      refine V_iconst (Y := mX6_fits) (pc := 81) dX6_fits_81 ?_
      refine V_iload (Y := mX6_fits) (pc := 82) dX6_fits_82 rfl ?_
      refine V_imul (Y := mX6_fits) (pc := 84) dX6_fits_84 ?_
      refine V_iadd (Y := mX6_fits) (pc := 85) dX6_fits_85 ?_
      apply V_iald (Y := mX6_fits) (pc := 86) dX6_fits_86
      · assumption
      · exact ⟨by omega, by omega⟩
      · omega
      rw [b1]
      refine V_iload (Y := mX6_fits) (pc := 87) dX6_fits_87 rfl ?_
      apply V_vR (Y := mX6_fits) (pc := 89) dX6_fits_89 ok_X6_pulled ov_X6_pulled ln_X6_179 (cm_pulled (s := sgPrev rs k) (d := rAt (rs 6) k) (x := iI x) hM0 hn hcv hca hpv q.1)
      · assumption
      · rfl
      · rfl
      · rfl
      · rfl
      · rfl
      refine V_iload (Y := mX6_fits) (pc := 92) dX6_fits_92 rfl ?_
      refine V_icmp_ne (tgt := 101) (Y := mX6_fits) (pc := 94) dX6_fits_94 (by decide) ⟨by omega, by omega⟩ ⟨by omega, by omega⟩ (fun h_94 => ?_) (fun h_94 => ?_)
      · refine V_iconst (Y := mX6_fits) (pc := 101) dX6_fits_101 ?_
        refine V_istore (Y := mX6_fits) (pc := 102) dX6_fits_102 rfl ?_
        refine V_iload (Y := mX6_fits) (pc := 104) dX6_fits_104 rfl ?_
        refine V_istore (Y := mX6_fits) (pc := 106) dX6_fits_106 rfl ?_
        refine V_iinc (Y := mX6_fits) (pc := 108) dX6_fits_108 rfl rfl ?_
        refine V_goto (tgt := 40) (Y := mX6_fits) (pc := 111) dX6_fits_111 (by decide) ?_
        refine V_drop 8 ?_
        have hs1 : seenP ca rs (iI x) k.toNat := by
          rcases hz with hz | hz
          · exact hz.2
          · exfalso; omega
        first
          | exact ih1 _ (zP.t (hsucc.mpr ⟨hs1, h_94⟩))
          | exact ih1 _ (zP.f (fun qq => h_94 (hsucc.mp qq).2))
      · refine V_iconst (Y := mX6_fits) (pc := 97) dX6_fits_97 ?_
        refine V_goto (tgt := 102) (Y := mX6_fits) (pc := 98) dX6_fits_98 (by decide) ?_
        refine V_istore (Y := mX6_fits) (pc := 102) dX6_fits_102 rfl ?_
        refine V_iload (Y := mX6_fits) (pc := 104) dX6_fits_104 rfl ?_
        refine V_istore (Y := mX6_fits) (pc := 106) dX6_fits_106 rfl ?_
        refine V_iinc (Y := mX6_fits) (pc := 108) dX6_fits_108 rfl rfl ?_
        refine V_goto (tgt := 40) (Y := mX6_fits) (pc := 111) dX6_fits_111 (by decide) ?_
        refine V_drop 8 ?_
        have hs1 : seenP ca rs (iI x) k.toNat := by
          rcases hz with hz | hz
          · exact hz.2
          · exfalso; omega
        first
          | exact ih1 _ (zP.t (hsucc.mpr ⟨hs1, h_94⟩))
          | exact ih1 _ (zP.f (fun qq => h_94 (hsucc.mp qq).2))
set_option maxRecDepth 100000 in
theorem lpm_fit3 {a x z : Int} {P : Int → Prop} {Q : vPost} (hx : 0 ≤ x) (hz : zP z (P x)) (K : V mX6_fits (rm 5) Q 22 [some (.ref 99), some (vI a), some (vI (ftC P x.toNat + cI (P x))), some (vI (@ite Int (ftC P x.toNat = 0 ∧ P x) (Classical.propDecidable _) x (ftL P x.toNat))), some (vI (x + 1)), none, none, none, none] [] nn w 0 0) (hx2 : x ≤ 1024) :
    V mX6_fits (rm 5) Q 114 [some (.ref 99), some (vI a), some (vI (ftC P x.toNat)), some (vI (ftL P x.toNat)), some (vI x), some (vI z), none, none, none] [] nn w 0 0 := by
  have r1 := ftC_rng P x.toNat
  have r2 := ftL_rng P x.toNat
  have r3 := ftL_iff P x.toNat
  have hz01 : z = 0 ∨ z = 1 := by rcases hz with h | h <;> omega
  refine V_iload_n (Y := mX6_fits) (pc := 114) dX6_fits_114 rfl ?_
  refine V_iload (Y := mX6_fits) (pc := 115) dX6_fits_115 rfl ?_
  refine V_if_eq (tgt := 124) (Y := mX6_fits) (pc := 117) dX6_fits_117 (by decide) ⟨by omega, by omega⟩ (fun h_117 => ?_) (fun h_117 => ?_)
  · refine V_iconst (Y := mX6_fits) (pc := 124) dX6_fits_124 ?_
    refine V_iadd (Y := mX6_fits) (pc := 125) dX6_fits_125 ?_
    refine V_istore_n (Y := mX6_fits) (pc := 126) dX6_fits_126 rfl ?_
    refine V_iload (Y := mX6_fits) (pc := 127) dX6_fits_127 rfl ?_
    refine V_if_eq (tgt := 142) (Y := mX6_fits) (pc := 129) dX6_fits_129 (by decide) ⟨by omega, by omega⟩ (fun h_129 => ?_) (fun h_129 => ?_)
    · refine V_iload_n (Y := mX6_fits) (pc := 142) dX6_fits_142 rfl ?_
      refine V_istore_n (Y := mX6_fits) (pc := 143) dX6_fits_143 rfl ?_
      refine V_iinc (Y := mX6_fits) (pc := 144) dX6_fits_144 rfl rfl ?_
      refine V_goto (tgt := 22) (Y := mX6_fits) (pc := 147) dX6_fits_147 (by decide) ?_
      refine V_drop 5 ?_
      rcases hz with ⟨hz1, hp⟩ | ⟨hz1, hp⟩
      · rw [cI_t hp] at K
        first
          | (exfalso; omega)
          | (rw [if_pos ⟨r3.mp h_134, hp⟩] at K; exact K)
          | (rw [if_neg (fun q => h_134 (r3.mpr q.1))] at K; exact K)
      · rw [cI_f hp, if_neg (fun q => hp q.2)] at K
        first
          | (exfalso; omega)
          | exact K
    · refine V_iload_n (Y := mX6_fits) (pc := 132) dX6_fits_132 rfl ?_
      refine V_iconst (Y := mX6_fits) (pc := 133) dX6_fits_133 ?_
      refine V_icmp_ne (tgt := 142) (Y := mX6_fits) (pc := 134) dX6_fits_134 (by decide) ⟨by omega, by omega⟩ ⟨by omega, by omega⟩ (fun h_134 => ?_) (fun h_134 => ?_)
      · refine V_iload_n (Y := mX6_fits) (pc := 142) dX6_fits_142 rfl ?_
        refine V_istore_n (Y := mX6_fits) (pc := 143) dX6_fits_143 rfl ?_
        refine V_iinc (Y := mX6_fits) (pc := 144) dX6_fits_144 rfl rfl ?_
        refine V_goto (tgt := 22) (Y := mX6_fits) (pc := 147) dX6_fits_147 (by decide) ?_
        refine V_drop 5 ?_
        rcases hz with ⟨hz1, hp⟩ | ⟨hz1, hp⟩
        · rw [cI_t hp] at K
          first
            | (exfalso; omega)
            | (rw [if_pos ⟨r3.mp h_134, hp⟩] at K; exact K)
            | (rw [if_neg (fun q => h_134 (r3.mpr q.1))] at K; exact K)
        · rw [cI_f hp, if_neg (fun q => hp q.2)] at K
          first
            | (exfalso; omega)
            | exact K
      · refine V_iload (Y := mX6_fits) (pc := 137) dX6_fits_137 rfl ?_
        refine V_goto (tgt := 143) (Y := mX6_fits) (pc := 139) dX6_fits_139 (by decide) ?_
        refine V_istore_n (Y := mX6_fits) (pc := 143) dX6_fits_143 rfl ?_
        refine V_iinc (Y := mX6_fits) (pc := 144) dX6_fits_144 rfl rfl ?_
        refine V_goto (tgt := 22) (Y := mX6_fits) (pc := 147) dX6_fits_147 (by decide) ?_
        refine V_drop 5 ?_
        rcases hz with ⟨hz1, hp⟩ | ⟨hz1, hp⟩
        · rw [cI_t hp] at K
          first
            | (exfalso; omega)
            | (rw [if_pos ⟨r3.mp h_134, hp⟩] at K; exact K)
            | (rw [if_neg (fun q => h_134 (r3.mpr q.1))] at K; exact K)
        · rw [cI_f hp, if_neg (fun q => hp q.2)] at K
          first
            | (exfalso; omega)
            | exact K
  · refine V_iconst (Y := mX6_fits) (pc := 120) dX6_fits_120 ?_
    refine V_goto (tgt := 125) (Y := mX6_fits) (pc := 121) dX6_fits_121 (by decide) ?_
    refine V_iadd (Y := mX6_fits) (pc := 125) dX6_fits_125 ?_
    refine V_istore_n (Y := mX6_fits) (pc := 126) dX6_fits_126 rfl ?_
    refine V_iload (Y := mX6_fits) (pc := 127) dX6_fits_127 rfl ?_
    refine V_if_eq (tgt := 142) (Y := mX6_fits) (pc := 129) dX6_fits_129 (by decide) ⟨by omega, by omega⟩ (fun h_129 => ?_) (fun h_129 => ?_)
    · refine V_iload_n (Y := mX6_fits) (pc := 142) dX6_fits_142 rfl ?_
      refine V_istore_n (Y := mX6_fits) (pc := 143) dX6_fits_143 rfl ?_
      refine V_iinc (Y := mX6_fits) (pc := 144) dX6_fits_144 rfl rfl ?_
      refine V_goto (tgt := 22) (Y := mX6_fits) (pc := 147) dX6_fits_147 (by decide) ?_
      refine V_drop 5 ?_
      rcases hz with ⟨hz1, hp⟩ | ⟨hz1, hp⟩
      · rw [cI_t hp] at K
        first
          | (exfalso; omega)
          | (rw [if_pos ⟨r3.mp h_134, hp⟩] at K; exact K)
          | (rw [if_neg (fun q => h_134 (r3.mpr q.1))] at K; exact K)
      · rw [cI_f hp, if_neg (fun q => hp q.2)] at K
        first
          | (exfalso; omega)
          | exact K
    · refine V_iload_n (Y := mX6_fits) (pc := 132) dX6_fits_132 rfl ?_
      refine V_iconst (Y := mX6_fits) (pc := 133) dX6_fits_133 ?_
      refine V_icmp_ne (tgt := 142) (Y := mX6_fits) (pc := 134) dX6_fits_134 (by decide) ⟨by omega, by omega⟩ ⟨by omega, by omega⟩ (fun h_134 => ?_) (fun h_134 => ?_)
      · refine V_iload_n (Y := mX6_fits) (pc := 142) dX6_fits_142 rfl ?_
        refine V_istore_n (Y := mX6_fits) (pc := 143) dX6_fits_143 rfl ?_
        refine V_iinc (Y := mX6_fits) (pc := 144) dX6_fits_144 rfl rfl ?_
        refine V_goto (tgt := 22) (Y := mX6_fits) (pc := 147) dX6_fits_147 (by decide) ?_
        refine V_drop 5 ?_
        rcases hz with ⟨hz1, hp⟩ | ⟨hz1, hp⟩
        · rw [cI_t hp] at K
          first
            | (exfalso; omega)
            | (rw [if_pos ⟨r3.mp h_134, hp⟩] at K; exact K)
            | (rw [if_neg (fun q => h_134 (r3.mpr q.1))] at K; exact K)
        · rw [cI_f hp, if_neg (fun q => hp q.2)] at K
          first
            | (exfalso; omega)
            | exact K
      · refine V_iload (Y := mX6_fits) (pc := 137) dX6_fits_137 rfl ?_
        refine V_goto (tgt := 143) (Y := mX6_fits) (pc := 139) dX6_fits_139 (by decide) ?_
        refine V_istore_n (Y := mX6_fits) (pc := 143) dX6_fits_143 rfl ?_
        refine V_iinc (Y := mX6_fits) (pc := 144) dX6_fits_144 rfl rfl ?_
        refine V_goto (tgt := 22) (Y := mX6_fits) (pc := 147) dX6_fits_147 (by decide) ?_
        refine V_drop 5 ?_
        rcases hz with ⟨hz1, hp⟩ | ⟨hz1, hp⟩
        · rw [cI_t hp] at K
          first
            | (exfalso; omega)
            | (rw [if_pos ⟨r3.mp h_134, hp⟩] at K; exact K)
            | (rw [if_neg (fun q => h_134 (r3.mpr q.1))] at K; exact K)
        · rw [cI_f hp, if_neg (fun q => hp q.2)] at K
          first
            | (exfalso; omega)
            | exact K
set_option maxRecDepth 100000 in
theorem lpm_fit1 {a : Int} (hK : MK w 0 (n, now, ca, po, fo, rs) rb rn rf) (hG : vGood (n, now, ca, po, fo, rs)) (ha : 0 ≤ a ∧ a ≤ 1) (P : Int → Prop) (hP : P = fun x => seenP ca rs (iI x) (rs 6).length) (N : Nat) (hN : N = p2 (rs 1).length) (hN2 : N ≤ 1024) : ∀ (m : Nat) (x : Int), 0 ≤ x → x + m = N →
    V mX6_fits (rm 5) (pI (fun z w' => z = fFits (n, now, ca, po, fo, rs) a ∧ MK w' 0 (n, now, ca, po, fo, rs) (tq 0 (-2) z rb) (tq 0 (-3) z rn) (tq 0 (-4) z rf) ∧ frB w w') nn) 22 [some (.ref 99), some (vI a), some (vI (ftC P x.toNat)), some (vI (ftL P x.toNat)), some (vI x), none, none, none, none] [] nn w 0 0 := by
  have hM := hK.ms
  have hK0 := hK
  obtain ⟨hn, hnow, hca, hpo, hfo, hgd, hcv, hor, hsg, hpast⟩ := hG.un
  obtain ⟨⟨ty, a0, sp, tk, vl, mn, fd, sv, ho⟩, ⟨f, hb0, hB⟩, hr, hq⟩ := hK
  have hal : alI rs = (N : Int) - 1 := by rw [alI, hN]
  intro m
  induction m with
  | zero =>
    intro x hx hxm
    have hxN : x.toNat = N := by omega
    have r1 := ftC_rng P x.toNat
    have r2 := ftL_rng P x.toNat
    have r3 := ftL_iff P x.toNat
    refine V_iload (Y := mX6_fits) (pc := 22) dX6_fits_22 rfl ?_
    refine V_aload_n (Y := mX6_fits) (pc := 24) dX6_fits_24 rfl ?_
    apply V_vR (Y := mX6_fits) (pc := 25) dX6_fits_25 ok_X6_allCords ov_X6_allCords ln_X6_176 (cm_allCords hM)
    · assumption
    · rfl
    · rfl
    · rfl
    · rfl
    · rfl
    rw [hal]
    refine V_icmp_gt (tgt := 150) (Y := mX6_fits) (pc := 28) dX6_fits_28 (by decide) ⟨by omega, by omega⟩ ⟨by omega, by omega⟩ (fun h_28 => ?_) (fun h_28 => absurd h_28 (by omega))
    refine V_iload_n (Y := mX6_fits) (pc := 150) dX6_fits_150 rfl ?_
    refine V_if_ne (tgt := 158) (Y := mX6_fits) (pc := 151) dX6_fits_151 (by decide) ⟨by omega, by omega⟩ (fun h_151 => ?_) (fun h_151 => ?_)
    · refine V_iload_n (Y := mX6_fits) (pc := 158) dX6_fits_158 rfl ?_
      refine V_iconst (Y := mX6_fits) (pc := 159) dX6_fits_159 ?_
      refine V_icmp_ne (tgt := 170) (Y := mX6_fits) (pc := 160) dX6_fits_160 (by decide) ⟨by omega, by omega⟩ ⟨by omega, by omega⟩ (fun h_160 => ?_) (fun h_160 => ?_)
      · refine V_iload_n (Y := mX6_fits) (pc := 170) dX6_fits_170 rfl ?_
        refine V_iret (Y := mX6_fits) (pc := 171) dX6_fits_171 rfl (Nat.le_of_ble_eq_true rfl) (Nat.le_of_ble_eq_true rfl) ?_
        have ef : fFits (n, now, ca, po, fo, rs) a = (if a = 0 then ftC P N else if ftC P N = 0 then -3 else ftL P N) := by rw [hP, hN]; exact if_neg (by omega)
        rw [hxN] at r1 r2 r3
        first
          | (rw [ef, hxN, if_pos (by omega)]; exact pI_of ⟨rfl, hK0.tq0 (by omega), frB.refl w⟩)
          | (rw [ef, if_neg (by omega), if_pos (by rw [hxN] at h_160; omega)]; exact pI_of ⟨rfl, ⟨⟨_, _, _, _, _, _, _, _, (f1 _ (by omega)).trans ho⟩, ⟨f, (f1 _ (by omega)).trans hb0, hB⟩, g1, hq⟩, fun j a b => f1 j b⟩)
          | (rw [hxN] at h_160; rw [ef, hxN, if_neg (by omega), if_neg (by omega)]; exact pI_of ⟨rfl, hK0.tq0 (by omega), frB.refl w⟩)
      · refine V_aload_n (Y := mX6_fits) (pc := 163) dX6_fits_163 rfl ?_
        apply V_vI (Y := mX6_fits) (pc := 164) dX6_fits_164 ok_X6_no ov_X6_no ln_X6_98 (cm_no ho hr hq)
        · assumption
        · rfl
        · rfl
        · rfl
        · rfl
        · rfl
        rintro z_9 w_9 ⟨hz2, g1, f1⟩
        subst hz2
        refine V_goto (tgt := 171) (Y := mX6_fits) (pc := 167) dX6_fits_167 (by decide) ?_
        refine V_iret (Y := mX6_fits) (pc := 171) dX6_fits_171 rfl (Nat.le_of_ble_eq_true rfl) (Nat.le_of_ble_eq_true rfl) ?_
        have ef : fFits (n, now, ca, po, fo, rs) a = (if a = 0 then ftC P N else if ftC P N = 0 then -3 else ftL P N) := by rw [hP, hN]; exact if_neg (by omega)
        rw [hxN] at r1 r2 r3
        first
          | (rw [ef, hxN, if_pos (by omega)]; exact pI_of ⟨rfl, hK0.tq0 (by omega), frB.refl w⟩)
          | (rw [ef, if_neg (by omega), if_pos (by rw [hxN] at h_160; omega)]; exact pI_of ⟨rfl, ⟨⟨_, _, _, _, _, _, _, _, (f1 _ (by omega)).trans ho⟩, ⟨f, (f1 _ (by omega)).trans hb0, hB⟩, g1, hq⟩, fun j a b => f1 j b⟩)
          | (rw [hxN] at h_160; rw [ef, hxN, if_neg (by omega), if_neg (by omega)]; exact pI_of ⟨rfl, hK0.tq0 (by omega), frB.refl w⟩)
    · refine V_iload_n (Y := mX6_fits) (pc := 154) dX6_fits_154 rfl ?_
      refine V_goto (tgt := 171) (Y := mX6_fits) (pc := 155) dX6_fits_155 (by decide) ?_
      refine V_iret (Y := mX6_fits) (pc := 171) dX6_fits_171 rfl (Nat.le_of_ble_eq_true rfl) (Nat.le_of_ble_eq_true rfl) ?_
      have ef : fFits (n, now, ca, po, fo, rs) a = (if a = 0 then ftC P N else if ftC P N = 0 then -3 else ftL P N) := by rw [hP, hN]; exact if_neg (by omega)
      rw [hxN] at r1 r2 r3
      first
        | (rw [ef, hxN, if_pos (by omega)]; exact pI_of ⟨rfl, hK0.tq0 (by omega), frB.refl w⟩)
        | (rw [ef, if_neg (by omega), if_pos (by rw [hxN] at h_160; omega)]; exact pI_of ⟨rfl, ⟨⟨_, _, _, _, _, _, _, _, (f1 _ (by omega)).trans ho⟩, ⟨f, (f1 _ (by omega)).trans hb0, hB⟩, g1, hq⟩, fun j a b => f1 j b⟩)
        | (rw [hxN] at h_160; rw [ef, hxN, if_neg (by omega), if_neg (by omega)]; exact pI_of ⟨rfl, hK0.tq0 (by omega), frB.refl w⟩)
  | succ m ih =>
    intro x hx hxm
    have ih1 := ih (x + 1) (by omega) (by omega)
    rw [show (x + 1).toNat = x.toNat + 1 by omega, ftC, ftL] at ih1
    have r1 := ftC_rng P x.toNat
    have r2 := ftL_rng P x.toNat
    have r3 := ftL_iff P x.toNat
    have ex : ((x.toNat : Nat) : Int) = x := by omega
    rw [ex] at ih1
    refine V_iload (Y := mX6_fits) (pc := 22) dX6_fits_22 rfl ?_
    refine V_aload_n (Y := mX6_fits) (pc := 24) dX6_fits_24 rfl ?_
    apply V_vR (Y := mX6_fits) (pc := 25) dX6_fits_25 ok_X6_allCords ov_X6_allCords ln_X6_176 (cm_allCords hM)
    · assumption
    · rfl
    · rfl
    · rfl
    · rfl
    · rfl
    rw [hal]
    refine V_icmp_gt (tgt := 150) (Y := mX6_fits) (pc := 28) dX6_fits_28 (by decide) ⟨by omega, by omega⟩ ⟨by omega, by omega⟩ (fun h_28 => absurd h_28 (by omega)) (fun h_28 => ?_)
    refine V_iconst (Y := mX6_fits) (pc := 31) dX6_fits_31 ?_
    refine V_istore (Y := mX6_fits) (pc := 32) dX6_fits_32 rfl ?_
    refine V_iconst (Y := mX6_fits) (pc := 34) dX6_fits_34 ?_
    refine V_istore (Y := mX6_fits) (pc := 35) dX6_fits_35 rfl ?_
    refine V_iconst (Y := mX6_fits) (pc := 37) dX6_fits_37 ?_
    refine V_istore (Y := mX6_fits) (pc := 38) dX6_fits_38 rfl ?_
    refine lpm_fit2 hM hG (fun z hz => ?_) (rs 6).length 0 1 (by omega) (by omega) (zP.t (fun j h0 h1 => by have h1 : j < (0 : Nat) := h1; omega))
    have hz : zP z (P x) := by rw [hP]; exact hz
    exact lpm_fit3 (P := P) hx hz ih1 (by omega)
end MOD
