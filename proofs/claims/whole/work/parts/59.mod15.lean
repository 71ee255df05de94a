/-! ===== DrawerWallModel: pulls, safe ===== -/
section MOD
variable {nn : Nat} {w : vWd} {n now : Int} {ca po fo : Nat} {rs : Nat → List Int} {sp : Int → Int → Int} {P G : Int → Prop} {k0 k1 rb rn rf : Int} {S0 S1 : vSt} {tx : List Int}
theorem MInv.frL {w w' : vWd} {S S0 S1 : vSt} {k0 k1 rb rn rf : Int} {tx : List Int} (h : MInv w S S0 S1 k0 k1 tx rb rn rf) (hf : ∀ j, j ≠ 107 → j ≠ 108 → w' j = w j) (h7 : ∃ g, w' 107 = some (arI 15309 g)) (h8 : ∃ g, w' 108 = some (arI 2187 g)) : MInv w' S S0 S1 k0 k1 tx rb rn rf ∧ frM w w' := by
  obtain ⟨⟨⟨ty, a0, sp, tk, vl, mn, fd, sv, ho⟩, ⟨f, hb, hB⟩, hr, hq⟩, hO, hT, hI, s1, s2, -, -, s5, s6⟩ := h
  have o := fun (j : Nat) (q : j < 107 ∨ 109 ≤ j) => hf j (by omega) (by omega)
  refine ⟨⟨⟨⟨_, _, _, _, _, _, _, _, (o _ (by omega)).trans ho⟩, ⟨f, (o _ (by omega)).trans hb, hB⟩, hr.keep (o _ (by omega)), hq⟩, hO.keep (o _ (by omega)), hT.keep (o _ (by omega)), hI.keep (o _ (by omega)) (o _ (by omega)), ?_, ?_, h7, h8, ?_, ?_⟩, fun j hj => o j (by omega)⟩
  · obtain ⟨g, q⟩ := s1; exact ⟨g, (o _ (by omega)).trans q⟩
  · obtain ⟨g, q⟩ := s2; exact ⟨g, (o _ (by omega)).trans q⟩
  · obtain ⟨g, q⟩ := s5; exact ⟨g, (o _ (by omega)).trans q⟩
  · obtain ⟨g, q⟩ := s6; exact ⟨g, (o _ (by omega)).trans q⟩
set_option maxRecDepth 100000 in
theorem lpm_rows {x y i e all nv : Int} {fr : Nat → Int} {Q : vPost} (hM : MS w n now ca po fo rs) (hn : 2 ≤ n ∧ n ≤ 7) (hnow : isS n now) (hsp : spOK n (p3 n.toNat) sp) (hL : LdM w n sp) (h8 : w 108 = some (arI 2187 fr)) (hI : IsFar n sp P G (fun s => fr s.toNat)) (hrg : ∀ s : Int, isS n s → -2 ≤ fr s.toNat ∧ fr s.toNat ≤ 2187) (hi : 0 ≤ i ∧ i < fr now.toNat) (hQ : Q (some (vI (nxF sp n (fun s => fr s.toNat) (rwF sp n (fun s => fr s.toNat) now i.toNat)))) nn w) : ∀ (m : Nat) (k : Int), 0 ≤ k → k + m = i →
    V mX6_rows (rm 6) Q 119 [some (.ref 99), some (vI x), some (vI y), some (vI i), some (vI e), some (vI all), some (vI (rwF sp n (fun s => fr s.toNat) now k.toNat)), some (vI nv), some (vI k)] [] nn w 0 0 := by
  have hM0 := hM
  have hL0 := hL
  obtain ⟨f, ⟨qt, ty, a0, sp0, tk, vl, mn, fd, sv, ho⟩, hb, hB⟩ := hM
  have hp := p3_le n.toNat (by omega)
  obtain ⟨ld, h7, hld⟩ := hL
  have hr0 := hrg now hnow
  intro m
  induction m with
  | zero =>
    intro k hk hkm
    have hki : k.toNat = i.toNat := by omega
    have hv := v_spec hI (by omega) hsp hnow i.toNat (by show ((i.toNat : Nat) : Int) ≤ fr now.toNat; omega)
    have hv2 : fr (rwF sp n (fun s => fr s.toNat) now i.toNat).toNat = fr now.toNat - (i.toNat : Nat) := hv.2
    rw [hki]
    refine V_iload (Y := mX6_rows) (pc := 119) dX6_rows_119 rfl ?_
    refine V_iload_n (Y := mX6_rows) (pc := 121) dX6_rows_121 rfl ?_
    refine V_icmp_ge (tgt := 150) (Y := mX6_rows) (pc := 122) dX6_rows_122 (by decide) ⟨by omega, by omega⟩ ⟨by omega, by omega⟩ (fun h_122 => ?_) (fun h_122 => absurd h_122 (by omega))
    refine V_aload_n (Y := mX6_rows) (pc := 150) dX6_rows_150 rfl ?_
    refine V_iload (Y := mX6_rows) (pc := 151) dX6_rows_151 rfl ?_
    apply V_vR (Y := mX6_rows) (pc := 153) dX6_rows_153 ok_X6_next ov_X6_next ln_X6_203 (cm_next hM0 hn hsp hL0 h8 hI hrg hv.1 (by omega))
    · assumption
    · rfl
    · rfl
    · rfl
    · rfl
    · rfl
    refine V_iret (Y := mX6_rows) (pc := 156) dX6_rows_156 rfl (Nat.le_of_ble_eq_true rfl) (Nat.le_of_ble_eq_true rfl) ?_
    exact hQ
  | succ m ih =>
    intro k hk hkm
    have ih1 := ih (k + 1) (by omega) (by omega)
    rw [show (k + 1).toNat = k.toNat + 1 by omega, rwF] at ih1
    have hv := v_spec hI (by omega) hsp hnow k.toNat (by show ((k.toNat : Nat) : Int) ≤ fr now.toNat; omega)
    have hv2 : fr (rwF sp n (fun s => fr s.toNat) now k.toNat).toNat = fr now.toNat - (k.toNat : Nat) := hv.2
    have hnx := nx_spec hI (by omega) hv.1 (by show 0 < fr (rwF sp n (fun s => fr s.toNat) now k.toNat).toNat; omega)
    have hl := hld _ _ hv.1 hnx.1
    refine V_iload (Y := mX6_rows) (pc := 119) dX6_rows_119 rfl ?_
    refine V_iload_n (Y := mX6_rows) (pc := 121) dX6_rows_121 rfl ?_
    refine V_icmp_ge (tgt := 150) (Y := mX6_rows) (pc := 122) dX6_rows_122 (by decide) ⟨by omega, by omega⟩ ⟨by omega, by omega⟩ (fun h_122 => absurd h_122 (by omega)) (fun h_122 => ?_)
    refine V_aload_n (Y := mX6_rows) (pc := 125) dX6_rows_125 rfl ?_
    apply V_get (Y := mX6_rows) (pc := 126) dX6_rows_126 fl_X6_32
    · assumption
    · rfl
    refine V_bipush (Y := mX6_rows) (pc := 129) dX6_rows_129 ⟨by decide, by decide⟩ ?_
    refine V_iload (Y := mX6_rows) (pc := 131) dX6_rows_131 rfl ?_
    refine V_imul (Y := mX6_rows) (pc := 133) dX6_rows_133 ?_
    refine V_aload_n (Y := mX6_rows) (pc := 134) dX6_rows_134 rfl ?_
    refine V_iload (Y := mX6_rows) (pc := 135) dX6_rows_135 rfl ?_
    apply V_vR (Y := mX6_rows) (pc := 137) dX6_rows_137 ok_X6_next ov_X6_next ln_X6_203 (cm_next hM0 hn hsp hL0 h8 hI hrg hv.1 (by omega))
    · assumption
    · rfl
    · rfl
    · rfl
    · rfl
    · rfl
    refine V_iadd (Y := mX6_rows) (pc := 140) dX6_rows_140 ?_
    apply V_iald (Y := mX6_rows) (pc := 141) dX6_rows_141
    · assumption
    · exact ⟨by omega, by omega⟩
    · omega
    rw [hl]
    refine V_istore (Y := mX6_rows) (pc := 142) dX6_rows_142 rfl ?_
    refine V_iinc (Y := mX6_rows) (pc := 144) dX6_rows_144 rfl rfl ?_
    refine V_goto (tgt := 119) (Y := mX6_rows) (pc := 147) dX6_rows_147 (by decide) ?_
    exact ih1
set_option maxRecDepth 100000 in
theorem lpm_rowsR {x y i e all : Int} {ty a0 sp0 tk vl mn fd sv : Int} {Q : vPost} (ho : w 99 = some (mO 0 ty a0 sp0 tk vl mn fd sv)) (hr : RfAt w rb rn rf) (hQ : ∀ w', RfAt w' (rb + 1) rn rf → (∀ j, j ≠ 104 → w' j = w j) → Q (some (vI (-10))) nn w') :
    V mX6_rows (rm 6) Q 47 [some (.ref 99), some (vI x), some (vI y), some (vI i), some (vI e), some (vI all), none, none, none] [] nn w 0 0 := by
  refine V_aload_n (Y := mX6_rows) (pc := 47) dX6_rows_47 rfl ?_
  refine V_iconst (Y := mX6_rows) (pc := 48) dX6_rows_48 ?_
  refine V_bipush (Y := mX6_rows) (pc := 49) dX6_rows_49 ⟨by decide, by decide⟩ ?_
  apply V_vI (Y := mX6_rows) (pc := 51) dX6_rows_51 ok_X6_refuses ov_X6_refuses ln_X6_52 (cm_refuses (s := 0) (v := -10) ho hr (Or.inl rfl) (Or.inl rfl))
  · assumption
  · rfl
  · rfl
  · rfl
  · rfl
  · rfl
  rintro z_4 w_4 ⟨hz, g1, f1⟩
  refine V_iret (Y := mX6_rows) (pc := 54) dX6_rows_54 rfl (Nat.le_of_ble_eq_true rfl) (Nat.le_of_ble_eq_true rfl) ?_
  rw [hz]
  exact hQ w_4 (by simpa using g1) f1
theorem p2_pow (k : Nat) : p2 k = 2 ^ k := rfl
set_option maxRecDepth 100000 in
theorem cm_rows {x y i e : Int} (h : MInv w (n, now, ca, po, fo, rs) S0 S1 k0 k1 tx rb rn rf) (hG : vGood (n, now, ca, po, fo, rs)) (hx : inR x) (hy : inR y) (hi : inR i) (he : e = 0 ∨ e = 1) : Ctr mX6_rows (rm 6) [.ref 99, vI x, vI y, vI i, vI e] nn w (pI (fun z w' => mlRel (n, now, ca, po, fo, rs) e x y i z ∧ MInv w' (n, now, ca, po, fo, rs) S0 S1 k0 k1 tx (rb + cI (¬ plOK n x y i)) rn rf ∧ frM w w') nn) := by
  refine Ctr_of (lv := [some (.ref 99), some (vI x), some (vI y), some (vI i), some (vI e), none, none, none, none]) (by decide +kernel) rfl rfl ?_
  have h0 := h
  have hM := h.1.ms
  have hG0 := hG
  obtain ⟨hn, hnow, hca, hpo, hfo, hgd, hcv, hor, hsg, hpast⟩ := hG.un
  obtain ⟨⟨-, ⟨f, hb, hB⟩, hr, hq⟩, ⟨a0, sp, tk, vl, mn, fd, sv, ho⟩, hT, hI, s1, s2, ⟨ld, h7⟩, ⟨fr, h8⟩, s5, s6⟩ := h
  have hB : BkOf f n now ca po fo rs := hB
  have e0 : f (0 : Int).toNat = n := hB.1.1.1
  have e7 : f (7 : Int).toNat = now := hB.1.2.2.2.2.1
  have hp2 := p2_le n.toNat (by omega)
  have hp1 := p2_pos n.toNat
  have hp := p3_le n.toNat (by omega)
  have hsp := spP_ok (ca := ca) hcv
  have hbad : ¬ plOK n x y i → ∀ w', RfAt w' (rb + 1) rn rf → (∀ j, j ≠ 104 → w' j = w j) → pI (fun z w' => mlRel (n, now, ca, po, fo, rs) e x y i z ∧ MInv w' (n, now, ca, po, fo, rs) S0 S1 k0 k1 tx (rb + cI (¬ plOK n x y i)) rn rf ∧ frM w w') nn (some (vI (-10))) nn w' := fun hno w' q1 q2 => by
    have hK' : MK w' 0 (n, now, ca, po, fo, rs) (rb + 1) rn rf := ⟨⟨_, _, _, _, _, _, _, _, (q2 _ (by omega)).trans ho⟩, ⟨f, (q2 _ (by omega)).trans hb, hB⟩, q1, Or.inl rfl⟩
    have qq := h0.frB hK' (fun j a b => q2 j b)
    refine pI_of ⟨Or.inl ⟨hno, rfl⟩, ?_, qq.2⟩
    rw [cI_t hno]; exact qq.1
  by_cases hxo : 0 ≤ x ∧ x < ((p2 n.toNat : Nat) : Int)
  · by_cases hyo : 0 ≤ y ∧ y < ((p2 n.toNat : Nat) : Int)
    · obtain ⟨a, ha⟩ := Int.eq_ofNat_of_zero_le hxo.1
      obtain ⟨b, hb2⟩ := Int.eq_ofNat_of_zero_le hyo.1
      subst ha hb2
      have ha2 : a < 2 ^ n.toNat := by rw [← p2_pow]; omega
      have hb3 : b < 2 ^ n.toNat := by rw [← p2_pow]; omega
      have hab : (a &&& b : Nat) < 128 := and_lt128 (by omega)
      refine V_iconst (Y := mX6_rows) (pc := 0) dX6_rows_0 ?_
      refine V_aload_n (Y := mX6_rows) (pc := 1) dX6_rows_1 rfl ?_
      apply V_get (Y := mX6_rows) (pc := 2) dX6_rows_2 fl_X6_7
      · assumption
      · rfl
      refine V_iconst (Y := mX6_rows) (pc := 5) dX6_rows_5 ?_
      apply V_iald (Y := mX6_rows) (pc := 6) dX6_rows_6
      · assumption
      · exact ⟨by omega, by omega⟩
      · omega
      rw [e0]
      refine V_ishl (Y := mX6_rows) (pc := 7) dX6_rows_7 (iI_shl2 (by omega) (by omega)) ?_
      refine V_iconst (Y := mX6_rows) (pc := 8) dX6_rows_8 ?_
      refine V_isub (Y := mX6_rows) (pc := 9) dX6_rows_9 ?_
      refine V_istore (Y := mX6_rows) (pc := 10) dX6_rows_10 rfl ?_
      refine V_iload_n (Y := mX6_rows) (pc := 12) dX6_rows_12 rfl ?_
      refine V_i2l (Y := mX6_rows) (pc := 13) dX6_rows_13 ⟨by omega, by omega⟩ ?_
      refine V_lconst (Y := mX6_rows) (pc := 14) dX6_rows_14 ?_
      refine V_iload (Y := mX6_rows) (pc := 15) dX6_rows_15 rfl ?_
      refine V_i2l (Y := mX6_rows) (pc := 17) dX6_rows_17 ⟨by omega, by omega⟩ ?_
      apply V_sR (Y := mX6_rows) (pc := 18) dX6_rows_18 ok_X6_in os_X6_in ln_X6_56 (cm_in (a := (a : Int)) (b := 0) (c := ((p2 n.toNat : Nat) : Int) - 1) hx ⟨by omega, by omega⟩ ⟨by omega, by omega⟩)
      · rfl
      · rfl
      · rfl
      refine V_if_eqB (tgt := 47) (Y := mX6_rows) (pc := 21) dX6_rows_21 (by decide) (fun h_21 => ?_) (fun h_21 => ?_)
      · exact lpm_rowsR ho hr (hbad (fun q => by
          have q3 := q.2.2.1
          have q4 := q.2.2.2
          have q3 : (a : Int).toNat &&& (b : Int).toNat = 0 := q3
          rw [show (a : Int).toNat = a by omega, show (b : Int).toNat = b by omega] at q3
          omega))
      · refine V_iload_n (Y := mX6_rows) (pc := 24) dX6_rows_24 rfl ?_
        refine V_i2l (Y := mX6_rows) (pc := 25) dX6_rows_25 ⟨by omega, by omega⟩ ?_
        refine V_lconst (Y := mX6_rows) (pc := 26) dX6_rows_26 ?_
        refine V_iload (Y := mX6_rows) (pc := 27) dX6_rows_27 rfl ?_
        refine V_i2l (Y := mX6_rows) (pc := 29) dX6_rows_29 ⟨by omega, by omega⟩ ?_
        apply V_sR (Y := mX6_rows) (pc := 30) dX6_rows_30 ok_X6_in os_X6_in ln_X6_56 (cm_in (a := (b : Int)) (b := 0) (c := ((p2 n.toNat : Nat) : Int) - 1) hy ⟨by omega, by omega⟩ ⟨by omega, by omega⟩)
        · rfl
        · rfl
        · rfl
        refine V_if_eqB (tgt := 47) (Y := mX6_rows) (pc := 33) dX6_rows_33 (by decide) (fun h_33 => ?_) (fun h_33 => ?_)
        · exact lpm_rowsR ho hr (hbad (fun q => by
            have q3 := q.2.2.1
            have q4 := q.2.2.2
            have q3 : (a : Int).toNat &&& (b : Int).toNat = 0 := q3
            rw [show (a : Int).toNat = a by omega, show (b : Int).toNat = b by omega] at q3
            omega))
        · refine V_iload_n (Y := mX6_rows) (pc := 36) dX6_rows_36 rfl ?_
          refine V_iload_n (Y := mX6_rows) (pc := 37) dX6_rows_37 rfl ?_
          refine V_iand (Y := mX6_rows) (pc := 38) dX6_rows_38 (iI_and a b) ?_
          refine V_if_ne (tgt := 47) (Y := mX6_rows) (pc := 39) dX6_rows_39 (by decide) ⟨by omega, by omega⟩ (fun h_39 => ?_) (fun h_39 => ?_)
          · exact lpm_rowsR ho hr (hbad (fun q => by
              have q3 := q.2.2.1
              have q4 := q.2.2.2
              have q3 : (a : Int).toNat &&& (b : Int).toNat = 0 := q3
              rw [show (a : Int).toNat = a by omega, show (b : Int).toNat = b by omega] at q3
              omega))
          · refine V_iload_n (Y := mX6_rows) (pc := 42) dX6_rows_42 rfl ?_
            refine V_iconst (Y := mX6_rows) (pc := 43) dX6_rows_43 ?_
            refine V_icmp_ge (tgt := 55) (Y := mX6_rows) (pc := 44) dX6_rows_44 (by decide) (hi) ⟨by omega, by omega⟩ (fun h_44 => ?_) (fun h_44 => ?_)
            · refine V_aload_n (Y := mX6_rows) (pc := 55) dX6_rows_55 rfl ?_
              apply V_vV (Y := mX6_rows) (pc := 56) dX6_rows_56 ok_X6_lays ov_X6_lays ln_X6_196 (cm_lays hM hG0 h7)
              · assumption
              · rfl
              · rfl
              · rfl
              · rfl
              · rfl
              rintro w_56 ⟨g1, f1⟩
              have hM1 := hM.keep (w' := w_56) (f1 _ (by omega)) (f1 _ (by omega))
              have o56 := (f1 99 (by omega)).trans ho
              refine V_aload_n (Y := mX6_rows) (pc := 59) dX6_rows_59 rfl ?_
              refine V_iload_n (Y := mX6_rows) (pc := 60) dX6_rows_60 rfl ?_
              refine V_iload_n (Y := mX6_rows) (pc := 61) dX6_rows_61 rfl ?_
              refine V_iload (Y := mX6_rows) (pc := 62) dX6_rows_62 rfl ?_
              apply V_vV (Y := mX6_rows) (pc := 64) dX6_rows_64 ok_X6_reckons ov_X6_reckons ln_X6_199 (cm_reckons (sp := spP ca rs) (a := a) (b := b) (y := e) hM1 hG0 hsp g1 ((f1 _ (by omega)).trans h8) ha2 hb3 he)
              · assumption
              · rfl
              · rfl
              · rfl
              · rfl
              · rfl
              rintro w_64 ⟨⟨fr2, g2, g3, g4⟩, f2⟩
              have o64 := (f2 99 (by omega)).trans o56
              have b64 := (f2 100 (by omega)).trans ((f1 100 (by omega)).trans hb)
              have hM2 := hM1.keep (w' := w_64) (f2 _ (by omega)) (f2 _ (by omega))
              have hL2 := g1.keep (f2 107 (by omega))
              have g40 := g4 now hnow
              have hend : MInv w_64 (n, now, ca, po, fo, rs) S0 S1 k0 k1 tx rb rn rf ∧ frM w w_64 := h0.frL (fun j a b => (f2 j b).trans (f1 j a)) (by obtain ⟨ld2, q, -⟩ := hL2; exact ⟨ld2, q⟩) ⟨_, g2⟩
              have hok : plOK n (a : Int) (b : Int) i := ⟨hxo, hyo, by rw [show (a : Int).toNat = a by omega, show (b : Int).toNat = b by omega]; omega, by omega⟩
              have hfin : ∀ z : Int, z = rwA (spP ca rs) n (fun s => fr2 s.toNat) now i → pI (fun z w' => mlRel (n, now, ca, po, fo, rs) e (a : Int) (b : Int) i z ∧ MInv w' (n, now, ca, po, fo, rs) S0 S1 k0 k1 tx (rb + cI (¬ plOK n (a : Int) (b : Int) i)) rn rf ∧ frM w w') nn (some (vI z)) nn w_64 := fun z hz => by
                refine pI_of ⟨Or.inr ⟨hok, _, g3, hz⟩, ?_, hend.2⟩
                rw [cI_f (fun q => q hok), Int.add_zero]
                exact hend.1
              refine V_aload_n (Y := mX6_rows) (pc := 67) dX6_rows_67 rfl ?_
              apply V_get (Y := mX6_rows) (pc := 68) dX6_rows_68 fl_X6_7
              · assumption
              · rfl
              refine V_bipush (Y := mX6_rows) (pc := 71) dX6_rows_71 ⟨by decide, by decide⟩ ?_
              apply V_iald (Y := mX6_rows) (pc := 73) dX6_rows_73
              · assumption
              · exact ⟨by omega, by omega⟩
              · omega
              rw [e7]
              refine V_istore (Y := mX6_rows) (pc := 74) dX6_rows_74 rfl ?_
              refine V_aload_n (Y := mX6_rows) (pc := 76) dX6_rows_76 rfl ?_
              apply V_get (Y := mX6_rows) (pc := 77) dX6_rows_77 fl_X6_35
              · assumption
              · rfl
              refine V_iload (Y := mX6_rows) (pc := 80) dX6_rows_80 rfl ?_
              apply V_iald (Y := mX6_rows) (pc := 82) dX6_rows_82
              · assumption
              · exact ⟨by omega, by omega⟩
              · omega
              refine V_istore (Y := mX6_rows) (pc := 83) dX6_rows_83 rfl ?_
              refine V_iload (Y := mX6_rows) (pc := 85) dX6_rows_85 rfl ?_
              refine V_if_ge (tgt := 92) (Y := mX6_rows) (pc := 87) dX6_rows_87 (by decide) ⟨by omega, by omega⟩ (fun h_87 => ?_) (fun h_87 => ?_)
              · refine V_iload_n (Y := mX6_rows) (pc := 92) dX6_rows_92 rfl ?_
                refine V_iconst (Y := mX6_rows) (pc := 93) dX6_rows_93 ?_
                refine V_icmp_eq (tgt := 103) (Y := mX6_rows) (pc := 94) dX6_rows_94 (by decide) ⟨by omega, by omega⟩ ⟨by omega, by omega⟩ (fun h_94 => ?_) (fun h_94 => ?_)
                · refine V_iload_n (Y := mX6_rows) (pc := 103) dX6_rows_103 rfl ?_
                  refine V_iconst (Y := mX6_rows) (pc := 104) dX6_rows_104 ?_
                  refine V_icmp_ne (tgt := 113) (Y := mX6_rows) (pc := 105) dX6_rows_105 (by decide) ⟨by omega, by omega⟩ ⟨by omega, by omega⟩ (fun h_105 => ?_) (fun h_105 => ?_)
                  · refine V_bipush (Y := mX6_rows) (pc := 113) dX6_rows_113 ⟨by decide, by decide⟩ ?_
                    refine V_iret (Y := mX6_rows) (pc := 115) dX6_rows_115 rfl (Nat.le_of_ble_eq_true rfl) (Nat.le_of_ble_eq_true rfl) ?_
                    have rA : fr2 now.toNat < 0 → (-1 : Int) = rwA (spP ca rs) n (fun s => fr2 s.toNat) now i := fun q => (if_pos q).symm
                    have rB : 0 ≤ fr2 now.toNat → i = -1 → fr2 now.toNat = rwA (spP ca rs) n (fun s => fr2 s.toNat) now i := fun q q2 => by rw [rwA, if_neg (by show ¬ fr2 now.toNat < 0; omega), if_pos q2]
                    have rC : 0 ≤ fr2 now.toNat → ¬ i = -1 → fr2 now.toNat ≤ i → (-5 : Int) = rwA (spP ca rs) n (fun s => fr2 s.toNat) now i := fun q q2 q3 => by rw [rwA, if_neg (by show ¬ fr2 now.toNat < 0; omega), if_neg q2, if_pos q3]
                    first
                      | exact hfin _ (rB h_87 h_105)
                      | (exfalso; exact h_105 h_94)
                      | exact hfin _ (rC h_87 h_94 h_100)
                      | exact hfin _ (rA h_87)
                  · refine V_iload (Y := mX6_rows) (pc := 108) dX6_rows_108 rfl ?_
                    refine V_goto (tgt := 115) (Y := mX6_rows) (pc := 110) dX6_rows_110 (by decide) ?_
                    refine V_iret (Y := mX6_rows) (pc := 115) dX6_rows_115 rfl (Nat.le_of_ble_eq_true rfl) (Nat.le_of_ble_eq_true rfl) ?_
                    have rA : fr2 now.toNat < 0 → (-1 : Int) = rwA (spP ca rs) n (fun s => fr2 s.toNat) now i := fun q => (if_pos q).symm
                    have rB : 0 ≤ fr2 now.toNat → i = -1 → fr2 now.toNat = rwA (spP ca rs) n (fun s => fr2 s.toNat) now i := fun q q2 => by rw [rwA, if_neg (by show ¬ fr2 now.toNat < 0; omega), if_pos q2]
                    have rC : 0 ≤ fr2 now.toNat → ¬ i = -1 → fr2 now.toNat ≤ i → (-5 : Int) = rwA (spP ca rs) n (fun s => fr2 s.toNat) now i := fun q q2 q3 => by rw [rwA, if_neg (by show ¬ fr2 now.toNat < 0; omega), if_neg q2, if_pos q3]
                    first
                      | exact hfin _ (rB h_87 h_105)
                      | (exfalso; exact h_105 h_94)
                      | exact hfin _ (rC h_87 h_94 h_100)
                      | exact hfin _ (rA h_87)
                · refine V_iload_n (Y := mX6_rows) (pc := 97) dX6_rows_97 rfl ?_
                  refine V_iload (Y := mX6_rows) (pc := 98) dX6_rows_98 rfl ?_
                  refine V_icmp_lt (tgt := 116) (Y := mX6_rows) (pc := 100) dX6_rows_100 (by decide) ⟨by omega, by omega⟩ ⟨by omega, by omega⟩ (fun h_100 => ?_) (fun h_100 => ?_)
                  · refine V_iconst (Y := mX6_rows) (pc := 116) dX6_rows_116 ?_
                    refine V_istore (Y := mX6_rows) (pc := 117) dX6_rows_117 rfl ?_
                    refine lpm_rows (sp := spP ca rs) hM2 hn hnow hsp hL2 g2 g3 g4 ⟨by omega, by omega⟩ (hfin _ ?_) i.toNat 0 (by omega) (by omega)
                    rw [rwA, if_neg (by show ¬ fr2 now.toNat < 0; omega), if_neg (by omega), if_neg (by show ¬ fr2 now.toNat ≤ i; omega)]
                  · refine V_iload_n (Y := mX6_rows) (pc := 103) dX6_rows_103 rfl ?_
                    refine V_iconst (Y := mX6_rows) (pc := 104) dX6_rows_104 ?_
                    refine V_icmp_ne (tgt := 113) (Y := mX6_rows) (pc := 105) dX6_rows_105 (by decide) ⟨by omega, by omega⟩ ⟨by omega, by omega⟩ (fun h_105 => ?_) (fun h_105 => ?_)
                    · refine V_bipush (Y := mX6_rows) (pc := 113) dX6_rows_113 ⟨by decide, by decide⟩ ?_
                      refine V_iret (Y := mX6_rows) (pc := 115) dX6_rows_115 rfl (Nat.le_of_ble_eq_true rfl) (Nat.le_of_ble_eq_true rfl) ?_
                      have rA : fr2 now.toNat < 0 → (-1 : Int) = rwA (spP ca rs) n (fun s => fr2 s.toNat) now i := fun q => (if_pos q).symm
                      have rB : 0 ≤ fr2 now.toNat → i = -1 → fr2 now.toNat = rwA (spP ca rs) n (fun s => fr2 s.toNat) now i := fun q q2 => by rw [rwA, if_neg (by show ¬ fr2 now.toNat < 0; omega), if_pos q2]
                      have rC : 0 ≤ fr2 now.toNat → ¬ i = -1 → fr2 now.toNat ≤ i → (-5 : Int) = rwA (spP ca rs) n (fun s => fr2 s.toNat) now i := fun q q2 q3 => by rw [rwA, if_neg (by show ¬ fr2 now.toNat < 0; omega), if_neg q2, if_pos q3]
                      first
                        | exact hfin _ (rB h_87 h_105)
                        | (exfalso; exact h_105 h_94)
                        | exact hfin _ (rC h_87 h_94 h_100)
                        | exact hfin _ (rA h_87)
                    · refine V_iload (Y := mX6_rows) (pc := 108) dX6_rows_108 rfl ?_
                      refine V_goto (tgt := 115) (Y := mX6_rows) (pc := 110) dX6_rows_110 (by decide) ?_
                      refine V_iret (Y := mX6_rows) (pc := 115) dX6_rows_115 rfl (Nat.le_of_ble_eq_true rfl) (Nat.le_of_ble_eq_true rfl) ?_
                      have rA : fr2 now.toNat < 0 → (-1 : Int) = rwA (spP ca rs) n (fun s => fr2 s.toNat) now i := fun q => (if_pos q).symm
                      have rB : 0 ≤ fr2 now.toNat → i = -1 → fr2 now.toNat = rwA (spP ca rs) n (fun s => fr2 s.toNat) now i := fun q q2 => by rw [rwA, if_neg (by show ¬ fr2 now.toNat < 0; omega), if_pos q2]
                      have rC : 0 ≤ fr2 now.toNat → ¬ i = -1 → fr2 now.toNat ≤ i → (-5 : Int) = rwA (spP ca rs) n (fun s => fr2 s.toNat) now i := fun q q2 q3 => by rw [rwA, if_neg (by show ¬ fr2 now.toNat < 0; omega), if_neg q2, if_pos q3]
                      first
                        | exact hfin _ (rB h_87 h_105)
                        | (exfalso; exact h_105 h_94)
                        | exact hfin _ (rC h_87 h_94 h_100)
                        | exact hfin _ (rA h_87)
              · refine V_iconst (Y := mX6_rows) (pc := 90) dX6_rows_90 ?_
                refine V_iret (Y := mX6_rows) (pc := 91) dX6_rows_91 rfl (Nat.le_of_ble_eq_true rfl) (Nat.le_of_ble_eq_true rfl) ?_
                have rA : fr2 now.toNat < 0 → (-1 : Int) = rwA (spP ca rs) n (fun s => fr2 s.toNat) now i := fun q => (if_pos q).symm
                have rB : 0 ≤ fr2 now.toNat → i = -1 → fr2 now.toNat = rwA (spP ca rs) n (fun s => fr2 s.toNat) now i := fun q q2 => by rw [rwA, if_neg (by show ¬ fr2 now.toNat < 0; omega), if_pos q2]
                have rC : 0 ≤ fr2 now.toNat → ¬ i = -1 → fr2 now.toNat ≤ i → (-5 : Int) = rwA (spP ca rs) n (fun s => fr2 s.toNat) now i := fun q q2 q3 => by rw [rwA, if_neg (by show ¬ fr2 now.toNat < 0; omega), if_neg q2, if_pos q3]
                first
                  | exact hfin _ (rB h_87 h_105)
                  | (exfalso; exact h_105 h_94)
                  | exact hfin _ (rC h_87 h_94 h_100)
                  | exact hfin _ (rA h_87)
            · exact lpm_rowsR ho hr (hbad (fun q => by
                have q3 := q.2.2.1
                have q4 := q.2.2.2
                have q3 : (a : Int).toNat &&& (b : Int).toNat = 0 := q3
                rw [show (a : Int).toNat = a by omega, show (b : Int).toNat = b by omega] at q3
                omega))
    · skip
      refine V_iconst (Y := mX6_rows) (pc := 0) dX6_rows_0 ?_
      refine V_aload_n (Y := mX6_rows) (pc := 1) dX6_rows_1 rfl ?_
      apply V_get (Y := mX6_rows) (pc := 2) dX6_rows_2 fl_X6_7
      · assumption
      · rfl
      refine V_iconst (Y := mX6_rows) (pc := 5) dX6_rows_5 ?_
      apply V_iald (Y := mX6_rows) (pc := 6) dX6_rows_6
      · assumption
      · exact ⟨by omega, by omega⟩
      · omega
      rw [e0]
      refine V_ishl (Y := mX6_rows) (pc := 7) dX6_rows_7 (iI_shl2 (by omega) (by omega)) ?_
      refine V_iconst (Y := mX6_rows) (pc := 8) dX6_rows_8 ?_
      refine V_isub (Y := mX6_rows) (pc := 9) dX6_rows_9 ?_
      refine V_istore (Y := mX6_rows) (pc := 10) dX6_rows_10 rfl ?_
      refine V_iload_n (Y := mX6_rows) (pc := 12) dX6_rows_12 rfl ?_
      refine V_i2l (Y := mX6_rows) (pc := 13) dX6_rows_13 ⟨by omega, by omega⟩ ?_
      refine V_lconst (Y := mX6_rows) (pc := 14) dX6_rows_14 ?_
      refine V_iload (Y := mX6_rows) (pc := 15) dX6_rows_15 rfl ?_
      refine V_i2l (Y := mX6_rows) (pc := 17) dX6_rows_17 ⟨by omega, by omega⟩ ?_
      apply V_sR (Y := mX6_rows) (pc := 18) dX6_rows_18 ok_X6_in os_X6_in ln_X6_56 (cm_in (a := x) (b := 0) (c := ((p2 n.toNat : Nat) : Int) - 1) hx ⟨by omega, by omega⟩ ⟨by omega, by omega⟩)
      · rfl
      · rfl
      · rfl
      refine V_if_eqB (tgt := 47) (Y := mX6_rows) (pc := 21) dX6_rows_21 (by decide) (fun h_21 => ?_) (fun h_21 => ?_)
      · exact lpm_rowsR ho hr (hbad (fun q => hyo q.2.1))
      · refine V_iload_n (Y := mX6_rows) (pc := 24) dX6_rows_24 rfl ?_
        refine V_i2l (Y := mX6_rows) (pc := 25) dX6_rows_25 ⟨by omega, by omega⟩ ?_
        refine V_lconst (Y := mX6_rows) (pc := 26) dX6_rows_26 ?_
        refine V_iload (Y := mX6_rows) (pc := 27) dX6_rows_27 rfl ?_
        refine V_i2l (Y := mX6_rows) (pc := 29) dX6_rows_29 ⟨by omega, by omega⟩ ?_
        apply V_sR (Y := mX6_rows) (pc := 30) dX6_rows_30 ok_X6_in os_X6_in ln_X6_56 (cm_in (a := y) (b := 0) (c := ((p2 n.toNat : Nat) : Int) - 1) hy ⟨by omega, by omega⟩ ⟨by omega, by omega⟩)
        · rfl
        · rfl
        · rfl
        refine V_if_eqB (tgt := 47) (Y := mX6_rows) (pc := 33) dX6_rows_33 (by decide) (fun h_33 => ?_) (fun h_33 => ?_)
        · exact lpm_rowsR ho hr (hbad (fun q => hyo q.2.1))
        · exfalso; omega
  · skip
    refine V_iconst (Y := mX6_rows) (pc := 0) dX6_rows_0 ?_
    refine V_aload_n (Y := mX6_rows) (pc := 1) dX6_rows_1 rfl ?_
    apply V_get (Y := mX6_rows) (pc := 2) dX6_rows_2 fl_X6_7
    · assumption
    · rfl
    refine V_iconst (Y := mX6_rows) (pc := 5) dX6_rows_5 ?_
    apply V_iald (Y := mX6_rows) (pc := 6) dX6_rows_6
    · assumption
    · exact ⟨by omega, by omega⟩
    · omega
    rw [e0]
    refine V_ishl (Y := mX6_rows) (pc := 7) dX6_rows_7 (iI_shl2 (by omega) (by omega)) ?_
    refine V_iconst (Y := mX6_rows) (pc := 8) dX6_rows_8 ?_
    refine V_isub (Y := mX6_rows) (pc := 9) dX6_rows_9 ?_
    refine V_istore (Y := mX6_rows) (pc := 10) dX6_rows_10 rfl ?_
    refine V_iload_n (Y := mX6_rows) (pc := 12) dX6_rows_12 rfl ?_
    refine V_i2l (Y := mX6_rows) (pc := 13) dX6_rows_13 ⟨by omega, by omega⟩ ?_
    refine V_lconst (Y := mX6_rows) (pc := 14) dX6_rows_14 ?_
    refine V_iload (Y := mX6_rows) (pc := 15) dX6_rows_15 rfl ?_
    refine V_i2l (Y := mX6_rows) (pc := 17) dX6_rows_17 ⟨by omega, by omega⟩ ?_
    apply V_sR (Y := mX6_rows) (pc := 18) dX6_rows_18 ok_X6_in os_X6_in ln_X6_56 (cm_in (a := x) (b := 0) (c := ((p2 n.toNat : Nat) : Int) - 1) hx ⟨by omega, by omega⟩ ⟨by omega, by omega⟩)
    · rfl
    · rfl
    · rfl
    refine V_if_eqB (tgt := 47) (Y := mX6_rows) (pc := 21) dX6_rows_21 (by decide) (fun h_21 => ?_) (fun h_21 => ?_)
    · exact lpm_rowsR ho hr (hbad (fun q => hxo q.1))
    · exfalso; omega
set_option maxRecDepth 100000 in
theorem mx_pulls {x y i : Int} (h : MInv w (n, now, ca, po, fo, rs) S0 S1 k0 k1 tx rb rn rf) (hG : vGood (n, now, ca, po, fo, rs)) (hx : inR x) (hy : inR y) (hi : inR i) : Ctr mX6_pulls (rm 7) [.ref 99, vI x, vI y, vI i] nn w (pI (fun z w' => mlRel (n, now, ca, po, fo, rs) 0 x y i z ∧ MInv w' (n, now, ca, po, fo, rs) S0 S1 k0 k1 tx (rb + cI (¬ plOK n x y i)) rn rf ∧ frM w w') nn) := by
  refine Ctr_of (lv := [some (.ref 99), some (vI x), some (vI y), some (vI i)]) (by decide +kernel) rfl rfl ?_
  have h0 := h
  obtain ⟨-, ⟨a0, sp, tk, vl, mn, fd, sv, ho⟩, -⟩ := h
  refine V_aload_n (Y := mX6_pulls) (pc := 0) dX6_pulls_0 rfl ?_
  refine V_iload_n (Y := mX6_pulls) (pc := 1) dX6_pulls_1 rfl ?_
  refine V_iload_n (Y := mX6_pulls) (pc := 2) dX6_pulls_2 rfl ?_
  refine V_iload_n (Y := mX6_pulls) (pc := 3) dX6_pulls_3 rfl ?_
  refine V_iconst (Y := mX6_pulls) (pc := 4) dX6_pulls_4 ?_
  apply V_vI (Y := mX6_pulls) (pc := 5) dX6_pulls_5 ok_X6_rows ov_X6_rows ln_X6_206 (cm_rows (x := x) (y := y) (i := i) (e := 0) h0 hG hx hy hi (Or.inl rfl))
  · assumption
  · rfl
  · rfl
  · rfl
  · rfl
  · rfl
  rintro z_5 w_5 hres
  refine V_iret (Y := mX6_pulls) (pc := 8) dX6_pulls_8 rfl (Nat.le_of_ble_eq_true rfl) (Nat.le_of_ble_eq_true rfl) ?_
  exact pI_of hres
set_option maxRecDepth 100000 in
theorem mx_safe {x y i : Int} (h : MInv w (n, now, ca, po, fo, rs) S0 S1 k0 k1 tx rb rn rf) (hG : vGood (n, now, ca, po, fo, rs)) (hx : inR x) (hy : inR y) (hi : inR i) : Ctr mX6_safe (rm 7) [.ref 99, vI x, vI y, vI i] nn w (pI (fun z w' => mlRel (n, now, ca, po, fo, rs) 1 x y i z ∧ MInv w' (n, now, ca, po, fo, rs) S0 S1 k0 k1 tx (rb + cI (¬ plOK n x y i)) rn rf ∧ frM w w') nn) := by
  refine Ctr_of (lv := [some (.ref 99), some (vI x), some (vI y), some (vI i)]) (by decide +kernel) rfl rfl ?_
  have h0 := h
  obtain ⟨-, ⟨a0, sp, tk, vl, mn, fd, sv, ho⟩, -⟩ := h
  refine V_aload_n (Y := mX6_safe) (pc := 0) dX6_safe_0 rfl ?_
  refine V_iload_n (Y := mX6_safe) (pc := 1) dX6_safe_1 rfl ?_
  refine V_iload_n (Y := mX6_safe) (pc := 2) dX6_safe_2 rfl ?_
  refine V_iload_n (Y := mX6_safe) (pc := 3) dX6_safe_3 rfl ?_
  refine V_iconst (Y := mX6_safe) (pc := 4) dX6_safe_4 ?_
  apply V_vI (Y := mX6_safe) (pc := 5) dX6_safe_5 ok_X6_rows ov_X6_rows ln_X6_206 (cm_rows (x := x) (y := y) (i := i) (e := 1) h0 hG hx hy hi (Or.inr rfl))
  · assumption
  · rfl
  · rfl
  · rfl
  · rfl
  · rfl
  rintro z_5 w_5 hres
  refine V_iret (Y := mX6_safe) (pc := 8) dX6_safe_8 rfl (Nat.le_of_ble_eq_true rfl) (Nat.le_of_ble_eq_true rfl) ?_
  exact pI_of hres
end MOD
