/-! ===== DrawerWallModel: pulls, what there is ===== -/
section MOD
variable {nn : Nat} {w : vWd} {n now : Int} {ca po fo : Nat} {rs : Nat → List Int} {qt ty a0 sp tk vl mn fd sv : Int} {rb rn rf : Int}
set_option maxRecDepth 100000 in
theorem lpm_pull70 {d : Int} {f : Nat → Int} {p : List Int} {w' : vWd} (hG : vGood (n, now, ca, po, fo, rs)) (hd : isD n d) (hp : p.length < 20) (ho : w' 99 = some (mO qt ty a0 sp tk vl mn fd sv)) (hb0 : w' 100 = some (arI 98 f)) (hB : BkOf f n now ca po fo (va_up rs 8 p)) {Q : vPost} (hQ : ∀ w'' f', w'' 100 = some (arI 98 f') → BkOf f' n (spP ca rs now d) ca po fo (va_up rs 8 (p ++ [now])) → (∀ j, j ≠ 100 → w'' j = w' j) → Q (some (vI (spP ca rs now d))) nn w'') :
    V mX6_pull (rm 5) Q 70 [some (.ref 99), some (vI d), none] [] nn w' 0 0 := by
  obtain ⟨hn, hnow, hca, hpo, hfo, hgd, hcv, hor, hsg, hpast⟩ := hG.un
  have e8 : f (8 : Int).toNat = p.length := hB.1.2.2.2.2.2
  have e7 : f (7 : Int).toNat = now := hB.1.2.2.2.2.1
  have hcv2 : cvOK n (va_up rs 8 (p ++ [now])) := hcv
  have es : spP ca (va_up rs 8 (p ++ [now])) now d = spP ca rs now d := aft_rs (rs := rs) (rs' := va_up rs 8 (p ++ [now])) rfl rfl rfl rfl _ _ _
  refine V_aload_n (Y := mX6_pull) (pc := 70) dX6_pull_70 rfl ?_
  apply V_get (Y := mX6_pull) (pc := 71) dX6_pull_71 fl_X6_7
  · assumption
  · rfl
  refine V_bipush (Y := mX6_pull) (pc := 74) dX6_pull_74 ⟨by decide, by decide⟩ ?_
  refine V_aload_n (Y := mX6_pull) (pc := 76) dX6_pull_76 rfl ?_
  apply V_get (Y := mX6_pull) (pc := 77) dX6_pull_77 fl_X6_7
  · assumption
  · rfl
  refine V_bipush (Y := mX6_pull) (pc := 80) dX6_pull_80 ⟨by decide, by decide⟩ ?_
  apply V_iald (Y := mX6_pull) (pc := 82) dX6_pull_82
  · assumption
  · exact ⟨by omega, by omega⟩
  · omega
  rw [e8]
  refine V_iadd (Y := mX6_pull) (pc := 83) dX6_pull_83 ?_
  refine V_aload_n (Y := mX6_pull) (pc := 84) dX6_pull_84 rfl ?_
  apply V_get (Y := mX6_pull) (pc := 85) dX6_pull_85 fl_X6_7
  · assumption
  · rfl
  refine V_bipush (Y := mX6_pull) (pc := 88) dX6_pull_88 ⟨by decide, by decide⟩ ?_
  apply V_iald (Y := mX6_pull) (pc := 90) dX6_pull_90
  · assumption
  · exact ⟨by omega, by omega⟩
  · omega
  rw [e7]
  apply V_iastW (Y := mX6_pull) (pc := 91) dX6_pull_91
  · assumption
  · exact ⟨by omega, by omega⟩
  · omega
  intro w_91 h_91 f_91
  have o91 := (f_91 99 (by omega)).trans ho
  refine V_aload_n (Y := mX6_pull) (pc := 92) dX6_pull_92 rfl ?_
  apply V_get (Y := mX6_pull) (pc := 93) dX6_pull_93 fl_X6_7
  · assumption
  · rfl
  refine V_bipush (Y := mX6_pull) (pc := 96) dX6_pull_96 ⟨by decide, by decide⟩ ?_
  refine V_dup2 (Y := mX6_pull) (pc := 98) dX6_pull_98 rfl rfl ?_
  apply V_iald (Y := mX6_pull) (pc := 99) dX6_pull_99
  · assumption
  · exact ⟨by omega, by omega⟩
  · omega
  rw [va_up_ne _ _ (by omega), e8]
  refine V_iconst (Y := mX6_pull) (pc := 100) dX6_pull_100 ?_
  refine V_iadd (Y := mX6_pull) (pc := 101) dX6_pull_101 ?_
  apply V_iastW (Y := mX6_pull) (pc := 102) dX6_pull_102
  · assumption
  · exact ⟨by omega, by omega⟩
  · omega
  intro w_102 h_102 f_102
  have o102 := (f_102 99 (by omega)).trans o91
  have hB2 : BkOf (va_up (va_up f (78 + (p.length : Int)).toNat now) (8 : Int).toNat (p.length + 1)) n now ca po fo (va_up (va_up rs 8 p) 8 (p ++ [now])) := BkOf.past hB (by rw [app_len]; omega) (by rw [va_up_ne _ _ (by omega), va_up_ne _ _ (by omega)]; exact e7) (by rw [show (8 : Nat) = (8 : Int).toNat from rfl, va_up_self, app_len]; omega) (fun k q1 q2 => by
    rw [app_len] at q2
    rw [va_up_ne _ _ (by omega), rAt_app q1 (by omega)]
    by_cases hk : k = p.length
    · rw [if_pos hk, hk, va_up_self]
    · rw [if_neg hk, va_up_ne _ _ (by omega)]; exact hB.2.2.2.2.2.2 k q1 (by show k < p.length; omega)) (fun i q1 q2 q3 => by rw [va_up_ne _ _ (by omega), va_up_ne _ _ (by omega)])
  rw [show va_up (va_up rs 8 p) 8 (p ++ [now]) = va_up rs 8 (p ++ [now]) from by funext j; unfold va_up; split <;> rfl] at hB2
  have hM2 : MS w_102 n now ca po fo (va_up rs 8 (p ++ [now])) := ⟨_, ⟨_, _, _, _, _, _, _, _, _, o102⟩, h_102, hB2⟩
  refine V_aload_n (Y := mX6_pull) (pc := 103) dX6_pull_103 rfl ?_
  apply V_get (Y := mX6_pull) (pc := 104) dX6_pull_104 fl_X6_7
  · assumption
  · rfl
  refine V_bipush (Y := mX6_pull) (pc := 107) dX6_pull_107 ⟨by decide, by decide⟩ ?_
  refine V_aload_n (Y := mX6_pull) (pc := 109) dX6_pull_109 rfl ?_
  refine V_aload_n (Y := mX6_pull) (pc := 110) dX6_pull_110 rfl ?_
  apply V_get (Y := mX6_pull) (pc := 111) dX6_pull_111 fl_X6_7
  · assumption
  · rfl
  refine V_bipush (Y := mX6_pull) (pc := 114) dX6_pull_114 ⟨by decide, by decide⟩ ?_
  apply V_iald (Y := mX6_pull) (pc := 116) dX6_pull_116
  · assumption
  · exact ⟨by omega, by omega⟩
  · omega
  rw [va_up_ne _ _ (by omega), va_up_ne _ _ (by omega), e7]
  refine V_iload_n (Y := mX6_pull) (pc := 117) dX6_pull_117 rfl ?_
  refine V_aload_n (Y := mX6_pull) (pc := 118) dX6_pull_118 rfl ?_
  apply V_vR (Y := mX6_pull) (pc := 119) dX6_pull_119 ok_X6_allCords ov_X6_allCords ln_X6_176 (cm_allCords hM2)
  · assumption
  · rfl
  · rfl
  · rfl
  · rfl
  · rfl
  apply V_vR (Y := mX6_pull) (pc := 122) dX6_pull_122 ok_X6_pulled ov_X6_pulled ln_X6_179 (cm_pulledA (s := now) (d := d) hM2 hn hcv2 hca hnow hd)
  · assumption
  · rfl
  · rfl
  · rfl
  · rfl
  · rfl
  rw [es]
  apply V_iastW (Y := mX6_pull) (pc := 125) dX6_pull_125
  · assumption
  · exact ⟨by omega, by omega⟩
  · omega
  intro w_125 h_125 f_125
  have o125 := (f_125 99 (by omega)).trans o102
  refine V_aload_n (Y := mX6_pull) (pc := 126) dX6_pull_126 rfl ?_
  apply V_get (Y := mX6_pull) (pc := 127) dX6_pull_127 fl_X6_7
  · assumption
  · rfl
  refine V_bipush (Y := mX6_pull) (pc := 130) dX6_pull_130 ⟨by decide, by decide⟩ ?_
  apply V_iald (Y := mX6_pull) (pc := 132) dX6_pull_132
  · assumption
  · exact ⟨by omega, by omega⟩
  · omega
  rw [va_up_self]
  refine V_iret (Y := mX6_pull) (pc := 133) dX6_pull_133 rfl (Nat.le_of_ble_eq_true rfl) (Nat.le_of_ble_eq_true rfl) ?_
  refine hQ w_125 _ h_125 ?_ (fun j hj => (f_125 j hj).trans ((f_102 j hj).trans (f_91 j hj)))
  refine BkOf.sc hB2 ?_ ?_ ?_ (va_up_self _ _ _) (fun i a b c e => va_up_ne _ _ (by omega))
  · rw [va_up_ne _ _ (by omega)]; exact hB2.1.2.1
  · rw [va_up_ne _ _ (by omega)]; exact hB2.1.2.2.1
  · rw [va_up_ne _ _ (by omega)]; exact hB2.1.2.2.2.1
set_option maxRecDepth 100000 in
theorem lpm_pull27 {d : Int} {f : Nat → Int} (hG : vGood (n, now, ca, po, fo, rs)) (hd : isD n d) (h20 : (rs 8).length = 20) (ho : w 99 = some (mO qt ty a0 sp tk vl mn fd sv)) (hB : BkOf f n now ca po fo rs) {Q : vPost} (hQ : ∀ w'' f', w'' 100 = some (arI 98 f') → BkOf f' n (spP ca rs now d) ca po fo (va_up rs 8 ((rs 8).tail ++ [now])) → (∀ j, j ≠ 100 → w'' j = w j) → Q (some (vI (spP ca rs now d))) nn w'') : ∀ (m : Nat) (i : Int) (w' : vWd) (g : Nat → Int), 1 ≤ i → i + m = 20 → w' 100 = some (arI 98 g) → (∀ j, j ≠ 100 → w' j = w j) → (∀ j : Nat, j < 78 → g j = f j) → (∀ k : Int, 0 ≤ k → k < i - 1 → g (78 + k).toNat = f (79 + k).toNat) → (∀ k : Int, i - 1 ≤ k → k < 20 → g (78 + k).toNat = f (78 + k).toNat) →
    V mX6_pull (rm 5) Q 27 [some (.ref 99), some (vI d), some (vI i)] [] nn w' 0 0 := by
  intro m
  induction m with
  | zero =>
    intro i w' g hi him hb hf g1 g2 g3
    have ho' := (hf 99 (by omega)).trans ho
    have e8 : g (8 : Int).toNat = 20 := (g1 8 (by omega)).trans (hB.1.2.2.2.2.2.trans (by omega))
    refine V_iload_n (Y := mX6_pull) (pc := 27) dX6_pull_27 rfl ?_
    refine V_bipush (Y := mX6_pull) (pc := 28) dX6_pull_28 ⟨by decide, by decide⟩ ?_
    refine V_icmp_ge (tgt := 59) (Y := mX6_pull) (pc := 30) dX6_pull_30 (by decide) ⟨by omega, by omega⟩ ⟨by omega, by omega⟩ (fun h_30 => ?_) (fun h_30 => absurd h_30 (by omega))
    refine V_aload_n (Y := mX6_pull) (pc := 59) dX6_pull_59 rfl ?_
    apply V_get (Y := mX6_pull) (pc := 60) dX6_pull_60 fl_X6_7
    · assumption
    · rfl
    refine V_bipush (Y := mX6_pull) (pc := 63) dX6_pull_63 ⟨by decide, by decide⟩ ?_
    refine V_dup2 (Y := mX6_pull) (pc := 65) dX6_pull_65 rfl rfl ?_
    apply V_iald (Y := mX6_pull) (pc := 66) dX6_pull_66
    · assumption
    · exact ⟨by omega, by omega⟩
    · omega
    rw [e8]
    refine V_iconst (Y := mX6_pull) (pc := 67) dX6_pull_67 ?_
    refine V_isub (Y := mX6_pull) (pc := 68) dX6_pull_68 ?_
    apply V_iastW (Y := mX6_pull) (pc := 69) dX6_pull_69
    · assumption
    · exact ⟨by omega, by omega⟩
    · omega
    intro w_69 h_69 f_69
    refine V_drop 2 (lpm_pull70 (p := (rs 8).tail) hG hd (by rw [List.length_tail]; omega) ((f_69 99 (by omega)).trans ho') h_69 (BkOf.past hB (by rw [List.length_tail]; omega) ?_ ?_ (fun k q1 q2 => ?_) (fun j q1 q2 q3 => ?_)) (fun w'' f' q1 q2 q3 => hQ w'' f' q1 q2 (fun j hj => (q3 j hj).trans ((f_69 j hj).trans (hf j hj)))))
    · rw [va_up_ne _ _ (by omega), g1 7 (by omega)]; exact hB.1.2.2.2.2.1
    · refine Eq.trans (va_up_self _ (8 : Int).toNat _) ?_; rw [List.length_tail]; omega
    · rw [List.length_tail] at q2
      rw [va_up_ne _ _ (by omega), g2 k q1 (by omega)]
      have := hB.2.2.2.2.2.2 (k + 1) (by omega) (by omega)
      rw [show 78 + (k + 1) = 79 + k by omega] at this
      rw [this, rAt_in (by omega), rAt_in q1, show (k + 1).toNat = k.toNat + 1 by omega]
      cases rs 8 with
      | nil => rfl
      | cons x t => rfl
    · rw [va_up_ne _ _ (by omega)]; exact g1 j (by omega)
  | succ m ih =>
    intro i w' g hi him hb hf g1 g2 g3
    have ho' := (hf 99 (by omega)).trans ho
    refine V_iload_n (Y := mX6_pull) (pc := 27) dX6_pull_27 rfl ?_
    refine V_bipush (Y := mX6_pull) (pc := 28) dX6_pull_28 ⟨by decide, by decide⟩ ?_
    refine V_icmp_ge (tgt := 59) (Y := mX6_pull) (pc := 30) dX6_pull_30 (by decide) ⟨by omega, by omega⟩ ⟨by omega, by omega⟩ (fun h_30 => absurd h_30 (by omega)) (fun h_30 => ?_)
    refine V_aload_n (Y := mX6_pull) (pc := 33) dX6_pull_33 rfl ?_
    apply V_get (Y := mX6_pull) (pc := 34) dX6_pull_34 fl_X6_7
    · assumption
    · rfl
    refine V_bipush (Y := mX6_pull) (pc := 37) dX6_pull_37 ⟨by decide, by decide⟩ ?_
    refine V_iload_n (Y := mX6_pull) (pc := 39) dX6_pull_39 rfl ?_
    refine V_iadd (Y := mX6_pull) (pc := 40) dX6_pull_40 ?_
    refine V_iconst (Y := mX6_pull) (pc := 41) dX6_pull_41 ?_
    refine V_isub (Y := mX6_pull) (pc := 42) dX6_pull_42 ?_
    refine V_aload_n (Y := mX6_pull) (pc := 43) dX6_pull_43 rfl ?_
    apply V_get (Y := mX6_pull) (pc := 44) dX6_pull_44 fl_X6_7
    · assumption
    · rfl
    refine V_bipush (Y := mX6_pull) (pc := 47) dX6_pull_47 ⟨by decide, by decide⟩ ?_
    refine V_iload_n (Y := mX6_pull) (pc := 49) dX6_pull_49 rfl ?_
    refine V_iadd (Y := mX6_pull) (pc := 50) dX6_pull_50 ?_
    apply V_iald (Y := mX6_pull) (pc := 51) dX6_pull_51
    · assumption
    · exact ⟨by omega, by omega⟩
    · omega
    apply V_iastW (Y := mX6_pull) (pc := 52) dX6_pull_52
    · assumption
    · exact ⟨by omega, by omega⟩
    · omega
    intro w_52 h_52 f_52
    refine V_iinc (Y := mX6_pull) (pc := 53) dX6_pull_53 rfl rfl ?_
    refine V_goto (tgt := 27) (Y := mX6_pull) (pc := 56) dX6_pull_56 (by decide) ?_
    refine ih (i + 1) w_52 _ (by omega) (by omega) h_52 (fun j hj => (f_52 j hj).trans (hf j hj)) (fun j hj => ?_) (fun k q1 q2 => ?_) (fun k q1 q2 => ?_)
    · rw [va_up_ne _ _ (by omega)]; exact g1 j hj
    · by_cases hk : k = i - 1
      · subst hk
        rw [show (78 + (i - 1)).toNat = (78 + i - 1).toNat by omega, va_up_self, g3 i (by omega) (by omega)]
        congr 1
        omega
      · rw [va_up_ne _ _ (by omega)]; exact g2 k q1 (by omega)
    · rw [va_up_ne _ _ (by omega)]; exact g3 k (by omega) q2
set_option maxRecDepth 100000 in
theorem cm_pull {d : Int} (hK : MK w qt (n, now, ca, po, fo, rs) rb rn rf) (hG : vGood (n, now, ca, po, fo, rs)) (hd : inR d) : Ctr mX6_pull (rm 5) [.ref 99, vI d] nn w (pI (fun r w' => r = (fPull (n, now, ca, po, fo, rs) d).1 ∧ MK w' qt (fPull (n, now, ca, po, fo, rs) d).2 (tq qt (-2) r rb) (tq qt (-3) r rn) (tq qt (-4) r rf) ∧ frB w w') nn) := by
  refine Ctr_of (lv := [some (.ref 99), some (vI d), none]) (by decide +kernel) rfl rfl ?_
  have hM := hK.ms
  obtain ⟨⟨ty, a0, sp, tk, vl, mn, fd, sv, ho⟩, ⟨f, hb0, hB⟩, hr, hq⟩ := hK
  obtain ⟨hn, hnow, hca, hpo, hfo, hgd, hcv, hor, hsg, hpast⟩ := hG.un
  have hB : BkOf f n now ca po fo rs := hB
  have e8 : f (8 : Int).toNat = (rs 8).length := hB.1.2.2.2.2.2
  have hl := hB.2.1
  refine V_aload_n (Y := mX6_pull) (pc := 0) dX6_pull_0 rfl ?_
  refine V_iload_n (Y := mX6_pull) (pc := 1) dX6_pull_1 rfl ?_
  apply V_vR (Y := mX6_pull) (pc := 2) dX6_pull_2 ok_X6_isDrawer ov_X6_isDrawer ln_X6_83 (cm_isDrawer (d := d) hM hn hd)
  · assumption
  · rfl
  · rfl
  · rfl
  · rfl
  · rfl
  refine V_if_neB (tgt := 13) (Y := mX6_pull) (pc := 5) dX6_pull_5 (by decide) (fun h_5 => ?_) (fun h_5 => ?_)
  · refine V_aload_n (Y := mX6_pull) (pc := 13) dX6_pull_13 rfl ?_
    apply V_get (Y := mX6_pull) (pc := 14) dX6_pull_14 fl_X6_7
    · assumption
    · rfl
    refine V_bipush (Y := mX6_pull) (pc := 17) dX6_pull_17 ⟨by decide, by decide⟩ ?_
    apply V_iald (Y := mX6_pull) (pc := 19) dX6_pull_19
    · assumption
    · exact ⟨by omega, by omega⟩
    · omega
    rw [e8]
    refine V_bipush (Y := mX6_pull) (pc := 20) dX6_pull_20 ⟨by decide, by decide⟩ ?_
    refine V_icmp_ne (tgt := 70) (Y := mX6_pull) (pc := 22) dX6_pull_22 (by decide) ⟨by omega, by omega⟩ ⟨by omega, by omega⟩ (fun h_22 => ?_) (fun h_22 => ?_)
    · have e : fPull (n, now, ca, po, fo, rs) d = (spP ca rs now d, (n, spP ca rs now d, ca, po, fo, va_up rs 8 (rs 8 ++ [now]))) := (if_neg (fun q => q h_5)).trans (by show (_, _) = _; rw [if_neg (show ¬ 20 ≤ (rs 8).length by omega)]; rfl)
      rw [e]
      have hz := (spP_ok (ca := ca) hcv now d hnow h_5).1
      have hB8 : BkOf f n now ca po fo (va_up rs 8 (rs 8)) := by rw [show va_up rs 8 (rs 8) = rs from by funext j; unfold va_up; split <;> simp_all]; exact hB
      refine lpm_pull70 (p := rs 8) hG h_5 (by omega) ho hb0 hB8 (fun w'' f' q1 q2 q3 => pI_of ⟨rfl, MK.tq0 ⟨⟨_, _, _, _, _, _, _, _, (q3 99 (by omega)).trans ho⟩, ⟨f', q1, q2⟩, hr.keep (q3 _ (by omega)), hq⟩ (by omega), fun j a b => q3 j a⟩)
    · refine V_iconst (Y := mX6_pull) (pc := 25) dX6_pull_25 ?_
      refine V_istore_n (Y := mX6_pull) (pc := 26) dX6_pull_26 rfl ?_
      have e : fPull (n, now, ca, po, fo, rs) d = (spP ca rs now d, (n, spP ca rs now d, ca, po, fo, va_up rs 8 ((rs 8).tail ++ [now]))) := (if_neg (fun q => q h_5)).trans (by show (_, _) = _; rw [if_pos (show 20 ≤ (rs 8).length by omega)]; rfl)
      rw [e]
      have hz := (spP_ok (ca := ca) hcv now d hnow h_5).1
      refine lpm_pull27 hG h_5 (by omega) ho hB (fun w'' f' q1 q2 q3 => pI_of ⟨rfl, MK.tq0 ⟨⟨_, _, _, _, _, _, _, _, (q3 99 (by omega)).trans ho⟩, ⟨f', q1, q2⟩, hr.keep (q3 _ (by omega)), hq⟩ (by omega), fun j a b => q3 j a⟩) 19 1 w f (by omega) (by omega) hb0 (fun _ _ => rfl) (fun _ _ => rfl) (fun k q1 q2 => by omega) (fun _ _ _ => rfl)
  · refine V_aload_n (Y := mX6_pull) (pc := 8) dX6_pull_8 rfl ?_
    apply V_vI (Y := mX6_pull) (pc := 9) dX6_pull_9 ok_X6_bad ov_X6_bad ln_X6_79 (cm_bad ho hr hq)
    · assumption
    · rfl
    · rfl
    · rfl
    · rfl
    · rfl
    rintro z_9 w_9 ⟨hz2, g1, f1⟩
    subst hz2
    refine V_iret (Y := mX6_pull) (pc := 12) dX6_pull_12 rfl (Nat.le_of_ble_eq_true rfl) (Nat.le_of_ble_eq_true rfl) ?_
    rw [show fPull (n, now, ca, po, fo, rs) d = (-2, (n, now, ca, po, fo, rs)) from if_pos h_5]
    exact pI_of ⟨rfl, ⟨⟨_, _, _, _, _, _, _, _, (f1 _ (by omega)).trans ho⟩, ⟨f, (f1 _ (by omega)).trans hb0, hB⟩, g1, hq⟩, fun j a b => f1 j b⟩
set_option maxRecDepth 100000 in
theorem cm_undo (hK : MK w qt (n, now, ca, po, fo, rs) rb rn rf) (hG : vGood (n, now, ca, po, fo, rs)) : Ctr mX6_undo (rm 2) [.ref 99] nn w (pI (fun r w' => r = (fUndo (n, now, ca, po, fo, rs)).1 ∧ MK w' qt (fUndo (n, now, ca, po, fo, rs)).2 (tq qt (-2) r rb) (tq qt (-3) r rn) (tq qt (-4) r rf) ∧ frB w w') nn) := by
  refine Ctr_of (lv := [some (.ref 99)]) (by decide +kernel) rfl rfl ?_
  obtain ⟨⟨ty, a0, sp, tk, vl, mn, fd, sv, ho⟩, ⟨f, hb0, hB⟩, hr, hq⟩ := hK
  obtain ⟨hn, hnow, hca, hpo, hfo, hgd, hcv, hor, hsg, hpast⟩ := hG.un
  have hB : BkOf f n now ca po fo rs := hB
  have e8 : f (8 : Int).toNat = (rs 8).length := hB.1.2.2.2.2.2
  have hl := hB.2.1
  refine V_aload_n (Y := mX6_undo) (pc := 0) dX6_undo_0 rfl ?_
  apply V_get (Y := mX6_undo) (pc := 1) dX6_undo_1 fl_X6_7
  · assumption
  · rfl
  refine V_bipush (Y := mX6_undo) (pc := 4) dX6_undo_4 ⟨by decide, by decide⟩ ?_
  apply V_iald (Y := mX6_undo) (pc := 6) dX6_undo_6
  · assumption
  · exact ⟨by omega, by omega⟩
  · omega
  rw [e8]
  refine V_if_ne (tgt := 15) (Y := mX6_undo) (pc := 7) dX6_undo_7 (by decide) ⟨by omega, by omega⟩ (fun h_7 => ?_) (fun h_7 => ?_)
  · refine V_aload_n (Y := mX6_undo) (pc := 15) dX6_undo_15 rfl ?_
    apply V_get (Y := mX6_undo) (pc := 16) dX6_undo_16 fl_X6_7
    · assumption
    · rfl
    refine V_bipush (Y := mX6_undo) (pc := 19) dX6_undo_19 ⟨by decide, by decide⟩ ?_
    refine V_dup2 (Y := mX6_undo) (pc := 21) dX6_undo_21 rfl rfl ?_
    apply V_iald (Y := mX6_undo) (pc := 22) dX6_undo_22
    · assumption
    · exact ⟨by omega, by omega⟩
    · omega
    rw [e8]
    refine V_iconst (Y := mX6_undo) (pc := 23) dX6_undo_23 ?_
    refine V_isub (Y := mX6_undo) (pc := 24) dX6_undo_24 ?_
    apply V_iastW (Y := mX6_undo) (pc := 25) dX6_undo_25
    · assumption
    · exact ⟨by omega, by omega⟩
    · omega
    intro w_25 h_25 f_25
    have o25 := (f_25 99 (by omega)).trans ho
    refine V_aload_n (Y := mX6_undo) (pc := 26) dX6_undo_26 rfl ?_
    apply V_get (Y := mX6_undo) (pc := 27) dX6_undo_27 fl_X6_7
    · assumption
    · rfl
    refine V_bipush (Y := mX6_undo) (pc := 30) dX6_undo_30 ⟨by decide, by decide⟩ ?_
    refine V_aload_n (Y := mX6_undo) (pc := 32) dX6_undo_32 rfl ?_
    apply V_get (Y := mX6_undo) (pc := 33) dX6_undo_33 fl_X6_7
    · assumption
    · rfl
    refine V_bipush (Y := mX6_undo) (pc := 36) dX6_undo_36 ⟨by decide, by decide⟩ ?_
    refine V_aload_n (Y := mX6_undo) (pc := 38) dX6_undo_38 rfl ?_
    apply V_get (Y := mX6_undo) (pc := 39) dX6_undo_39 fl_X6_7
    · assumption
    · rfl
    refine V_bipush (Y := mX6_undo) (pc := 42) dX6_undo_42 ⟨by decide, by decide⟩ ?_
    apply V_iald (Y := mX6_undo) (pc := 44) dX6_undo_44
    · assumption
    · exact ⟨by omega, by omega⟩
    · omega
    rw [va_up_self]
    refine V_iadd (Y := mX6_undo) (pc := 45) dX6_undo_45 ?_
    apply V_iald (Y := mX6_undo) (pc := 46) dX6_undo_46
    · assumption
    · exact ⟨by omega, by omega⟩
    · omega
    rw [va_up_ne _ _ (by omega), hB.2.2.2.2.2.2 ((rs 8).length - 1) (by omega) (by omega)]
    apply V_iastW (Y := mX6_undo) (pc := 47) dX6_undo_47
    · assumption
    · exact ⟨by omega, by omega⟩
    · omega
    intro w_47 h_47 f_47
    have o47 := (f_47 99 (by omega)).trans o25
    refine V_aload_n (Y := mX6_undo) (pc := 48) dX6_undo_48 rfl ?_
    apply V_get (Y := mX6_undo) (pc := 49) dX6_undo_49 fl_X6_7
    · assumption
    · rfl
    refine V_bipush (Y := mX6_undo) (pc := 52) dX6_undo_52 ⟨by decide, by decide⟩ ?_
    apply V_iald (Y := mX6_undo) (pc := 54) dX6_undo_54
    · assumption
    · exact ⟨by omega, by omega⟩
    · omega
    rw [va_up_self]
    refine V_iret (Y := mX6_undo) (pc := 55) dX6_undo_55 rfl (Nat.le_of_ble_eq_true rfl) (Nat.le_of_ble_eq_true rfl) ?_
    have e : fUndo (n, now, ca, po, fo, rs) = (rAt (rs 8) ((rs 8).length - 1), (n, rAt (rs 8) ((rs 8).length - 1), ca, po, fo, va_up rs 8 (rs 8).dropLast)) := if_neg (by show ¬ (rs 8).length = 0; omega)
    rw [e]
    have hz := (hpast ((rs 8).length - 1) (by omega) (by omega)).1
    refine pI_of ⟨rfl, MK.tq0 ⟨⟨_, _, _, _, _, _, _, _, o47⟩, ⟨_, h_47, BkOf.past hB (by rw [List.length_dropLast]; omega) (va_up_self _ _ _) ?_ (fun k q1 q2 => ?_) (fun j q1 q2 q3 => ?_)⟩, hr.keep ((f_47 _ (by omega)).trans (f_25 _ (by omega))), hq⟩ (by omega), fun j a b => (f_47 j a).trans (f_25 j a)⟩
    · rw [va_up_ne _ _ (by omega)]; refine Eq.trans (va_up_self _ (8 : Int).toNat _) ?_; rw [List.length_dropLast]; omega
    · rw [List.length_dropLast] at q2
      rw [va_up_ne _ _ (by omega), va_up_ne _ _ (by omega), hB.2.2.2.2.2.2 k q1 (by omega), rAt_in q1, rAt_in q1, List.getD_eq_getElem?_getD, List.getD_eq_getElem?_getD, List.getElem?_dropLast, if_pos (by omega)]
    · rw [va_up_ne _ _ (by omega), va_up_ne _ _ (by omega)]
  · refine V_aload_n (Y := mX6_undo) (pc := 10) dX6_undo_10 rfl ?_
    apply V_vI (Y := mX6_undo) (pc := 11) dX6_undo_11 ok_X6_no ov_X6_no ln_X6_98 (cm_no ho hr hq)
    · assumption
    · rfl
    · rfl
    · rfl
    · rfl
    · rfl
    rintro z_9 w_9 ⟨hz2, g1, f1⟩
    subst hz2
    refine V_iret (Y := mX6_undo) (pc := 14) dX6_undo_14 rfl (Nat.le_of_ble_eq_true rfl) (Nat.le_of_ble_eq_true rfl) ?_
    rw [show fUndo (n, now, ca, po, fo, rs) = (-3, (n, now, ca, po, fo, rs)) from if_pos (by show (rs 8).length = 0; omega)]
    exact pI_of ⟨rfl, ⟨⟨_, _, _, _, _, _, _, _, (f1 _ (by omega)).trans ho⟩, ⟨f, (f1 _ (by omega)).trans hb0, hB⟩, g1, hq⟩, fun j a b => f1 j b⟩
set_option maxRecDepth 100000 in
theorem cm_behind {s d : Int} (hK : MK w qt (n, now, ca, po, fo, rs) rb rn rf) (hG : vGood (n, now, ca, po, fo, rs)) (hs : inR s) (hd : inR d) : Ctr mX6_behind (rm 5) [.ref 99, vI s, vI d] nn w (pI (fun r w' => r = fBehind (n, now, ca, po, fo, rs) s d ∧ MK w' qt (n, now, ca, po, fo, rs) (tq qt (-2) r rb) (tq qt (-3) r rn) (tq qt (-4) r rf) ∧ frB w w') nn) := by
  refine Ctr_of (lv := [some (.ref 99), some (vI s), some (vI d)]) (by decide +kernel) rfl rfl ?_
  have hM := hK.ms
  have hK0 := hK
  obtain ⟨⟨ty, a0, sp, tk, vl, mn, fd, sv, ho⟩, ⟨f, hb0, hB⟩, hr, hq⟩ := hK
  obtain ⟨hn, hnow, hca, hpo, hfo, hgd, hcv, hor, hsg, hpast⟩ := hG.un
  refine V_aload_n (Y := mX6_behind) (pc := 0) dX6_behind_0 rfl ?_
  refine V_iload_n (Y := mX6_behind) (pc := 1) dX6_behind_1 rfl ?_
  apply V_vR (Y := mX6_behind) (pc := 2) dX6_behind_2 ok_X6_isState ov_X6_isState ln_X6_186 (cm_isState (s := s) hM hn hs)
  · assumption
  · rfl
  · rfl
  · rfl
  · rfl
  · rfl
  refine V_if_eqB (tgt := 29) (Y := mX6_behind) (pc := 5) dX6_behind_5 (by decide) (fun h_5 => ?_) (fun h_5 => ?_)
  · refine V_aload_n (Y := mX6_behind) (pc := 29) dX6_behind_29 rfl ?_
    apply V_vI (Y := mX6_behind) (pc := 30) dX6_behind_30 ok_X6_bad ov_X6_bad ln_X6_79 (cm_bad ho hr hq)
    · assumption
    · rfl
    · rfl
    · rfl
    · rfl
    · rfl
    rintro z_9 w_9 ⟨hz2, g1, f1⟩
    subst hz2
    refine V_iret (Y := mX6_behind) (pc := 33) dX6_behind_33 rfl (Nat.le_of_ble_eq_true rfl) (Nat.le_of_ble_eq_true rfl) ?_
    first
      | (rw [show fBehind (n, now, ca, po, fo, rs) s d = spP ca rs s d from if_neg (fun q => q ⟨h_5, h_13⟩)]
         have hz := (spP_ok (ca := ca) hcv s d h_5 h_13).1
         exact pI_of ⟨rfl, hK0.tq0 (by omega), frB.refl w⟩)
      | (rw [show fBehind (n, now, ca, po, fo, rs) s d = -2 from if_pos (fun q => by first | exact h_5 q.1 | exact h_13 q.2)]
         exact pI_of ⟨rfl, ⟨⟨_, _, _, _, _, _, _, _, (f1 _ (by omega)).trans ho⟩, ⟨f, (f1 _ (by omega)).trans hb0, hB⟩, g1, hq⟩, fun j a b => f1 j b⟩)
  · refine V_aload_n (Y := mX6_behind) (pc := 8) dX6_behind_8 rfl ?_
    refine V_iload_n (Y := mX6_behind) (pc := 9) dX6_behind_9 rfl ?_
    apply V_vR (Y := mX6_behind) (pc := 10) dX6_behind_10 ok_X6_isDrawer ov_X6_isDrawer ln_X6_83 (cm_isDrawer (d := d) hM hn hd)
    · assumption
    · rfl
    · rfl
    · rfl
    · rfl
    · rfl
    refine V_if_eqB (tgt := 29) (Y := mX6_behind) (pc := 13) dX6_behind_13 (by decide) (fun h_13 => ?_) (fun h_13 => ?_)
    · refine V_aload_n (Y := mX6_behind) (pc := 29) dX6_behind_29 rfl ?_
      apply V_vI (Y := mX6_behind) (pc := 30) dX6_behind_30 ok_X6_bad ov_X6_bad ln_X6_79 (cm_bad ho hr hq)
      · assumption
      · rfl
      · rfl
      · rfl
      · rfl
      · rfl
      rintro z_9 w_9 ⟨hz2, g1, f1⟩
      subst hz2
      refine V_iret (Y := mX6_behind) (pc := 33) dX6_behind_33 rfl (Nat.le_of_ble_eq_true rfl) (Nat.le_of_ble_eq_true rfl) ?_
      first
        | (rw [show fBehind (n, now, ca, po, fo, rs) s d = spP ca rs s d from if_neg (fun q => q ⟨h_5, h_13⟩)]
           have hz := (spP_ok (ca := ca) hcv s d h_5 h_13).1
           exact pI_of ⟨rfl, hK0.tq0 (by omega), frB.refl w⟩)
        | (rw [show fBehind (n, now, ca, po, fo, rs) s d = -2 from if_pos (fun q => by first | exact h_5 q.1 | exact h_13 q.2)]
           exact pI_of ⟨rfl, ⟨⟨_, _, _, _, _, _, _, _, (f1 _ (by omega)).trans ho⟩, ⟨f, (f1 _ (by omega)).trans hb0, hB⟩, g1, hq⟩, fun j a b => f1 j b⟩)
    · refine V_aload_n (Y := mX6_behind) (pc := 16) dX6_behind_16 rfl ?_
      refine V_iload_n (Y := mX6_behind) (pc := 17) dX6_behind_17 rfl ?_
      refine V_iload_n (Y := mX6_behind) (pc := 18) dX6_behind_18 rfl ?_
      refine V_aload_n (Y := mX6_behind) (pc := 19) dX6_behind_19 rfl ?_
      apply V_vR (Y := mX6_behind) (pc := 20) dX6_behind_20 ok_X6_allCords ov_X6_allCords ln_X6_176 (cm_allCords hM)
      · assumption
      · rfl
      · rfl
      · rfl
      · rfl
      · rfl
      apply V_vR (Y := mX6_behind) (pc := 23) dX6_behind_23 ok_X6_pulled ov_X6_pulled ln_X6_179 (cm_pulledA (s := s) (d := d) hM hn hcv hca h_5 h_13)
      · assumption
      · rfl
      · rfl
      · rfl
      · rfl
      · rfl
      refine V_goto (tgt := 33) (Y := mX6_behind) (pc := 26) dX6_behind_26 (by decide) ?_
      refine V_iret (Y := mX6_behind) (pc := 33) dX6_behind_33 rfl (Nat.le_of_ble_eq_true rfl) (Nat.le_of_ble_eq_true rfl) ?_
      first
        | (rw [show fBehind (n, now, ca, po, fo, rs) s d = spP ca rs s d from if_neg (fun q => q ⟨h_5, h_13⟩)]
           have hz := (spP_ok (ca := ca) hcv s d h_5 h_13).1
           exact pI_of ⟨rfl, hK0.tq0 (by omega), frB.refl w⟩)
        | (rw [show fBehind (n, now, ca, po, fo, rs) s d = -2 from if_pos (fun q => by first | exact h_5 q.1 | exact h_13 q.2)]
           exact pI_of ⟨rfl, ⟨⟨_, _, _, _, _, _, _, _, (f1 _ (by omega)).trans ho⟩, ⟨f, (f1 _ (by omega)).trans hb0, hB⟩, g1, hq⟩, fun j a b => f1 j b⟩)
set_option maxRecDepth 100000 in
theorem cm_out {d : Int} (hK : MK w qt (n, now, ca, po, fo, rs) rb rn rf) (hG : vGood (n, now, ca, po, fo, rs)) (hd : inR d) : Ctr mX6_out (rm 2) [.ref 99, vI d] nn w (pI (fun r w' => r = fOut (n, now, ca, po, fo, rs) d ∧ MK w' qt (n, now, ca, po, fo, rs) (tq qt (-2) r rb) (tq qt (-3) r rn) (tq qt (-4) r rf) ∧ frB w w') nn) := by
  refine Ctr_of (lv := [some (.ref 99), some (vI d)]) (by decide +kernel) rfl rfl ?_
  have hM := hK.ms
  have hK0 := hK
  obtain ⟨⟨ty, a0, sp, tk, vl, mn, fd, sv, ho⟩, ⟨f, hb0, hB⟩, hr, hq⟩ := hK
  obtain ⟨hn, hnow, hca, hpo, hfo, hgd, hcv, hor, hsg, hpast⟩ := hG.un
  have e7 : f (7 : Int).toNat = now := hB.1.2.2.2.2.1
  have hp := p3_le n.toNat (by omega)
  refine V_aload_n (Y := mX6_out) (pc := 0) dX6_out_0 rfl ?_
  refine V_iload_n (Y := mX6_out) (pc := 1) dX6_out_1 rfl ?_
  apply V_vR (Y := mX6_out) (pc := 2) dX6_out_2 ok_X6_isDrawer ov_X6_isDrawer ln_X6_83 (cm_isDrawer (d := d) hM hn hd)
  · assumption
  · rfl
  · rfl
  · rfl
  · rfl
  · rfl
  refine V_if_eqB (tgt := 22) (Y := mX6_out) (pc := 5) dX6_out_5 (by decide) (fun h_5 => ?_) (fun h_5 => ?_)
  · refine V_aload_n (Y := mX6_out) (pc := 22) dX6_out_22 rfl ?_
    apply V_vI (Y := mX6_out) (pc := 23) dX6_out_23 ok_X6_bad ov_X6_bad ln_X6_79 (cm_bad ho hr hq)
    · assumption
    · rfl
    · rfl
    · rfl
    · rfl
    · rfl
    rintro z_9 w_9 ⟨hz2, g1, f1⟩
    subst hz2
    refine V_iret (Y := mX6_out) (pc := 26) dX6_out_26 rfl (Nat.le_of_ble_eq_true rfl) (Nat.le_of_ble_eq_true rfl) ?_
    first
      | (rw [show fOut (n, now, ca, po, fo, rs) d = dg now d.toNat from if_neg (fun q => q h_5)]
         have hz := (dg_rng now d.toNat).1
         exact pI_of ⟨rfl, hK0.tq0 (by omega), frB.refl w⟩)
      | (rw [show fOut (n, now, ca, po, fo, rs) d = -2 from if_pos h_5]
         exact pI_of ⟨rfl, ⟨⟨_, _, _, _, _, _, _, _, (f1 _ (by omega)).trans ho⟩, ⟨f, (f1 _ (by omega)).trans hb0, hB⟩, g1, hq⟩, fun j a b => f1 j b⟩)
  · refine V_aload_n (Y := mX6_out) (pc := 8) dX6_out_8 rfl ?_
    apply V_get (Y := mX6_out) (pc := 9) dX6_out_9 fl_X6_7
    · assumption
    · rfl
    refine V_bipush (Y := mX6_out) (pc := 12) dX6_out_12 ⟨by decide, by decide⟩ ?_
    apply V_iald (Y := mX6_out) (pc := 14) dX6_out_14
    · assumption
    · exact ⟨by omega, by omega⟩
    · omega
    rw [e7]
    refine V_iload_n (Y := mX6_out) (pc := 15) dX6_out_15 rfl ?_
    apply V_sR (Y := mX6_out) (pc := 16) dX6_out_16 ok_X6_outIn os_X6_outIn ln_X6_64 (cm_outIn (s := now) (d := d) hnow.1 ⟨by omega, by omega⟩ ⟨by omega, by omega⟩)
    · rfl
    · rfl
    · rfl
    refine V_goto (tgt := 26) (Y := mX6_out) (pc := 19) dX6_out_19 (by decide) ?_
    refine V_iret (Y := mX6_out) (pc := 26) dX6_out_26 rfl (Nat.le_of_ble_eq_true rfl) (Nat.le_of_ble_eq_true rfl) ?_
    first
      | (rw [show fOut (n, now, ca, po, fo, rs) d = dg now d.toNat from if_neg (fun q => q h_5)]
         have hz := (dg_rng now d.toNat).1
         exact pI_of ⟨rfl, hK0.tq0 (by omega), frB.refl w⟩)
      | (rw [show fOut (n, now, ca, po, fo, rs) d = -2 from if_pos h_5]
         exact pI_of ⟨rfl, ⟨⟨_, _, _, _, _, _, _, _, (f1 _ (by omega)).trans ho⟩, ⟨f, (f1 _ (by omega)).trans hb0, hB⟩, g1, hq⟩, fun j a b => f1 j b⟩)
set_option maxRecDepth 100000 in
theorem cm_status {a : Int} {S : vSt} (hK : MK w 0 S rb rn rf) (ha : inR a) : Ctr mX6_status (rm 2) [.ref 99, vI a] nn w (pI (fun z w' => z = (if a = 0 then rb else if a = 1 then rn else if a = 2 then rf else -1) ∧ MK w' 0 S (if 0 ≤ a ∧ a ≤ 2 then rb else rb + 1) rn rf ∧ frB w w') nn) := by
  refine Ctr_of (lv := [some (.ref 99), some (vI a)]) (by decide +kernel) rfl rfl ?_
  have hK0 := hK
  obtain ⟨⟨ty, a0, sp, tk, vl, mn, fd, sv, ho⟩, ⟨f, hb0, hB⟩, hr, hq⟩ := hK
  have hr0 := hr
  obtain ⟨r, hr1, r0, r1, r2⟩ := hr
  refine V_iload_n (Y := mX6_status) (pc := 0) dX6_status_0 rfl ?_
  refine V_i2l (Y := mX6_status) (pc := 1) dX6_status_1 ha ?_
  refine V_lconst (Y := mX6_status) (pc := 2) dX6_status_2 ?_
  refine V_ldc2 (z := (2 : Int)) (Y := mX6_status) (pc := 3) dX6_status_3 cl_X6_75 (by decide) ?_
  apply V_sR (Y := mX6_status) (pc := 6) dX6_status_6 ok_X6_in os_X6_in ln_X6_56 (cm_in (a := a) (b := 0) (c := 2) ha ⟨by omega, by omega⟩ ⟨by omega, by omega⟩)
  · rfl
  · rfl
  · rfl
  refine V_if_eqB (tgt := 21) (Y := mX6_status) (pc := 9) dX6_status_9 (by decide) (fun h_9 => ?_) (fun h_9 => ?_)
  · refine V_aload_n (Y := mX6_status) (pc := 21) dX6_status_21 rfl ?_
    refine V_iconst (Y := mX6_status) (pc := 22) dX6_status_22 ?_
    refine V_iconst (Y := mX6_status) (pc := 23) dX6_status_23 ?_
    apply V_vI (Y := mX6_status) (pc := 24) dX6_status_24 ok_X6_refuses ov_X6_refuses ln_X6_52 (cm_refuses (s := 0) (v := -1) ho hr0 hq (Or.inl rfl))
    · assumption
    · rfl
    · rfl
    · rfl
    · rfl
    · rfl
    rintro z_4 w_4 ⟨hz, g1, f1⟩
    refine V_iret (Y := mX6_status) (pc := 27) dX6_status_27 rfl (Nat.le_of_ble_eq_true rfl) (Nat.le_of_ble_eq_true rfl) ?_
    first
      | (rw [if_pos h_9]
         refine pI_of ⟨?_, hK0, frB.refl w⟩
         rcases (show a = 0 ∨ a = 1 ∨ a = 2 by omega) with rfl | rfl | rfl
         · exact r0
         · exact r1
         · exact r2)
      | (rw [if_neg h_9, if_neg (by omega), if_neg (by omega), if_neg (by omega)]
         exact pI_of ⟨hz, ⟨⟨_, _, _, _, _, _, _, _, (f1 _ (by omega)).trans ho⟩, ⟨f, (f1 _ (by omega)).trans hb0, hB⟩, by simpa using g1, hq⟩, fun j a b => f1 j b⟩)
  · refine V_aload_n (Y := mX6_status) (pc := 12) dX6_status_12 rfl ?_
    apply V_get (Y := mX6_status) (pc := 13) dX6_status_13 fl_X6_23
    · assumption
    · rfl
    refine V_iload_n (Y := mX6_status) (pc := 16) dX6_status_16 rfl ?_
    apply V_iald (Y := mX6_status) (pc := 17) dX6_status_17
    · assumption
    · exact ⟨by omega, by omega⟩
    · omega
    refine V_goto (tgt := 27) (Y := mX6_status) (pc := 18) dX6_status_18 (by decide) ?_
    refine V_iret (Y := mX6_status) (pc := 27) dX6_status_27 rfl (Nat.le_of_ble_eq_true rfl) (Nat.le_of_ble_eq_true rfl) ?_
    first
      | (rw [if_pos h_9]
         refine pI_of ⟨?_, hK0, frB.refl w⟩
         rcases (show a = 0 ∨ a = 1 ∨ a = 2 by omega) with rfl | rfl | rfl
         · exact r0
         · exact r1
         · exact r2)
      | (rw [if_neg h_9, if_neg (by omega), if_neg (by omega), if_neg (by omega)]
         exact pI_of ⟨hz, ⟨⟨_, _, _, _, _, _, _, _, (f1 _ (by omega)).trans ho⟩, ⟨f, (f1 _ (by omega)).trans hb0, hB⟩, by simpa using g1, hq⟩, fun j a b => f1 j b⟩)
end MOD
