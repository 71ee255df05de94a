/-! ===== DrawerWallModel: scans ===== -/
def tkM (t : Int) : Int := if t = 3 then 4 else if t = 4 then 3 else t
theorem wdOf_1 (l : List Int) (s e : Int) : wdOf l s e = 1 ∨ (5 ≤ wdOf l s e ∧ wdOf l s e ≤ 9) := by
  unfold wdOf
  repeat' split
  all_goals omega
section MOD
variable {nn : Nat} {w : vWd} {tx : List Int} {qt a0 sp tk vl mn fd sv : Int}
set_option maxRecDepth 100000 in
theorem cm_isAt {lo hi : Int} (ho : w 99 = some (mO qt tx.length a0 sp tk vl mn fd sv)) (hT : TxM w tx) (hby : byOK tx) (ha : 0 ≤ a0 ∧ a0 ≤ tx.length) (hlo : inR lo) (hhi : inR hi) : Ctr mX6_isAt (rm 1) [.ref 99, vI lo, vI hi] nn w (pR (vI (bI (a0 < tx.length ∧ lo ≤ rAt tx a0 ∧ rAt tx a0 ≤ hi))) nn w) := by
  refine Ctr_of (lv := [some (.ref 99), some (vI lo), some (vI hi)]) (by decide +kernel) rfl rfl ?_
  obtain ⟨t, ht, hl, htx⟩ := hT
  have hb := hby a0
  refine V_aload_n (Y := mX6_isAt) (pc := 0) dX6_isAt_0 rfl ?_
  apply V_get (Y := mX6_isAt) (pc := 1) dX6_isAt_1 fl_X6_113
  · assumption
  · rfl
  refine V_aload_n (Y := mX6_isAt) (pc := 4) dX6_isAt_4 rfl ?_
  apply V_get (Y := mX6_isAt) (pc := 5) dX6_isAt_5 fl_X6_107
  · assumption
  · rfl
  refine V_icmp_ge (tgt := 35) (Y := mX6_isAt) (pc := 8) dX6_isAt_8 (by decide) ⟨by omega, by omega⟩ ⟨by omega, by omega⟩ (fun h_8 => ?_) (fun h_8 => ?_)
  · refine V_iconst (Y := mX6_isAt) (pc := 35) dX6_isAt_35 ?_
    refine V_zret (ty := .boolean) (Y := mX6_isAt) (pc := 36) dX6_isAt_36 rfl rfl (Nat.le_of_ble_eq_true rfl) (Nat.le_of_ble_eq_true rfl) ?_
    first | exact pR_I (bI_t ⟨by omega, h_28⟩).symm | exact pR_I (bI_f (fun q => h_28 q.2)).symm | exact pR_I (bI_f (fun q => by have := q.1; omega)).symm
  · refine V_aload_n (Y := mX6_isAt) (pc := 11) dX6_isAt_11 rfl ?_
    apply V_get (Y := mX6_isAt) (pc := 12) dX6_isAt_12 fl_X6_26
    · assumption
    · rfl
    refine V_aload_n (Y := mX6_isAt) (pc := 15) dX6_isAt_15 rfl ?_
    apply V_get (Y := mX6_isAt) (pc := 16) dX6_isAt_16 fl_X6_113
    · assumption
    · rfl
    apply V_iald (Y := mX6_isAt) (pc := 19) dX6_isAt_19
    · assumption
    · exact ⟨by omega, by omega⟩
    · omega
    rw [htx a0 ha.1 (by omega)]
    refine V_i2l (Y := mX6_isAt) (pc := 20) dX6_isAt_20 ⟨by omega, by omega⟩ ?_
    refine V_iload_n (Y := mX6_isAt) (pc := 21) dX6_isAt_21 rfl ?_
    refine V_i2l (Y := mX6_isAt) (pc := 22) dX6_isAt_22 hlo ?_
    refine V_iload_n (Y := mX6_isAt) (pc := 23) dX6_isAt_23 rfl ?_
    refine V_i2l (Y := mX6_isAt) (pc := 24) dX6_isAt_24 hhi ?_
    apply V_sR (Y := mX6_isAt) (pc := 25) dX6_isAt_25 ok_X6_in os_X6_in ln_X6_56 (cm_in (a := rAt tx a0) (b := lo) (c := hi) ⟨by omega, by omega⟩ hlo hhi)
    · rfl
    · rfl
    · rfl
    refine V_if_eqB (tgt := 35) (Y := mX6_isAt) (pc := 28) dX6_isAt_28 (by decide) (fun h_28 => ?_) (fun h_28 => ?_)
    · refine V_iconst (Y := mX6_isAt) (pc := 35) dX6_isAt_35 ?_
      refine V_zret (ty := .boolean) (Y := mX6_isAt) (pc := 36) dX6_isAt_36 rfl rfl (Nat.le_of_ble_eq_true rfl) (Nat.le_of_ble_eq_true rfl) ?_
      first | exact pR_I (bI_t ⟨by omega, h_28⟩).symm | exact pR_I (bI_f (fun q => h_28 q.2)).symm | exact pR_I (bI_f (fun q => by have := q.1; omega)).symm
    · refine V_iconst (Y := mX6_isAt) (pc := 31) dX6_isAt_31 ?_
      refine V_goto (tgt := 36) (Y := mX6_isAt) (pc := 32) dX6_isAt_32 (by decide) ?_
      refine V_zret (ty := .boolean) (Y := mX6_isAt) (pc := 36) dX6_isAt_36 rfl rfl (Nat.le_of_ble_eq_true rfl) (Nat.le_of_ble_eq_true rfl) ?_
      first | exact pR_I (bI_t ⟨by omega, h_28⟩).symm | exact pR_I (bI_f (fun q => h_28 q.2)).symm | exact pR_I (bI_f (fun q => by have := q.1; omega)).symm
set_option maxRecDepth 100000 in
theorem lpm_scF {s e : Int} {Q : vPost} (hT : TxM w tx) (hby : byOK tx) (hs : 0 ≤ s) (K : ∀ w', w' 99 = some (mO qt tx.length e sp (if e = s + 1 then 2 else 1) vl mn fd sv) → (∀ j, j ≠ 99 → w' j = w j) → Q none nn w') : ∀ (m : Nat) (p t : Int) (w' : vWd), s + 1 ≤ p → p ≤ tx.length → ((tx.length : Int) - p).toNat < m → adv bF1 tx p = e → (p = s + 1 → t = 2) → (p ≠ s + 1 → t = 1) → w' 99 = some (mO qt tx.length p sp t vl mn fd sv) → (∀ j, j ≠ 99 → w' j = w j) →
    V mX6_scans (rm 2) Q 206 [some (.ref 99), none, none] [] nn w' 0 0 := by
  intro m
  induction m with
  | zero => intro p t w' h1 h2 h3; omega
  | succ m ih =>
    intro p t w' hp hpl hm he ht2 ht1 ho hf
    have hT' := hT.keep (hf 105 (by omega))
    refine V_aload_n (Y := mX6_scans) (pc := 206) dX6_scans_206 rfl ?_
    refine V_bipush (Y := mX6_scans) (pc := 207) dX6_scans_207 ⟨by decide, by decide⟩ ?_
    refine V_bipush (Y := mX6_scans) (pc := 209) dX6_scans_209 ⟨by decide, by decide⟩ ?_
    apply V_vR (Y := mX6_scans) (pc := 211) dX6_scans_211 ok_X6_isAt ov_X6_isAt ln_X6_126 (cm_isAt (lo := 48) (hi := 57) ho hT' hby ⟨by omega, hpl⟩ ⟨by omega, by omega⟩ ⟨by omega, by omega⟩)
    · assumption
    · rfl
    · rfl
    · rfl
    · rfl
    · rfl
    refine V_if_eqB (tgt := 235) (Y := mX6_scans) (pc := 214) dX6_scans_214 (by decide) (fun h_214 => ?_) (fun h_214 => ?_)
    · refine V_vret (Y := mX6_scans) (pc := 235) dX6_scans_235 rfl (Nat.le_of_ble_eq_true rfl) (Nat.le_of_ble_eq_true rfl) ?_
      have e2 : adv bF1 tx p = p := adv_f h_214
      rw [he] at e2
      subst e2
      have k := K w'
      by_cases hq : e = s + 1
      · rw [if_pos hq] at k
        rw [ht2 hq] at ho
        exact k ho hf
      · rw [if_neg hq] at k
        rw [ht1 hq] at ho
        exact k ho hf
    · refine V_aload_n (Y := mX6_scans) (pc := 217) dX6_scans_217 rfl ?_
      refine V_iconst (Y := mX6_scans) (pc := 218) dX6_scans_218 ?_
      apply V_putiW (Y := mX6_scans) (pc := 219) dX6_scans_219 fl_X6_132
      · assumption
      · exact Nat.le_of_ble_eq_true rfl
      intro w_219 h_219 f_219
      simp only [List.set_cons_zero, List.set_cons_succ] at h_219
      refine V_aload_n (Y := mX6_scans) (pc := 222) dX6_scans_222 rfl ?_
      refine V_dup (Y := mX6_scans) (pc := 223) dX6_scans_223 rfl ?_
      apply V_get (Y := mX6_scans) (pc := 224) dX6_scans_224 fl_X6_113
      · assumption
      · rfl
      refine V_iconst (Y := mX6_scans) (pc := 227) dX6_scans_227 ?_
      refine V_iadd (Y := mX6_scans) (pc := 228) dX6_scans_228 ?_
      apply V_putiW (Y := mX6_scans) (pc := 229) dX6_scans_229 fl_X6_113
      · assumption
      · exact Nat.le_of_ble_eq_true rfl
      intro w_229 h_229 f_229
      simp only [List.set_cons_zero, List.set_cons_succ] at h_229
      refine V_goto (tgt := 206) (Y := mX6_scans) (pc := 232) dX6_scans_232 (by decide) ?_
      exact ih (p + 1) 1 w_229 (by omega) (by omega) (by omega) (by rw [← adv_t h_214]; exact he) (fun q => by omega) (fun _ => rfl) h_229 (fun j hj => (f_229 j hj).trans ((f_219 j hj).trans (hf j hj)))
set_option maxRecDepth 100000 in
theorem lpm_scL {s e : Int} {Q : vPost} (hT : TxM w tx) (hby : byOK tx) (hs : 0 ≤ s) (K : ∀ w', w' 99 = some (mO qt tx.length e s (wdOf tx s e) vl mn fd sv) → (∀ j, j ≠ 99 → w' j = w j) → Q none nn w') : ∀ (m k : Nat) (w' : vWd), s + k ≤ tx.length → ((tx.length : Int) - (s + k)).toNat < m → adv bL tx (s + k) = e → (∀ j : Nat, j < k → 97 ≤ rAt tx (s + j) ∧ rAt tx (s + j) ≤ 122) → w' 99 = some (mO qt tx.length (s + k) s tk vl mn fd sv) → (∀ j, j ≠ 99 → w' j = w j) →
    V mX6_scans (rm 2) Q 62 [some (.ref 99), some (vJ (wvC tx s k)), none] [] nn w' 0 0 := by
  intro m
  induction m with
  | zero => intro k w' h1 h2; omega
  | succ m ih =>
    intro k w' hk hm he hlet ho hf
    have hT' := hT.keep (hf 105 (by omega))
    have hl200 : tx.length ≤ 200 := by obtain ⟨t, -, q, -⟩ := hT; exact q
    have hwr := wvC_rng k hlet
    have hvb := vb_wd hlet
    have h01 := wdOf_1 tx s (s + k)
    have hbk := hby (s + k)
    have ih1 := ih (k + 1)
    rw [show ((k + 1 : Nat) : Int) = (k : Int) + 1 by omega, show s + ((k : Int) + 1) = s + k + 1 by omega, wvC] at ih1
    have hvr : -1 ≤ vbF (wvC tx s k) ∧ vbF (wvC tx s k) ≤ 4 := by unfold vbF; repeat' split <;> omega
    obtain ⟨t, ht105, -, htx⟩ := hT'
    have hT' : TxM w' tx := ⟨t, ht105, hl200, htx⟩
    refine V_aload_n (Y := mX6_scans) (pc := 62) dX6_scans_62 rfl ?_
    refine V_bipush (Y := mX6_scans) (pc := 63) dX6_scans_63 ⟨by decide, by decide⟩ ?_
    refine V_bipush (Y := mX6_scans) (pc := 65) dX6_scans_65 ⟨by decide, by decide⟩ ?_
    apply V_vR (Y := mX6_scans) (pc := 67) dX6_scans_67 ok_X6_isAt ov_X6_isAt ln_X6_126 (cm_isAt (lo := 97) (hi := 122) ho hT' hby ⟨by omega, hk⟩ ⟨by omega, by omega⟩ ⟨by omega, by omega⟩)
    · assumption
    · rfl
    · rfl
    · rfl
    · rfl
    · rfl
    refine V_if_eqB (tgt := 127) (Y := mX6_scans) (pc := 70) dX6_scans_70 (by decide) (fun h_70 => ?_) (fun h_70 => ?_)
    · refine V_aload_n (Y := mX6_scans) (pc := 127) dX6_scans_127 rfl ?_
      refine V_aload_n (Y := mX6_scans) (pc := 128) dX6_scans_128 rfl ?_
      apply V_get (Y := mX6_scans) (pc := 129) dX6_scans_129 fl_X6_113
      · assumption
      · rfl
      refine V_aload_n (Y := mX6_scans) (pc := 132) dX6_scans_132 rfl ?_
      apply V_get (Y := mX6_scans) (pc := 133) dX6_scans_133 fl_X6_129
      · assumption
      · rfl
      refine V_isub (Y := mX6_scans) (pc := 136) dX6_scans_136 ?_
      refine V_bipush (Y := mX6_scans) (pc := 137) dX6_scans_137 ⟨by decide, by decide⟩ ?_
      refine V_icmp_gt (tgt := 150) (Y := mX6_scans) (pc := 139) dX6_scans_139 (by decide) ⟨by omega, by omega⟩ ⟨by omega, by omega⟩ (fun h_139 => ?_) (fun h_139 => ?_)
      · refine V_iconst (Y := mX6_scans) (pc := 150) dX6_scans_150 ?_
        refine V_goto (tgt := 160) (Y := mX6_scans) (pc := 151) dX6_scans_151 (by decide) ?_
        apply V_putiW (Y := mX6_scans) (pc := 160) dX6_scans_160 fl_X6_132
        · assumption
        · exact Nat.le_of_ble_eq_true rfl
        intro w_160 h_160 f_160
        simp only [List.set_cons_zero, List.set_cons_succ] at h_160
        refine V_vret (Y := mX6_scans) (pc := 163) dX6_scans_163 rfl (Nat.le_of_ble_eq_true rfl) (Nat.le_of_ble_eq_true rfl) ?_
        have e2 : adv bL tx (s + k) = s + k := adv_f h_70
        rw [he] at e2
        subst e2
        have k2 := K w_160
        rw [hvb] at k2
        first
          | (exfalso; omega)
          | (rw [if_pos (by omega)] at k2; exact k2 h_160 (fun j hj => (f_160 j hj).trans (hf j hj)))
          | (rw [if_neg (by omega)] at k2; exact k2 h_160 (fun j hj => (f_160 j hj).trans (hf j hj)))
      · refine V_lload_n (Y := mX6_scans) (pc := 142) dX6_scans_142 rfl ?_
        apply V_sR (Y := mX6_scans) (pc := 143) dX6_scans_143 ok_X6_verbOf os_X6_verbOf ln_X6_139 (cm_verbOf (v := wvC tx s k) hwr)
        · rfl
        · rfl
        · rfl
        refine V_iconst (Y := mX6_scans) (pc := 146) dX6_scans_146 ?_
        refine V_icmp_ne (tgt := 154) (Y := mX6_scans) (pc := 147) dX6_scans_147 (by decide) ⟨by omega, by omega⟩ ⟨by omega, by omega⟩ (fun h_147 => ?_) (fun h_147 => ?_)
        · refine V_iconst (Y := mX6_scans) (pc := 154) dX6_scans_154 ?_
          refine V_lload_n (Y := mX6_scans) (pc := 155) dX6_scans_155 rfl ?_
          apply V_sR (Y := mX6_scans) (pc := 156) dX6_scans_156 ok_X6_verbOf os_X6_verbOf ln_X6_139 (cm_verbOf (v := wvC tx s k) hwr)
          · rfl
          · rfl
          · rfl
          refine V_iadd (Y := mX6_scans) (pc := 159) dX6_scans_159 ?_
          apply V_putiW (Y := mX6_scans) (pc := 160) dX6_scans_160 fl_X6_132
          · assumption
          · exact Nat.le_of_ble_eq_true rfl
          intro w_160 h_160 f_160
          simp only [List.set_cons_zero, List.set_cons_succ] at h_160
          refine V_vret (Y := mX6_scans) (pc := 163) dX6_scans_163 rfl (Nat.le_of_ble_eq_true rfl) (Nat.le_of_ble_eq_true rfl) ?_
          have e2 : adv bL tx (s + k) = s + k := adv_f h_70
          rw [he] at e2
          subst e2
          have k2 := K w_160
          rw [hvb] at k2
          first
            | (exfalso; omega)
            | (rw [if_pos (by omega)] at k2; exact k2 h_160 (fun j hj => (f_160 j hj).trans (hf j hj)))
            | (rw [if_neg (by omega)] at k2; exact k2 h_160 (fun j hj => (f_160 j hj).trans (hf j hj)))
        · refine V_iconst (Y := mX6_scans) (pc := 150) dX6_scans_150 ?_
          refine V_goto (tgt := 160) (Y := mX6_scans) (pc := 151) dX6_scans_151 (by decide) ?_
          apply V_putiW (Y := mX6_scans) (pc := 160) dX6_scans_160 fl_X6_132
          · assumption
          · exact Nat.le_of_ble_eq_true rfl
          intro w_160 h_160 f_160
          simp only [List.set_cons_zero, List.set_cons_succ] at h_160
          refine V_vret (Y := mX6_scans) (pc := 163) dX6_scans_163 rfl (Nat.le_of_ble_eq_true rfl) (Nat.le_of_ble_eq_true rfl) ?_
          have e2 : adv bL tx (s + k) = s + k := adv_f h_70
          rw [he] at e2
          subst e2
          have k2 := K w_160
          rw [hvb] at k2
          first
            | (exfalso; omega)
            | (rw [if_pos (by omega)] at k2; exact k2 h_160 (fun j hj => (f_160 j hj).trans (hf j hj)))
            | (rw [if_neg (by omega)] at k2; exact k2 h_160 (fun j hj => (f_160 j hj).trans (hf j hj)))
    · refine V_aload_n (Y := mX6_scans) (pc := 73) dX6_scans_73 rfl ?_
      apply V_get (Y := mX6_scans) (pc := 74) dX6_scans_74 fl_X6_113
      · assumption
      · rfl
      refine V_aload_n (Y := mX6_scans) (pc := 77) dX6_scans_77 rfl ?_
      apply V_get (Y := mX6_scans) (pc := 78) dX6_scans_78 fl_X6_129
      · assumption
      · rfl
      refine V_isub (Y := mX6_scans) (pc := 81) dX6_scans_81 ?_
      refine V_bipush (Y := mX6_scans) (pc := 82) dX6_scans_82 ⟨by decide, by decide⟩ ?_
      refine V_icmp_le (tgt := 91) (Y := mX6_scans) (pc := 84) dX6_scans_84 (by decide) ⟨by omega, by omega⟩ ⟨by omega, by omega⟩ (fun h_84 => ?_) (fun h_84 => ?_)
      · refine V_ldc2 (z := (32 : Int)) (Y := mX6_scans) (pc := 91) dX6_scans_91 cl_X6_135 (by decide) ?_
        refine V_lload_n (Y := mX6_scans) (pc := 94) dX6_scans_94 rfl ?_
        refine V_lmul (Y := mX6_scans) (pc := 95) dX6_scans_95 ?_
        refine V_aload_n (Y := mX6_scans) (pc := 96) dX6_scans_96 rfl ?_
        apply V_get (Y := mX6_scans) (pc := 97) dX6_scans_97 fl_X6_26
        · assumption
        · rfl
        refine V_aload_n (Y := mX6_scans) (pc := 100) dX6_scans_100 rfl ?_
        apply V_get (Y := mX6_scans) (pc := 101) dX6_scans_101 fl_X6_113
        · assumption
        · rfl
        apply V_iald (Y := mX6_scans) (pc := 104) dX6_scans_104
        · assumption
        · exact ⟨by omega, by omega⟩
        · omega
        rw [htx (s + k) (by omega) (by omega)]
        refine V_i2l (Y := mX6_scans) (pc := 105) dX6_scans_105 ⟨by omega, by omega⟩ ?_
        refine V_ladd (Y := mX6_scans) (pc := 106) dX6_scans_106 ?_
        refine V_ldc2 (z := (97 : Int)) (Y := mX6_scans) (pc := 107) dX6_scans_107 cl_X6_137 (by decide) ?_
        refine V_lsub (Y := mX6_scans) (pc := 110) dX6_scans_110 ?_
        refine V_lconst (Y := mX6_scans) (pc := 111) dX6_scans_111 ?_
        refine V_ladd (Y := mX6_scans) (pc := 112) dX6_scans_112 ?_
        refine V_lstore_n (Y := mX6_scans) (pc := 113) dX6_scans_113 rfl (by decide) ?_
        refine V_aload_n (Y := mX6_scans) (pc := 114) dX6_scans_114 rfl ?_
        refine V_dup (Y := mX6_scans) (pc := 115) dX6_scans_115 rfl ?_
        apply V_get (Y := mX6_scans) (pc := 116) dX6_scans_116 fl_X6_113
        · assumption
        · rfl
        refine V_iconst (Y := mX6_scans) (pc := 119) dX6_scans_119 ?_
        refine V_iadd (Y := mX6_scans) (pc := 120) dX6_scans_120 ?_
        apply V_putiW (Y := mX6_scans) (pc := 121) dX6_scans_121 fl_X6_113
        · assumption
        · exact Nat.le_of_ble_eq_true rfl
        intro w_121 h_121 f_121
        simp only [List.set_cons_zero, List.set_cons_succ] at h_121
        refine V_goto (tgt := 62) (Y := mX6_scans) (pc := 124) dX6_scans_124 (by decide) ?_
        have hlet2 : ∀ j : Nat, j < k + 1 → 97 ≤ rAt tx (s + j) ∧ rAt tx (s + j) ≤ 122 := fun j hj => by
          by_cases hjk : j = k
          · rw [hjk]; exact h_70.2
          · exact hlet j (by omega)
        have he2 : adv bL tx (s + k + 1) = e := by rw [← adv_t h_70]; exact he
        first
          | (exfalso; omega)
          | (rw [if_pos (by omega)] at ih1; exact ih1 w_121 (by omega) (by omega) he2 hlet2 h_121 (fun j hj => (f_121 j hj).trans (hf j hj)))
          | (rw [if_neg (by omega), show 32 * wvC tx s k + (rAt tx (s + k) - 96) = 32 * wvC tx s k + rAt tx (s + k) - 97 + 1 by omega] at ih1; exact ih1 w_121 (by omega) (by omega) he2 hlet2 h_121 (fun j hj => (f_121 j hj).trans (hf j hj)))
      · refine V_lconst (Y := mX6_scans) (pc := 87) dX6_scans_87 ?_
        refine V_goto (tgt := 113) (Y := mX6_scans) (pc := 88) dX6_scans_88 (by decide) ?_
        refine V_lstore_n (Y := mX6_scans) (pc := 113) dX6_scans_113 rfl (by decide) ?_
        refine V_aload_n (Y := mX6_scans) (pc := 114) dX6_scans_114 rfl ?_
        refine V_dup (Y := mX6_scans) (pc := 115) dX6_scans_115 rfl ?_
        apply V_get (Y := mX6_scans) (pc := 116) dX6_scans_116 fl_X6_113
        · assumption
        · rfl
        refine V_iconst (Y := mX6_scans) (pc := 119) dX6_scans_119 ?_
        refine V_iadd (Y := mX6_scans) (pc := 120) dX6_scans_120 ?_
        apply V_putiW (Y := mX6_scans) (pc := 121) dX6_scans_121 fl_X6_113
        · assumption
        · exact Nat.le_of_ble_eq_true rfl
        intro w_121 h_121 f_121
        simp only [List.set_cons_zero, List.set_cons_succ] at h_121
        refine V_goto (tgt := 62) (Y := mX6_scans) (pc := 124) dX6_scans_124 (by decide) ?_
        have hlet2 : ∀ j : Nat, j < k + 1 → 97 ≤ rAt tx (s + j) ∧ rAt tx (s + j) ≤ 122 := fun j hj => by
          by_cases hjk : j = k
          · rw [hjk]; exact h_70.2
          · exact hlet j (by omega)
        have he2 : adv bL tx (s + k + 1) = e := by rw [← adv_t h_70]; exact he
        first
          | (exfalso; omega)
          | (rw [if_pos (by omega)] at ih1; exact ih1 w_121 (by omega) (by omega) he2 hlet2 h_121 (fun j hj => (f_121 j hj).trans (hf j hj)))
          | (rw [if_neg (by omega), show 32 * wvC tx s k + (rAt tx (s + k) - 96) = 32 * wvC tx s k + rAt tx (s + k) - 97 + 1 by omega] at ih1; exact ih1 w_121 (by omega) (by omega) he2 hlet2 h_121 (fun j hj => (f_121 j hj).trans (hf j hj)))
/-- what scans leaves -/
def ScP (w w' : vWd) (tx : List Int) (p qt mn fd sv : Int) : Prop := ∃ vl : Int, w' 99 = some (mO qt tx.length (scn tx p).2.2 (scn tx p).1 (tkM (scn tx p).2.1) vl mn fd sv) ∧ ((scn tx p).2.1 = 2 → vl = rAt tx (scn tx p).1 - 48) ∧ ∀ j, j ≠ 99 → w' j = w j
set_option maxRecDepth 100000 in
theorem lpm_sc24 {s : Int} {w' : vWd} {Q : vPost} (hT : TxM w tx) (hby : byOK tx) (hs : 0 ≤ s ∧ s ≤ tx.length) (ho : w' 99 = some (mO qt tx.length s sp tk vl mn fd sv)) (hf : ∀ j, j ≠ 99 → w' j = w j) (K : ∀ w'' vl', w'' 99 = some (mO qt tx.length (scn2 tx s).2.2 (scn2 tx s).1 (tkM (scn2 tx s).2.1) vl' mn fd sv) → ((scn2 tx s).2.1 = 2 → vl' = rAt tx (scn2 tx s).1 - 48) → (∀ j, j ≠ 99 → w'' j = w j) → Q none nn w'') :
    V mX6_scans (rm 2) Q 24 [some (.ref 99), none, none] [] nn w' 0 0 := by
  have hT' := hT.keep (hf 105 (by omega))
  have hbs := hby s
  obtain ⟨t, ht105, hl200, htx⟩ := hT'
  have hT' : TxM w' tx := ⟨t, ht105, hl200, htx⟩
  refine V_aload_n (Y := mX6_scans) (pc := 24) dX6_scans_24 rfl ?_
  refine V_aload_n (Y := mX6_scans) (pc := 25) dX6_scans_25 rfl ?_
  apply V_get (Y := mX6_scans) (pc := 26) dX6_scans_26 fl_X6_113
  · assumption
  · rfl
  apply V_putiW (Y := mX6_scans) (pc := 29) dX6_scans_29 fl_X6_129
  · assumption
  · exact Nat.le_of_ble_eq_true rfl
  intro w_29 h_29 f_29
  simp only [List.set_cons_zero, List.set_cons_succ] at h_29
  have hT29 := hT'.keep (f_29 105 (by omega))
  have t29 := (f_29 105 (by omega)).trans ht105
  refine V_aload_n (Y := mX6_scans) (pc := 32) dX6_scans_32 rfl ?_
  apply V_get (Y := mX6_scans) (pc := 33) dX6_scans_33 fl_X6_113
  · assumption
  · rfl
  refine V_aload_n (Y := mX6_scans) (pc := 36) dX6_scans_36 rfl ?_
  apply V_get (Y := mX6_scans) (pc := 37) dX6_scans_37 fl_X6_107
  · assumption
  · rfl
  refine V_icmp_ne (tgt := 49) (Y := mX6_scans) (pc := 40) dX6_scans_40 (by decide) ⟨by omega, by omega⟩ ⟨by omega, by omega⟩ (fun h_40 => ?_) (fun h_40 => ?_)
  · refine V_aload_n (Y := mX6_scans) (pc := 49) dX6_scans_49 rfl ?_
    refine V_bipush (Y := mX6_scans) (pc := 50) dX6_scans_50 ⟨by decide, by decide⟩ ?_
    refine V_bipush (Y := mX6_scans) (pc := 52) dX6_scans_52 ⟨by decide, by decide⟩ ?_
    apply V_vR (Y := mX6_scans) (pc := 54) dX6_scans_54 ok_X6_isAt ov_X6_isAt ln_X6_126 (cm_isAt (lo := 97) (hi := 122) h_29 hT29 hby hs ⟨by omega, by omega⟩ ⟨by omega, by omega⟩)
    · assumption
    · rfl
    · rfl
    · rfl
    · rfl
    · rfl
    refine V_if_eqB (tgt := 164) (Y := mX6_scans) (pc := 57) dX6_scans_57 (by decide) (fun h_57 => ?_) (fun h_57 => ?_)
    · refine V_aload_n (Y := mX6_scans) (pc := 164) dX6_scans_164 rfl ?_
      refine V_bipush (Y := mX6_scans) (pc := 165) dX6_scans_165 ⟨by decide, by decide⟩ ?_
      refine V_bipush (Y := mX6_scans) (pc := 167) dX6_scans_167 ⟨by decide, by decide⟩ ?_
      apply V_vR (Y := mX6_scans) (pc := 169) dX6_scans_169 ok_X6_isAt ov_X6_isAt ln_X6_126 (cm_isAt (lo := 48) (hi := 57) h_29 hT29 hby hs ⟨by omega, by omega⟩ ⟨by omega, by omega⟩)
      · assumption
      · rfl
      · rfl
      · rfl
      · rfl
      · rfl
      refine V_if_eqB (tgt := 236) (Y := mX6_scans) (pc := 172) dX6_scans_172 (by decide) (fun h_172 => ?_) (fun h_172 => ?_)
      · refine V_aload_n (Y := mX6_scans) (pc := 236) dX6_scans_236 rfl ?_
        refine V_aload_n (Y := mX6_scans) (pc := 237) dX6_scans_237 rfl ?_
        refine V_bipush (Y := mX6_scans) (pc := 238) dX6_scans_238 ⟨by decide, by decide⟩ ?_
        refine V_bipush (Y := mX6_scans) (pc := 240) dX6_scans_240 ⟨by decide, by decide⟩ ?_
        apply V_vR (Y := mX6_scans) (pc := 242) dX6_scans_242 ok_X6_isAt ov_X6_isAt ln_X6_126 (cm_isAt (lo := 59) (hi := 59) h_29 hT29 hby hs ⟨by omega, by omega⟩ ⟨by omega, by omega⟩)
        · assumption
        · rfl
        · rfl
        · rfl
        · rfl
        · rfl
        refine V_if_eqB (tgt := 252) (Y := mX6_scans) (pc := 245) dX6_scans_245 (by decide) (fun h_245 => ?_) (fun h_245 => ?_)
        · refine V_aload_n (Y := mX6_scans) (pc := 252) dX6_scans_252 rfl ?_
          refine V_bipush (Y := mX6_scans) (pc := 253) dX6_scans_253 ⟨by decide, by decide⟩ ?_
          refine V_bipush (Y := mX6_scans) (pc := 255) dX6_scans_255 ⟨by decide, by decide⟩ ?_
          apply V_vR (Y := mX6_scans) (pc := 257) dX6_scans_257 ok_X6_isAt ov_X6_isAt ln_X6_126 (cm_isAt (lo := 45) (hi := 45) h_29 hT29 hby hs ⟨by omega, by omega⟩ ⟨by omega, by omega⟩)
          · assumption
          · rfl
          · rfl
          · rfl
          · rfl
          · rfl
          refine V_if_eqB (tgt := 267) (Y := mX6_scans) (pc := 260) dX6_scans_260 (by decide) (fun h_260 => ?_) (fun h_260 => ?_)
          · refine V_iconst (Y := mX6_scans) (pc := 267) dX6_scans_267 ?_
            apply V_putiW (Y := mX6_scans) (pc := 268) dX6_scans_268 fl_X6_132
            · assumption
            · exact Nat.le_of_ble_eq_true rfl
            intro w_268 h_268 f_268
            simp only [List.set_cons_zero, List.set_cons_succ] at h_268
            refine V_aload_n (Y := mX6_scans) (pc := 271) dX6_scans_271 rfl ?_
            refine V_dup (Y := mX6_scans) (pc := 272) dX6_scans_272 rfl ?_
            apply V_get (Y := mX6_scans) (pc := 273) dX6_scans_273 fl_X6_113
            · assumption
            · rfl
            refine V_iconst (Y := mX6_scans) (pc := 276) dX6_scans_276 ?_
            refine V_iadd (Y := mX6_scans) (pc := 277) dX6_scans_277 ?_
            apply V_putiW (Y := mX6_scans) (pc := 278) dX6_scans_278 fl_X6_113
            · assumption
            · exact Nat.le_of_ble_eq_true rfl
            intro w_278 h_278 f_278
            simp only [List.set_cons_zero, List.set_cons_succ] at h_278
            refine V_vret (Y := mX6_scans) (pc := 281) dX6_scans_281 rfl (Nat.le_of_ble_eq_true rfl) (Nat.le_of_ble_eq_true rfl) ?_
            have e1 : scn2 tx s = (s, if rAt tx s = 45 then 3 else if rAt tx s = 59 then 4 else 1, s + 1) := (if_neg (by omega)).trans ((if_neg (fun q => h_57 ⟨by omega, q⟩)).trans (if_neg (fun q => h_172 ⟨by omega, q⟩)))
            have k := K w_278 vl
            rw [e1] at k
            have hff : ∀ j, j ≠ 99 → w_278 j = w j := fun j hj => (f_278 j hj).trans ((f_268 j hj).trans ((f_29 j hj).trans (hf j hj)))
            first
              | (rw [if_neg (show ¬ rAt tx s = 45 by omega), if_pos (show rAt tx s = 59 by omega)] at k; exact k h_278 (fun q => absurd q (show ¬ (4 : Int) = 2 by decide)) hff)
              | (rw [if_pos (show rAt tx s = 45 by omega)] at k; exact k h_278 (fun q => absurd q (show ¬ (3 : Int) = 2 by decide)) hff)
              | (rw [if_neg (show ¬ rAt tx s = 45 by omega), if_neg (show ¬ rAt tx s = 59 by omega)] at k; exact k h_278 (fun q => absurd q (show ¬ (1 : Int) = 2 by decide)) hff)
          · refine V_iconst (Y := mX6_scans) (pc := 263) dX6_scans_263 ?_
            refine V_goto (tgt := 268) (Y := mX6_scans) (pc := 264) dX6_scans_264 (by decide) ?_
            apply V_putiW (Y := mX6_scans) (pc := 268) dX6_scans_268 fl_X6_132
            · assumption
            · exact Nat.le_of_ble_eq_true rfl
            intro w_268 h_268 f_268
            simp only [List.set_cons_zero, List.set_cons_succ] at h_268
            refine V_aload_n (Y := mX6_scans) (pc := 271) dX6_scans_271 rfl ?_
            refine V_dup (Y := mX6_scans) (pc := 272) dX6_scans_272 rfl ?_
            apply V_get (Y := mX6_scans) (pc := 273) dX6_scans_273 fl_X6_113
            · assumption
            · rfl
            refine V_iconst (Y := mX6_scans) (pc := 276) dX6_scans_276 ?_
            refine V_iadd (Y := mX6_scans) (pc := 277) dX6_scans_277 ?_
            apply V_putiW (Y := mX6_scans) (pc := 278) dX6_scans_278 fl_X6_113
            · assumption
            · exact Nat.le_of_ble_eq_true rfl
            intro w_278 h_278 f_278
            simp only [List.set_cons_zero, List.set_cons_succ] at h_278
            refine V_vret (Y := mX6_scans) (pc := 281) dX6_scans_281 rfl (Nat.le_of_ble_eq_true rfl) (Nat.le_of_ble_eq_true rfl) ?_
            have e1 : scn2 tx s = (s, if rAt tx s = 45 then 3 else if rAt tx s = 59 then 4 else 1, s + 1) := (if_neg (by omega)).trans ((if_neg (fun q => h_57 ⟨by omega, q⟩)).trans (if_neg (fun q => h_172 ⟨by omega, q⟩)))
            have k := K w_278 vl
            rw [e1] at k
            have hff : ∀ j, j ≠ 99 → w_278 j = w j := fun j hj => (f_278 j hj).trans ((f_268 j hj).trans ((f_29 j hj).trans (hf j hj)))
            first
              | (rw [if_neg (show ¬ rAt tx s = 45 by omega), if_pos (show rAt tx s = 59 by omega)] at k; exact k h_278 (fun q => absurd q (show ¬ (4 : Int) = 2 by decide)) hff)
              | (rw [if_pos (show rAt tx s = 45 by omega)] at k; exact k h_278 (fun q => absurd q (show ¬ (3 : Int) = 2 by decide)) hff)
              | (rw [if_neg (show ¬ rAt tx s = 45 by omega), if_neg (show ¬ rAt tx s = 59 by omega)] at k; exact k h_278 (fun q => absurd q (show ¬ (1 : Int) = 2 by decide)) hff)
        · refine V_iconst (Y := mX6_scans) (pc := 248) dX6_scans_248 ?_
          refine V_goto (tgt := 268) (Y := mX6_scans) (pc := 249) dX6_scans_249 (by decide) ?_
          apply V_putiW (Y := mX6_scans) (pc := 268) dX6_scans_268 fl_X6_132
          · assumption
          · exact Nat.le_of_ble_eq_true rfl
          intro w_268 h_268 f_268
          simp only [List.set_cons_zero, List.set_cons_succ] at h_268
          refine V_aload_n (Y := mX6_scans) (pc := 271) dX6_scans_271 rfl ?_
          refine V_dup (Y := mX6_scans) (pc := 272) dX6_scans_272 rfl ?_
          apply V_get (Y := mX6_scans) (pc := 273) dX6_scans_273 fl_X6_113
          · assumption
          · rfl
          refine V_iconst (Y := mX6_scans) (pc := 276) dX6_scans_276 ?_
          refine V_iadd (Y := mX6_scans) (pc := 277) dX6_scans_277 ?_
          apply V_putiW (Y := mX6_scans) (pc := 278) dX6_scans_278 fl_X6_113
          · assumption
          · exact Nat.le_of_ble_eq_true rfl
          intro w_278 h_278 f_278
          simp only [List.set_cons_zero, List.set_cons_succ] at h_278
          refine V_vret (Y := mX6_scans) (pc := 281) dX6_scans_281 rfl (Nat.le_of_ble_eq_true rfl) (Nat.le_of_ble_eq_true rfl) ?_
          have e1 : scn2 tx s = (s, if rAt tx s = 45 then 3 else if rAt tx s = 59 then 4 else 1, s + 1) := (if_neg (by omega)).trans ((if_neg (fun q => h_57 ⟨by omega, q⟩)).trans (if_neg (fun q => h_172 ⟨by omega, q⟩)))
          have k := K w_278 vl
          rw [e1] at k
          have hff : ∀ j, j ≠ 99 → w_278 j = w j := fun j hj => (f_278 j hj).trans ((f_268 j hj).trans ((f_29 j hj).trans (hf j hj)))
          first
            | (rw [if_neg (show ¬ rAt tx s = 45 by omega), if_pos (show rAt tx s = 59 by omega)] at k; exact k h_278 (fun q => absurd q (show ¬ (4 : Int) = 2 by decide)) hff)
            | (rw [if_pos (show rAt tx s = 45 by omega)] at k; exact k h_278 (fun q => absurd q (show ¬ (3 : Int) = 2 by decide)) hff)
            | (rw [if_neg (show ¬ rAt tx s = 45 by omega), if_neg (show ¬ rAt tx s = 59 by omega)] at k; exact k h_278 (fun q => absurd q (show ¬ (1 : Int) = 2 by decide)) hff)
      · refine V_aload_n (Y := mX6_scans) (pc := 175) dX6_scans_175 rfl ?_
        refine V_aload_n (Y := mX6_scans) (pc := 176) dX6_scans_176 rfl ?_
        apply V_get (Y := mX6_scans) (pc := 177) dX6_scans_177 fl_X6_26
        · assumption
        · rfl
        refine V_aload_n (Y := mX6_scans) (pc := 180) dX6_scans_180 rfl ?_
        apply V_get (Y := mX6_scans) (pc := 181) dX6_scans_181 fl_X6_113
        · assumption
        · rfl
        apply V_iald (Y := mX6_scans) (pc := 184) dX6_scans_184
        · assumption
        · exact ⟨by omega, by omega⟩
        · omega
        rw [htx s hs.1 (by omega)]
        refine V_bipush (Y := mX6_scans) (pc := 185) dX6_scans_185 ⟨by decide, by decide⟩ ?_
        refine V_isub (Y := mX6_scans) (pc := 187) dX6_scans_187 ?_
        apply V_putiW (Y := mX6_scans) (pc := 188) dX6_scans_188 fl_X6_143
        · assumption
        · exact Nat.le_of_ble_eq_true rfl
        intro w_188 h_188 f_188
        simp only [List.set_cons_zero, List.set_cons_succ] at h_188
        refine V_aload_n (Y := mX6_scans) (pc := 191) dX6_scans_191 rfl ?_
        refine V_iconst (Y := mX6_scans) (pc := 192) dX6_scans_192 ?_
        apply V_putiW (Y := mX6_scans) (pc := 193) dX6_scans_193 fl_X6_132
        · assumption
        · exact Nat.le_of_ble_eq_true rfl
        intro w_193 h_193 f_193
        simp only [List.set_cons_zero, List.set_cons_succ] at h_193
        refine V_aload_n (Y := mX6_scans) (pc := 196) dX6_scans_196 rfl ?_
        refine V_dup (Y := mX6_scans) (pc := 197) dX6_scans_197 rfl ?_
        apply V_get (Y := mX6_scans) (pc := 198) dX6_scans_198 fl_X6_113
        · assumption
        · rfl
        refine V_iconst (Y := mX6_scans) (pc := 201) dX6_scans_201 ?_
        refine V_iadd (Y := mX6_scans) (pc := 202) dX6_scans_202 ?_
        apply V_putiW (Y := mX6_scans) (pc := 203) dX6_scans_203 fl_X6_113
        · assumption
        · exact Nat.le_of_ble_eq_true rfl
        intro w_203 h_203 f_203
        simp only [List.set_cons_zero, List.set_cons_succ] at h_203
        have e1 : scn2 tx s = (s, if adv bF1 tx (s + 1) = s + 1 then 2 else 1, adv bF1 tx (s + 1)) := (if_neg (by omega)).trans ((if_neg (fun q => h_57 ⟨h_172.1, q⟩)).trans (if_pos h_172.2))
        have k := K
        rw [e1] at k
        refine lpm_scF (s := s) (e := adv bF1 tx (s + 1)) hT hby hs.1 (fun w2 q1 q2 => k w2 (rAt tx s - 48) ?_ (fun _ => ?_) q2) (tx.length + 1) (s + 1) 2 w_203 (by omega) (by omega) (by omega) rfl (fun _ => rfl) (fun q => absurd rfl q) h_203 (fun j hj => (f_203 j hj).trans ((f_193 j hj).trans ((f_188 j hj).trans ((f_29 j hj).trans (hf j hj)))))
        · refine Eq.trans q1 ?_
          congr 1
          show mO qt tx.length (adv bF1 tx (s + 1)) s (if adv bF1 tx (s + 1) = s + 1 then 2 else 1) (rAt tx s - 48) mn fd sv = mO qt tx.length (adv bF1 tx (s + 1)) s (tkM (if adv bF1 tx (s + 1) = s + 1 then 2 else 1)) (rAt tx s - 48) mn fd sv
          congr 1
          unfold tkM
          split <;> rfl
        · rfl
    · refine V_lconst (Y := mX6_scans) (pc := 60) dX6_scans_60 ?_
      refine V_lstore_n (Y := mX6_scans) (pc := 61) dX6_scans_61 rfl (by decide) ?_
      have e1 : scn2 tx s = (s, wdOf tx s (adv bL tx (s + 1)), adv bL tx (s + 1)) := (if_neg (by omega)).trans (if_pos h_57.2)
      have ea : adv bL tx s = adv bL tx (s + 1) := adv_t h_57
      have h01 := wdOf_1 tx s (adv bL tx (s + 1))
      have k := K
      rw [e1] at k
      refine lpm_scL (s := s) (e := adv bL tx (s + 1)) hT hby hs.1 (fun w2 q1 q2 => k w2 vl ?_ ?_ q2) (tx.length + 1) 0 w_29 (by omega) (by omega) (by rw [← ea]; congr 1; omega) (fun j hj => absurd hj (Nat.not_lt_zero j)) (by rw [show s + ((0 : Nat) : Int) = s by omega]; exact h_29) (fun j hj => (f_29 j hj).trans (hf j hj))
      · show w2 99 = some (mO qt tx.length (adv bL tx (s + 1)) s (tkM (wdOf tx s (adv bL tx (s + 1)))) vl mn fd sv)
        rw [show tkM (wdOf tx s (adv bL tx (s + 1))) = wdOf tx s (adv bL tx (s + 1)) by unfold tkM; rw [if_neg (by omega), if_neg (by omega)]]
        exact q1
      · intro q
        have q : wdOf tx s (adv bL tx (s + 1)) = 2 := q
        omega
  · refine V_aload_n (Y := mX6_scans) (pc := 43) dX6_scans_43 rfl ?_
    refine V_iconst (Y := mX6_scans) (pc := 44) dX6_scans_44 ?_
    apply V_putiW (Y := mX6_scans) (pc := 45) dX6_scans_45 fl_X6_132
    · assumption
    · exact Nat.le_of_ble_eq_true rfl
    intro w_45 h_45 f_45
    simp only [List.set_cons_zero, List.set_cons_succ] at h_45
    refine V_vret (Y := mX6_scans) (pc := 48) dX6_scans_48 rfl (Nat.le_of_ble_eq_true rfl) (Nat.le_of_ble_eq_true rfl) ?_
    have e1 : scn2 tx s = (s, 0, s) := if_pos (by omega)
    have k := K w_45 vl
    rw [e1] at k
    exact k h_45 (fun q => absurd q (show ¬ (0 : Int) = 2 by decide)) (fun j hj => (f_45 j hj).trans ((f_29 j hj).trans (hf j hj)))
set_option maxRecDepth 100000 in
theorem lpm_sc0 {e : Int} {Q : vPost} (hT : TxM w tx) (hby : byOK tx) (K : ∀ w'' vl', w'' 99 = some (mO qt tx.length (scn2 tx e).2.2 (scn2 tx e).1 (tkM (scn2 tx e).2.1) vl' mn fd sv) → ((scn2 tx e).2.1 = 2 → vl' = rAt tx (scn2 tx e).1 - 48) → (∀ j, j ≠ 99 → w'' j = w j) → Q none nn w'') : ∀ (m : Nat) (p : Int) (w' : vWd), 0 ≤ p → p ≤ tx.length → ((tx.length : Int) - p).toNat < m → adv bSp tx p = e → w' 99 = some (mO qt tx.length p sp tk vl mn fd sv) → (∀ j, j ≠ 99 → w' j = w j) →
    V mX6_scans (rm 2) Q 0 [some (.ref 99), none, none] [] nn w' 0 0 := by
  intro m
  induction m with
  | zero => intro p w' h1 h2 h3; omega
  | succ m ih =>
    intro p w' hp hpl hm he ho hf
    have hT' := hT.keep (hf 105 (by omega))
    refine V_aload_n (Y := mX6_scans) (pc := 0) dX6_scans_0 rfl ?_
    refine V_bipush (Y := mX6_scans) (pc := 1) dX6_scans_1 ⟨by decide, by decide⟩ ?_
    refine V_bipush (Y := mX6_scans) (pc := 3) dX6_scans_3 ⟨by decide, by decide⟩ ?_
    apply V_vR (Y := mX6_scans) (pc := 5) dX6_scans_5 ok_X6_isAt ov_X6_isAt ln_X6_126 (cm_isAt (lo := 32) (hi := 32) ho hT' hby ⟨hp, hpl⟩ ⟨by omega, by omega⟩ ⟨by omega, by omega⟩)
    · assumption
    · rfl
    · rfl
    · rfl
    · rfl
    · rfl
    refine V_if_eqB (tgt := 24) (Y := mX6_scans) (pc := 8) dX6_scans_8 (by decide) (fun h_8 => ?_) (fun h_8 => ?_)
    · have e2 : adv bSp tx p = p := adv_f (fun q => h_8 ⟨q.1, by have q2 : rAt tx p = 32 := q.2; omega, by have q2 : rAt tx p = 32 := q.2; omega⟩)
      rw [he] at e2
      subst e2
      exact lpm_sc24 hT hby ⟨hp, hpl⟩ ho hf K
    · refine V_aload_n (Y := mX6_scans) (pc := 11) dX6_scans_11 rfl ?_
      refine V_dup (Y := mX6_scans) (pc := 12) dX6_scans_12 rfl ?_
      apply V_get (Y := mX6_scans) (pc := 13) dX6_scans_13 fl_X6_113
      · assumption
      · rfl
      refine V_iconst (Y := mX6_scans) (pc := 16) dX6_scans_16 ?_
      refine V_iadd (Y := mX6_scans) (pc := 17) dX6_scans_17 ?_
      apply V_putiW (Y := mX6_scans) (pc := 18) dX6_scans_18 fl_X6_113
      · assumption
      · exact Nat.le_of_ble_eq_true rfl
      intro w_18 h_18 f_18
      simp only [List.set_cons_zero, List.set_cons_succ] at h_18
      refine V_goto (tgt := 0) (Y := mX6_scans) (pc := 21) dX6_scans_21 (by decide) ?_
      have h32 : bSp (rAt tx p) := by show rAt tx p = 32; have := h_8.2; omega
      exact ih (p + 1) w_18 (by omega) (by omega) (by omega) (by rw [← adv_t ⟨h_8.1, h32⟩]; exact he) h_18 (fun j hj => (f_18 j hj).trans (hf j hj))
set_option maxRecDepth 100000 in
theorem cm_scans (ho : w 99 = some (mO qt tx.length a0 sp tk vl mn fd sv)) (hT : TxM w tx) (hby : byOK tx) (ha : 0 ≤ a0 ∧ a0 ≤ tx.length) : Ctr mX6_scans (rm 2) [.ref 99] nn w (pV (fun w' => ScP w w' tx a0 qt mn fd sv) nn) := by
  refine Ctr_of (lv := [some (.ref 99), none, none]) (by decide +kernel) rfl rfl ?_
  exact lpm_sc0 hT hby (fun w'' vl' q1 q2 q3 => pV_of ⟨vl', q1, q2, q3⟩) (tx.length + 1) a0 w ha.1 ha.2 (by omega) rfl ho (fun _ _ => rfl)
end MOD
