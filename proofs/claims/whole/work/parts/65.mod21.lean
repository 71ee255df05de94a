/-! ===== DrawerWallModel: reads ===== -/
def ItM (it : Nat → Int) (lc : List Int) : Prop := ∀ i : Int, 0 ≤ i → i < (lc.length : Int) / 5 → it (5 * i).toNat = rAt lc (i * 5) - 5 ∧ ∀ k : Int, 0 ≤ k → k < dueN (rAt lc (i * 5)) → it (5 * i + 1 + k).toNat = rAt lc (i * 5 + 1 + k)
theorem tkN_pad (l : List Int) (wd : Int) : ∀ (m : Nat) (k : Int) (s : bM), dueN wd ≤ k → tkN l wd m k s = (if (scn l s.2.2).2.1 = 4 then 1 else 0, scn l s.2.2, List.replicate m 0)
  | 0, k, s, h => rfl
  | m + 1, k, s, h => by
    rw [tkN, if_pos h, tkN_pad l wd m (k + 1) s (by omega)]
    rfl
theorem tkM_4 {t : Int} : tkM t = 3 ↔ t = 4 := by unfold tkM; repeat' split <;> omega
theorem tkM_3 {t : Int} : tkM t = 4 ↔ t = 3 := by unfold tkM; repeat' split <;> omega
theorem tkM_2 {t : Int} : tkM t = 2 ↔ t = 2 := by unfold tkM; repeat' split <;> omega
theorem tkM_0 {t : Int} : tkM t = 0 ↔ t = 0 := by unfold tkM; repeat' split <;> omega
theorem tkM_5 {t : Int} : (5 ≤ tkM t ↔ 5 ≤ t) ∧ (5 ≤ t → tkM t = t) := by unfold tkM; repeat' split <;> omega
theorem tkM_rng {t : Int} (h : 0 ≤ t ∧ t ≤ 9) : 0 ≤ tkM t ∧ tkM t ≤ 9 := by unfold tkM; repeat' split <;> omega
theorem rAt_appR {l l2 : List Int} {i : Int} (h0 : 0 ≤ i) : rAt (l ++ l2) (l.length + i) = rAt l2 i := by
  rw [rAt_in (by omega), rAt_in h0, List.getD_eq_getElem?_getD, List.getD_eq_getElem?_getD, List.getElem?_append_right (by omega)]
  congr 2
  omega
/-- one item more -/
theorem ItM.app {it it' : Nat → Int} {lc nums : List Int} {wd : Int} (h : ItM it lc) (h5 : lc.length % 5 = 0) (hn : nums.length = 4) (ho : ∀ i : Int, 0 ≤ i → i < lc.length → it' i.toNat = it i.toNat) (hw : it' ((lc.length : Int)).toNat = wd - 5) (hk : ∀ k : Int, 0 ≤ k → k < dueN wd → it' ((lc.length : Int) + 1 + k).toNat = rAt nums k) (hlc : ∀ i : Int, 0 ≤ i → i < (lc.length : Int) / 5 → 5 ≤ rAt lc (i * 5) ∧ rAt lc (i * 5) ≤ 9) : ItM it' (lc ++ wd :: nums) := by
  have hlen : (lc ++ wd :: nums).length = lc.length + 5 := by rw [List.length_append, List.length_cons, hn]
  intro i hi0 hi
  rw [hlen] at hi
  by_cases hc : i < (lc.length : Int) / 5
  · obtain ⟨q1, q2⟩ := h i hi0 hc
    have hdu : dueN (rAt lc (i * 5)) ≤ 4 := by unfold dueN; split; omega; split <;> omega
    rw [rAt_appL (by omega)]
    refine ⟨by rw [ho _ (by omega) (by omega)]; exact q1, fun k k0 k1 => ?_⟩
    rw [ho _ (by omega) (by omega), rAt_appL (by omega)]
    exact q2 k k0 k1
  · have e0 : i * 5 = (lc.length : Int) + 0 := by omega
    have hw0 : rAt (lc ++ wd :: nums) (i * 5) = wd := by rw [e0, rAt_appR (Int.le_refl 0)]; rfl
    rw [hw0]
    refine ⟨by rw [show 5 * i = (lc.length : Int) by omega]; exact hw, fun k k0 k1 => ?_⟩
    rw [show 5 * i + 1 + k = (lc.length : Int) + 1 + k by omega, hk k k0 k1, show i * 5 + 1 + k = (lc.length : Int) + (k + 1) by omega, rAt_appR (by omega), rAt_in k0, rAt_in (by omega), show (k + 1).toNat = k.toNat + 1 by omega]
    rfl
section MOD
variable {nn : Nat} {w : vWd} {tx : List Int} {qt a0 sp tk vl mn fd sv : Int}
/-- the state at a mark -/
def RS (w w' : vWd) (tx : List Int) (p qt mn fd sv : Int) (it : Nat → Int) : Prop := (∃ vl : Int, w' 99 = some (mO qt tx.length (scn tx p).2.2 (scn tx p).1 (tkM (scn tx p).2.1) vl mn fd sv) ∧ ((scn tx p).2.1 = 2 → vl = rAt tx (scn tx p).1 - 48)) ∧ w' 106 = some (arI 250 it) ∧ ∀ j, j ≠ 99 → j ≠ 106 → w' j = w j
/-- a fault told -/
def RF0 (w w' : vWd) (tx : List Int) (pl qt fd sv : Int) : Prop := (∃ a0 tk vl mn : Int, w' 99 = some (mO qt tx.length a0 pl tk vl mn fd sv)) ∧ (∃ it, w' 106 = some (arI 250 it)) ∧ ∀ j, j ≠ 99 → j ≠ 106 → w' j = w j
set_option maxRecDepth 100000 in
theorem lpm_rdE {verb du k : Int} {s : bM} {it : Nat → Int} {w' : vWd} {Q : vPost} (hT : TxM w tx) (hby : byOK tx) (hs : 0 ≤ s.2.2 ∧ s.2.2 ≤ tx.length) (hR : RS w w' tx s.2.2 qt mn fd sv it) (K0 : ¬ (scn tx s.2.2).2.1 = 4 → RF0 w w' tx (scn tx s.2.2).1 qt fd sv → Q (some (vI 0)) nn w') (K1 : (scn tx s.2.2).2.1 = 4 → ∀ w'', RS w w'' tx (scn tx s.2.2).2.2 qt (mn + 1) fd sv it → V mX6_reads (rm 3) Q 14 [some (.ref 99), none, none, none, none] [] nn w'' 0 0) :
    V mX6_reads (rm 3) Q 194 [some (.ref 99), some (vI verb), some (vI du), some (vI k), none] [] nn w' 0 0 := by
  obtain ⟨⟨vl, ho, hvl⟩, h6, hf⟩ := hR
  have hq := scn_rng hs.1 hs.2
  have htr := tkM_rng hq.2.1
  have hT' := hT.keep (hf 105 (by omega) (by omega))
  have h4 := tkM_4 (t := (scn tx s.2.2).2.1)
  refine V_aload_n (Y := mX6_reads) (pc := 194) dX6_reads_194 rfl ?_
  apply V_get (Y := mX6_reads) (pc := 195) dX6_reads_195 fl_X6_132
  · assumption
  · rfl
  refine V_iconst (Y := mX6_reads) (pc := 198) dX6_reads_198 ?_
  refine V_icmp_eq (tgt := 204) (Y := mX6_reads) (pc := 199) dX6_reads_199 (by decide) ⟨by omega, by omega⟩ ⟨by omega, by omega⟩ (fun h_199 => ?_) (fun h_199 => ?_)
  · refine V_aload_n (Y := mX6_reads) (pc := 204) dX6_reads_204 rfl ?_
    refine V_dup (Y := mX6_reads) (pc := 205) dX6_reads_205 rfl ?_
    apply V_get (Y := mX6_reads) (pc := 206) dX6_reads_206 fl_X6_146
    · assumption
    · rfl
    refine V_iconst (Y := mX6_reads) (pc := 209) dX6_reads_209 ?_
    refine V_iadd (Y := mX6_reads) (pc := 210) dX6_reads_210 ?_
    apply V_putiW (Y := mX6_reads) (pc := 211) dX6_reads_211 fl_X6_146
    · assumption
    · exact Nat.le_of_ble_eq_true rfl
    intro w_211 h_211 f_211
    simp only [List.set_cons_zero, List.set_cons_succ] at h_211
    refine V_aload_n (Y := mX6_reads) (pc := 214) dX6_reads_214 rfl ?_
    apply V_vV (Y := mX6_reads) (pc := 215) dX6_reads_215 ok_X6_scans ov_X6_scans ln_X6_149 (cm_scans h_211 (hT'.keep (f_211 105 (by omega))) hby ⟨by omega, hq.2.2.1.2⟩)
    · assumption
    · rfl
    · rfl
    · rfl
    · rfl
    · rfl
    rintro w_215 ⟨vl2, g1, g2, g3⟩
    refine V_goto (tgt := 14) (Y := mX6_reads) (pc := 218) dX6_reads_218 (by decide) ?_
    refine V_drop 1 (V_drop 2 (V_drop 3 (K1 (h4.mp h_199) w_215 ⟨⟨vl2, g1, g2⟩, (g3 _ (by omega)).trans ((f_211 _ (by omega)).trans h6), fun j a b => (g3 j a).trans ((f_211 j a).trans (hf j a b))⟩)))
  · refine V_iconst (Y := mX6_reads) (pc := 202) dX6_reads_202 ?_
    refine V_zret (ty := .boolean) (Y := mX6_reads) (pc := 203) dX6_reads_203 rfl rfl (Nat.le_of_ble_eq_true rfl) (Nat.le_of_ble_eq_true rfl) ?_
    exact K0 (fun q => h_199 (h4.mpr q)) ⟨⟨_, _, _, _, ho⟩, ⟨it, h6⟩, hf⟩
set_option maxRecDepth 100000 in
theorem lpm_rd142 {verb du k e : Int} {s : bM} {it : Nat → Int} {w' : vWd} {Q : vPost} (hT : TxM w tx) (hby : byOK tx) (hs : 0 ≤ s.2.2 ∧ s.2.2 ≤ tx.length) (hm : 0 ≤ mn ∧ mn ≤ 40) (hk : 0 ≤ k ∧ k ≤ 3) (he : e = 0 ∨ e = 1) (hR : RS w w' tx s.2.2 qt mn fd sv it) (K0 : ¬ (scn tx s.2.2).2.1 = 2 → RF0 w w' tx (scn tx s.2.2).1 qt fd sv → Q (some (vI 0)) nn w') (K1 : (scn tx s.2.2).2.1 = 2 → ∀ w'', RS w w'' tx (scn tx s.2.2).2.2 qt mn fd sv (va_up it (5 * mn + 1 + k).toNat (if e = 1 then -(rAt tx (scn tx s.2.2).1 - 48) else rAt tx (scn tx s.2.2).1 - 48)) → V mX6_reads (rm 3) Q 103 [some (.ref 99), some (vI verb), some (vI du), some (vI (k + 1)), none] [] nn w'' 0 0) :
    V mX6_reads (rm 3) Q 142 [some (.ref 99), some (vI verb), some (vI du), some (vI k), some (vI e)] [] nn w' 0 0 := by
  obtain ⟨⟨vl, ho, hvl⟩, h6, hf⟩ := hR
  have hq := scn_rng hs.1 hs.2
  have htr := tkM_rng hq.2.1
  have hT' := hT.keep (hf 105 (by omega) (by omega))
  have h2 := tkM_2 (t := (scn tx s.2.2).2.1)
  rcases he with rfl | rfl
  · skip
    refine V_aload_n (Y := mX6_reads) (pc := 142) dX6_reads_142 rfl ?_
    apply V_get (Y := mX6_reads) (pc := 143) dX6_reads_143 fl_X6_132
    · assumption
    · rfl
    refine V_iconst (Y := mX6_reads) (pc := 146) dX6_reads_146 ?_
    refine V_icmp_eq (tgt := 152) (Y := mX6_reads) (pc := 147) dX6_reads_147 (by decide) ⟨by omega, by omega⟩ ⟨by omega, by omega⟩ (fun h_147 => ?_) (fun h_147 => ?_)
    · refine V_aload_n (Y := mX6_reads) (pc := 152) dX6_reads_152 rfl ?_
      apply V_get (Y := mX6_reads) (pc := 153) dX6_reads_153 fl_X6_29
      · assumption
      · rfl
      refine V_iconst (Y := mX6_reads) (pc := 156) dX6_reads_156 ?_
      refine V_aload_n (Y := mX6_reads) (pc := 157) dX6_reads_157 rfl ?_
      apply V_get (Y := mX6_reads) (pc := 158) dX6_reads_158 fl_X6_146
      · assumption
      · rfl
      refine V_imul (Y := mX6_reads) (pc := 161) dX6_reads_161 ?_
      refine V_iconst (Y := mX6_reads) (pc := 162) dX6_reads_162 ?_
      refine V_iadd (Y := mX6_reads) (pc := 163) dX6_reads_163 ?_
      refine V_iload_n (Y := mX6_reads) (pc := 164) dX6_reads_164 rfl ?_
      refine V_iadd (Y := mX6_reads) (pc := 165) dX6_reads_165 ?_
      refine V_iload (Y := mX6_reads) (pc := 166) dX6_reads_166 rfl ?_
      refine V_if_eq (tgt := 179) (Y := mX6_reads) (pc := 168) dX6_reads_168 (by decide) ⟨by omega, by omega⟩ (fun h_168 => ?_) (fun h_168 => absurd h_168 (by omega))
      refine V_aload_n (Y := mX6_reads) (pc := 179) dX6_reads_179 rfl ?_
      apply V_get (Y := mX6_reads) (pc := 180) dX6_reads_180 fl_X6_143
      · assumption
      · rfl
      apply V_iastW (Y := mX6_reads) (pc := 183) dX6_reads_183
      · assumption
      · exact ⟨by omega, by omega⟩
      · omega
      intro w_183 h_183 f_183
      have o183 := (f_183 99 (by omega)).trans ho
      refine V_aload_n (Y := mX6_reads) (pc := 184) dX6_reads_184 rfl ?_
      apply V_vV (Y := mX6_reads) (pc := 185) dX6_reads_185 ok_X6_scans ov_X6_scans ln_X6_149 (cm_scans o183 (hT'.keep (f_183 105 (by omega))) hby ⟨by omega, hq.2.2.1.2⟩)
      · assumption
      · rfl
      · rfl
      · rfl
      · rfl
      · rfl
      rintro w_185 ⟨vl2, g1, g2, g3⟩
      refine V_iinc (Y := mX6_reads) (pc := 188) dX6_reads_188 rfl rfl ?_
      refine V_goto (tgt := 103) (Y := mX6_reads) (pc := 191) dX6_reads_191 (by decide) ?_
      refine V_drop 4 (K1 (h2.mp h_147) w_185 ⟨⟨vl2, g1, g2⟩, ?_, fun j a b => (g3 j a).trans ((f_183 j b).trans (hf j a b))⟩)
      rw [if_neg (by omega), ← hvl (h2.mp h_147)]
      exact (g3 _ (by omega)).trans h_183
    · refine V_iconst (Y := mX6_reads) (pc := 150) dX6_reads_150 ?_
      refine V_zret (ty := .boolean) (Y := mX6_reads) (pc := 151) dX6_reads_151 rfl rfl (Nat.le_of_ble_eq_true rfl) (Nat.le_of_ble_eq_true rfl) ?_
      exact K0 (fun q => h_147 (h2.mpr q)) ⟨⟨_, _, _, _, ho⟩, ⟨it, h6⟩, hf⟩
  · skip
    refine V_aload_n (Y := mX6_reads) (pc := 142) dX6_reads_142 rfl ?_
    apply V_get (Y := mX6_reads) (pc := 143) dX6_reads_143 fl_X6_132
    · assumption
    · rfl
    refine V_iconst (Y := mX6_reads) (pc := 146) dX6_reads_146 ?_
    refine V_icmp_eq (tgt := 152) (Y := mX6_reads) (pc := 147) dX6_reads_147 (by decide) ⟨by omega, by omega⟩ ⟨by omega, by omega⟩ (fun h_147 => ?_) (fun h_147 => ?_)
    · refine V_aload_n (Y := mX6_reads) (pc := 152) dX6_reads_152 rfl ?_
      apply V_get (Y := mX6_reads) (pc := 153) dX6_reads_153 fl_X6_29
      · assumption
      · rfl
      refine V_iconst (Y := mX6_reads) (pc := 156) dX6_reads_156 ?_
      refine V_aload_n (Y := mX6_reads) (pc := 157) dX6_reads_157 rfl ?_
      apply V_get (Y := mX6_reads) (pc := 158) dX6_reads_158 fl_X6_146
      · assumption
      · rfl
      refine V_imul (Y := mX6_reads) (pc := 161) dX6_reads_161 ?_
      refine V_iconst (Y := mX6_reads) (pc := 162) dX6_reads_162 ?_
      refine V_iadd (Y := mX6_reads) (pc := 163) dX6_reads_163 ?_
      refine V_iload_n (Y := mX6_reads) (pc := 164) dX6_reads_164 rfl ?_
      refine V_iadd (Y := mX6_reads) (pc := 165) dX6_reads_165 ?_
      refine V_iload (Y := mX6_reads) (pc := 166) dX6_reads_166 rfl ?_
      refine V_if_eq (tgt := 179) (Y := mX6_reads) (pc := 168) dX6_reads_168 (by decide) ⟨by omega, by omega⟩ (fun h_168 => absurd h_168 (by omega)) (fun h_168 => ?_)
      refine V_aload_n (Y := mX6_reads) (pc := 171) dX6_reads_171 rfl ?_
      apply V_get (Y := mX6_reads) (pc := 172) dX6_reads_172 fl_X6_143
      · assumption
      · rfl
      refine V_ineg (Y := mX6_reads) (pc := 175) dX6_reads_175 ?_
      refine V_goto (tgt := 183) (Y := mX6_reads) (pc := 176) dX6_reads_176 (by decide) ?_
      apply V_iastW (Y := mX6_reads) (pc := 183) dX6_reads_183
      · assumption
      · exact ⟨by omega, by omega⟩
      · omega
      intro w_183 h_183 f_183
      have o183 := (f_183 99 (by omega)).trans ho
      refine V_aload_n (Y := mX6_reads) (pc := 184) dX6_reads_184 rfl ?_
      apply V_vV (Y := mX6_reads) (pc := 185) dX6_reads_185 ok_X6_scans ov_X6_scans ln_X6_149 (cm_scans o183 (hT'.keep (f_183 105 (by omega))) hby ⟨by omega, hq.2.2.1.2⟩)
      · assumption
      · rfl
      · rfl
      · rfl
      · rfl
      · rfl
      rintro w_185 ⟨vl2, g1, g2, g3⟩
      refine V_iinc (Y := mX6_reads) (pc := 188) dX6_reads_188 rfl rfl ?_
      refine V_goto (tgt := 103) (Y := mX6_reads) (pc := 191) dX6_reads_191 (by decide) ?_
      refine V_drop 4 (K1 (h2.mp h_147) w_185 ⟨⟨vl2, g1, g2⟩, ?_, fun j a b => (g3 j a).trans ((f_183 j b).trans (hf j a b))⟩)
      rw [if_pos rfl, ← hvl (h2.mp h_147)]
      exact (g3 _ (by omega)).trans h_183
    · refine V_iconst (Y := mX6_reads) (pc := 150) dX6_reads_150 ?_
      refine V_zret (ty := .boolean) (Y := mX6_reads) (pc := 151) dX6_reads_151 rfl rfl (Nat.le_of_ble_eq_true rfl) (Nat.le_of_ble_eq_true rfl) ?_
      exact K0 (fun q => h_147 (h2.mpr q)) ⟨⟨_, _, _, _, ho⟩, ⟨it, h6⟩, hf⟩
set_option maxRecDepth 100000 in
theorem lpm_rdN {wd : Int} {it0 : Nat → Int} {r : Int × bM × List Int} {Q : vPost} (hT : TxM w tx) (hby : byOK tx) (hm : 0 ≤ mn ∧ mn ≤ 40) (hwd : 5 ≤ wd ∧ wd ≤ 9) (K0 : r.1 = 0 → ∀ w', RF0 w w' tx r.2.1.1 qt fd sv → Q (some (vI 0)) nn w') (K1 : r.1 = 1 → ∀ w' it, RS w w' tx r.2.1.2.2 qt (mn + 1) fd sv it → (∀ i : Nat, (i : Int) < 5 * mn + 1 → it i = it0 i) → (∀ j : Int, 0 ≤ j → j < dueN wd → it (5 * mn + 1 + j).toNat = rAt r.2.2 j) → V mX6_reads (rm 3) Q 14 [some (.ref 99), none, none, none, none] [] nn w' 0 0) : ∀ (m k : Nat) (s : bM) (acc : List Int) (it : Nat → Int) (w' : vWd), (k : Int) + m = dueN wd → acc.length = k → 0 ≤ s.2.2 → s.2.2 ≤ tx.length → RS w w' tx s.2.2 qt mn fd sv it → (∀ i : Nat, (i : Int) < 5 * mn + 1 → it i = it0 i) → (∀ j : Int, 0 ≤ j → j < k → it (5 * mn + 1 + j).toNat = rAt acc j) → (tkN tx wd (4 - k) (k : Int) s).1 = r.1 → (tkN tx wd (4 - k) (k : Int) s).2.1 = r.2.1 → acc ++ (tkN tx wd (4 - k) (k : Int) s).2.2 = r.2.2 →
    V mX6_reads (rm 3) Q 103 [some (.ref 99), some (vI (wd - 5)), some (vI (dueN wd)), some (vI (k : Int)), none] [] nn w' 0 0 := by
  have hdu : 1 ≤ dueN wd ∧ dueN wd ≤ 4 := by unfold dueN; split; omega; split <;> omega
  have hd6 : wd = 6 → dueN wd = 4 := fun q => by unfold dueN; rw [if_pos q]
  intro m
  induction m with
  | zero =>
    intro k s acc it w' hkm hacc hs0 hs1 hR hi0 hia r1 r2 r3
    rw [tkN_pad tx wd (4 - k) k s (by omega)] at r1 r2 r3
    have r1 : (if (scn tx s.2.2).2.1 = 4 then (1 : Int) else 0) = r.1 := r1
    have r2 : scn tx s.2.2 = r.2.1 := r2
    refine V_iload_n (Y := mX6_reads) (pc := 103) dX6_reads_103 rfl ?_
    refine V_iload_n (Y := mX6_reads) (pc := 104) dX6_reads_104 rfl ?_
    refine V_icmp_ge (tgt := 194) (Y := mX6_reads) (pc := 105) dX6_reads_105 (by decide) ⟨by omega, by omega⟩ ⟨by omega, by omega⟩ (fun h_105 => ?_) (fun h_105 => absurd h_105 (by omega))
    refine lpm_rdE hT hby ⟨hs0, hs1⟩ hR (fun q1 q2 => ?_) (fun q1 w'' q2 => ?_)
    · rw [if_neg q1] at r1
      rw [r2] at q2
      exact K0 r1.symm w' q2
    · rw [if_pos q1] at r1
      rw [r2] at q2
      refine K1 r1.symm w'' it q2 hi0 (fun j j0 j1 => ?_)
      rw [hia j j0 (by omega), ← r3, rAt_appL (by omega)]
  | succ m ih =>
    intro k s acc it w' hkm hacc hs0 hs1 hR hi0 hia r1 r2 r3
    have hk4 : 4 - k = (4 - (k + 1)) + 1 := by omega
    rw [hk4, tkN, if_neg (by omega)] at r1 r2 r3
    have hR0 := hR
    obtain ⟨⟨vl, ho, hvl⟩, h6, hf⟩ := hR
    have hq := scn_rng hs0 hs1
    have hq2 := scn_rng (l := tx) (p := (scn tx s.2.2).2.2) (by omega) hq.2.2.1.2
    have htr := tkM_rng hq.2.1
    have hT' := hT.keep (hf 105 (by omega) (by omega))
    have h3 := tkM_3 (t := (scn tx s.2.2).2.1)
    have hcast : ((k + 1 : Nat) : Int) = (k : Int) + 1 := by omega
    -- a number that stands
    have hstep : ∀ (s2 : bM) (v : Int) (w2 : vWd), 0 ≤ s2.2.2 → s2.2.2 ≤ tx.length → RS w w2 tx s2.2.2 qt mn fd sv (va_up it (5 * mn + 1 + (k : Int)).toNat v) → (tkN tx wd (4 - (k + 1)) ((k : Int) + 1) s2).1 = r.1 → (tkN tx wd (4 - (k + 1)) ((k : Int) + 1) s2).2.1 = r.2.1 → acc ++ v :: (tkN tx wd (4 - (k + 1)) ((k : Int) + 1) s2).2.2 = r.2.2 → V mX6_reads (rm 3) Q 103 [some (.ref 99), some (vI (wd - 5)), some (vI (dueN wd)), some (vI ((k : Int) + 1)), none] [] nn w2 0 0 := fun s2 v w2 a b c d e f => by
      have q := ih (k + 1) s2 (acc ++ [v]) _ w2 (by omega) (by rw [app_len]; omega) a b c (fun i hi => by rw [va_up_ne _ _ (by omega)]; exact hi0 i hi) (fun j j0 j1 => by
        rw [rAt_app j0 (by omega)]
        by_cases hj : j = (k : Int)
        · rw [if_pos (by omega), hj, va_up_self]
        · rw [if_neg (by omega), va_up_ne _ _ (by omega)]; exact hia j j0 (by omega)) (by rw [hcast]; exact d) (by rw [hcast]; exact e) (by rw [hcast, List.append_assoc]; exact f)
      rw [hcast] at q
      exact q
    refine V_iload_n (Y := mX6_reads) (pc := 103) dX6_reads_103 rfl ?_
    refine V_iload_n (Y := mX6_reads) (pc := 104) dX6_reads_104 rfl ?_
    refine V_icmp_ge (tgt := 194) (Y := mX6_reads) (pc := 105) dX6_reads_105 (by decide) ⟨by omega, by omega⟩ ⟨by omega, by omega⟩ (fun h_105 => absurd h_105 (by omega)) (fun h_105 => ?_)
    refine V_iload_n (Y := mX6_reads) (pc := 108) dX6_reads_108 rfl ?_
    refine V_iconst (Y := mX6_reads) (pc := 109) dX6_reads_109 ?_
    refine V_icmp_ne (tgt := 130) (Y := mX6_reads) (pc := 110) dX6_reads_110 (by decide) ⟨by omega, by omega⟩ ⟨by omega, by omega⟩ (fun h_110 => ?_) (fun h_110 => ?_)
    · refine V_iconst (Y := mX6_reads) (pc := 130) dX6_reads_130 ?_
      refine V_istore (Y := mX6_reads) (pc := 131) dX6_reads_131 rfl ?_
      refine V_iload (Y := mX6_reads) (pc := 133) dX6_reads_133 rfl ?_
      refine V_if_eq (tgt := 142) (Y := mX6_reads) (pc := 135) dX6_reads_135 (by decide) ⟨by omega, by omega⟩ (fun h_135 => ?_) (fun h_135 => ?_)
      · first
          | (exfalso; omega)
          | (have hcond : wd = 6 ∧ (k : Int) = dueN wd - 1 ∧ (scn tx s.2.2).2.1 = 3 := ⟨by omega, by have := hd6 (by omega); omega, h3.mp h_123⟩
             rw [if_pos hcond] at r1 r2 r3
             refine lpm_rd142 (s := scn tx s.2.2) (e := 1) (k := (k : Int)) hT hby ⟨by omega, hq.2.2.1.2⟩ hm ⟨by omega, by omega⟩ (Or.inr rfl) ⟨⟨vl2, g1, g2⟩, (g3 _ (by omega)).trans h6, fun j a b => (g3 j a).trans (hf j a b)⟩ (fun q1 q2 => ?_) (fun q1 w2 q2 => ?_)
             · rw [if_neg q1] at r1 r2
               rw [show (scn tx (scn tx s.2.2).2.2).1 = r.2.1.1 from congrArg Prod.fst r2] at q2
               exact K0 r1.symm _ q2
             · rw [if_pos q1] at r1 r2 r3
               exact hstep (scn tx (scn tx s.2.2).2.2) _ w2 (by omega) hq2.2.2.1.2 q2 r1 r2 r3)
          | (have hcond : ¬ (wd = 6 ∧ (k : Int) = dueN wd - 1 ∧ (scn tx s.2.2).2.1 = 3) := fun q => by have q1 := hd6 q.1; have q2 := h3.mpr q.2.2; omega
             rw [if_neg hcond] at r1 r2 r3
             refine lpm_rd142 (s := s) (e := 0) (k := (k : Int)) hT hby ⟨hs0, hs1⟩ hm ⟨by omega, by omega⟩ (Or.inl rfl) hR0 (fun q1 q2 => ?_) (fun q1 w2 q2 => ?_)
             · rw [if_neg q1] at r1 r2
               rw [show (scn tx s.2.2).1 = r.2.1.1 from congrArg Prod.fst r2] at q2
               exact K0 r1.symm _ q2
             · rw [if_pos q1] at r1 r2 r3
               exact hstep (scn tx s.2.2) _ w2 (by omega) hq.2.2.1.2 q2 r1 r2 r3)
      · refine V_aload_n (Y := mX6_reads) (pc := 138) dX6_reads_138 rfl ?_
        apply V_vV (Y := mX6_reads) (pc := 139) dX6_reads_139 ok_X6_scans ov_X6_scans ln_X6_149 (cm_scans ho hT' hby ⟨by omega, hq.2.2.1.2⟩)
        · assumption
        · rfl
        · rfl
        · rfl
        · rfl
        · rfl
        rintro w_139 ⟨vl2, g1, g2, g3⟩
        first
          | (exfalso; omega)
          | (have hcond : wd = 6 ∧ (k : Int) = dueN wd - 1 ∧ (scn tx s.2.2).2.1 = 3 := ⟨by omega, by have := hd6 (by omega); omega, h3.mp h_123⟩
             rw [if_pos hcond] at r1 r2 r3
             refine lpm_rd142 (s := scn tx s.2.2) (e := 1) (k := (k : Int)) hT hby ⟨by omega, hq.2.2.1.2⟩ hm ⟨by omega, by omega⟩ (Or.inr rfl) ⟨⟨vl2, g1, g2⟩, (g3 _ (by omega)).trans h6, fun j a b => (g3 j a).trans (hf j a b)⟩ (fun q1 q2 => ?_) (fun q1 w2 q2 => ?_)
             · rw [if_neg q1] at r1 r2
               rw [show (scn tx (scn tx s.2.2).2.2).1 = r.2.1.1 from congrArg Prod.fst r2] at q2
               exact K0 r1.symm _ q2
             · rw [if_pos q1] at r1 r2 r3
               exact hstep (scn tx (scn tx s.2.2).2.2) _ w2 (by omega) hq2.2.2.1.2 q2 r1 r2 r3)
          | (have hcond : ¬ (wd = 6 ∧ (k : Int) = dueN wd - 1 ∧ (scn tx s.2.2).2.1 = 3) := fun q => by have q1 := hd6 q.1; have q2 := h3.mpr q.2.2; omega
             rw [if_neg hcond] at r1 r2 r3
             refine lpm_rd142 (s := s) (e := 0) (k := (k : Int)) hT hby ⟨hs0, hs1⟩ hm ⟨by omega, by omega⟩ (Or.inl rfl) hR0 (fun q1 q2 => ?_) (fun q1 w2 q2 => ?_)
             · rw [if_neg q1] at r1 r2
               rw [show (scn tx s.2.2).1 = r.2.1.1 from congrArg Prod.fst r2] at q2
               exact K0 r1.symm _ q2
             · rw [if_pos q1] at r1 r2 r3
               exact hstep (scn tx s.2.2) _ w2 (by omega) hq.2.2.1.2 q2 r1 r2 r3)
    · refine V_iload_n (Y := mX6_reads) (pc := 113) dX6_reads_113 rfl ?_
      refine V_iconst (Y := mX6_reads) (pc := 114) dX6_reads_114 ?_
      refine V_icmp_ne (tgt := 130) (Y := mX6_reads) (pc := 115) dX6_reads_115 (by decide) ⟨by omega, by omega⟩ ⟨by omega, by omega⟩ (fun h_115 => ?_) (fun h_115 => ?_)
      · refine V_iconst (Y := mX6_reads) (pc := 130) dX6_reads_130 ?_
        refine V_istore (Y := mX6_reads) (pc := 131) dX6_reads_131 rfl ?_
        refine V_iload (Y := mX6_reads) (pc := 133) dX6_reads_133 rfl ?_
        refine V_if_eq (tgt := 142) (Y := mX6_reads) (pc := 135) dX6_reads_135 (by decide) ⟨by omega, by omega⟩ (fun h_135 => ?_) (fun h_135 => ?_)
        · first
            | (exfalso; omega)
            | (have hcond : wd = 6 ∧ (k : Int) = dueN wd - 1 ∧ (scn tx s.2.2).2.1 = 3 := ⟨by omega, by have := hd6 (by omega); omega, h3.mp h_123⟩
               rw [if_pos hcond] at r1 r2 r3
               refine lpm_rd142 (s := scn tx s.2.2) (e := 1) (k := (k : Int)) hT hby ⟨by omega, hq.2.2.1.2⟩ hm ⟨by omega, by omega⟩ (Or.inr rfl) ⟨⟨vl2, g1, g2⟩, (g3 _ (by omega)).trans h6, fun j a b => (g3 j a).trans (hf j a b)⟩ (fun q1 q2 => ?_) (fun q1 w2 q2 => ?_)
               · rw [if_neg q1] at r1 r2
                 rw [show (scn tx (scn tx s.2.2).2.2).1 = r.2.1.1 from congrArg Prod.fst r2] at q2
                 exact K0 r1.symm _ q2
               · rw [if_pos q1] at r1 r2 r3
                 exact hstep (scn tx (scn tx s.2.2).2.2) _ w2 (by omega) hq2.2.2.1.2 q2 r1 r2 r3)
            | (have hcond : ¬ (wd = 6 ∧ (k : Int) = dueN wd - 1 ∧ (scn tx s.2.2).2.1 = 3) := fun q => by have q1 := hd6 q.1; have q2 := h3.mpr q.2.2; omega
               rw [if_neg hcond] at r1 r2 r3
               refine lpm_rd142 (s := s) (e := 0) (k := (k : Int)) hT hby ⟨hs0, hs1⟩ hm ⟨by omega, by omega⟩ (Or.inl rfl) hR0 (fun q1 q2 => ?_) (fun q1 w2 q2 => ?_)
               · rw [if_neg q1] at r1 r2
                 rw [show (scn tx s.2.2).1 = r.2.1.1 from congrArg Prod.fst r2] at q2
                 exact K0 r1.symm _ q2
               · rw [if_pos q1] at r1 r2 r3
                 exact hstep (scn tx s.2.2) _ w2 (by omega) hq.2.2.1.2 q2 r1 r2 r3)
        · refine V_aload_n (Y := mX6_reads) (pc := 138) dX6_reads_138 rfl ?_
          apply V_vV (Y := mX6_reads) (pc := 139) dX6_reads_139 ok_X6_scans ov_X6_scans ln_X6_149 (cm_scans ho hT' hby ⟨by omega, hq.2.2.1.2⟩)
          · assumption
          · rfl
          · rfl
          · rfl
          · rfl
          · rfl
          rintro w_139 ⟨vl2, g1, g2, g3⟩
          first
            | (exfalso; omega)
            | (have hcond : wd = 6 ∧ (k : Int) = dueN wd - 1 ∧ (scn tx s.2.2).2.1 = 3 := ⟨by omega, by have := hd6 (by omega); omega, h3.mp h_123⟩
               rw [if_pos hcond] at r1 r2 r3
               refine lpm_rd142 (s := scn tx s.2.2) (e := 1) (k := (k : Int)) hT hby ⟨by omega, hq.2.2.1.2⟩ hm ⟨by omega, by omega⟩ (Or.inr rfl) ⟨⟨vl2, g1, g2⟩, (g3 _ (by omega)).trans h6, fun j a b => (g3 j a).trans (hf j a b)⟩ (fun q1 q2 => ?_) (fun q1 w2 q2 => ?_)
               · rw [if_neg q1] at r1 r2
                 rw [show (scn tx (scn tx s.2.2).2.2).1 = r.2.1.1 from congrArg Prod.fst r2] at q2
                 exact K0 r1.symm _ q2
               · rw [if_pos q1] at r1 r2 r3
                 exact hstep (scn tx (scn tx s.2.2).2.2) _ w2 (by omega) hq2.2.2.1.2 q2 r1 r2 r3)
            | (have hcond : ¬ (wd = 6 ∧ (k : Int) = dueN wd - 1 ∧ (scn tx s.2.2).2.1 = 3) := fun q => by have q1 := hd6 q.1; have q2 := h3.mpr q.2.2; omega
               rw [if_neg hcond] at r1 r2 r3
               refine lpm_rd142 (s := s) (e := 0) (k := (k : Int)) hT hby ⟨hs0, hs1⟩ hm ⟨by omega, by omega⟩ (Or.inl rfl) hR0 (fun q1 q2 => ?_) (fun q1 w2 q2 => ?_)
               · rw [if_neg q1] at r1 r2
                 rw [show (scn tx s.2.2).1 = r.2.1.1 from congrArg Prod.fst r2] at q2
                 exact K0 r1.symm _ q2
               · rw [if_pos q1] at r1 r2 r3
                 exact hstep (scn tx s.2.2) _ w2 (by omega) hq.2.2.1.2 q2 r1 r2 r3)
      · refine V_aload_n (Y := mX6_reads) (pc := 118) dX6_reads_118 rfl ?_
        apply V_get (Y := mX6_reads) (pc := 119) dX6_reads_119 fl_X6_132
        · assumption
        · rfl
        refine V_iconst (Y := mX6_reads) (pc := 122) dX6_reads_122 ?_
        refine V_icmp_ne (tgt := 130) (Y := mX6_reads) (pc := 123) dX6_reads_123 (by decide) ⟨by omega, by omega⟩ ⟨by omega, by omega⟩ (fun h_123 => ?_) (fun h_123 => ?_)
        · refine V_iconst (Y := mX6_reads) (pc := 130) dX6_reads_130 ?_
          refine V_istore (Y := mX6_reads) (pc := 131) dX6_reads_131 rfl ?_
          refine V_iload (Y := mX6_reads) (pc := 133) dX6_reads_133 rfl ?_
          refine V_if_eq (tgt := 142) (Y := mX6_reads) (pc := 135) dX6_reads_135 (by decide) ⟨by omega, by omega⟩ (fun h_135 => ?_) (fun h_135 => ?_)
          · first
              | (exfalso; omega)
              | (have hcond : wd = 6 ∧ (k : Int) = dueN wd - 1 ∧ (scn tx s.2.2).2.1 = 3 := ⟨by omega, by have := hd6 (by omega); omega, h3.mp h_123⟩
                 rw [if_pos hcond] at r1 r2 r3
                 refine lpm_rd142 (s := scn tx s.2.2) (e := 1) (k := (k : Int)) hT hby ⟨by omega, hq.2.2.1.2⟩ hm ⟨by omega, by omega⟩ (Or.inr rfl) ⟨⟨vl2, g1, g2⟩, (g3 _ (by omega)).trans h6, fun j a b => (g3 j a).trans (hf j a b)⟩ (fun q1 q2 => ?_) (fun q1 w2 q2 => ?_)
                 · rw [if_neg q1] at r1 r2
                   rw [show (scn tx (scn tx s.2.2).2.2).1 = r.2.1.1 from congrArg Prod.fst r2] at q2
                   exact K0 r1.symm _ q2
                 · rw [if_pos q1] at r1 r2 r3
                   exact hstep (scn tx (scn tx s.2.2).2.2) _ w2 (by omega) hq2.2.2.1.2 q2 r1 r2 r3)
              | (have hcond : ¬ (wd = 6 ∧ (k : Int) = dueN wd - 1 ∧ (scn tx s.2.2).2.1 = 3) := fun q => by have q1 := hd6 q.1; have q2 := h3.mpr q.2.2; omega
                 rw [if_neg hcond] at r1 r2 r3
                 refine lpm_rd142 (s := s) (e := 0) (k := (k : Int)) hT hby ⟨hs0, hs1⟩ hm ⟨by omega, by omega⟩ (Or.inl rfl) hR0 (fun q1 q2 => ?_) (fun q1 w2 q2 => ?_)
                 · rw [if_neg q1] at r1 r2
                   rw [show (scn tx s.2.2).1 = r.2.1.1 from congrArg Prod.fst r2] at q2
                   exact K0 r1.symm _ q2
                 · rw [if_pos q1] at r1 r2 r3
                   exact hstep (scn tx s.2.2) _ w2 (by omega) hq.2.2.1.2 q2 r1 r2 r3)
          · refine V_aload_n (Y := mX6_reads) (pc := 138) dX6_reads_138 rfl ?_
            apply V_vV (Y := mX6_reads) (pc := 139) dX6_reads_139 ok_X6_scans ov_X6_scans ln_X6_149 (cm_scans ho hT' hby ⟨by omega, hq.2.2.1.2⟩)
            · assumption
            · rfl
            · rfl
            · rfl
            · rfl
            · rfl
            rintro w_139 ⟨vl2, g1, g2, g3⟩
            first
              | (exfalso; omega)
              | (have hcond : wd = 6 ∧ (k : Int) = dueN wd - 1 ∧ (scn tx s.2.2).2.1 = 3 := ⟨by omega, by have := hd6 (by omega); omega, h3.mp h_123⟩
                 rw [if_pos hcond] at r1 r2 r3
                 refine lpm_rd142 (s := scn tx s.2.2) (e := 1) (k := (k : Int)) hT hby ⟨by omega, hq.2.2.1.2⟩ hm ⟨by omega, by omega⟩ (Or.inr rfl) ⟨⟨vl2, g1, g2⟩, (g3 _ (by omega)).trans h6, fun j a b => (g3 j a).trans (hf j a b)⟩ (fun q1 q2 => ?_) (fun q1 w2 q2 => ?_)
                 · rw [if_neg q1] at r1 r2
                   rw [show (scn tx (scn tx s.2.2).2.2).1 = r.2.1.1 from congrArg Prod.fst r2] at q2
                   exact K0 r1.symm _ q2
                 · rw [if_pos q1] at r1 r2 r3
                   exact hstep (scn tx (scn tx s.2.2).2.2) _ w2 (by omega) hq2.2.2.1.2 q2 r1 r2 r3)
              | (have hcond : ¬ (wd = 6 ∧ (k : Int) = dueN wd - 1 ∧ (scn tx s.2.2).2.1 = 3) := fun q => by have q1 := hd6 q.1; have q2 := h3.mpr q.2.2; omega
                 rw [if_neg hcond] at r1 r2 r3
                 refine lpm_rd142 (s := s) (e := 0) (k := (k : Int)) hT hby ⟨hs0, hs1⟩ hm ⟨by omega, by omega⟩ (Or.inl rfl) hR0 (fun q1 q2 => ?_) (fun q1 w2 q2 => ?_)
                 · rw [if_neg q1] at r1 r2
                   rw [show (scn tx s.2.2).1 = r.2.1.1 from congrArg Prod.fst r2] at q2
                   exact K0 r1.symm _ q2
                 · rw [if_pos q1] at r1 r2 r3
                   exact hstep (scn tx s.2.2) _ w2 (by omega) hq.2.2.1.2 q2 r1 r2 r3)
        · refine V_iconst (Y := mX6_reads) (pc := 126) dX6_reads_126 ?_
          refine V_goto (tgt := 131) (Y := mX6_reads) (pc := 127) dX6_reads_127 (by decide) ?_
          refine V_istore (Y := mX6_reads) (pc := 131) dX6_reads_131 rfl ?_
          refine V_iload (Y := mX6_reads) (pc := 133) dX6_reads_133 rfl ?_
          refine V_if_eq (tgt := 142) (Y := mX6_reads) (pc := 135) dX6_reads_135 (by decide) ⟨by omega, by omega⟩ (fun h_135 => ?_) (fun h_135 => ?_)
          · first
              | (exfalso; omega)
              | (have hcond : wd = 6 ∧ (k : Int) = dueN wd - 1 ∧ (scn tx s.2.2).2.1 = 3 := ⟨by omega, by have := hd6 (by omega); omega, h3.mp h_123⟩
                 rw [if_pos hcond] at r1 r2 r3
                 refine lpm_rd142 (s := scn tx s.2.2) (e := 1) (k := (k : Int)) hT hby ⟨by omega, hq.2.2.1.2⟩ hm ⟨by omega, by omega⟩ (Or.inr rfl) ⟨⟨vl2, g1, g2⟩, (g3 _ (by omega)).trans h6, fun j a b => (g3 j a).trans (hf j a b)⟩ (fun q1 q2 => ?_) (fun q1 w2 q2 => ?_)
                 · rw [if_neg q1] at r1 r2
                   rw [show (scn tx (scn tx s.2.2).2.2).1 = r.2.1.1 from congrArg Prod.fst r2] at q2
                   exact K0 r1.symm _ q2
                 · rw [if_pos q1] at r1 r2 r3
                   exact hstep (scn tx (scn tx s.2.2).2.2) _ w2 (by omega) hq2.2.2.1.2 q2 r1 r2 r3)
              | (have hcond : ¬ (wd = 6 ∧ (k : Int) = dueN wd - 1 ∧ (scn tx s.2.2).2.1 = 3) := fun q => by have q1 := hd6 q.1; have q2 := h3.mpr q.2.2; omega
                 rw [if_neg hcond] at r1 r2 r3
                 refine lpm_rd142 (s := s) (e := 0) (k := (k : Int)) hT hby ⟨hs0, hs1⟩ hm ⟨by omega, by omega⟩ (Or.inl rfl) hR0 (fun q1 q2 => ?_) (fun q1 w2 q2 => ?_)
                 · rw [if_neg q1] at r1 r2
                   rw [show (scn tx s.2.2).1 = r.2.1.1 from congrArg Prod.fst r2] at q2
                   exact K0 r1.symm _ q2
                 · rw [if_pos q1] at r1 r2 r3
                   exact hstep (scn tx s.2.2) _ w2 (by omega) hq.2.2.1.2 q2 r1 r2 r3)
          · refine V_aload_n (Y := mX6_reads) (pc := 138) dX6_reads_138 rfl ?_
            apply V_vV (Y := mX6_reads) (pc := 139) dX6_reads_139 ok_X6_scans ov_X6_scans ln_X6_149 (cm_scans ho hT' hby ⟨by omega, hq.2.2.1.2⟩)
            · assumption
            · rfl
            · rfl
            · rfl
            · rfl
            · rfl
            rintro w_139 ⟨vl2, g1, g2, g3⟩
            first
              | (exfalso; omega)
              | (have hcond : wd = 6 ∧ (k : Int) = dueN wd - 1 ∧ (scn tx s.2.2).2.1 = 3 := ⟨by omega, by have := hd6 (by omega); omega, h3.mp h_123⟩
                 rw [if_pos hcond] at r1 r2 r3
                 refine lpm_rd142 (s := scn tx s.2.2) (e := 1) (k := (k : Int)) hT hby ⟨by omega, hq.2.2.1.2⟩ hm ⟨by omega, by omega⟩ (Or.inr rfl) ⟨⟨vl2, g1, g2⟩, (g3 _ (by omega)).trans h6, fun j a b => (g3 j a).trans (hf j a b)⟩ (fun q1 q2 => ?_) (fun q1 w2 q2 => ?_)
                 · rw [if_neg q1] at r1 r2
                   rw [show (scn tx (scn tx s.2.2).2.2).1 = r.2.1.1 from congrArg Prod.fst r2] at q2
                   exact K0 r1.symm _ q2
                 · rw [if_pos q1] at r1 r2 r3
                   exact hstep (scn tx (scn tx s.2.2).2.2) _ w2 (by omega) hq2.2.2.1.2 q2 r1 r2 r3)
              | (have hcond : ¬ (wd = 6 ∧ (k : Int) = dueN wd - 1 ∧ (scn tx s.2.2).2.1 = 3) := fun q => by have q1 := hd6 q.1; have q2 := h3.mpr q.2.2; omega
                 rw [if_neg hcond] at r1 r2 r3
                 refine lpm_rd142 (s := s) (e := 0) (k := (k : Int)) hT hby ⟨hs0, hs1⟩ hm ⟨by omega, by omega⟩ (Or.inl rfl) hR0 (fun q1 q2 => ?_) (fun q1 w2 q2 => ?_)
                 · rw [if_neg q1] at r1 r2
                   rw [show (scn tx s.2.2).1 = r.2.1.1 from congrArg Prod.fst r2] at q2
                   exact K0 r1.symm _ q2
                 · rw [if_pos q1] at r1 r2 r3
                   exact hstep (scn tx s.2.2) _ w2 (by omega) hq.2.2.1.2 q2 r1 r2 r3)
/-- what reads leaves -/
def RdsP (w w' : vWd) (tx : List Int) (qt fd sv z : Int) (R : Int × bM × List Int) : Prop := (z = 0 ∧ R.1 ≠ -1 ∧ RF0 w w' tx R.1 qt fd sv) ∨ (z = 1 ∧ R.1 = -1 ∧ (∃ a0 sp tk vl : Int, w' 99 = some (mO qt tx.length a0 sp tk vl ((R.2.2.length : Int) / 5) fd sv)) ∧ (∃ it, w' 106 = some (arI 250 it) ∧ ItM it R.2.2) ∧ ∀ j, j ≠ 99 → j ≠ 106 → w' j = w j)
theorem dueN_a {t : Int} (h : t - 5 = 1) : (4 : Int) = dueN t := by unfold dueN; rw [if_pos (by omega)]
theorem dueN_b {t : Int} (h : t - 5 = 3) : (2 : Int) = dueN t := by unfold dueN; rw [if_neg (by omega), if_pos (by omega)]
theorem dueN_c {t : Int} (h : ¬ t - 5 = 1) (h2 : ¬ t - 5 = 3) : (1 : Int) = dueN t := by unfold dueN; rw [if_neg (by omega), if_neg (by omega)]
set_option maxRecDepth 100000 in
theorem lpm_rdI {R : Int × bM × List Int} {Q : vPost} {m : Nat} {s : bM} {lc : List Int} {it : Nat → Int} {wA w' w2 : vWd} {du : Int} (hT : TxM w tx) (hby : byOK tx) (hl200 : tx.length ≤ 200) (hsh : lcSh tx s lc) (hIt : ItM it lc) (hcond : ((lc.length : Int) / 5 = 0 ∧ (scn tx s.2.2).2.1 = 5) ∨ ((lc.length : Int) / 5 ≠ 0 ∧ 5 < (scn tx s.2.2).2.1)) (ewd : tkM (scn tx s.2.2).2.1 = (scn tx s.2.2).2.1) (edu : du = dueN (tkM (scn tx s.2.2).2.1)) (hA : wA 106 = some (arI 250 (va_up it (5 * ((lc.length : Int) / 5)).toNat (tkM (scn tx s.2.2).2.1 - 5)))) (h6 : w' 106 = some (arI 250 it)) (hR : RS w w2 tx (scn tx s.2.2).2.2 qt ((lc.length : Int) / 5) fd sv (va_up it (5 * ((lc.length : Int) / 5)).toNat (tkM (scn tx s.2.2).2.1 - 5))) (hr : (if (tkK tx (scn tx s.2.2).2.1 4 0 (scn tx s.2.2) (rAdd 1000 lc (scn tx s.2.2).2.1)).1 = 0 then ((tkK tx (scn tx s.2.2).2.1 4 0 (scn tx s.2.2) (rAdd 1000 lc (scn tx s.2.2).2.1)).2.1.1, (tkK tx (scn tx s.2.2).2.1 4 0 (scn tx s.2.2) (rAdd 1000 lc (scn tx s.2.2).2.1)).2) else ftK tx m (tkK tx (scn tx s.2.2).2.1 4 0 (scn tx s.2.2) (rAdd 1000 lc (scn tx s.2.2).2.1)).2.1 (tkK tx (scn tx s.2.2).2.1 4 0 (scn tx s.2.2) (rAdd 1000 lc (scn tx s.2.2).2.1)).2.2) = R) (K : ∀ w' z, RdsP w w' tx qt fd sv z R → Q (some (vI z)) nn w') (ih : ∀ (s2 : bM) (lc2 : List Int) (it2 : Nat → Int) (w3 : vWd), lcSh tx s2 lc2 → s.2.2 + 1 ≤ s2.2.2 → RS w w3 tx s2.2.2 qt ((lc2.length : Int) / 5) fd sv it2 → ItM it2 lc2 → ftK tx m s2 lc2 = R → V mX6_reads (rm 3) Q 14 [some (.ref 99), none, none, none, none] [] nn w3 0 0) :
    V mX6_reads (rm 3) Q 103 [some (.ref 99), some (vI (tkM (scn tx s.2.2).2.1 - 5)), some (vI du), some (vI 0), none] [] nn w2 0 0 := by
  have hsh0 := hsh
  obtain ⟨⟨hs0, hs1⟩, h5, h6m, hheads, hfirst⟩ := hsh
  have hq := scn_rng hs0 hs1
  have hi := itm_sh hl200 hsh0 hcond
  have h01 := tkN_01 tx (scn tx s.2.2).2.1 4 0 (scn tx s.2.2)
  have hlen := tkN_len tx (scn tx s.2.2).2.1 4 0 (scn tx s.2.2)
  have hrng := tkN_rng (l := tx) (scn tx s.2.2).2.1 4 0 (scn tx s.2.2) (by omega) hq.2.2.1.2
  rw [hi.1] at hr
  rw [ewd] at edu hR hA ⊢
  subst edu
  have h5m : 5 * ((lc.length : Int) / 5) = lc.length := by omega
  refine lpm_rdN (wd := (scn tx s.2.2).2.1) (it0 := va_up it (5 * ((lc.length : Int) / 5)).toNat ((scn tx s.2.2).2.1 - 5)) (r := tkN tx (scn tx s.2.2).2.1 4 0 (scn tx s.2.2)) hT hby ⟨by omega, by omega⟩ ⟨by omega, by omega⟩ (fun q1 w3 q2 => ?_) (fun q1 w3 it3 q2 q3 q4 => ?_) (dueN (scn tx s.2.2).2.1).toNat 0 (scn tx s.2.2) [] _ w2 ?_ rfl (by omega) hq.2.2.1.2 hR (fun _ _ => rfl) (fun j j0 j1 => by omega) rfl rfl rfl
  · rw [if_pos q1] at hr
    refine K w3 0 (Or.inl ⟨rfl, ?_, ?_⟩)
    · rw [← hr]; have := hrng.1.1; show (tkN tx (scn tx s.2.2).2.1 4 0 (scn tx s.2.2)).2.1.1 ≠ -1; omega
    · rw [← hr]; exact q2
  · rw [if_neg (by show ¬ (tkN tx (scn tx s.2.2).2.1 4 0 (scn tx s.2.2)).1 = 0; omega)] at hr
    have hsh2 := hi.2 q1
    refine ih _ _ it3 w3 hsh2.1 hsh2.2 ?_ ?_ hr
    · have e : ((lc ++ (scn tx s.2.2).2.1 :: (tkN tx (scn tx s.2.2).2.1 4 0 (scn tx s.2.2)).2.2).length : Int) / 5 = (lc.length : Int) / 5 + 1 := by
        rw [List.length_append, List.length_cons, hlen q1]; omega
      show RS w w3 tx _ qt (((lc ++ (scn tx s.2.2).2.1 :: (tkN tx (scn tx s.2.2).2.1 4 0 (scn tx s.2.2)).2.2).length : Int) / 5) fd sv it3
      rw [e]; exact q2
    · refine ItM.app hIt h5 (hlen q1) (fun i i0 i1 => ?_) ?_ (fun k k0 k1 => ?_) hheads
      · rw [q3 _ (by omega), va_up_ne _ _ (by omega)]
      · rw [q3 _ (by omega), show ((lc.length : Int)).toNat = (5 * ((lc.length : Int) / 5)).toNat by omega, va_up_self]
      · have := q4 k k0 k1
        rw [h5m] at this
        exact this
  · have hdu : 1 ≤ dueN (scn tx s.2.2).2.1 := by unfold dueN; split; omega; split <;> omega
    show ((0 : Nat) : Int) + _ = _
    omega
set_option maxRecDepth 100000 in
theorem lpm_rds {R : Int × bM × List Int} {Q : vPost} (hT : TxM w tx) (hby : byOK tx) (K : ∀ w' z, RdsP w w' tx qt fd sv z R → Q (some (vI z)) nn w') : ∀ (m : Nat) (s : bM) (lc : List Int) (it : Nat → Int) (w' : vWd), lcSh tx s lc → (tx.length : Int) + 1 ≤ s.2.2 + m → RS w w' tx s.2.2 qt ((lc.length : Int) / 5) fd sv it → ItM it lc → ftK tx m s lc = R →
    V mX6_reads (rm 3) Q 14 [some (.ref 99), none, none, none, none] [] nn w' 0 0 := by
  have hl200 : tx.length ≤ 200 := by obtain ⟨t, -, q, -⟩ := hT; exact q
  intro m
  induction m with
  | zero =>
    intro s lc it w' hsh hm
    have := hsh.1.2
    omega
  | succ m ih =>
    intro s lc it w' hsh hm hR hIt hr
    have hsh0 := hsh
    obtain ⟨⟨hs0, hs1⟩, h5, h6m, hheads, hfirst⟩ := hsh
    obtain ⟨⟨vl, ho, hvl⟩, h6, hf⟩ := hR
    have hq := scn_rng hs0 hs1
    have htr := tkM_rng hq.2.1
    have hT' := hT.keep (hf 105 (by omega) (by omega))
    have t0 := tkM_0 (t := (scn tx s.2.2).2.1)
    have t5 := tkM_5 (t := (scn tx s.2.2).2.1)
    rw [ftK] at hr
    have hfail : R = ((scn tx s.2.2).1, scn tx s.2.2, lc) → Q (some (vI 0)) nn w' := fun e => K w' 0 (Or.inl ⟨rfl, by rw [e]; show (scn tx s.2.2).1 ≠ -1; omega, by rw [e]; exact ⟨⟨_, _, _, _, ho⟩, ⟨it, h6⟩, hf⟩⟩)
    refine V_aload_n (Y := mX6_reads) (pc := 14) dX6_reads_14 rfl ?_
    apply V_get (Y := mX6_reads) (pc := 15) dX6_reads_15 fl_X6_132
    · assumption
    · rfl
    refine V_if_ne (tgt := 28) (Y := mX6_reads) (pc := 18) dX6_reads_18 (by decide) ⟨by omega, by omega⟩ (fun h_18 => ?_) (fun h_18 => ?_)
    · refine V_aload_n (Y := mX6_reads) (pc := 28) dX6_reads_28 rfl ?_
      apply V_get (Y := mX6_reads) (pc := 29) dX6_reads_29 fl_X6_132
      · assumption
      · rfl
      refine V_iconst (Y := mX6_reads) (pc := 32) dX6_reads_32 ?_
      refine V_isub (Y := mX6_reads) (pc := 33) dX6_reads_33 ?_
      refine V_istore_n (Y := mX6_reads) (pc := 34) dX6_reads_34 rfl ?_
      refine V_iload_n (Y := mX6_reads) (pc := 35) dX6_reads_35 rfl ?_
      refine V_if_lt (tgt := 63) (Y := mX6_reads) (pc := 36) dX6_reads_36 (by decide) ⟨by omega, by omega⟩ (fun h_36 => ?_) (fun h_36 => ?_)
      · refine V_iconst (Y := mX6_reads) (pc := 63) dX6_reads_63 ?_
        refine V_zret (ty := .boolean) (Y := mX6_reads) (pc := 64) dX6_reads_64 rfl rfl (Nat.le_of_ble_eq_true rfl) (Nat.le_of_ble_eq_true rfl) ?_
        refine hfail ?_
        rw [if_neg (by omega), if_neg (by omega)] at hr
        exact hr.symm
      · refine V_iload_n (Y := mX6_reads) (pc := 39) dX6_reads_39 rfl ?_
        refine V_if_ne (tgt := 47) (Y := mX6_reads) (pc := 40) dX6_reads_40 (by decide) ⟨by omega, by omega⟩ (fun h_40 => ?_) (fun h_40 => ?_)
        · refine V_iconst (Y := mX6_reads) (pc := 47) dX6_reads_47 ?_
          refine V_aload_n (Y := mX6_reads) (pc := 48) dX6_reads_48 rfl ?_
          apply V_get (Y := mX6_reads) (pc := 49) dX6_reads_49 fl_X6_146
          · assumption
          · rfl
          refine V_if_ne (tgt := 59) (Y := mX6_reads) (pc := 52) dX6_reads_52 (by decide) ⟨by omega, by omega⟩ (fun h_52 => ?_) (fun h_52 => ?_)
          · refine V_iconst (Y := mX6_reads) (pc := 59) dX6_reads_59 ?_
            refine V_icmp_eq (tgt := 65) (Y := mX6_reads) (pc := 60) dX6_reads_60 (by decide) ⟨by omega, by omega⟩ ⟨by omega, by omega⟩ (fun h_60 => ?_) (fun h_60 => ?_)
            · refine V_aload_n (Y := mX6_reads) (pc := 65) dX6_reads_65 rfl ?_
              apply V_get (Y := mX6_reads) (pc := 66) dX6_reads_66 fl_X6_29
              · assumption
              · rfl
              refine V_iconst (Y := mX6_reads) (pc := 69) dX6_reads_69 ?_
              refine V_aload_n (Y := mX6_reads) (pc := 70) dX6_reads_70 rfl ?_
              apply V_get (Y := mX6_reads) (pc := 71) dX6_reads_71 fl_X6_146
              · assumption
              · rfl
              refine V_imul (Y := mX6_reads) (pc := 74) dX6_reads_74 ?_
              refine V_iload_n (Y := mX6_reads) (pc := 75) dX6_reads_75 rfl ?_
              apply V_iastW (Y := mX6_reads) (pc := 76) dX6_reads_76
              · assumption
              · exact ⟨by omega, by omega⟩
              · omega
              intro w_76 h_76 f_76
              have o76 := (f_76 99 (by omega)).trans ho
              refine V_aload_n (Y := mX6_reads) (pc := 77) dX6_reads_77 rfl ?_
              apply V_vV (Y := mX6_reads) (pc := 78) dX6_reads_78 ok_X6_scans ov_X6_scans ln_X6_149 (cm_scans o76 (hT'.keep (f_76 105 (by omega))) hby ⟨by omega, hq.2.2.1.2⟩)
              · assumption
              · rfl
              · rfl
              · rfl
              · rfl
              · rfl
              rintro w_78 ⟨vl2, g1, g2, g3⟩
              refine V_iload_n (Y := mX6_reads) (pc := 81) dX6_reads_81 rfl ?_
              refine V_iconst (Y := mX6_reads) (pc := 82) dX6_reads_82 ?_
              refine V_icmp_ne (tgt := 90) (Y := mX6_reads) (pc := 83) dX6_reads_83 (by decide) ⟨by omega, by omega⟩ ⟨by omega, by omega⟩ (fun h_83 => ?_) (fun h_83 => ?_)
              · refine V_iload_n (Y := mX6_reads) (pc := 90) dX6_reads_90 rfl ?_
                refine V_iconst (Y := mX6_reads) (pc := 91) dX6_reads_91 ?_
                refine V_icmp_ne (tgt := 99) (Y := mX6_reads) (pc := 92) dX6_reads_92 (by decide) ⟨by omega, by omega⟩ ⟨by omega, by omega⟩ (fun h_92 => ?_) (fun h_92 => ?_)
                · refine V_iconst (Y := mX6_reads) (pc := 99) dX6_reads_99 ?_
                  refine V_istore_n (Y := mX6_reads) (pc := 100) dX6_reads_100 rfl ?_
                  refine V_iconst (Y := mX6_reads) (pc := 101) dX6_reads_101 ?_
                  refine V_istore_n (Y := mX6_reads) (pc := 102) dX6_reads_102 rfl ?_
                  first
                    | (exfalso; omega)
                    | (have hcond : ((lc.length : Int) / 5 = 0 ∧ (scn tx s.2.2).2.1 = 5) ∨ ((lc.length : Int) / 5 ≠ 0 ∧ 5 < (scn tx s.2.2).2.1) := by omega
                       have hE : ¬ ((scn tx s.2.2).2.1 = 0 ∧ 0 < (lc.length : Int) / 5) := by omega
                       rw [if_neg hE, if_pos hcond] at hr
                       have ewd : tkM (scn tx s.2.2).2.1 = (scn tx s.2.2).2.1 := t5.2 (by omega)
                       exact lpm_rdI hT hby hl200 hsh0 hIt hcond ewd (by first | exact dueN_a (by omega) | exact dueN_b (by omega) | exact dueN_c (by omega) (by omega)) h_76 h6 ⟨⟨vl2, g1, g2⟩, (g3 _ (by omega)).trans h_76, fun j a b => (g3 j a).trans ((f_76 j b).trans (hf j a b))⟩ hr K (fun s2 lc2 it2 w2 y1 y2 y3 y4 y5 => ih s2 lc2 it2 w2 y1 (by omega) y3 y4 y5))
                · refine V_iconst (Y := mX6_reads) (pc := 95) dX6_reads_95 ?_
                  refine V_goto (tgt := 100) (Y := mX6_reads) (pc := 96) dX6_reads_96 (by decide) ?_
                  refine V_istore_n (Y := mX6_reads) (pc := 100) dX6_reads_100 rfl ?_
                  refine V_iconst (Y := mX6_reads) (pc := 101) dX6_reads_101 ?_
                  refine V_istore_n (Y := mX6_reads) (pc := 102) dX6_reads_102 rfl ?_
                  first
                    | (exfalso; omega)
                    | (have hcond : ((lc.length : Int) / 5 = 0 ∧ (scn tx s.2.2).2.1 = 5) ∨ ((lc.length : Int) / 5 ≠ 0 ∧ 5 < (scn tx s.2.2).2.1) := by omega
                       have hE : ¬ ((scn tx s.2.2).2.1 = 0 ∧ 0 < (lc.length : Int) / 5) := by omega
                       rw [if_neg hE, if_pos hcond] at hr
                       have ewd : tkM (scn tx s.2.2).2.1 = (scn tx s.2.2).2.1 := t5.2 (by omega)
                       exact lpm_rdI hT hby hl200 hsh0 hIt hcond ewd (by first | exact dueN_a (by omega) | exact dueN_b (by omega) | exact dueN_c (by omega) (by omega)) h_76 h6 ⟨⟨vl2, g1, g2⟩, (g3 _ (by omega)).trans h_76, fun j a b => (g3 j a).trans ((f_76 j b).trans (hf j a b))⟩ hr K (fun s2 lc2 it2 w2 y1 y2 y3 y4 y5 => ih s2 lc2 it2 w2 y1 (by omega) y3 y4 y5))
              · refine V_iconst (Y := mX6_reads) (pc := 86) dX6_reads_86 ?_
                refine V_goto (tgt := 100) (Y := mX6_reads) (pc := 87) dX6_reads_87 (by decide) ?_
                refine V_istore_n (Y := mX6_reads) (pc := 100) dX6_reads_100 rfl ?_
                refine V_iconst (Y := mX6_reads) (pc := 101) dX6_reads_101 ?_
                refine V_istore_n (Y := mX6_reads) (pc := 102) dX6_reads_102 rfl ?_
                first
                  | (exfalso; omega)
                  | (have hcond : ((lc.length : Int) / 5 = 0 ∧ (scn tx s.2.2).2.1 = 5) ∨ ((lc.length : Int) / 5 ≠ 0 ∧ 5 < (scn tx s.2.2).2.1) := by omega
                     have hE : ¬ ((scn tx s.2.2).2.1 = 0 ∧ 0 < (lc.length : Int) / 5) := by omega
                     rw [if_neg hE, if_pos hcond] at hr
                     have ewd : tkM (scn tx s.2.2).2.1 = (scn tx s.2.2).2.1 := t5.2 (by omega)
                     exact lpm_rdI hT hby hl200 hsh0 hIt hcond ewd (by first | exact dueN_a (by omega) | exact dueN_b (by omega) | exact dueN_c (by omega) (by omega)) h_76 h6 ⟨⟨vl2, g1, g2⟩, (g3 _ (by omega)).trans h_76, fun j a b => (g3 j a).trans ((f_76 j b).trans (hf j a b))⟩ hr K (fun s2 lc2 it2 w2 y1 y2 y3 y4 y5 => ih s2 lc2 it2 w2 y1 (by omega) y3 y4 y5))
            · refine V_iconst (Y := mX6_reads) (pc := 63) dX6_reads_63 ?_
              refine V_zret (ty := .boolean) (Y := mX6_reads) (pc := 64) dX6_reads_64 rfl rfl (Nat.le_of_ble_eq_true rfl) (Nat.le_of_ble_eq_true rfl) ?_
              refine hfail ?_
              rw [if_neg (by omega), if_neg (by omega)] at hr
              exact hr.symm
          · refine V_iconst (Y := mX6_reads) (pc := 55) dX6_reads_55 ?_
            refine V_goto (tgt := 60) (Y := mX6_reads) (pc := 56) dX6_reads_56 (by decide) ?_
            refine V_icmp_eq (tgt := 65) (Y := mX6_reads) (pc := 60) dX6_reads_60 (by decide) ⟨by omega, by omega⟩ ⟨by omega, by omega⟩ (fun h_60 => ?_) (fun h_60 => ?_)
            · refine V_aload_n (Y := mX6_reads) (pc := 65) dX6_reads_65 rfl ?_
              apply V_get (Y := mX6_reads) (pc := 66) dX6_reads_66 fl_X6_29
              · assumption
              · rfl
              refine V_iconst (Y := mX6_reads) (pc := 69) dX6_reads_69 ?_
              refine V_aload_n (Y := mX6_reads) (pc := 70) dX6_reads_70 rfl ?_
              apply V_get (Y := mX6_reads) (pc := 71) dX6_reads_71 fl_X6_146
              · assumption
              · rfl
              refine V_imul (Y := mX6_reads) (pc := 74) dX6_reads_74 ?_
              refine V_iload_n (Y := mX6_reads) (pc := 75) dX6_reads_75 rfl ?_
              apply V_iastW (Y := mX6_reads) (pc := 76) dX6_reads_76
              · assumption
              · exact ⟨by omega, by omega⟩
              · omega
              intro w_76 h_76 f_76
              have o76 := (f_76 99 (by omega)).trans ho
              refine V_aload_n (Y := mX6_reads) (pc := 77) dX6_reads_77 rfl ?_
              apply V_vV (Y := mX6_reads) (pc := 78) dX6_reads_78 ok_X6_scans ov_X6_scans ln_X6_149 (cm_scans o76 (hT'.keep (f_76 105 (by omega))) hby ⟨by omega, hq.2.2.1.2⟩)
              · assumption
              · rfl
              · rfl
              · rfl
              · rfl
              · rfl
              rintro w_78 ⟨vl2, g1, g2, g3⟩
              refine V_iload_n (Y := mX6_reads) (pc := 81) dX6_reads_81 rfl ?_
              refine V_iconst (Y := mX6_reads) (pc := 82) dX6_reads_82 ?_
              refine V_icmp_ne (tgt := 90) (Y := mX6_reads) (pc := 83) dX6_reads_83 (by decide) ⟨by omega, by omega⟩ ⟨by omega, by omega⟩ (fun h_83 => ?_) (fun h_83 => ?_)
              · refine V_iload_n (Y := mX6_reads) (pc := 90) dX6_reads_90 rfl ?_
                refine V_iconst (Y := mX6_reads) (pc := 91) dX6_reads_91 ?_
                refine V_icmp_ne (tgt := 99) (Y := mX6_reads) (pc := 92) dX6_reads_92 (by decide) ⟨by omega, by omega⟩ ⟨by omega, by omega⟩ (fun h_92 => ?_) (fun h_92 => ?_)
                · refine V_iconst (Y := mX6_reads) (pc := 99) dX6_reads_99 ?_
                  refine V_istore_n (Y := mX6_reads) (pc := 100) dX6_reads_100 rfl ?_
                  refine V_iconst (Y := mX6_reads) (pc := 101) dX6_reads_101 ?_
                  refine V_istore_n (Y := mX6_reads) (pc := 102) dX6_reads_102 rfl ?_
                  first
                    | (exfalso; omega)
                    | (have hcond : ((lc.length : Int) / 5 = 0 ∧ (scn tx s.2.2).2.1 = 5) ∨ ((lc.length : Int) / 5 ≠ 0 ∧ 5 < (scn tx s.2.2).2.1) := by omega
                       have hE : ¬ ((scn tx s.2.2).2.1 = 0 ∧ 0 < (lc.length : Int) / 5) := by omega
                       rw [if_neg hE, if_pos hcond] at hr
                       have ewd : tkM (scn tx s.2.2).2.1 = (scn tx s.2.2).2.1 := t5.2 (by omega)
                       exact lpm_rdI hT hby hl200 hsh0 hIt hcond ewd (by first | exact dueN_a (by omega) | exact dueN_b (by omega) | exact dueN_c (by omega) (by omega)) h_76 h6 ⟨⟨vl2, g1, g2⟩, (g3 _ (by omega)).trans h_76, fun j a b => (g3 j a).trans ((f_76 j b).trans (hf j a b))⟩ hr K (fun s2 lc2 it2 w2 y1 y2 y3 y4 y5 => ih s2 lc2 it2 w2 y1 (by omega) y3 y4 y5))
                · refine V_iconst (Y := mX6_reads) (pc := 95) dX6_reads_95 ?_
                  refine V_goto (tgt := 100) (Y := mX6_reads) (pc := 96) dX6_reads_96 (by decide) ?_
                  refine V_istore_n (Y := mX6_reads) (pc := 100) dX6_reads_100 rfl ?_
                  refine V_iconst (Y := mX6_reads) (pc := 101) dX6_reads_101 ?_
                  refine V_istore_n (Y := mX6_reads) (pc := 102) dX6_reads_102 rfl ?_
                  first
                    | (exfalso; omega)
                    | (have hcond : ((lc.length : Int) / 5 = 0 ∧ (scn tx s.2.2).2.1 = 5) ∨ ((lc.length : Int) / 5 ≠ 0 ∧ 5 < (scn tx s.2.2).2.1) := by omega
                       have hE : ¬ ((scn tx s.2.2).2.1 = 0 ∧ 0 < (lc.length : Int) / 5) := by omega
                       rw [if_neg hE, if_pos hcond] at hr
                       have ewd : tkM (scn tx s.2.2).2.1 = (scn tx s.2.2).2.1 := t5.2 (by omega)
                       exact lpm_rdI hT hby hl200 hsh0 hIt hcond ewd (by first | exact dueN_a (by omega) | exact dueN_b (by omega) | exact dueN_c (by omega) (by omega)) h_76 h6 ⟨⟨vl2, g1, g2⟩, (g3 _ (by omega)).trans h_76, fun j a b => (g3 j a).trans ((f_76 j b).trans (hf j a b))⟩ hr K (fun s2 lc2 it2 w2 y1 y2 y3 y4 y5 => ih s2 lc2 it2 w2 y1 (by omega) y3 y4 y5))
              · refine V_iconst (Y := mX6_reads) (pc := 86) dX6_reads_86 ?_
                refine V_goto (tgt := 100) (Y := mX6_reads) (pc := 87) dX6_reads_87 (by decide) ?_
                refine V_istore_n (Y := mX6_reads) (pc := 100) dX6_reads_100 rfl ?_
                refine V_iconst (Y := mX6_reads) (pc := 101) dX6_reads_101 ?_
                refine V_istore_n (Y := mX6_reads) (pc := 102) dX6_reads_102 rfl ?_
                first
                  | (exfalso; omega)
                  | (have hcond : ((lc.length : Int) / 5 = 0 ∧ (scn tx s.2.2).2.1 = 5) ∨ ((lc.length : Int) / 5 ≠ 0 ∧ 5 < (scn tx s.2.2).2.1) := by omega
                     have hE : ¬ ((scn tx s.2.2).2.1 = 0 ∧ 0 < (lc.length : Int) / 5) := by omega
                     rw [if_neg hE, if_pos hcond] at hr
                     have ewd : tkM (scn tx s.2.2).2.1 = (scn tx s.2.2).2.1 := t5.2 (by omega)
                     exact lpm_rdI hT hby hl200 hsh0 hIt hcond ewd (by first | exact dueN_a (by omega) | exact dueN_b (by omega) | exact dueN_c (by omega) (by omega)) h_76 h6 ⟨⟨vl2, g1, g2⟩, (g3 _ (by omega)).trans h_76, fun j a b => (g3 j a).trans ((f_76 j b).trans (hf j a b))⟩ hr K (fun s2 lc2 it2 w2 y1 y2 y3 y4 y5 => ih s2 lc2 it2 w2 y1 (by omega) y3 y4 y5))
            · refine V_iconst (Y := mX6_reads) (pc := 63) dX6_reads_63 ?_
              refine V_zret (ty := .boolean) (Y := mX6_reads) (pc := 64) dX6_reads_64 rfl rfl (Nat.le_of_ble_eq_true rfl) (Nat.le_of_ble_eq_true rfl) ?_
              refine hfail ?_
              rw [if_neg (by omega), if_neg (by omega)] at hr
              exact hr.symm
        · refine V_iconst (Y := mX6_reads) (pc := 43) dX6_reads_43 ?_
          refine V_goto (tgt := 48) (Y := mX6_reads) (pc := 44) dX6_reads_44 (by decide) ?_
          refine V_aload_n (Y := mX6_reads) (pc := 48) dX6_reads_48 rfl ?_
          apply V_get (Y := mX6_reads) (pc := 49) dX6_reads_49 fl_X6_146
          · assumption
          · rfl
          refine V_if_ne (tgt := 59) (Y := mX6_reads) (pc := 52) dX6_reads_52 (by decide) ⟨by omega, by omega⟩ (fun h_52 => ?_) (fun h_52 => ?_)
          · refine V_iconst (Y := mX6_reads) (pc := 59) dX6_reads_59 ?_
            refine V_icmp_eq (tgt := 65) (Y := mX6_reads) (pc := 60) dX6_reads_60 (by decide) ⟨by omega, by omega⟩ ⟨by omega, by omega⟩ (fun h_60 => ?_) (fun h_60 => ?_)
            · refine V_aload_n (Y := mX6_reads) (pc := 65) dX6_reads_65 rfl ?_
              apply V_get (Y := mX6_reads) (pc := 66) dX6_reads_66 fl_X6_29
              · assumption
              · rfl
              refine V_iconst (Y := mX6_reads) (pc := 69) dX6_reads_69 ?_
              refine V_aload_n (Y := mX6_reads) (pc := 70) dX6_reads_70 rfl ?_
              apply V_get (Y := mX6_reads) (pc := 71) dX6_reads_71 fl_X6_146
              · assumption
              · rfl
              refine V_imul (Y := mX6_reads) (pc := 74) dX6_reads_74 ?_
              refine V_iload_n (Y := mX6_reads) (pc := 75) dX6_reads_75 rfl ?_
              apply V_iastW (Y := mX6_reads) (pc := 76) dX6_reads_76
              · assumption
              · exact ⟨by omega, by omega⟩
              · omega
              intro w_76 h_76 f_76
              have o76 := (f_76 99 (by omega)).trans ho
              refine V_aload_n (Y := mX6_reads) (pc := 77) dX6_reads_77 rfl ?_
              apply V_vV (Y := mX6_reads) (pc := 78) dX6_reads_78 ok_X6_scans ov_X6_scans ln_X6_149 (cm_scans o76 (hT'.keep (f_76 105 (by omega))) hby ⟨by omega, hq.2.2.1.2⟩)
              · assumption
              · rfl
              · rfl
              · rfl
              · rfl
              · rfl
              rintro w_78 ⟨vl2, g1, g2, g3⟩
              refine V_iload_n (Y := mX6_reads) (pc := 81) dX6_reads_81 rfl ?_
              refine V_iconst (Y := mX6_reads) (pc := 82) dX6_reads_82 ?_
              refine V_icmp_ne (tgt := 90) (Y := mX6_reads) (pc := 83) dX6_reads_83 (by decide) ⟨by omega, by omega⟩ ⟨by omega, by omega⟩ (fun h_83 => ?_) (fun h_83 => ?_)
              · refine V_iload_n (Y := mX6_reads) (pc := 90) dX6_reads_90 rfl ?_
                refine V_iconst (Y := mX6_reads) (pc := 91) dX6_reads_91 ?_
                refine V_icmp_ne (tgt := 99) (Y := mX6_reads) (pc := 92) dX6_reads_92 (by decide) ⟨by omega, by omega⟩ ⟨by omega, by omega⟩ (fun h_92 => ?_) (fun h_92 => ?_)
                · refine V_iconst (Y := mX6_reads) (pc := 99) dX6_reads_99 ?_
                  refine V_istore_n (Y := mX6_reads) (pc := 100) dX6_reads_100 rfl ?_
                  refine V_iconst (Y := mX6_reads) (pc := 101) dX6_reads_101 ?_
                  refine V_istore_n (Y := mX6_reads) (pc := 102) dX6_reads_102 rfl ?_
                  first
                    | (exfalso; omega)
                    | (have hcond : ((lc.length : Int) / 5 = 0 ∧ (scn tx s.2.2).2.1 = 5) ∨ ((lc.length : Int) / 5 ≠ 0 ∧ 5 < (scn tx s.2.2).2.1) := by omega
                       have hE : ¬ ((scn tx s.2.2).2.1 = 0 ∧ 0 < (lc.length : Int) / 5) := by omega
                       rw [if_neg hE, if_pos hcond] at hr
                       have ewd : tkM (scn tx s.2.2).2.1 = (scn tx s.2.2).2.1 := t5.2 (by omega)
                       exact lpm_rdI hT hby hl200 hsh0 hIt hcond ewd (by first | exact dueN_a (by omega) | exact dueN_b (by omega) | exact dueN_c (by omega) (by omega)) h_76 h6 ⟨⟨vl2, g1, g2⟩, (g3 _ (by omega)).trans h_76, fun j a b => (g3 j a).trans ((f_76 j b).trans (hf j a b))⟩ hr K (fun s2 lc2 it2 w2 y1 y2 y3 y4 y5 => ih s2 lc2 it2 w2 y1 (by omega) y3 y4 y5))
                · refine V_iconst (Y := mX6_reads) (pc := 95) dX6_reads_95 ?_
                  refine V_goto (tgt := 100) (Y := mX6_reads) (pc := 96) dX6_reads_96 (by decide) ?_
                  refine V_istore_n (Y := mX6_reads) (pc := 100) dX6_reads_100 rfl ?_
                  refine V_iconst (Y := mX6_reads) (pc := 101) dX6_reads_101 ?_
                  refine V_istore_n (Y := mX6_reads) (pc := 102) dX6_reads_102 rfl ?_
                  first
                    | (exfalso; omega)
                    | (have hcond : ((lc.length : Int) / 5 = 0 ∧ (scn tx s.2.2).2.1 = 5) ∨ ((lc.length : Int) / 5 ≠ 0 ∧ 5 < (scn tx s.2.2).2.1) := by omega
                       have hE : ¬ ((scn tx s.2.2).2.1 = 0 ∧ 0 < (lc.length : Int) / 5) := by omega
                       rw [if_neg hE, if_pos hcond] at hr
                       have ewd : tkM (scn tx s.2.2).2.1 = (scn tx s.2.2).2.1 := t5.2 (by omega)
                       exact lpm_rdI hT hby hl200 hsh0 hIt hcond ewd (by first | exact dueN_a (by omega) | exact dueN_b (by omega) | exact dueN_c (by omega) (by omega)) h_76 h6 ⟨⟨vl2, g1, g2⟩, (g3 _ (by omega)).trans h_76, fun j a b => (g3 j a).trans ((f_76 j b).trans (hf j a b))⟩ hr K (fun s2 lc2 it2 w2 y1 y2 y3 y4 y5 => ih s2 lc2 it2 w2 y1 (by omega) y3 y4 y5))
              · refine V_iconst (Y := mX6_reads) (pc := 86) dX6_reads_86 ?_
                refine V_goto (tgt := 100) (Y := mX6_reads) (pc := 87) dX6_reads_87 (by decide) ?_
                refine V_istore_n (Y := mX6_reads) (pc := 100) dX6_reads_100 rfl ?_
                refine V_iconst (Y := mX6_reads) (pc := 101) dX6_reads_101 ?_
                refine V_istore_n (Y := mX6_reads) (pc := 102) dX6_reads_102 rfl ?_
                first
                  | (exfalso; omega)
                  | (have hcond : ((lc.length : Int) / 5 = 0 ∧ (scn tx s.2.2).2.1 = 5) ∨ ((lc.length : Int) / 5 ≠ 0 ∧ 5 < (scn tx s.2.2).2.1) := by omega
                     have hE : ¬ ((scn tx s.2.2).2.1 = 0 ∧ 0 < (lc.length : Int) / 5) := by omega
                     rw [if_neg hE, if_pos hcond] at hr
                     have ewd : tkM (scn tx s.2.2).2.1 = (scn tx s.2.2).2.1 := t5.2 (by omega)
                     exact lpm_rdI hT hby hl200 hsh0 hIt hcond ewd (by first | exact dueN_a (by omega) | exact dueN_b (by omega) | exact dueN_c (by omega) (by omega)) h_76 h6 ⟨⟨vl2, g1, g2⟩, (g3 _ (by omega)).trans h_76, fun j a b => (g3 j a).trans ((f_76 j b).trans (hf j a b))⟩ hr K (fun s2 lc2 it2 w2 y1 y2 y3 y4 y5 => ih s2 lc2 it2 w2 y1 (by omega) y3 y4 y5))
            · refine V_iconst (Y := mX6_reads) (pc := 63) dX6_reads_63 ?_
              refine V_zret (ty := .boolean) (Y := mX6_reads) (pc := 64) dX6_reads_64 rfl rfl (Nat.le_of_ble_eq_true rfl) (Nat.le_of_ble_eq_true rfl) ?_
              refine hfail ?_
              rw [if_neg (by omega), if_neg (by omega)] at hr
              exact hr.symm
          · refine V_iconst (Y := mX6_reads) (pc := 55) dX6_reads_55 ?_
            refine V_goto (tgt := 60) (Y := mX6_reads) (pc := 56) dX6_reads_56 (by decide) ?_
            refine V_icmp_eq (tgt := 65) (Y := mX6_reads) (pc := 60) dX6_reads_60 (by decide) ⟨by omega, by omega⟩ ⟨by omega, by omega⟩ (fun h_60 => ?_) (fun h_60 => ?_)
            · refine V_aload_n (Y := mX6_reads) (pc := 65) dX6_reads_65 rfl ?_
              apply V_get (Y := mX6_reads) (pc := 66) dX6_reads_66 fl_X6_29
              · assumption
              · rfl
              refine V_iconst (Y := mX6_reads) (pc := 69) dX6_reads_69 ?_
              refine V_aload_n (Y := mX6_reads) (pc := 70) dX6_reads_70 rfl ?_
              apply V_get (Y := mX6_reads) (pc := 71) dX6_reads_71 fl_X6_146
              · assumption
              · rfl
              refine V_imul (Y := mX6_reads) (pc := 74) dX6_reads_74 ?_
              refine V_iload_n (Y := mX6_reads) (pc := 75) dX6_reads_75 rfl ?_
              apply V_iastW (Y := mX6_reads) (pc := 76) dX6_reads_76
              · assumption
              · exact ⟨by omega, by omega⟩
              · omega
              intro w_76 h_76 f_76
              have o76 := (f_76 99 (by omega)).trans ho
              refine V_aload_n (Y := mX6_reads) (pc := 77) dX6_reads_77 rfl ?_
              apply V_vV (Y := mX6_reads) (pc := 78) dX6_reads_78 ok_X6_scans ov_X6_scans ln_X6_149 (cm_scans o76 (hT'.keep (f_76 105 (by omega))) hby ⟨by omega, hq.2.2.1.2⟩)
              · assumption
              · rfl
              · rfl
              · rfl
              · rfl
              · rfl
              rintro w_78 ⟨vl2, g1, g2, g3⟩
              refine V_iload_n (Y := mX6_reads) (pc := 81) dX6_reads_81 rfl ?_
              refine V_iconst (Y := mX6_reads) (pc := 82) dX6_reads_82 ?_
              refine V_icmp_ne (tgt := 90) (Y := mX6_reads) (pc := 83) dX6_reads_83 (by decide) ⟨by omega, by omega⟩ ⟨by omega, by omega⟩ (fun h_83 => ?_) (fun h_83 => ?_)
              · refine V_iload_n (Y := mX6_reads) (pc := 90) dX6_reads_90 rfl ?_
                refine V_iconst (Y := mX6_reads) (pc := 91) dX6_reads_91 ?_
                refine V_icmp_ne (tgt := 99) (Y := mX6_reads) (pc := 92) dX6_reads_92 (by decide) ⟨by omega, by omega⟩ ⟨by omega, by omega⟩ (fun h_92 => ?_) (fun h_92 => ?_)
                · refine V_iconst (Y := mX6_reads) (pc := 99) dX6_reads_99 ?_
                  refine V_istore_n (Y := mX6_reads) (pc := 100) dX6_reads_100 rfl ?_
                  refine V_iconst (Y := mX6_reads) (pc := 101) dX6_reads_101 ?_
                  refine V_istore_n (Y := mX6_reads) (pc := 102) dX6_reads_102 rfl ?_
                  first
                    | (exfalso; omega)
                    | (have hcond : ((lc.length : Int) / 5 = 0 ∧ (scn tx s.2.2).2.1 = 5) ∨ ((lc.length : Int) / 5 ≠ 0 ∧ 5 < (scn tx s.2.2).2.1) := by omega
                       have hE : ¬ ((scn tx s.2.2).2.1 = 0 ∧ 0 < (lc.length : Int) / 5) := by omega
                       rw [if_neg hE, if_pos hcond] at hr
                       have ewd : tkM (scn tx s.2.2).2.1 = (scn tx s.2.2).2.1 := t5.2 (by omega)
                       exact lpm_rdI hT hby hl200 hsh0 hIt hcond ewd (by first | exact dueN_a (by omega) | exact dueN_b (by omega) | exact dueN_c (by omega) (by omega)) h_76 h6 ⟨⟨vl2, g1, g2⟩, (g3 _ (by omega)).trans h_76, fun j a b => (g3 j a).trans ((f_76 j b).trans (hf j a b))⟩ hr K (fun s2 lc2 it2 w2 y1 y2 y3 y4 y5 => ih s2 lc2 it2 w2 y1 (by omega) y3 y4 y5))
                · refine V_iconst (Y := mX6_reads) (pc := 95) dX6_reads_95 ?_
                  refine V_goto (tgt := 100) (Y := mX6_reads) (pc := 96) dX6_reads_96 (by decide) ?_
                  refine V_istore_n (Y := mX6_reads) (pc := 100) dX6_reads_100 rfl ?_
                  refine V_iconst (Y := mX6_reads) (pc := 101) dX6_reads_101 ?_
                  refine V_istore_n (Y := mX6_reads) (pc := 102) dX6_reads_102 rfl ?_
                  first
                    | (exfalso; omega)
                    | (have hcond : ((lc.length : Int) / 5 = 0 ∧ (scn tx s.2.2).2.1 = 5) ∨ ((lc.length : Int) / 5 ≠ 0 ∧ 5 < (scn tx s.2.2).2.1) := by omega
                       have hE : ¬ ((scn tx s.2.2).2.1 = 0 ∧ 0 < (lc.length : Int) / 5) := by omega
                       rw [if_neg hE, if_pos hcond] at hr
                       have ewd : tkM (scn tx s.2.2).2.1 = (scn tx s.2.2).2.1 := t5.2 (by omega)
                       exact lpm_rdI hT hby hl200 hsh0 hIt hcond ewd (by first | exact dueN_a (by omega) | exact dueN_b (by omega) | exact dueN_c (by omega) (by omega)) h_76 h6 ⟨⟨vl2, g1, g2⟩, (g3 _ (by omega)).trans h_76, fun j a b => (g3 j a).trans ((f_76 j b).trans (hf j a b))⟩ hr K (fun s2 lc2 it2 w2 y1 y2 y3 y4 y5 => ih s2 lc2 it2 w2 y1 (by omega) y3 y4 y5))
              · refine V_iconst (Y := mX6_reads) (pc := 86) dX6_reads_86 ?_
                refine V_goto (tgt := 100) (Y := mX6_reads) (pc := 87) dX6_reads_87 (by decide) ?_
                refine V_istore_n (Y := mX6_reads) (pc := 100) dX6_reads_100 rfl ?_
                refine V_iconst (Y := mX6_reads) (pc := 101) dX6_reads_101 ?_
                refine V_istore_n (Y := mX6_reads) (pc := 102) dX6_reads_102 rfl ?_
                first
                  | (exfalso; omega)
                  | (have hcond : ((lc.length : Int) / 5 = 0 ∧ (scn tx s.2.2).2.1 = 5) ∨ ((lc.length : Int) / 5 ≠ 0 ∧ 5 < (scn tx s.2.2).2.1) := by omega
                     have hE : ¬ ((scn tx s.2.2).2.1 = 0 ∧ 0 < (lc.length : Int) / 5) := by omega
                     rw [if_neg hE, if_pos hcond] at hr
                     have ewd : tkM (scn tx s.2.2).2.1 = (scn tx s.2.2).2.1 := t5.2 (by omega)
                     exact lpm_rdI hT hby hl200 hsh0 hIt hcond ewd (by first | exact dueN_a (by omega) | exact dueN_b (by omega) | exact dueN_c (by omega) (by omega)) h_76 h6 ⟨⟨vl2, g1, g2⟩, (g3 _ (by omega)).trans h_76, fun j a b => (g3 j a).trans ((f_76 j b).trans (hf j a b))⟩ hr K (fun s2 lc2 it2 w2 y1 y2 y3 y4 y5 => ih s2 lc2 it2 w2 y1 (by omega) y3 y4 y5))
            · refine V_iconst (Y := mX6_reads) (pc := 63) dX6_reads_63 ?_
              refine V_zret (ty := .boolean) (Y := mX6_reads) (pc := 64) dX6_reads_64 rfl rfl (Nat.le_of_ble_eq_true rfl) (Nat.le_of_ble_eq_true rfl) ?_
              refine hfail ?_
              rw [if_neg (by omega), if_neg (by omega)] at hr
              exact hr.symm
    · refine V_aload_n (Y := mX6_reads) (pc := 21) dX6_reads_21 rfl ?_
      apply V_get (Y := mX6_reads) (pc := 22) dX6_reads_22 fl_X6_146
      · assumption
      · rfl
      refine V_if_ne (tgt := 221) (Y := mX6_reads) (pc := 25) dX6_reads_25 (by decide) ⟨by omega, by omega⟩ (fun h_25 => ?_) (fun h_25 => ?_)
      · refine V_iconst (Y := mX6_reads) (pc := 221) dX6_reads_221 ?_
        refine V_zret (ty := .boolean) (Y := mX6_reads) (pc := 222) dX6_reads_222 rfl rfl (Nat.le_of_ble_eq_true rfl) (Nat.le_of_ble_eq_true rfl) ?_
        rw [if_pos (by omega)] at hr
        rw [← hr] at K
        exact K w' 1 (Or.inr ⟨rfl, rfl, ⟨_, _, _, _, ho⟩, ⟨it, h6, hIt⟩, hf⟩)
      · refine V_aload_n (Y := mX6_reads) (pc := 28) dX6_reads_28 rfl ?_
        apply V_get (Y := mX6_reads) (pc := 29) dX6_reads_29 fl_X6_132
        · assumption
        · rfl
        refine V_iconst (Y := mX6_reads) (pc := 32) dX6_reads_32 ?_
        refine V_isub (Y := mX6_reads) (pc := 33) dX6_reads_33 ?_
        refine V_istore_n (Y := mX6_reads) (pc := 34) dX6_reads_34 rfl ?_
        refine V_iload_n (Y := mX6_reads) (pc := 35) dX6_reads_35 rfl ?_
        refine V_if_lt (tgt := 63) (Y := mX6_reads) (pc := 36) dX6_reads_36 (by decide) ⟨by omega, by omega⟩ (fun h_36 => ?_) (fun h_36 => ?_)
        · refine V_iconst (Y := mX6_reads) (pc := 63) dX6_reads_63 ?_
          refine V_zret (ty := .boolean) (Y := mX6_reads) (pc := 64) dX6_reads_64 rfl rfl (Nat.le_of_ble_eq_true rfl) (Nat.le_of_ble_eq_true rfl) ?_
          refine hfail ?_
          rw [if_neg (by omega), if_neg (by omega)] at hr
          exact hr.symm
        · refine V_iload_n (Y := mX6_reads) (pc := 39) dX6_reads_39 rfl ?_
          refine V_if_ne (tgt := 47) (Y := mX6_reads) (pc := 40) dX6_reads_40 (by decide) ⟨by omega, by omega⟩ (fun h_40 => ?_) (fun h_40 => ?_)
          · refine V_iconst (Y := mX6_reads) (pc := 47) dX6_reads_47 ?_
            refine V_aload_n (Y := mX6_reads) (pc := 48) dX6_reads_48 rfl ?_
            apply V_get (Y := mX6_reads) (pc := 49) dX6_reads_49 fl_X6_146
            · assumption
            · rfl
            refine V_if_ne (tgt := 59) (Y := mX6_reads) (pc := 52) dX6_reads_52 (by decide) ⟨by omega, by omega⟩ (fun h_52 => ?_) (fun h_52 => ?_)
            · refine V_iconst (Y := mX6_reads) (pc := 59) dX6_reads_59 ?_
              refine V_icmp_eq (tgt := 65) (Y := mX6_reads) (pc := 60) dX6_reads_60 (by decide) ⟨by omega, by omega⟩ ⟨by omega, by omega⟩ (fun h_60 => ?_) (fun h_60 => ?_)
              · refine V_aload_n (Y := mX6_reads) (pc := 65) dX6_reads_65 rfl ?_
                apply V_get (Y := mX6_reads) (pc := 66) dX6_reads_66 fl_X6_29
                · assumption
                · rfl
                refine V_iconst (Y := mX6_reads) (pc := 69) dX6_reads_69 ?_
                refine V_aload_n (Y := mX6_reads) (pc := 70) dX6_reads_70 rfl ?_
                apply V_get (Y := mX6_reads) (pc := 71) dX6_reads_71 fl_X6_146
                · assumption
                · rfl
                refine V_imul (Y := mX6_reads) (pc := 74) dX6_reads_74 ?_
                refine V_iload_n (Y := mX6_reads) (pc := 75) dX6_reads_75 rfl ?_
                apply V_iastW (Y := mX6_reads) (pc := 76) dX6_reads_76
                · assumption
                · exact ⟨by omega, by omega⟩
                · omega
                intro w_76 h_76 f_76
                have o76 := (f_76 99 (by omega)).trans ho
                refine V_aload_n (Y := mX6_reads) (pc := 77) dX6_reads_77 rfl ?_
                apply V_vV (Y := mX6_reads) (pc := 78) dX6_reads_78 ok_X6_scans ov_X6_scans ln_X6_149 (cm_scans o76 (hT'.keep (f_76 105 (by omega))) hby ⟨by omega, hq.2.2.1.2⟩)
                · assumption
                · rfl
                · rfl
                · rfl
                · rfl
                · rfl
                rintro w_78 ⟨vl2, g1, g2, g3⟩
                refine V_iload_n (Y := mX6_reads) (pc := 81) dX6_reads_81 rfl ?_
                refine V_iconst (Y := mX6_reads) (pc := 82) dX6_reads_82 ?_
                refine V_icmp_ne (tgt := 90) (Y := mX6_reads) (pc := 83) dX6_reads_83 (by decide) ⟨by omega, by omega⟩ ⟨by omega, by omega⟩ (fun h_83 => ?_) (fun h_83 => ?_)
                · refine V_iload_n (Y := mX6_reads) (pc := 90) dX6_reads_90 rfl ?_
                  refine V_iconst (Y := mX6_reads) (pc := 91) dX6_reads_91 ?_
                  refine V_icmp_ne (tgt := 99) (Y := mX6_reads) (pc := 92) dX6_reads_92 (by decide) ⟨by omega, by omega⟩ ⟨by omega, by omega⟩ (fun h_92 => ?_) (fun h_92 => ?_)
                  · refine V_iconst (Y := mX6_reads) (pc := 99) dX6_reads_99 ?_
                    refine V_istore_n (Y := mX6_reads) (pc := 100) dX6_reads_100 rfl ?_
                    refine V_iconst (Y := mX6_reads) (pc := 101) dX6_reads_101 ?_
                    refine V_istore_n (Y := mX6_reads) (pc := 102) dX6_reads_102 rfl ?_
                    first
                      | (exfalso; omega)
                      | (have hcond : ((lc.length : Int) / 5 = 0 ∧ (scn tx s.2.2).2.1 = 5) ∨ ((lc.length : Int) / 5 ≠ 0 ∧ 5 < (scn tx s.2.2).2.1) := by omega
                         have hE : ¬ ((scn tx s.2.2).2.1 = 0 ∧ 0 < (lc.length : Int) / 5) := by omega
                         rw [if_neg hE, if_pos hcond] at hr
                         have ewd : tkM (scn tx s.2.2).2.1 = (scn tx s.2.2).2.1 := t5.2 (by omega)
                         exact lpm_rdI hT hby hl200 hsh0 hIt hcond ewd (by first | exact dueN_a (by omega) | exact dueN_b (by omega) | exact dueN_c (by omega) (by omega)) h_76 h6 ⟨⟨vl2, g1, g2⟩, (g3 _ (by omega)).trans h_76, fun j a b => (g3 j a).trans ((f_76 j b).trans (hf j a b))⟩ hr K (fun s2 lc2 it2 w2 y1 y2 y3 y4 y5 => ih s2 lc2 it2 w2 y1 (by omega) y3 y4 y5))
                  · refine V_iconst (Y := mX6_reads) (pc := 95) dX6_reads_95 ?_
                    refine V_goto (tgt := 100) (Y := mX6_reads) (pc := 96) dX6_reads_96 (by decide) ?_
                    refine V_istore_n (Y := mX6_reads) (pc := 100) dX6_reads_100 rfl ?_
                    refine V_iconst (Y := mX6_reads) (pc := 101) dX6_reads_101 ?_
                    refine V_istore_n (Y := mX6_reads) (pc := 102) dX6_reads_102 rfl ?_
                    first
                      | (exfalso; omega)
                      | (have hcond : ((lc.length : Int) / 5 = 0 ∧ (scn tx s.2.2).2.1 = 5) ∨ ((lc.length : Int) / 5 ≠ 0 ∧ 5 < (scn tx s.2.2).2.1) := by omega
                         have hE : ¬ ((scn tx s.2.2).2.1 = 0 ∧ 0 < (lc.length : Int) / 5) := by omega
                         rw [if_neg hE, if_pos hcond] at hr
                         have ewd : tkM (scn tx s.2.2).2.1 = (scn tx s.2.2).2.1 := t5.2 (by omega)
                         exact lpm_rdI hT hby hl200 hsh0 hIt hcond ewd (by first | exact dueN_a (by omega) | exact dueN_b (by omega) | exact dueN_c (by omega) (by omega)) h_76 h6 ⟨⟨vl2, g1, g2⟩, (g3 _ (by omega)).trans h_76, fun j a b => (g3 j a).trans ((f_76 j b).trans (hf j a b))⟩ hr K (fun s2 lc2 it2 w2 y1 y2 y3 y4 y5 => ih s2 lc2 it2 w2 y1 (by omega) y3 y4 y5))
                · refine V_iconst (Y := mX6_reads) (pc := 86) dX6_reads_86 ?_
                  refine V_goto (tgt := 100) (Y := mX6_reads) (pc := 87) dX6_reads_87 (by decide) ?_
                  refine V_istore_n (Y := mX6_reads) (pc := 100) dX6_reads_100 rfl ?_
                  refine V_iconst (Y := mX6_reads) (pc := 101) dX6_reads_101 ?_
                  refine V_istore_n (Y := mX6_reads) (pc := 102) dX6_reads_102 rfl ?_
                  first
                    | (exfalso; omega)
                    | (have hcond : ((lc.length : Int) / 5 = 0 ∧ (scn tx s.2.2).2.1 = 5) ∨ ((lc.length : Int) / 5 ≠ 0 ∧ 5 < (scn tx s.2.2).2.1) := by omega
                       have hE : ¬ ((scn tx s.2.2).2.1 = 0 ∧ 0 < (lc.length : Int) / 5) := by omega
                       rw [if_neg hE, if_pos hcond] at hr
                       have ewd : tkM (scn tx s.2.2).2.1 = (scn tx s.2.2).2.1 := t5.2 (by omega)
                       exact lpm_rdI hT hby hl200 hsh0 hIt hcond ewd (by first | exact dueN_a (by omega) | exact dueN_b (by omega) | exact dueN_c (by omega) (by omega)) h_76 h6 ⟨⟨vl2, g1, g2⟩, (g3 _ (by omega)).trans h_76, fun j a b => (g3 j a).trans ((f_76 j b).trans (hf j a b))⟩ hr K (fun s2 lc2 it2 w2 y1 y2 y3 y4 y5 => ih s2 lc2 it2 w2 y1 (by omega) y3 y4 y5))
              · refine V_iconst (Y := mX6_reads) (pc := 63) dX6_reads_63 ?_
                refine V_zret (ty := .boolean) (Y := mX6_reads) (pc := 64) dX6_reads_64 rfl rfl (Nat.le_of_ble_eq_true rfl) (Nat.le_of_ble_eq_true rfl) ?_
                refine hfail ?_
                rw [if_neg (by omega), if_neg (by omega)] at hr
                exact hr.symm
            · refine V_iconst (Y := mX6_reads) (pc := 55) dX6_reads_55 ?_
              refine V_goto (tgt := 60) (Y := mX6_reads) (pc := 56) dX6_reads_56 (by decide) ?_
              refine V_icmp_eq (tgt := 65) (Y := mX6_reads) (pc := 60) dX6_reads_60 (by decide) ⟨by omega, by omega⟩ ⟨by omega, by omega⟩ (fun h_60 => ?_) (fun h_60 => ?_)
              · refine V_aload_n (Y := mX6_reads) (pc := 65) dX6_reads_65 rfl ?_
                apply V_get (Y := mX6_reads) (pc := 66) dX6_reads_66 fl_X6_29
                · assumption
                · rfl
                refine V_iconst (Y := mX6_reads) (pc := 69) dX6_reads_69 ?_
                refine V_aload_n (Y := mX6_reads) (pc := 70) dX6_reads_70 rfl ?_
                apply V_get (Y := mX6_reads) (pc := 71) dX6_reads_71 fl_X6_146
                · assumption
                · rfl
                refine V_imul (Y := mX6_reads) (pc := 74) dX6_reads_74 ?_
                refine V_iload_n (Y := mX6_reads) (pc := 75) dX6_reads_75 rfl ?_
                apply V_iastW (Y := mX6_reads) (pc := 76) dX6_reads_76
                · assumption
                · exact ⟨by omega, by omega⟩
                · omega
                intro w_76 h_76 f_76
                have o76 := (f_76 99 (by omega)).trans ho
                refine V_aload_n (Y := mX6_reads) (pc := 77) dX6_reads_77 rfl ?_
                apply V_vV (Y := mX6_reads) (pc := 78) dX6_reads_78 ok_X6_scans ov_X6_scans ln_X6_149 (cm_scans o76 (hT'.keep (f_76 105 (by omega))) hby ⟨by omega, hq.2.2.1.2⟩)
                · assumption
                · rfl
                · rfl
                · rfl
                · rfl
                · rfl
                rintro w_78 ⟨vl2, g1, g2, g3⟩
                refine V_iload_n (Y := mX6_reads) (pc := 81) dX6_reads_81 rfl ?_
                refine V_iconst (Y := mX6_reads) (pc := 82) dX6_reads_82 ?_
                refine V_icmp_ne (tgt := 90) (Y := mX6_reads) (pc := 83) dX6_reads_83 (by decide) ⟨by omega, by omega⟩ ⟨by omega, by omega⟩ (fun h_83 => ?_) (fun h_83 => ?_)
                · refine V_iload_n (Y := mX6_reads) (pc := 90) dX6_reads_90 rfl ?_
                  refine V_iconst (Y := mX6_reads) (pc := 91) dX6_reads_91 ?_
                  refine V_icmp_ne (tgt := 99) (Y := mX6_reads) (pc := 92) dX6_reads_92 (by decide) ⟨by omega, by omega⟩ ⟨by omega, by omega⟩ (fun h_92 => ?_) (fun h_92 => ?_)
                  · refine V_iconst (Y := mX6_reads) (pc := 99) dX6_reads_99 ?_
                    refine V_istore_n (Y := mX6_reads) (pc := 100) dX6_reads_100 rfl ?_
                    refine V_iconst (Y := mX6_reads) (pc := 101) dX6_reads_101 ?_
                    refine V_istore_n (Y := mX6_reads) (pc := 102) dX6_reads_102 rfl ?_
                    first
                      | (exfalso; omega)
                      | (have hcond : ((lc.length : Int) / 5 = 0 ∧ (scn tx s.2.2).2.1 = 5) ∨ ((lc.length : Int) / 5 ≠ 0 ∧ 5 < (scn tx s.2.2).2.1) := by omega
                         have hE : ¬ ((scn tx s.2.2).2.1 = 0 ∧ 0 < (lc.length : Int) / 5) := by omega
                         rw [if_neg hE, if_pos hcond] at hr
                         have ewd : tkM (scn tx s.2.2).2.1 = (scn tx s.2.2).2.1 := t5.2 (by omega)
                         exact lpm_rdI hT hby hl200 hsh0 hIt hcond ewd (by first | exact dueN_a (by omega) | exact dueN_b (by omega) | exact dueN_c (by omega) (by omega)) h_76 h6 ⟨⟨vl2, g1, g2⟩, (g3 _ (by omega)).trans h_76, fun j a b => (g3 j a).trans ((f_76 j b).trans (hf j a b))⟩ hr K (fun s2 lc2 it2 w2 y1 y2 y3 y4 y5 => ih s2 lc2 it2 w2 y1 (by omega) y3 y4 y5))
                  · refine V_iconst (Y := mX6_reads) (pc := 95) dX6_reads_95 ?_
                    refine V_goto (tgt := 100) (Y := mX6_reads) (pc := 96) dX6_reads_96 (by decide) ?_
                    refine V_istore_n (Y := mX6_reads) (pc := 100) dX6_reads_100 rfl ?_
                    refine V_iconst (Y := mX6_reads) (pc := 101) dX6_reads_101 ?_
                    refine V_istore_n (Y := mX6_reads) (pc := 102) dX6_reads_102 rfl ?_
                    first
                      | (exfalso; omega)
                      | (have hcond : ((lc.length : Int) / 5 = 0 ∧ (scn tx s.2.2).2.1 = 5) ∨ ((lc.length : Int) / 5 ≠ 0 ∧ 5 < (scn tx s.2.2).2.1) := by omega
                         have hE : ¬ ((scn tx s.2.2).2.1 = 0 ∧ 0 < (lc.length : Int) / 5) := by omega
                         rw [if_neg hE, if_pos hcond] at hr
                         have ewd : tkM (scn tx s.2.2).2.1 = (scn tx s.2.2).2.1 := t5.2 (by omega)
                         exact lpm_rdI hT hby hl200 hsh0 hIt hcond ewd (by first | exact dueN_a (by omega) | exact dueN_b (by omega) | exact dueN_c (by omega) (by omega)) h_76 h6 ⟨⟨vl2, g1, g2⟩, (g3 _ (by omega)).trans h_76, fun j a b => (g3 j a).trans ((f_76 j b).trans (hf j a b))⟩ hr K (fun s2 lc2 it2 w2 y1 y2 y3 y4 y5 => ih s2 lc2 it2 w2 y1 (by omega) y3 y4 y5))
                · refine V_iconst (Y := mX6_reads) (pc := 86) dX6_reads_86 ?_
                  refine V_goto (tgt := 100) (Y := mX6_reads) (pc := 87) dX6_reads_87 (by decide) ?_
                  refine V_istore_n (Y := mX6_reads) (pc := 100) dX6_reads_100 rfl ?_
                  refine V_iconst (Y := mX6_reads) (pc := 101) dX6_reads_101 ?_
                  refine V_istore_n (Y := mX6_reads) (pc := 102) dX6_reads_102 rfl ?_
                  first
                    | (exfalso; omega)
                    | (have hcond : ((lc.length : Int) / 5 = 0 ∧ (scn tx s.2.2).2.1 = 5) ∨ ((lc.length : Int) / 5 ≠ 0 ∧ 5 < (scn tx s.2.2).2.1) := by omega
                       have hE : ¬ ((scn tx s.2.2).2.1 = 0 ∧ 0 < (lc.length : Int) / 5) := by omega
                       rw [if_neg hE, if_pos hcond] at hr
                       have ewd : tkM (scn tx s.2.2).2.1 = (scn tx s.2.2).2.1 := t5.2 (by omega)
                       exact lpm_rdI hT hby hl200 hsh0 hIt hcond ewd (by first | exact dueN_a (by omega) | exact dueN_b (by omega) | exact dueN_c (by omega) (by omega)) h_76 h6 ⟨⟨vl2, g1, g2⟩, (g3 _ (by omega)).trans h_76, fun j a b => (g3 j a).trans ((f_76 j b).trans (hf j a b))⟩ hr K (fun s2 lc2 it2 w2 y1 y2 y3 y4 y5 => ih s2 lc2 it2 w2 y1 (by omega) y3 y4 y5))
              · refine V_iconst (Y := mX6_reads) (pc := 63) dX6_reads_63 ?_
                refine V_zret (ty := .boolean) (Y := mX6_reads) (pc := 64) dX6_reads_64 rfl rfl (Nat.le_of_ble_eq_true rfl) (Nat.le_of_ble_eq_true rfl) ?_
                refine hfail ?_
                rw [if_neg (by omega), if_neg (by omega)] at hr
                exact hr.symm
          · refine V_iconst (Y := mX6_reads) (pc := 43) dX6_reads_43 ?_
            refine V_goto (tgt := 48) (Y := mX6_reads) (pc := 44) dX6_reads_44 (by decide) ?_
            refine V_aload_n (Y := mX6_reads) (pc := 48) dX6_reads_48 rfl ?_
            apply V_get (Y := mX6_reads) (pc := 49) dX6_reads_49 fl_X6_146
            · assumption
            · rfl
            refine V_if_ne (tgt := 59) (Y := mX6_reads) (pc := 52) dX6_reads_52 (by decide) ⟨by omega, by omega⟩ (fun h_52 => ?_) (fun h_52 => ?_)
            · refine V_iconst (Y := mX6_reads) (pc := 59) dX6_reads_59 ?_
              refine V_icmp_eq (tgt := 65) (Y := mX6_reads) (pc := 60) dX6_reads_60 (by decide) ⟨by omega, by omega⟩ ⟨by omega, by omega⟩ (fun h_60 => ?_) (fun h_60 => ?_)
              · refine V_aload_n (Y := mX6_reads) (pc := 65) dX6_reads_65 rfl ?_
                apply V_get (Y := mX6_reads) (pc := 66) dX6_reads_66 fl_X6_29
                · assumption
                · rfl
                refine V_iconst (Y := mX6_reads) (pc := 69) dX6_reads_69 ?_
                refine V_aload_n (Y := mX6_reads) (pc := 70) dX6_reads_70 rfl ?_
                apply V_get (Y := mX6_reads) (pc := 71) dX6_reads_71 fl_X6_146
                · assumption
                · rfl
                refine V_imul (Y := mX6_reads) (pc := 74) dX6_reads_74 ?_
                refine V_iload_n (Y := mX6_reads) (pc := 75) dX6_reads_75 rfl ?_
                apply V_iastW (Y := mX6_reads) (pc := 76) dX6_reads_76
                · assumption
                · exact ⟨by omega, by omega⟩
                · omega
                intro w_76 h_76 f_76
                have o76 := (f_76 99 (by omega)).trans ho
                refine V_aload_n (Y := mX6_reads) (pc := 77) dX6_reads_77 rfl ?_
                apply V_vV (Y := mX6_reads) (pc := 78) dX6_reads_78 ok_X6_scans ov_X6_scans ln_X6_149 (cm_scans o76 (hT'.keep (f_76 105 (by omega))) hby ⟨by omega, hq.2.2.1.2⟩)
                · assumption
                · rfl
                · rfl
                · rfl
                · rfl
                · rfl
                rintro w_78 ⟨vl2, g1, g2, g3⟩
                refine V_iload_n (Y := mX6_reads) (pc := 81) dX6_reads_81 rfl ?_
                refine V_iconst (Y := mX6_reads) (pc := 82) dX6_reads_82 ?_
                refine V_icmp_ne (tgt := 90) (Y := mX6_reads) (pc := 83) dX6_reads_83 (by decide) ⟨by omega, by omega⟩ ⟨by omega, by omega⟩ (fun h_83 => ?_) (fun h_83 => ?_)
                · refine V_iload_n (Y := mX6_reads) (pc := 90) dX6_reads_90 rfl ?_
                  refine V_iconst (Y := mX6_reads) (pc := 91) dX6_reads_91 ?_
                  refine V_icmp_ne (tgt := 99) (Y := mX6_reads) (pc := 92) dX6_reads_92 (by decide) ⟨by omega, by omega⟩ ⟨by omega, by omega⟩ (fun h_92 => ?_) (fun h_92 => ?_)
                  · refine V_iconst (Y := mX6_reads) (pc := 99) dX6_reads_99 ?_
                    refine V_istore_n (Y := mX6_reads) (pc := 100) dX6_reads_100 rfl ?_
                    refine V_iconst (Y := mX6_reads) (pc := 101) dX6_reads_101 ?_
                    refine V_istore_n (Y := mX6_reads) (pc := 102) dX6_reads_102 rfl ?_
                    first
                      | (exfalso; omega)
                      | (have hcond : ((lc.length : Int) / 5 = 0 ∧ (scn tx s.2.2).2.1 = 5) ∨ ((lc.length : Int) / 5 ≠ 0 ∧ 5 < (scn tx s.2.2).2.1) := by omega
                         have hE : ¬ ((scn tx s.2.2).2.1 = 0 ∧ 0 < (lc.length : Int) / 5) := by omega
                         rw [if_neg hE, if_pos hcond] at hr
                         have ewd : tkM (scn tx s.2.2).2.1 = (scn tx s.2.2).2.1 := t5.2 (by omega)
                         exact lpm_rdI hT hby hl200 hsh0 hIt hcond ewd (by first | exact dueN_a (by omega) | exact dueN_b (by omega) | exact dueN_c (by omega) (by omega)) h_76 h6 ⟨⟨vl2, g1, g2⟩, (g3 _ (by omega)).trans h_76, fun j a b => (g3 j a).trans ((f_76 j b).trans (hf j a b))⟩ hr K (fun s2 lc2 it2 w2 y1 y2 y3 y4 y5 => ih s2 lc2 it2 w2 y1 (by omega) y3 y4 y5))
                  · refine V_iconst (Y := mX6_reads) (pc := 95) dX6_reads_95 ?_
                    refine V_goto (tgt := 100) (Y := mX6_reads) (pc := 96) dX6_reads_96 (by decide) ?_
                    refine V_istore_n (Y := mX6_reads) (pc := 100) dX6_reads_100 rfl ?_
                    refine V_iconst (Y := mX6_reads) (pc := 101) dX6_reads_101 ?_
                    refine V_istore_n (Y := mX6_reads) (pc := 102) dX6_reads_102 rfl ?_
                    first
                      | (exfalso; omega)
                      | (have hcond : ((lc.length : Int) / 5 = 0 ∧ (scn tx s.2.2).2.1 = 5) ∨ ((lc.length : Int) / 5 ≠ 0 ∧ 5 < (scn tx s.2.2).2.1) := by omega
                         have hE : ¬ ((scn tx s.2.2).2.1 = 0 ∧ 0 < (lc.length : Int) / 5) := by omega
                         rw [if_neg hE, if_pos hcond] at hr
                         have ewd : tkM (scn tx s.2.2).2.1 = (scn tx s.2.2).2.1 := t5.2 (by omega)
                         exact lpm_rdI hT hby hl200 hsh0 hIt hcond ewd (by first | exact dueN_a (by omega) | exact dueN_b (by omega) | exact dueN_c (by omega) (by omega)) h_76 h6 ⟨⟨vl2, g1, g2⟩, (g3 _ (by omega)).trans h_76, fun j a b => (g3 j a).trans ((f_76 j b).trans (hf j a b))⟩ hr K (fun s2 lc2 it2 w2 y1 y2 y3 y4 y5 => ih s2 lc2 it2 w2 y1 (by omega) y3 y4 y5))
                · refine V_iconst (Y := mX6_reads) (pc := 86) dX6_reads_86 ?_
                  refine V_goto (tgt := 100) (Y := mX6_reads) (pc := 87) dX6_reads_87 (by decide) ?_
                  refine V_istore_n (Y := mX6_reads) (pc := 100) dX6_reads_100 rfl ?_
                  refine V_iconst (Y := mX6_reads) (pc := 101) dX6_reads_101 ?_
                  refine V_istore_n (Y := mX6_reads) (pc := 102) dX6_reads_102 rfl ?_
                  first
                    | (exfalso; omega)
                    | (have hcond : ((lc.length : Int) / 5 = 0 ∧ (scn tx s.2.2).2.1 = 5) ∨ ((lc.length : Int) / 5 ≠ 0 ∧ 5 < (scn tx s.2.2).2.1) := by omega
                       have hE : ¬ ((scn tx s.2.2).2.1 = 0 ∧ 0 < (lc.length : Int) / 5) := by omega
                       rw [if_neg hE, if_pos hcond] at hr
                       have ewd : tkM (scn tx s.2.2).2.1 = (scn tx s.2.2).2.1 := t5.2 (by omega)
                       exact lpm_rdI hT hby hl200 hsh0 hIt hcond ewd (by first | exact dueN_a (by omega) | exact dueN_b (by omega) | exact dueN_c (by omega) (by omega)) h_76 h6 ⟨⟨vl2, g1, g2⟩, (g3 _ (by omega)).trans h_76, fun j a b => (g3 j a).trans ((f_76 j b).trans (hf j a b))⟩ hr K (fun s2 lc2 it2 w2 y1 y2 y3 y4 y5 => ih s2 lc2 it2 w2 y1 (by omega) y3 y4 y5))
              · refine V_iconst (Y := mX6_reads) (pc := 63) dX6_reads_63 ?_
                refine V_zret (ty := .boolean) (Y := mX6_reads) (pc := 64) dX6_reads_64 rfl rfl (Nat.le_of_ble_eq_true rfl) (Nat.le_of_ble_eq_true rfl) ?_
                refine hfail ?_
                rw [if_neg (by omega), if_neg (by omega)] at hr
                exact hr.symm
            · refine V_iconst (Y := mX6_reads) (pc := 55) dX6_reads_55 ?_
              refine V_goto (tgt := 60) (Y := mX6_reads) (pc := 56) dX6_reads_56 (by decide) ?_
              refine V_icmp_eq (tgt := 65) (Y := mX6_reads) (pc := 60) dX6_reads_60 (by decide) ⟨by omega, by omega⟩ ⟨by omega, by omega⟩ (fun h_60 => ?_) (fun h_60 => ?_)
              · refine V_aload_n (Y := mX6_reads) (pc := 65) dX6_reads_65 rfl ?_
                apply V_get (Y := mX6_reads) (pc := 66) dX6_reads_66 fl_X6_29
                · assumption
                · rfl
                refine V_iconst (Y := mX6_reads) (pc := 69) dX6_reads_69 ?_
                refine V_aload_n (Y := mX6_reads) (pc := 70) dX6_reads_70 rfl ?_
                apply V_get (Y := mX6_reads) (pc := 71) dX6_reads_71 fl_X6_146
                · assumption
                · rfl
                refine V_imul (Y := mX6_reads) (pc := 74) dX6_reads_74 ?_
                refine V_iload_n (Y := mX6_reads) (pc := 75) dX6_reads_75 rfl ?_
                apply V_iastW (Y := mX6_reads) (pc := 76) dX6_reads_76
                · assumption
                · exact ⟨by omega, by omega⟩
                · omega
                intro w_76 h_76 f_76
                have o76 := (f_76 99 (by omega)).trans ho
                refine V_aload_n (Y := mX6_reads) (pc := 77) dX6_reads_77 rfl ?_
                apply V_vV (Y := mX6_reads) (pc := 78) dX6_reads_78 ok_X6_scans ov_X6_scans ln_X6_149 (cm_scans o76 (hT'.keep (f_76 105 (by omega))) hby ⟨by omega, hq.2.2.1.2⟩)
                · assumption
                · rfl
                · rfl
                · rfl
                · rfl
                · rfl
                rintro w_78 ⟨vl2, g1, g2, g3⟩
                refine V_iload_n (Y := mX6_reads) (pc := 81) dX6_reads_81 rfl ?_
                refine V_iconst (Y := mX6_reads) (pc := 82) dX6_reads_82 ?_
                refine V_icmp_ne (tgt := 90) (Y := mX6_reads) (pc := 83) dX6_reads_83 (by decide) ⟨by omega, by omega⟩ ⟨by omega, by omega⟩ (fun h_83 => ?_) (fun h_83 => ?_)
                · refine V_iload_n (Y := mX6_reads) (pc := 90) dX6_reads_90 rfl ?_
                  refine V_iconst (Y := mX6_reads) (pc := 91) dX6_reads_91 ?_
                  refine V_icmp_ne (tgt := 99) (Y := mX6_reads) (pc := 92) dX6_reads_92 (by decide) ⟨by omega, by omega⟩ ⟨by omega, by omega⟩ (fun h_92 => ?_) (fun h_92 => ?_)
                  · refine V_iconst (Y := mX6_reads) (pc := 99) dX6_reads_99 ?_
                    refine V_istore_n (Y := mX6_reads) (pc := 100) dX6_reads_100 rfl ?_
                    refine V_iconst (Y := mX6_reads) (pc := 101) dX6_reads_101 ?_
                    refine V_istore_n (Y := mX6_reads) (pc := 102) dX6_reads_102 rfl ?_
                    first
                      | (exfalso; omega)
                      | (have hcond : ((lc.length : Int) / 5 = 0 ∧ (scn tx s.2.2).2.1 = 5) ∨ ((lc.length : Int) / 5 ≠ 0 ∧ 5 < (scn tx s.2.2).2.1) := by omega
                         have hE : ¬ ((scn tx s.2.2).2.1 = 0 ∧ 0 < (lc.length : Int) / 5) := by omega
                         rw [if_neg hE, if_pos hcond] at hr
                         have ewd : tkM (scn tx s.2.2).2.1 = (scn tx s.2.2).2.1 := t5.2 (by omega)
                         exact lpm_rdI hT hby hl200 hsh0 hIt hcond ewd (by first | exact dueN_a (by omega) | exact dueN_b (by omega) | exact dueN_c (by omega) (by omega)) h_76 h6 ⟨⟨vl2, g1, g2⟩, (g3 _ (by omega)).trans h_76, fun j a b => (g3 j a).trans ((f_76 j b).trans (hf j a b))⟩ hr K (fun s2 lc2 it2 w2 y1 y2 y3 y4 y5 => ih s2 lc2 it2 w2 y1 (by omega) y3 y4 y5))
                  · refine V_iconst (Y := mX6_reads) (pc := 95) dX6_reads_95 ?_
                    refine V_goto (tgt := 100) (Y := mX6_reads) (pc := 96) dX6_reads_96 (by decide) ?_
                    refine V_istore_n (Y := mX6_reads) (pc := 100) dX6_reads_100 rfl ?_
                    refine V_iconst (Y := mX6_reads) (pc := 101) dX6_reads_101 ?_
                    refine V_istore_n (Y := mX6_reads) (pc := 102) dX6_reads_102 rfl ?_
                    first
                      | (exfalso; omega)
                      | (have hcond : ((lc.length : Int) / 5 = 0 ∧ (scn tx s.2.2).2.1 = 5) ∨ ((lc.length : Int) / 5 ≠ 0 ∧ 5 < (scn tx s.2.2).2.1) := by omega
                         have hE : ¬ ((scn tx s.2.2).2.1 = 0 ∧ 0 < (lc.length : Int) / 5) := by omega
                         rw [if_neg hE, if_pos hcond] at hr
                         have ewd : tkM (scn tx s.2.2).2.1 = (scn tx s.2.2).2.1 := t5.2 (by omega)
                         exact lpm_rdI hT hby hl200 hsh0 hIt hcond ewd (by first | exact dueN_a (by omega) | exact dueN_b (by omega) | exact dueN_c (by omega) (by omega)) h_76 h6 ⟨⟨vl2, g1, g2⟩, (g3 _ (by omega)).trans h_76, fun j a b => (g3 j a).trans ((f_76 j b).trans (hf j a b))⟩ hr K (fun s2 lc2 it2 w2 y1 y2 y3 y4 y5 => ih s2 lc2 it2 w2 y1 (by omega) y3 y4 y5))
                · refine V_iconst (Y := mX6_reads) (pc := 86) dX6_reads_86 ?_
                  refine V_goto (tgt := 100) (Y := mX6_reads) (pc := 87) dX6_reads_87 (by decide) ?_
                  refine V_istore_n (Y := mX6_reads) (pc := 100) dX6_reads_100 rfl ?_
                  refine V_iconst (Y := mX6_reads) (pc := 101) dX6_reads_101 ?_
                  refine V_istore_n (Y := mX6_reads) (pc := 102) dX6_reads_102 rfl ?_
                  first
                    | (exfalso; omega)
                    | (have hcond : ((lc.length : Int) / 5 = 0 ∧ (scn tx s.2.2).2.1 = 5) ∨ ((lc.length : Int) / 5 ≠ 0 ∧ 5 < (scn tx s.2.2).2.1) := by omega
                       have hE : ¬ ((scn tx s.2.2).2.1 = 0 ∧ 0 < (lc.length : Int) / 5) := by omega
                       rw [if_neg hE, if_pos hcond] at hr
                       have ewd : tkM (scn tx s.2.2).2.1 = (scn tx s.2.2).2.1 := t5.2 (by omega)
                       exact lpm_rdI hT hby hl200 hsh0 hIt hcond ewd (by first | exact dueN_a (by omega) | exact dueN_b (by omega) | exact dueN_c (by omega) (by omega)) h_76 h6 ⟨⟨vl2, g1, g2⟩, (g3 _ (by omega)).trans h_76, fun j a b => (g3 j a).trans ((f_76 j b).trans (hf j a b))⟩ hr K (fun s2 lc2 it2 w2 y1 y2 y3 y4 y5 => ih s2 lc2 it2 w2 y1 (by omega) y3 y4 y5))
              · refine V_iconst (Y := mX6_reads) (pc := 63) dX6_reads_63 ?_
                refine V_zret (ty := .boolean) (Y := mX6_reads) (pc := 64) dX6_reads_64 rfl rfl (Nat.le_of_ble_eq_true rfl) (Nat.le_of_ble_eq_true rfl) ?_
                refine hfail ?_
                rw [if_neg (by omega), if_neg (by omega)] at hr
                exact hr.symm
end MOD
