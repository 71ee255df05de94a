/-! ===== DrawerWall$Reader: items, and DrawerWall.read ===== -/
def dueN (wd : Int) : Int := if wd = 6 then 4 else if wd = 8 then 2 else 1
abbrev bM : Type := Int × Int × Int
theorem scn_rng {l : List Int} {p : Int} (h0 : 0 ≤ p) (h : p ≤ l.length) : (p ≤ (scn l p).1 ∧ (scn l p).1 ≤ l.length) ∧ (0 ≤ (scn l p).2.1 ∧ (scn l p).2.1 ≤ 9) ∧ ((scn l p).1 ≤ (scn l p).2.2 ∧ (scn l p).2.2 ≤ l.length) ∧ ((scn l p).2.1 ≠ 0 → (scn l p).1 < (scn l p).2.2 ∧ (scn l p).1 < l.length) := by
  have h1 := adv_rng bSp (l := l) (p := p) h
  unfold scn
  generalize adv bSp l p = s at *
  unfold scn2
  split
  · exact ⟨⟨h1.1, h1.2⟩, ⟨Int.le_refl 0, by show (0 : Int) ≤ 9; omega⟩, ⟨Int.le_refl _, h1.2⟩, fun q => absurd rfl q⟩
  · rename_i hs
    have h2 := adv_rng bL (l := l) (p := s + 1) (by omega)
    have h3 := adv_rng bF1 (l := l) (p := s + 1) (by omega)
    have h4 := wdOf_rng l s (adv bL l (s + 1))
    split
    · exact ⟨⟨h1.1, h1.2⟩, ⟨by show 0 ≤ wdOf l s (adv bL l (s + 1)); omega, h4.2⟩, ⟨by show s ≤ adv bL l (s + 1); omega, h2.2⟩, fun _ => ⟨by show s < adv bL l (s + 1); omega, by show s < (l.length : Int); omega⟩⟩
    · split
      · refine ⟨⟨h1.1, h1.2⟩, ⟨?_, ?_⟩, ⟨by show s ≤ adv bF1 l (s + 1); omega, h3.2⟩, fun _ => ⟨by show s < adv bF1 l (s + 1); omega, by show s < (l.length : Int); omega⟩⟩
        · show (0 : Int) ≤ if adv bF1 l (s + 1) = s + 1 then 2 else 1
          split <;> omega
        · show (if adv bF1 l (s + 1) = s + 1 then (2 : Int) else 1) ≤ 9
          split <;> omega
      · refine ⟨⟨h1.1, h1.2⟩, ⟨?_, ?_⟩, ⟨by show s ≤ s + 1; omega, by show s + 1 ≤ (l.length : Int); omega⟩, fun _ => ⟨by show s < s + 1; omega, by show s < (l.length : Int); omega⟩⟩
        · show (0 : Int) ≤ if rAt l s = 45 then 3 else if rAt l s = 59 then 4 else 1
          split
          · omega
          · split <;> omega
        · show (if rAt l s = 45 then (3 : Int) else if rAt l s = 59 then 4 else 1) ≤ 9
          split
          · omega
          · split <;> omega
/-- the numbers of an item and its end: whether each mark may stand there -/
noncomputable def tkK (l : List Int) (wd : Int) : Nat → Int → bM → List Int → Int × bM × List Int
  | 0, _, s, lc => (if (scn l s.2.2).2.1 = 4 then 1 else 0, scn l s.2.2, lc)
  | m + 1, k, s, lc =>
    if dueN wd ≤ k then tkK l wd m (k + 1) s (rAdd 1000 lc 0)
    else if wd = 6 ∧ k = dueN wd - 1 ∧ (scn l s.2.2).2.1 = 3 then
      (if (scn l (scn l s.2.2).2.2).2.1 = 2 then tkK l wd m (k + 1) (scn l (scn l s.2.2).2.2) (rAdd 1000 lc (-(rAt l (scn l (scn l s.2.2).2.2).1 - 48))) else (0, scn l (scn l s.2.2).2.2, lc))
    else (if (scn l s.2.2).2.1 = 2 then tkK l wd m (k + 1) (scn l s.2.2) (rAdd 1000 lc (rAt l (scn l s.2.2).1 - 48)) else (0, scn l s.2.2, lc))
/-- the items, up to a fault -/
noncomputable def ftK (l : List Int) : Nat → bM → List Int → Int × bM × List Int
  | 0, s, lc => (s.1, s, lc)
  | m + 1, s, lc =>
    if (scn l s.2.2).2.1 = 0 ∧ 0 < (lc.length : Int) / 5 then (-1, scn l s.2.2, lc)
    else if ((lc.length : Int) / 5 = 0 ∧ (scn l s.2.2).2.1 = 5) ∨ ((lc.length : Int) / 5 ≠ 0 ∧ 5 < (scn l s.2.2).2.1) then
      (if (tkK l (scn l s.2.2).2.1 4 0 (scn l s.2.2) (rAdd 1000 lc (scn l s.2.2).2.1)).1 = 0 then ((tkK l (scn l s.2.2).2.1 4 0 (scn l s.2.2) (rAdd 1000 lc (scn l s.2.2).2.1)).2.1.1, (tkK l (scn l s.2.2).2.1 4 0 (scn l s.2.2) (rAdd 1000 lc (scn l s.2.2).2.1)).2) else ftK l m (tkK l (scn l s.2.2).2.1 4 0 (scn l s.2.2) (rAdd 1000 lc (scn l s.2.2).2.1)).2.1 (tkK l (scn l s.2.2).2.1 4 0 (scn l s.2.2) (rAdd 1000 lc (scn l s.2.2).2.1)).2.2)
    else ((scn l s.2.2).1, scn l s.2.2, lc)
def lcOK (lc : List Int) : Prop := ∀ j : Int, -300 ≤ rAt lc j ∧ rAt lc j ≤ 300
theorem rAdd_rng {P : Int → Prop} (h0 : P 0) {cap : Nat} {l : List Int} {v : Int} (h : ∀ j : Int, P (rAt l j)) (hv : P v) (j : Int) : P (rAt (rAdd cap l v) j) := by
  unfold rAdd
  split
  · by_cases hj : 0 ≤ j ∧ j ≤ l.length
    · rw [rAt_app hj.1 hj.2]
      split
      · exact hv
      · exact h j
    · rw [rAt_out (by rw [app_len]; omega)]; exact h0
  · exact h j
theorem lcOK.add {cap : Nat} {l : List Int} {v : Int} (h : lcOK l) (hv : -300 ≤ v ∧ v ≤ 300) : lcOK (rAdd cap l v) := rAdd_rng (P := fun x => -300 ≤ x ∧ x ≤ 300) (by omega) h hv
theorem tkK_rng {l : List Int} (hby : byOK l) (wd : Int) : ∀ (m : Nat) (k : Int) (s : bM) (lc : List Int), 0 ≤ s.2.2 → s.2.2 ≤ l.length → lcOK lc → (0 ≤ (tkK l wd m k s lc).2.1.1 ∧ (tkK l wd m k s lc).2.1.1 ≤ l.length) ∧ (0 ≤ (tkK l wd m k s lc).2.1.2.2 ∧ (tkK l wd m k s lc).2.1.2.2 ≤ l.length) ∧ lcOK (tkK l wd m k s lc).2.2
  | 0, k, s, lc, h1, h2, h3 => by
    have q := scn_rng h1 h2
    exact ⟨⟨by show 0 ≤ (scn l s.2.2).1; omega, q.1.2⟩, ⟨by show 0 ≤ (scn l s.2.2).2.2; omega, q.2.2.1.2⟩, h3⟩
  | m + 1, k, s, lc, h1, h2, h3 => by
    have q := scn_rng h1 h2
    have q2 := scn_rng (l := l) (p := (scn l s.2.2).2.2) (by omega) q.2.2.1.2
    have b1 := hby (scn l s.2.2).1
    have b2 := hby (scn l (scn l s.2.2).2.2).1
    rw [tkK]
    split
    · exact tkK_rng hby wd m (k + 1) s _ h1 h2 (h3.add ⟨by omega, by omega⟩)
    · split
      · split
        · exact tkK_rng hby wd m (k + 1) _ _ (by omega) q2.2.2.1.2 (h3.add ⟨by omega, by omega⟩)
        · exact ⟨⟨by show 0 ≤ (scn l (scn l s.2.2).2.2).1; omega, q2.1.2⟩, ⟨by show 0 ≤ (scn l (scn l s.2.2).2.2).2.2; omega, q2.2.2.1.2⟩, h3⟩
      · split
        · exact tkK_rng hby wd m (k + 1) _ _ (by omega) q.2.2.1.2 (h3.add ⟨by omega, by omega⟩)
        · exact ⟨⟨by show 0 ≤ (scn l s.2.2).1; omega, q.1.2⟩, ⟨by show 0 ≤ (scn l s.2.2).2.2; omega, q.2.2.1.2⟩, h3⟩
theorem tkK_01 (l : List Int) (wd : Int) : ∀ (m : Nat) (k : Int) (s : bM) (lc : List Int), (tkK l wd m k s lc).1 = 0 ∨ (tkK l wd m k s lc).1 = 1
  | 0, k, s, lc => by
    show (if (scn l s.2.2).2.1 = 4 then (1 : Int) else 0) = 0 ∨ (if (scn l s.2.2).2.1 = 4 then (1 : Int) else 0) = 1
    split <;> omega
  | m + 1, k, s, lc => by
    rw [tkK]
    split
    · exact tkK_01 l wd m (k + 1) s _
    · split
      · split
        · exact tkK_01 l wd m (k + 1) _ _
        · exact Or.inl rfl
      · split
        · exact tkK_01 l wd m (k + 1) _ _
        · exact Or.inl rfl
section RD
variable {nn : Nat} {w : vWd} {pl nx tk : Int} {lb lc : List Int}
def RdS (w : vWd) (s : bM) (lb lc : List Int) : Prop := w 79 = some (rO s.1 s.2.2 s.2.1) ∧ RowAt w 80 200 lb ∧ RowAt w 82 1000 lc
def frR (w w' : vWd) : Prop := ∀ j, (j < 79 ∨ 84 ≤ j) → w' j = w j
theorem c_scan2 {s : bM} (h : RdS w s lb lc) (hby : byOK lb) (hnx : 0 ≤ s.2.2 ∧ s.2.2 ≤ lb.length) : Ctr mX1_scan (rm 6) [.ref 79] nn w (pV (fun w' => RdS w' (scn lb s.2.2) lb lc ∧ frR w w') nn) := by
  obtain ⟨ho, hb, hc⟩ := h
  refine (c_scan ho hb hby hnx).mono ?_
  rintro r n' w' ⟨rfl, rfl, g1, f1⟩
  exact ⟨rfl, rfl, ⟨g1, hb.keep (f1 _ (by omega)) (f1 _ (by omega)), hc.keep (f1 _ (by omega)) (f1 _ (by omega))⟩, fun j hj => f1 j (by omega)⟩
set_option maxRecDepth 100000 in
theorem lp_take77 {wd du k e : Int} {s2 : bM} {w' : vWd} {Q : vPost} (hby : byOK lb) (hR : RdS w' s2 lb lc) (h1 : 0 ≤ s2.1 ∧ s2.1 ≤ lb.length) (h2 : 0 ≤ s2.2.1 ∧ s2.2.1 ≤ 9) (he : e = 0 ∨ e = 1) (K0 : ¬ s2.2.1 = 2 → Q (some (vI 0)) nn w') (K1 : s2.2.1 = 2 → ∀ w'', RdS w'' s2 lb (rAdd 1000 lc (if e = 1 then -(rAt lb s2.1 - 48) else rAt lb s2.1 - 48)) → frR w' w'' → V mX1_takeItem (rm 7) Q 15 [some (.ref 79), some (vI wd), some (vI du), some (vI (k + 1)), none, none] [] nn w'' 0 0) :
    V mX1_takeItem (rm 7) Q 77 [some (.ref 79), some (vI wd), some (vI du), some (vI k), some (vI e), none] [] nn w' 0 0 := by
  have ho := hR.1
  have hb := hR.2.1
  have hc := hR.2.2
  have hl := hb.len
  have b1 := hby s2.1
  rcases he with rfl | rfl
  · skip
    refine V_aload_n (Y := mX1_takeItem) (pc := 77) dX1_takeItem_77 rfl ?_
    apply V_get (Y := mX1_takeItem) (pc := 78) dX1_takeItem_78 fl_X1_30
    · assumption
    · rfl
    refine V_iconst (Y := mX1_takeItem) (pc := 81) dX1_takeItem_81 ?_
    refine V_icmp_eq (tgt := 87) (Y := mX1_takeItem) (pc := 82) dX1_takeItem_82 (by decide) ⟨by omega, by omega⟩ ⟨by omega, by omega⟩ (fun h_82 => ?_) (fun h_82 => ?_)
    · refine V_aload_n (Y := mX1_takeItem) (pc := 87) dX1_takeItem_87 rfl ?_
      apply V_get (Y := mX1_takeItem) (pc := 88) dX1_takeItem_88 fl_X1_14
      · assumption
      · rfl
      refine V_aload_n (Y := mX1_takeItem) (pc := 91) dX1_takeItem_91 rfl ?_
      apply V_get (Y := mX1_takeItem) (pc := 92) dX1_takeItem_92 fl_X1_23
      · assumption
      · rfl
      apply V_vR (Y := mX1_takeItem) (pc := 95) dX1_takeItem_95 ok_X2_at ov_X2_at ln_X1_61 (c_Row_at (i := s2.1) hb ⟨by omega, by omega⟩)
      · exact hb.obj
      · rfl
      · rfl
      · rfl
      · rfl
      · rfl
      refine V_bipush (Y := mX1_takeItem) (pc := 98) dX1_takeItem_98 ⟨by decide, by decide⟩ ?_
      refine V_isub (Y := mX1_takeItem) (pc := 100) dX1_takeItem_100 ?_
      refine V_istore (Y := mX1_takeItem) (pc := 101) dX1_takeItem_101 rfl ?_
      refine V_aload_n (Y := mX1_takeItem) (pc := 103) dX1_takeItem_103 rfl ?_
      apply V_get (Y := mX1_takeItem) (pc := 104) dX1_takeItem_104 fl_X1_20
      · assumption
      · rfl
      refine V_iload (Y := mX1_takeItem) (pc := 107) dX1_takeItem_107 rfl ?_
      refine V_if_eq (tgt := 118) (Y := mX1_takeItem) (pc := 109) dX1_takeItem_109 (by decide) ⟨by omega, by omega⟩ (fun h_109 => ?_) (fun h_109 => absurd h_109 (by omega))
      refine V_iload (Y := mX1_takeItem) (pc := 118) dX1_takeItem_118 rfl ?_
      apply V_vV (Y := mX1_takeItem) (pc := 120) dX1_takeItem_120 ok_X2_add ov_X2_add ln_X1_58 (c_Row_add (v := rAt lb s2.1 - 48) hc)
      · exact hc.obj
      · rfl
      · rfl
      · rfl
      · rfl
      · rfl
      rintro w_120 ⟨g1, k1⟩
      refine V_iinc (Y := mX1_takeItem) (pc := 123) dX1_takeItem_123 rfl rfl ?_
      refine V_goto (tgt := 15) (Y := mX1_takeItem) (pc := 126) dX1_takeItem_126 (by decide) ?_
      refine V_drop 4 (V_drop 5 (K1 h_82 w_120 ⟨(k1 _ (by omega) (by omega)).trans ho, hb.keep (k1 _ (by omega) (by omega)) (k1 _ (by omega) (by omega)), ?_⟩ (fun j hj => k1 j (by omega) (by omega))))
      exact g1
    · refine V_iconst (Y := mX1_takeItem) (pc := 85) dX1_takeItem_85 ?_
      refine V_zret (ty := .boolean) (Y := mX1_takeItem) (pc := 86) dX1_takeItem_86 rfl rfl (Nat.le_of_ble_eq_true rfl) (Nat.le_of_ble_eq_true rfl) ?_
      exact K0 h_82
  · skip
    refine V_aload_n (Y := mX1_takeItem) (pc := 77) dX1_takeItem_77 rfl ?_
    apply V_get (Y := mX1_takeItem) (pc := 78) dX1_takeItem_78 fl_X1_30
    · assumption
    · rfl
    refine V_iconst (Y := mX1_takeItem) (pc := 81) dX1_takeItem_81 ?_
    refine V_icmp_eq (tgt := 87) (Y := mX1_takeItem) (pc := 82) dX1_takeItem_82 (by decide) ⟨by omega, by omega⟩ ⟨by omega, by omega⟩ (fun h_82 => ?_) (fun h_82 => ?_)
    · refine V_aload_n (Y := mX1_takeItem) (pc := 87) dX1_takeItem_87 rfl ?_
      apply V_get (Y := mX1_takeItem) (pc := 88) dX1_takeItem_88 fl_X1_14
      · assumption
      · rfl
      refine V_aload_n (Y := mX1_takeItem) (pc := 91) dX1_takeItem_91 rfl ?_
      apply V_get (Y := mX1_takeItem) (pc := 92) dX1_takeItem_92 fl_X1_23
      · assumption
      · rfl
      apply V_vR (Y := mX1_takeItem) (pc := 95) dX1_takeItem_95 ok_X2_at ov_X2_at ln_X1_61 (c_Row_at (i := s2.1) hb ⟨by omega, by omega⟩)
      · exact hb.obj
      · rfl
      · rfl
      · rfl
      · rfl
      · rfl
      refine V_bipush (Y := mX1_takeItem) (pc := 98) dX1_takeItem_98 ⟨by decide, by decide⟩ ?_
      refine V_isub (Y := mX1_takeItem) (pc := 100) dX1_takeItem_100 ?_
      refine V_istore (Y := mX1_takeItem) (pc := 101) dX1_takeItem_101 rfl ?_
      refine V_aload_n (Y := mX1_takeItem) (pc := 103) dX1_takeItem_103 rfl ?_
      apply V_get (Y := mX1_takeItem) (pc := 104) dX1_takeItem_104 fl_X1_20
      · assumption
      · rfl
      refine V_iload (Y := mX1_takeItem) (pc := 107) dX1_takeItem_107 rfl ?_
      refine V_if_eq (tgt := 118) (Y := mX1_takeItem) (pc := 109) dX1_takeItem_109 (by decide) ⟨by omega, by omega⟩ (fun h_109 => absurd h_109 (by omega)) (fun h_109 => ?_)
      refine V_iload (Y := mX1_takeItem) (pc := 112) dX1_takeItem_112 rfl ?_
      refine V_ineg (Y := mX1_takeItem) (pc := 114) dX1_takeItem_114 ?_
      refine V_goto (tgt := 120) (Y := mX1_takeItem) (pc := 115) dX1_takeItem_115 (by decide) ?_
      apply V_vV (Y := mX1_takeItem) (pc := 120) dX1_takeItem_120 ok_X2_add ov_X2_add ln_X1_58 (c_Row_add (v := -(rAt lb s2.1 - 48)) hc)
      · exact hc.obj
      · rfl
      · rfl
      · rfl
      · rfl
      · rfl
      rintro w_120 ⟨g1, k1⟩
      refine V_iinc (Y := mX1_takeItem) (pc := 123) dX1_takeItem_123 rfl rfl ?_
      refine V_goto (tgt := 15) (Y := mX1_takeItem) (pc := 126) dX1_takeItem_126 (by decide) ?_
      refine V_drop 4 (V_drop 5 (K1 h_82 w_120 ⟨(k1 _ (by omega) (by omega)).trans ho, hb.keep (k1 _ (by omega) (by omega)) (k1 _ (by omega) (by omega)), ?_⟩ (fun j hj => k1 j (by omega) (by omega))))
      exact g1
    · refine V_iconst (Y := mX1_takeItem) (pc := 85) dX1_takeItem_85 ?_
      refine V_zret (ty := .boolean) (Y := mX1_takeItem) (pc := 86) dX1_takeItem_86 rfl rfl (Nat.le_of_ble_eq_true rfl) (Nat.le_of_ble_eq_true rfl) ?_
      exact K0 h_82
set_option maxRecDepth 100000 in
theorem lp_takeItem {wd : Int} (hwd : inR wd) (hby : byOK lb) {Q : vPost} {r : Int × bM × List Int} (hQ : ∀ w', RdS w' r.2.1 lb r.2.2 → frR w w' → Q (some (vI r.1)) nn w') : ∀ (m : Nat) (k : Int) (s : bM) (lc : List Int) (w' : vWd), 0 ≤ k → k + m = 4 → 0 ≤ s.2.2 → s.2.2 ≤ lb.length → RdS w' s lb lc → frR w w' → tkK lb wd m k s lc = r →
    V mX1_takeItem (rm 7) Q 15 [some (.ref 79), some (vI wd), some (vI (dueN wd)), some (vI k), none, none] [] nn w' 0 0 := by
  intro m
  induction m with
  | zero =>
    intro k s lc w' hk hkm hs hs2 hR hf hr
    have ho := hR.1
    refine V_iload_n (Y := mX1_takeItem) (pc := 15) dX1_takeItem_15 rfl ?_
    refine V_iconst (Y := mX1_takeItem) (pc := 16) dX1_takeItem_16 ?_
    refine V_icmp_ge (tgt := 129) (Y := mX1_takeItem) (pc := 17) dX1_takeItem_17 (by decide) ⟨by omega, by omega⟩ ⟨by omega, by omega⟩ (fun h_17 => ?_) (fun h_17 => absurd h_17 (by omega))
    refine V_aload_n (Y := mX1_takeItem) (pc := 129) dX1_takeItem_129 rfl ?_
    apply V_vV (Y := mX1_takeItem) (pc := 130) dX1_takeItem_130 ok_X1_scan ov_X1_scan ln_X1_44 (c_scan2 hR hby ⟨hs, hs2⟩)
    · assumption
    · rfl
    · rfl
    · rfl
    · rfl
    · rfl
    rintro w_130 ⟨g1, k1⟩
    have o1 := g1.1
    have hq := scn_rng hs hs2
    have hQ2 := hQ w_130 (by rw [← hr]; exact g1) (fun j hj => (k1 j hj).trans (hf j hj))
    refine V_aload_n (Y := mX1_takeItem) (pc := 133) dX1_takeItem_133 rfl ?_
    apply V_get (Y := mX1_takeItem) (pc := 134) dX1_takeItem_134 fl_X1_30
    · assumption
    · rfl
    refine V_iconst (Y := mX1_takeItem) (pc := 137) dX1_takeItem_137 ?_
    refine V_icmp_ne (tgt := 145) (Y := mX1_takeItem) (pc := 138) dX1_takeItem_138 (by decide) ⟨by omega, by omega⟩ ⟨by omega, by omega⟩ (fun h_138 => ?_) (fun h_138 => ?_)
    · refine V_iconst (Y := mX1_takeItem) (pc := 145) dX1_takeItem_145 ?_
      refine V_zret (ty := .boolean) (Y := mX1_takeItem) (pc := 146) dX1_takeItem_146 rfl rfl (Nat.le_of_ble_eq_true rfl) (Nat.le_of_ble_eq_true rfl) ?_
      rw [← hr, tkK] at hQ2
      first
        | (rw [if_pos h_138] at hQ2; exact hQ2)
        | (rw [if_neg h_138] at hQ2; exact hQ2)
    · refine V_iconst (Y := mX1_takeItem) (pc := 141) dX1_takeItem_141 ?_
      refine V_goto (tgt := 146) (Y := mX1_takeItem) (pc := 142) dX1_takeItem_142 (by decide) ?_
      refine V_zret (ty := .boolean) (Y := mX1_takeItem) (pc := 146) dX1_takeItem_146 rfl rfl (Nat.le_of_ble_eq_true rfl) (Nat.le_of_ble_eq_true rfl) ?_
      rw [← hr, tkK] at hQ2
      first
        | (rw [if_pos h_138] at hQ2; exact hQ2)
        | (rw [if_neg h_138] at hQ2; exact hQ2)
  | succ m ih =>
    intro k s lc w' hk hkm hs hs2 hR hf hr
    have ho := hR.1
    have hb := hR.2.1
    have hc := hR.2.2
    have hl := hb.len
    have hq := scn_rng hs hs2
    have hdu : 1 ≤ dueN wd ∧ dueN wd ≤ 4 := by unfold dueN; split; omega; split <;> omega
    rw [tkK] at hr
    have hq2 := scn_rng (l := lb) (p := (scn lb s.2.2).2.2) (by omega) hq.2.2.1.2
    refine V_iload_n (Y := mX1_takeItem) (pc := 15) dX1_takeItem_15 rfl ?_
    refine V_iconst (Y := mX1_takeItem) (pc := 16) dX1_takeItem_16 ?_
    refine V_icmp_ge (tgt := 129) (Y := mX1_takeItem) (pc := 17) dX1_takeItem_17 (by decide) ⟨by omega, by omega⟩ ⟨by omega, by omega⟩ (fun h_17 => absurd h_17 (by omega)) (fun h_17 => ?_)
    refine V_iload_n (Y := mX1_takeItem) (pc := 20) dX1_takeItem_20 rfl ?_
    refine V_iload_n (Y := mX1_takeItem) (pc := 21) dX1_takeItem_21 rfl ?_
    refine V_icmp_lt (tgt := 36) (Y := mX1_takeItem) (pc := 22) dX1_takeItem_22 (by decide) ⟨by omega, by omega⟩ ⟨by omega, by omega⟩ (fun h_22 => ?_) (fun h_22 => ?_)
    · refine V_aload_n (Y := mX1_takeItem) (pc := 36) dX1_takeItem_36 rfl ?_
      apply V_vV (Y := mX1_takeItem) (pc := 37) dX1_takeItem_37 ok_X1_scan ov_X1_scan ln_X1_44 (c_scan2 hR hby ⟨hs, hs2⟩)
      · assumption
      · rfl
      · rfl
      · rfl
      · rfl
      · rfl
      rintro w_37 ⟨g1, k1⟩
      have o1 := g1.1
      have f1 : frR w w_37 := fun j hj => (k1 j hj).trans (hf j hj)
      rw [if_neg (show ¬ dueN wd ≤ k by omega)] at hr
      refine V_iload_n (Y := mX1_takeItem) (pc := 40) dX1_takeItem_40 rfl ?_
      refine V_bipush (Y := mX1_takeItem) (pc := 41) dX1_takeItem_41 ⟨by decide, by decide⟩ ?_
      refine V_icmp_ne (tgt := 65) (Y := mX1_takeItem) (pc := 43) dX1_takeItem_43 (by decide) ⟨by omega, by omega⟩ ⟨by omega, by omega⟩ (fun h_43 => ?_) (fun h_43 => ?_)
      · refine V_iconst (Y := mX1_takeItem) (pc := 65) dX1_takeItem_65 ?_
        refine V_istore (Y := mX1_takeItem) (pc := 66) dX1_takeItem_66 rfl ?_
        refine V_iload (Y := mX1_takeItem) (pc := 68) dX1_takeItem_68 rfl ?_
        refine V_if_eq (tgt := 77) (Y := mX1_takeItem) (pc := 70) dX1_takeItem_70 (by decide) ⟨by omega, by omega⟩ (fun h_70 => ?_) (fun h_70 => ?_)
        · first
            | (exfalso; omega)
            | (rw [if_pos ⟨h_43, h_50, h_58⟩] at hr
               refine lp_take77 (e := 1) hby g2 ⟨by omega, hq2.1.2⟩ hq2.2.1 (Or.inr rfl) (fun h2 => ?_) (fun h2 w'' q1 q2 => ?_)
               · rw [if_neg h2] at hr
                 have hQ2 := hQ w_74 (by rw [← hr]; exact g2) (fun j hj => (k2 j hj).trans (f1 j hj))
                 rw [← hr] at hQ2
                 exact hQ2
               · rw [if_pos h2] at hr
                 exact ih (k + 1) _ _ w'' (by omega) (by omega) (by omega) hq2.2.2.1.2 q1 (fun j hj => (q2 j hj).trans ((k2 j hj).trans (f1 j hj))) hr)
            | (rw [if_neg (by intro q; omega)] at hr
               refine lp_take77 (e := 0) hby g1 ⟨by omega, hq.1.2⟩ hq.2.1 (Or.inl rfl) (fun h2 => ?_) (fun h2 w'' q1 q2 => ?_)
               · rw [if_neg h2] at hr
                 have hQ2 := hQ w_37 (by rw [← hr]; exact g1) f1
                 rw [← hr] at hQ2
                 exact hQ2
               · rw [if_pos h2] at hr
                 exact ih (k + 1) _ _ w'' (by omega) (by omega) (by omega) hq.2.2.1.2 q1 (fun j hj => (q2 j hj).trans (f1 j hj)) hr)
        · refine V_aload_n (Y := mX1_takeItem) (pc := 73) dX1_takeItem_73 rfl ?_
          apply V_vV (Y := mX1_takeItem) (pc := 74) dX1_takeItem_74 ok_X1_scan ov_X1_scan ln_X1_44 (c_scan2 g1 hby ⟨by omega, by omega⟩)
          · assumption
          · rfl
          · rfl
          · rfl
          · rfl
          · rfl
          rintro w_74 ⟨g2, k2⟩
          first
            | (exfalso; omega)
            | (rw [if_pos ⟨h_43, h_50, h_58⟩] at hr
               refine lp_take77 (e := 1) hby g2 ⟨by omega, hq2.1.2⟩ hq2.2.1 (Or.inr rfl) (fun h2 => ?_) (fun h2 w'' q1 q2 => ?_)
               · rw [if_neg h2] at hr
                 have hQ2 := hQ w_74 (by rw [← hr]; exact g2) (fun j hj => (k2 j hj).trans (f1 j hj))
                 rw [← hr] at hQ2
                 exact hQ2
               · rw [if_pos h2] at hr
                 exact ih (k + 1) _ _ w'' (by omega) (by omega) (by omega) hq2.2.2.1.2 q1 (fun j hj => (q2 j hj).trans ((k2 j hj).trans (f1 j hj))) hr)
            | (rw [if_neg (by intro q; omega)] at hr
               refine lp_take77 (e := 0) hby g1 ⟨by omega, hq.1.2⟩ hq.2.1 (Or.inl rfl) (fun h2 => ?_) (fun h2 w'' q1 q2 => ?_)
               · rw [if_neg h2] at hr
                 have hQ2 := hQ w_37 (by rw [← hr]; exact g1) f1
                 rw [← hr] at hQ2
                 exact hQ2
               · rw [if_pos h2] at hr
                 exact ih (k + 1) _ _ w'' (by omega) (by omega) (by omega) hq.2.2.1.2 q1 (fun j hj => (q2 j hj).trans (f1 j hj)) hr)
      · refine V_iload_n (Y := mX1_takeItem) (pc := 46) dX1_takeItem_46 rfl ?_
        refine V_iload_n (Y := mX1_takeItem) (pc := 47) dX1_takeItem_47 rfl ?_
        refine V_iconst (Y := mX1_takeItem) (pc := 48) dX1_takeItem_48 ?_
        refine V_isub (Y := mX1_takeItem) (pc := 49) dX1_takeItem_49 ?_
        refine V_icmp_ne (tgt := 65) (Y := mX1_takeItem) (pc := 50) dX1_takeItem_50 (by decide) ⟨by omega, by omega⟩ ⟨by omega, by omega⟩ (fun h_50 => ?_) (fun h_50 => ?_)
        · refine V_iconst (Y := mX1_takeItem) (pc := 65) dX1_takeItem_65 ?_
          refine V_istore (Y := mX1_takeItem) (pc := 66) dX1_takeItem_66 rfl ?_
          refine V_iload (Y := mX1_takeItem) (pc := 68) dX1_takeItem_68 rfl ?_
          refine V_if_eq (tgt := 77) (Y := mX1_takeItem) (pc := 70) dX1_takeItem_70 (by decide) ⟨by omega, by omega⟩ (fun h_70 => ?_) (fun h_70 => ?_)
          · first
              | (exfalso; omega)
              | (rw [if_pos ⟨h_43, h_50, h_58⟩] at hr
                 refine lp_take77 (e := 1) hby g2 ⟨by omega, hq2.1.2⟩ hq2.2.1 (Or.inr rfl) (fun h2 => ?_) (fun h2 w'' q1 q2 => ?_)
                 · rw [if_neg h2] at hr
                   have hQ2 := hQ w_74 (by rw [← hr]; exact g2) (fun j hj => (k2 j hj).trans (f1 j hj))
                   rw [← hr] at hQ2
                   exact hQ2
                 · rw [if_pos h2] at hr
                   exact ih (k + 1) _ _ w'' (by omega) (by omega) (by omega) hq2.2.2.1.2 q1 (fun j hj => (q2 j hj).trans ((k2 j hj).trans (f1 j hj))) hr)
              | (rw [if_neg (by intro q; omega)] at hr
                 refine lp_take77 (e := 0) hby g1 ⟨by omega, hq.1.2⟩ hq.2.1 (Or.inl rfl) (fun h2 => ?_) (fun h2 w'' q1 q2 => ?_)
                 · rw [if_neg h2] at hr
                   have hQ2 := hQ w_37 (by rw [← hr]; exact g1) f1
                   rw [← hr] at hQ2
                   exact hQ2
                 · rw [if_pos h2] at hr
                   exact ih (k + 1) _ _ w'' (by omega) (by omega) (by omega) hq.2.2.1.2 q1 (fun j hj => (q2 j hj).trans (f1 j hj)) hr)
          · refine V_aload_n (Y := mX1_takeItem) (pc := 73) dX1_takeItem_73 rfl ?_
            apply V_vV (Y := mX1_takeItem) (pc := 74) dX1_takeItem_74 ok_X1_scan ov_X1_scan ln_X1_44 (c_scan2 g1 hby ⟨by omega, by omega⟩)
            · assumption
            · rfl
            · rfl
            · rfl
            · rfl
            · rfl
            rintro w_74 ⟨g2, k2⟩
            first
              | (exfalso; omega)
              | (rw [if_pos ⟨h_43, h_50, h_58⟩] at hr
                 refine lp_take77 (e := 1) hby g2 ⟨by omega, hq2.1.2⟩ hq2.2.1 (Or.inr rfl) (fun h2 => ?_) (fun h2 w'' q1 q2 => ?_)
                 · rw [if_neg h2] at hr
                   have hQ2 := hQ w_74 (by rw [← hr]; exact g2) (fun j hj => (k2 j hj).trans (f1 j hj))
                   rw [← hr] at hQ2
                   exact hQ2
                 · rw [if_pos h2] at hr
                   exact ih (k + 1) _ _ w'' (by omega) (by omega) (by omega) hq2.2.2.1.2 q1 (fun j hj => (q2 j hj).trans ((k2 j hj).trans (f1 j hj))) hr)
              | (rw [if_neg (by intro q; omega)] at hr
                 refine lp_take77 (e := 0) hby g1 ⟨by omega, hq.1.2⟩ hq.2.1 (Or.inl rfl) (fun h2 => ?_) (fun h2 w'' q1 q2 => ?_)
                 · rw [if_neg h2] at hr
                   have hQ2 := hQ w_37 (by rw [← hr]; exact g1) f1
                   rw [← hr] at hQ2
                   exact hQ2
                 · rw [if_pos h2] at hr
                   exact ih (k + 1) _ _ w'' (by omega) (by omega) (by omega) hq.2.2.1.2 q1 (fun j hj => (q2 j hj).trans (f1 j hj)) hr)
        · refine V_aload_n (Y := mX1_takeItem) (pc := 53) dX1_takeItem_53 rfl ?_
          apply V_get (Y := mX1_takeItem) (pc := 54) dX1_takeItem_54 fl_X1_30
          · assumption
          · rfl
          refine V_iconst (Y := mX1_takeItem) (pc := 57) dX1_takeItem_57 ?_
          refine V_icmp_ne (tgt := 65) (Y := mX1_takeItem) (pc := 58) dX1_takeItem_58 (by decide) ⟨by omega, by omega⟩ ⟨by omega, by omega⟩ (fun h_58 => ?_) (fun h_58 => ?_)
          · refine V_iconst (Y := mX1_takeItem) (pc := 65) dX1_takeItem_65 ?_
            refine V_istore (Y := mX1_takeItem) (pc := 66) dX1_takeItem_66 rfl ?_
            refine V_iload (Y := mX1_takeItem) (pc := 68) dX1_takeItem_68 rfl ?_
            refine V_if_eq (tgt := 77) (Y := mX1_takeItem) (pc := 70) dX1_takeItem_70 (by decide) ⟨by omega, by omega⟩ (fun h_70 => ?_) (fun h_70 => ?_)
            · first
                | (exfalso; omega)
                | (rw [if_pos ⟨h_43, h_50, h_58⟩] at hr
                   refine lp_take77 (e := 1) hby g2 ⟨by omega, hq2.1.2⟩ hq2.2.1 (Or.inr rfl) (fun h2 => ?_) (fun h2 w'' q1 q2 => ?_)
                   · rw [if_neg h2] at hr
                     have hQ2 := hQ w_74 (by rw [← hr]; exact g2) (fun j hj => (k2 j hj).trans (f1 j hj))
                     rw [← hr] at hQ2
                     exact hQ2
                   · rw [if_pos h2] at hr
                     exact ih (k + 1) _ _ w'' (by omega) (by omega) (by omega) hq2.2.2.1.2 q1 (fun j hj => (q2 j hj).trans ((k2 j hj).trans (f1 j hj))) hr)
                | (rw [if_neg (by intro q; omega)] at hr
                   refine lp_take77 (e := 0) hby g1 ⟨by omega, hq.1.2⟩ hq.2.1 (Or.inl rfl) (fun h2 => ?_) (fun h2 w'' q1 q2 => ?_)
                   · rw [if_neg h2] at hr
                     have hQ2 := hQ w_37 (by rw [← hr]; exact g1) f1
                     rw [← hr] at hQ2
                     exact hQ2
                   · rw [if_pos h2] at hr
                     exact ih (k + 1) _ _ w'' (by omega) (by omega) (by omega) hq.2.2.1.2 q1 (fun j hj => (q2 j hj).trans (f1 j hj)) hr)
            · refine V_aload_n (Y := mX1_takeItem) (pc := 73) dX1_takeItem_73 rfl ?_
              apply V_vV (Y := mX1_takeItem) (pc := 74) dX1_takeItem_74 ok_X1_scan ov_X1_scan ln_X1_44 (c_scan2 g1 hby ⟨by omega, by omega⟩)
              · assumption
              · rfl
              · rfl
              · rfl
              · rfl
              · rfl
              rintro w_74 ⟨g2, k2⟩
              first
                | (exfalso; omega)
                | (rw [if_pos ⟨h_43, h_50, h_58⟩] at hr
                   refine lp_take77 (e := 1) hby g2 ⟨by omega, hq2.1.2⟩ hq2.2.1 (Or.inr rfl) (fun h2 => ?_) (fun h2 w'' q1 q2 => ?_)
                   · rw [if_neg h2] at hr
                     have hQ2 := hQ w_74 (by rw [← hr]; exact g2) (fun j hj => (k2 j hj).trans (f1 j hj))
                     rw [← hr] at hQ2
                     exact hQ2
                   · rw [if_pos h2] at hr
                     exact ih (k + 1) _ _ w'' (by omega) (by omega) (by omega) hq2.2.2.1.2 q1 (fun j hj => (q2 j hj).trans ((k2 j hj).trans (f1 j hj))) hr)
                | (rw [if_neg (by intro q; omega)] at hr
                   refine lp_take77 (e := 0) hby g1 ⟨by omega, hq.1.2⟩ hq.2.1 (Or.inl rfl) (fun h2 => ?_) (fun h2 w'' q1 q2 => ?_)
                   · rw [if_neg h2] at hr
                     have hQ2 := hQ w_37 (by rw [← hr]; exact g1) f1
                     rw [← hr] at hQ2
                     exact hQ2
                   · rw [if_pos h2] at hr
                     exact ih (k + 1) _ _ w'' (by omega) (by omega) (by omega) hq.2.2.1.2 q1 (fun j hj => (q2 j hj).trans (f1 j hj)) hr)
          · refine V_iconst (Y := mX1_takeItem) (pc := 61) dX1_takeItem_61 ?_
            refine V_goto (tgt := 66) (Y := mX1_takeItem) (pc := 62) dX1_takeItem_62 (by decide) ?_
            refine V_istore (Y := mX1_takeItem) (pc := 66) dX1_takeItem_66 rfl ?_
            refine V_iload (Y := mX1_takeItem) (pc := 68) dX1_takeItem_68 rfl ?_
            refine V_if_eq (tgt := 77) (Y := mX1_takeItem) (pc := 70) dX1_takeItem_70 (by decide) ⟨by omega, by omega⟩ (fun h_70 => ?_) (fun h_70 => ?_)
            · first
                | (exfalso; omega)
                | (rw [if_pos ⟨h_43, h_50, h_58⟩] at hr
                   refine lp_take77 (e := 1) hby g2 ⟨by omega, hq2.1.2⟩ hq2.2.1 (Or.inr rfl) (fun h2 => ?_) (fun h2 w'' q1 q2 => ?_)
                   · rw [if_neg h2] at hr
                     have hQ2 := hQ w_74 (by rw [← hr]; exact g2) (fun j hj => (k2 j hj).trans (f1 j hj))
                     rw [← hr] at hQ2
                     exact hQ2
                   · rw [if_pos h2] at hr
                     exact ih (k + 1) _ _ w'' (by omega) (by omega) (by omega) hq2.2.2.1.2 q1 (fun j hj => (q2 j hj).trans ((k2 j hj).trans (f1 j hj))) hr)
                | (rw [if_neg (by intro q; omega)] at hr
                   refine lp_take77 (e := 0) hby g1 ⟨by omega, hq.1.2⟩ hq.2.1 (Or.inl rfl) (fun h2 => ?_) (fun h2 w'' q1 q2 => ?_)
                   · rw [if_neg h2] at hr
                     have hQ2 := hQ w_37 (by rw [← hr]; exact g1) f1
                     rw [← hr] at hQ2
                     exact hQ2
                   · rw [if_pos h2] at hr
                     exact ih (k + 1) _ _ w'' (by omega) (by omega) (by omega) hq.2.2.1.2 q1 (fun j hj => (q2 j hj).trans (f1 j hj)) hr)
            · refine V_aload_n (Y := mX1_takeItem) (pc := 73) dX1_takeItem_73 rfl ?_
              apply V_vV (Y := mX1_takeItem) (pc := 74) dX1_takeItem_74 ok_X1_scan ov_X1_scan ln_X1_44 (c_scan2 g1 hby ⟨by omega, by omega⟩)
              · assumption
              · rfl
              · rfl
              · rfl
              · rfl
              · rfl
              rintro w_74 ⟨g2, k2⟩
              first
                | (exfalso; omega)
                | (rw [if_pos ⟨h_43, h_50, h_58⟩] at hr
                   refine lp_take77 (e := 1) hby g2 ⟨by omega, hq2.1.2⟩ hq2.2.1 (Or.inr rfl) (fun h2 => ?_) (fun h2 w'' q1 q2 => ?_)
                   · rw [if_neg h2] at hr
                     have hQ2 := hQ w_74 (by rw [← hr]; exact g2) (fun j hj => (k2 j hj).trans (f1 j hj))
                     rw [← hr] at hQ2
                     exact hQ2
                   · rw [if_pos h2] at hr
                     exact ih (k + 1) _ _ w'' (by omega) (by omega) (by omega) hq2.2.2.1.2 q1 (fun j hj => (q2 j hj).trans ((k2 j hj).trans (f1 j hj))) hr)
                | (rw [if_neg (by intro q; omega)] at hr
                   refine lp_take77 (e := 0) hby g1 ⟨by omega, hq.1.2⟩ hq.2.1 (Or.inl rfl) (fun h2 => ?_) (fun h2 w'' q1 q2 => ?_)
                   · rw [if_neg h2] at hr
                     have hQ2 := hQ w_37 (by rw [← hr]; exact g1) f1
                     rw [← hr] at hQ2
                     exact hQ2
                   · rw [if_pos h2] at hr
                     exact ih (k + 1) _ _ w'' (by omega) (by omega) (by omega) hq.2.2.1.2 q1 (fun j hj => (q2 j hj).trans (f1 j hj)) hr)
    · refine V_aload_n (Y := mX1_takeItem) (pc := 25) dX1_takeItem_25 rfl ?_
      apply V_get (Y := mX1_takeItem) (pc := 26) dX1_takeItem_26 fl_X1_20
      · assumption
      · rfl
      refine V_iconst (Y := mX1_takeItem) (pc := 29) dX1_takeItem_29 ?_
      apply V_vV (Y := mX1_takeItem) (pc := 30) dX1_takeItem_30 ok_X2_add ov_X2_add ln_X1_58 (c_Row_add (v := 0) hc)
      · exact hc.obj
      · rfl
      · rfl
      · rfl
      · rfl
      · rfl
      rintro w_30 ⟨g1, k1⟩
      refine V_goto (tgt := 123) (Y := mX1_takeItem) (pc := 33) dX1_takeItem_33 (by decide) ?_
      refine V_iinc (Y := mX1_takeItem) (pc := 123) dX1_takeItem_123 rfl rfl ?_
      refine V_goto (tgt := 15) (Y := mX1_takeItem) (pc := 126) dX1_takeItem_126 (by decide) ?_
      rw [if_pos (show dueN wd ≤ k by omega)] at hr
      exact ih (k + 1) s _ w_30 (by omega) (by omega) hs hs2 ⟨(k1 _ (by omega) (by omega)).trans ho, hb.keep (k1 _ (by omega) (by omega)) (k1 _ (by omega) (by omega)), g1⟩ (fun j hj => (k1 j (by omega) (by omega)).trans (hf j hj)) hr
set_option maxRecDepth 100000 in
theorem c_takeItem {wd : Int} {s : bM} (h : RdS w s lb lc) (hwd : inR wd) (hby : byOK lb) (hnx : 0 ≤ s.2.2 ∧ s.2.2 ≤ lb.length) : Ctr mX1_takeItem (rm 7) [.ref 79, vI wd] nn w (pI (fun z w' => z = (tkK lb wd 4 0 s (rAdd 1000 lc wd)).1 ∧ RdS w' (tkK lb wd 4 0 s (rAdd 1000 lc wd)).2.1 lb (tkK lb wd 4 0 s (rAdd 1000 lc wd)).2.2 ∧ frR w w') nn) := by
  refine Ctr_of (lv := [some (.ref 79), some (vI wd), none, none, none, none]) (by decide +kernel) rfl rfl ?_
  obtain ⟨ho, hb, hc⟩ := h
  have hdu : (if wd = 6 then (4 : Int) else if wd = 8 then 2 else 1) = dueN wd := rfl
  refine V_iload_n (Y := mX1_takeItem) (pc := 0) dX1_takeItem_0 rfl ?_
  apply V_sR (Y := mX1_takeItem) (pc := 1) dX1_takeItem_1 ok_X1_numbersOf os_X1_numbersOf ln_X1_54 (c_numbersOf (b := wd) hwd)
  · rfl
  · rfl
  · rfl
  rw [hdu]
  refine V_istore_n (Y := mX1_takeItem) (pc := 4) dX1_takeItem_4 rfl ?_
  refine V_aload_n (Y := mX1_takeItem) (pc := 5) dX1_takeItem_5 rfl ?_
  apply V_get (Y := mX1_takeItem) (pc := 6) dX1_takeItem_6 fl_X1_20
  · assumption
  · rfl
  refine V_iload_n (Y := mX1_takeItem) (pc := 9) dX1_takeItem_9 rfl ?_
  apply V_vV (Y := mX1_takeItem) (pc := 10) dX1_takeItem_10 ok_X2_add ov_X2_add ln_X1_58 (c_Row_add (v := wd) hc)
  · exact hc.obj
  · rfl
  · rfl
  · rfl
  · rfl
  · rfl
  rintro w_10 ⟨g1, k1⟩
  refine V_iconst (Y := mX1_takeItem) (pc := 13) dX1_takeItem_13 ?_
  refine V_istore_n (Y := mX1_takeItem) (pc := 14) dX1_takeItem_14 rfl ?_
  exact lp_takeItem (w := w) (r := tkK lb wd 4 0 s (rAdd 1000 lc wd)) hwd hby (fun w' q1 q2 => pI_of ⟨rfl, q1, q2⟩) 4 0 s _ w_10 (by omega) (by omega) hnx.1 hnx.2 ⟨(k1 _ (by omega) (by omega)).trans ho, hb.keep (k1 _ (by omega) (by omega)) (k1 _ (by omega) (by omega)), g1⟩ (fun j hj => k1 j (by omega) (by omega)) rfl
set_option maxRecDepth 100000 in
theorem lp_faultIn (hby : byOK lb) {Q : vPost} {r : Int × bM × List Int} (hQ : ∀ w', RdS w' r.2.1 lb r.2.2 → frR w w' → Q (some (vI r.1)) nn w') : ∀ (m : Nat) (i : Int) (s : bM) (lc : List Int) (w' : vWd), 0 ≤ i → i + m = lb.length + 1 → 0 ≤ s.2.2 → s.2.2 ≤ lb.length → lcOK lc → RdS w' s lb lc → frR w w' → ftK lb m s lc = r →
    V mX1_faultIn (rm 8) Q 22 [some (.ref 79), some (.ref 77), some (vI i), none] [] nn w' 0 0 := by
  intro m
  induction m with
  | zero =>
    intro i s lc w' hi him hs hs2 hlco hR hf hr
    have ho := hR.1
    have hb := hR.2.1
    have hl := hb.len
    have hr : (s.1, s, lc) = r := hr
    refine V_iload_n (Y := mX1_faultIn) (pc := 22) dX1_faultIn_22 rfl ?_
    refine V_aload_n (Y := mX1_faultIn) (pc := 23) dX1_faultIn_23 rfl ?_
    apply V_get (Y := mX1_faultIn) (pc := 24) dX1_faultIn_24 fl_X1_14
    · assumption
    · rfl
    apply V_vR (Y := mX1_faultIn) (pc := 27) dX1_faultIn_27 ok_X2_size ov_X2_size ln_X1_33 (c_Row_size hb)
    · exact hb.obj
    · rfl
    · rfl
    · rfl
    · rfl
    · rfl
    refine V_icmp_gt (tgt := 116) (Y := mX1_faultIn) (pc := 30) dX1_faultIn_30 (by decide) ⟨by omega, by omega⟩ ⟨by omega, by omega⟩ (fun h_30 => ?_) (fun h_30 => absurd h_30 (by omega))
    refine V_aload_n (Y := mX1_faultIn) (pc := 116) dX1_faultIn_116 rfl ?_
    apply V_get (Y := mX1_faultIn) (pc := 117) dX1_faultIn_117 fl_X1_23
    · assumption
    · rfl
    refine V_iret (Y := mX1_faultIn) (pc := 120) dX1_faultIn_120 rfl (Nat.le_of_ble_eq_true rfl) (Nat.le_of_ble_eq_true rfl) ?_
    rw [← hr] at hQ
    exact hQ w' hR hf
  | succ m ih =>
    intro i s lc w' hi him hs hs2 hlco hR hf hr
    have ho := hR.1
    have hb := hR.2.1
    have hl := hb.len
    have hlc := hR.2.2.len
    have hq := scn_rng hs hs2
    rw [ftK] at hr
    refine V_iload_n (Y := mX1_faultIn) (pc := 22) dX1_faultIn_22 rfl ?_
    refine V_aload_n (Y := mX1_faultIn) (pc := 23) dX1_faultIn_23 rfl ?_
    apply V_get (Y := mX1_faultIn) (pc := 24) dX1_faultIn_24 fl_X1_14
    · assumption
    · rfl
    apply V_vR (Y := mX1_faultIn) (pc := 27) dX1_faultIn_27 ok_X2_size ov_X2_size ln_X1_33 (c_Row_size hb)
    · exact hb.obj
    · rfl
    · rfl
    · rfl
    · rfl
    · rfl
    refine V_icmp_gt (tgt := 116) (Y := mX1_faultIn) (pc := 30) dX1_faultIn_30 (by decide) ⟨by omega, by omega⟩ ⟨by omega, by omega⟩ (fun h_30 => absurd h_30 (by omega)) (fun h_30 => ?_)
    refine V_aload_n (Y := mX1_faultIn) (pc := 33) dX1_faultIn_33 rfl ?_
    apply V_vV (Y := mX1_faultIn) (pc := 34) dX1_faultIn_34 ok_X1_scan ov_X1_scan ln_X1_44 (c_scan2 hR hby ⟨hs, hs2⟩)
    · assumption
    · rfl
    · rfl
    · rfl
    · rfl
    · rfl
    rintro w_34 ⟨g1, k1⟩
    have o1 := g1.1
    have f1 : frR w w_34 := fun j hj => (k1 j hj).trans (hf j hj)
    refine V_aload_n (Y := mX1_faultIn) (pc := 37) dX1_faultIn_37 rfl ?_
    apply V_get (Y := mX1_faultIn) (pc := 38) dX1_faultIn_38 fl_X1_30
    · assumption
    · rfl
    refine V_if_ne (tgt := 53) (Y := mX1_faultIn) (pc := 41) dX1_faultIn_41 (by decide) ⟨by omega, by omega⟩ (fun h_41 => ?_) (fun h_41 => ?_)
    · refine V_aload_n (Y := mX1_faultIn) (pc := 53) dX1_faultIn_53 rfl ?_
      apply V_vR (Y := mX1_faultIn) (pc := 54) dX1_faultIn_54 ok_X1_items ov_X1_items ln_X1_47 (c_items o1 g1.2.2)
      · assumption
      · rfl
      · rfl
      · rfl
      · rfl
      · rfl
      refine V_if_ne (tgt := 76) (Y := mX1_faultIn) (pc := 57) dX1_faultIn_57 (by decide) ⟨by omega, by omega⟩ (fun h_57 => ?_) (fun h_57 => ?_)
      · refine V_aload_n (Y := mX1_faultIn) (pc := 76) dX1_faultIn_76 rfl ?_
        apply V_get (Y := mX1_faultIn) (pc := 77) dX1_faultIn_77 fl_X1_30
        · assumption
        · rfl
        refine V_iconst (Y := mX1_faultIn) (pc := 80) dX1_faultIn_80 ?_
        refine V_icmp_le (tgt := 88) (Y := mX1_faultIn) (pc := 81) dX1_faultIn_81 (by decide) ⟨by omega, by omega⟩ ⟨by omega, by omega⟩ (fun h_81 => ?_) (fun h_81 => ?_)
        · refine V_iconst (Y := mX1_faultIn) (pc := 88) dX1_faultIn_88 ?_
          refine V_istore_n (Y := mX1_faultIn) (pc := 89) dX1_faultIn_89 rfl ?_
          refine V_iload_n (Y := mX1_faultIn) (pc := 90) dX1_faultIn_90 rfl ?_
          refine V_if_eq (tgt := 105) (Y := mX1_faultIn) (pc := 91) dX1_faultIn_91 (by decide) ⟨by omega, by omega⟩ (fun h_91 => ?_) (fun h_91 => ?_)
          · refine V_aload_n (Y := mX1_faultIn) (pc := 105) dX1_faultIn_105 rfl ?_
            apply V_get (Y := mX1_faultIn) (pc := 106) dX1_faultIn_106 fl_X1_23
            · assumption
            · rfl
            refine V_iret (Y := mX1_faultIn) (pc := 109) dX1_faultIn_109 rfl (Nat.le_of_ble_eq_true rfl) (Nat.le_of_ble_eq_true rfl) ?_
            first
              | (exfalso; omega)
              | (rw [if_neg (by omega), if_neg (by omega)] at hr
                 rw [← hr] at hQ
                 exact hQ w_34 g1 f1)
              | (rw [if_neg (by omega), if_pos (by omega), if_pos (by omega)] at hr
                 rw [← hr] at hQ
                 exact hQ w_99 g2 f2)
          · refine V_aload_n (Y := mX1_faultIn) (pc := 94) dX1_faultIn_94 rfl ?_
            refine V_aload_n (Y := mX1_faultIn) (pc := 95) dX1_faultIn_95 rfl ?_
            apply V_get (Y := mX1_faultIn) (pc := 96) dX1_faultIn_96 fl_X1_30
            · assumption
            · rfl
            apply V_vI (Y := mX1_faultIn) (pc := 99) dX1_faultIn_99 ok_X1_takeItem ov_X1_takeItem ln_X1_50 (c_takeItem (wd := (scn lb s.2.2).2.1) g1 ⟨by omega, by omega⟩ hby ⟨by omega, hq.2.2.1.2⟩)
            · assumption
            · rfl
            · rfl
            · rfl
            · rfl
            · rfl
            rintro z_99 w_99 ⟨hz, g2, k2⟩
            have o2 := g2.1
            have f2 : frR w w_99 := fun j hj => (k2 j hj).trans (f1 j hj)
            have hz01 := tkK_01 lb (scn lb s.2.2).2.1 4 0 (scn lb s.2.2) (rAdd 1000 lc (scn lb s.2.2).2.1)
            have hzr := tkK_rng hby (scn lb s.2.2).2.1 4 0 (scn lb s.2.2) (rAdd 1000 lc (scn lb s.2.2).2.1) (by omega) hq.2.2.1.2 (hlco.add ⟨by omega, by omega⟩)
            refine V_if_ne (tgt := 110) (Y := mX1_faultIn) (pc := 102) dX1_faultIn_102 (by decide) ⟨by omega, by omega⟩ (fun h_102 => ?_) (fun h_102 => ?_)
            · refine V_iinc (Y := mX1_faultIn) (pc := 110) dX1_faultIn_110 rfl rfl ?_
              refine V_goto (tgt := 22) (Y := mX1_faultIn) (pc := 113) dX1_faultIn_113 (by decide) ?_
              first
                | (exfalso; omega)
                | (rw [if_neg (by omega), if_pos (by omega), if_neg (by omega)] at hr
                   refine V_drop 3 ?_
                   exact ih (i + 1) _ _ w_99 (by omega) (by omega) hzr.2.1.1 hzr.2.1.2 hzr.2.2 g2 f2 hr)
            · refine V_aload_n (Y := mX1_faultIn) (pc := 105) dX1_faultIn_105 rfl ?_
              apply V_get (Y := mX1_faultIn) (pc := 106) dX1_faultIn_106 fl_X1_23
              · assumption
              · rfl
              refine V_iret (Y := mX1_faultIn) (pc := 109) dX1_faultIn_109 rfl (Nat.le_of_ble_eq_true rfl) (Nat.le_of_ble_eq_true rfl) ?_
              first
                | (exfalso; omega)
                | (rw [if_neg (by omega), if_neg (by omega)] at hr
                   rw [← hr] at hQ
                   exact hQ w_34 g1 f1)
                | (rw [if_neg (by omega), if_pos (by omega), if_pos (by omega)] at hr
                   rw [← hr] at hQ
                   exact hQ w_99 g2 f2)
        · refine V_iconst (Y := mX1_faultIn) (pc := 84) dX1_faultIn_84 ?_
          refine V_goto (tgt := 89) (Y := mX1_faultIn) (pc := 85) dX1_faultIn_85 (by decide) ?_
          refine V_istore_n (Y := mX1_faultIn) (pc := 89) dX1_faultIn_89 rfl ?_
          refine V_iload_n (Y := mX1_faultIn) (pc := 90) dX1_faultIn_90 rfl ?_
          refine V_if_eq (tgt := 105) (Y := mX1_faultIn) (pc := 91) dX1_faultIn_91 (by decide) ⟨by omega, by omega⟩ (fun h_91 => ?_) (fun h_91 => ?_)
          · refine V_aload_n (Y := mX1_faultIn) (pc := 105) dX1_faultIn_105 rfl ?_
            apply V_get (Y := mX1_faultIn) (pc := 106) dX1_faultIn_106 fl_X1_23
            · assumption
            · rfl
            refine V_iret (Y := mX1_faultIn) (pc := 109) dX1_faultIn_109 rfl (Nat.le_of_ble_eq_true rfl) (Nat.le_of_ble_eq_true rfl) ?_
            first
              | (exfalso; omega)
              | (rw [if_neg (by omega), if_neg (by omega)] at hr
                 rw [← hr] at hQ
                 exact hQ w_34 g1 f1)
              | (rw [if_neg (by omega), if_pos (by omega), if_pos (by omega)] at hr
                 rw [← hr] at hQ
                 exact hQ w_99 g2 f2)
          · refine V_aload_n (Y := mX1_faultIn) (pc := 94) dX1_faultIn_94 rfl ?_
            refine V_aload_n (Y := mX1_faultIn) (pc := 95) dX1_faultIn_95 rfl ?_
            apply V_get (Y := mX1_faultIn) (pc := 96) dX1_faultIn_96 fl_X1_30
            · assumption
            · rfl
            apply V_vI (Y := mX1_faultIn) (pc := 99) dX1_faultIn_99 ok_X1_takeItem ov_X1_takeItem ln_X1_50 (c_takeItem (wd := (scn lb s.2.2).2.1) g1 ⟨by omega, by omega⟩ hby ⟨by omega, hq.2.2.1.2⟩)
            · assumption
            · rfl
            · rfl
            · rfl
            · rfl
            · rfl
            rintro z_99 w_99 ⟨hz, g2, k2⟩
            have o2 := g2.1
            have f2 : frR w w_99 := fun j hj => (k2 j hj).trans (f1 j hj)
            have hz01 := tkK_01 lb (scn lb s.2.2).2.1 4 0 (scn lb s.2.2) (rAdd 1000 lc (scn lb s.2.2).2.1)
            have hzr := tkK_rng hby (scn lb s.2.2).2.1 4 0 (scn lb s.2.2) (rAdd 1000 lc (scn lb s.2.2).2.1) (by omega) hq.2.2.1.2 (hlco.add ⟨by omega, by omega⟩)
            refine V_if_ne (tgt := 110) (Y := mX1_faultIn) (pc := 102) dX1_faultIn_102 (by decide) ⟨by omega, by omega⟩ (fun h_102 => ?_) (fun h_102 => ?_)
            · refine V_iinc (Y := mX1_faultIn) (pc := 110) dX1_faultIn_110 rfl rfl ?_
              refine V_goto (tgt := 22) (Y := mX1_faultIn) (pc := 113) dX1_faultIn_113 (by decide) ?_
              first
                | (exfalso; omega)
                | (rw [if_neg (by omega), if_pos (by omega), if_neg (by omega)] at hr
                   refine V_drop 3 ?_
                   exact ih (i + 1) _ _ w_99 (by omega) (by omega) hzr.2.1.1 hzr.2.1.2 hzr.2.2 g2 f2 hr)
            · refine V_aload_n (Y := mX1_faultIn) (pc := 105) dX1_faultIn_105 rfl ?_
              apply V_get (Y := mX1_faultIn) (pc := 106) dX1_faultIn_106 fl_X1_23
              · assumption
              · rfl
              refine V_iret (Y := mX1_faultIn) (pc := 109) dX1_faultIn_109 rfl (Nat.le_of_ble_eq_true rfl) (Nat.le_of_ble_eq_true rfl) ?_
              first
                | (exfalso; omega)
                | (rw [if_neg (by omega), if_neg (by omega)] at hr
                   rw [← hr] at hQ
                   exact hQ w_34 g1 f1)
                | (rw [if_neg (by omega), if_pos (by omega), if_pos (by omega)] at hr
                   rw [← hr] at hQ
                   exact hQ w_99 g2 f2)
      · refine V_aload_n (Y := mX1_faultIn) (pc := 60) dX1_faultIn_60 rfl ?_
        apply V_get (Y := mX1_faultIn) (pc := 61) dX1_faultIn_61 fl_X1_30
        · assumption
        · rfl
        refine V_iconst (Y := mX1_faultIn) (pc := 64) dX1_faultIn_64 ?_
        refine V_icmp_ne (tgt := 72) (Y := mX1_faultIn) (pc := 65) dX1_faultIn_65 (by decide) ⟨by omega, by omega⟩ ⟨by omega, by omega⟩ (fun h_65 => ?_) (fun h_65 => ?_)
        · refine V_iconst (Y := mX1_faultIn) (pc := 72) dX1_faultIn_72 ?_
          refine V_goto (tgt := 89) (Y := mX1_faultIn) (pc := 73) dX1_faultIn_73 (by decide) ?_
          refine V_istore_n (Y := mX1_faultIn) (pc := 89) dX1_faultIn_89 rfl ?_
          refine V_iload_n (Y := mX1_faultIn) (pc := 90) dX1_faultIn_90 rfl ?_
          refine V_if_eq (tgt := 105) (Y := mX1_faultIn) (pc := 91) dX1_faultIn_91 (by decide) ⟨by omega, by omega⟩ (fun h_91 => ?_) (fun h_91 => ?_)
          · refine V_aload_n (Y := mX1_faultIn) (pc := 105) dX1_faultIn_105 rfl ?_
            apply V_get (Y := mX1_faultIn) (pc := 106) dX1_faultIn_106 fl_X1_23
            · assumption
            · rfl
            refine V_iret (Y := mX1_faultIn) (pc := 109) dX1_faultIn_109 rfl (Nat.le_of_ble_eq_true rfl) (Nat.le_of_ble_eq_true rfl) ?_
            first
              | (exfalso; omega)
              | (rw [if_neg (by omega), if_neg (by omega)] at hr
                 rw [← hr] at hQ
                 exact hQ w_34 g1 f1)
              | (rw [if_neg (by omega), if_pos (by omega), if_pos (by omega)] at hr
                 rw [← hr] at hQ
                 exact hQ w_99 g2 f2)
          · refine V_aload_n (Y := mX1_faultIn) (pc := 94) dX1_faultIn_94 rfl ?_
            refine V_aload_n (Y := mX1_faultIn) (pc := 95) dX1_faultIn_95 rfl ?_
            apply V_get (Y := mX1_faultIn) (pc := 96) dX1_faultIn_96 fl_X1_30
            · assumption
            · rfl
            apply V_vI (Y := mX1_faultIn) (pc := 99) dX1_faultIn_99 ok_X1_takeItem ov_X1_takeItem ln_X1_50 (c_takeItem (wd := (scn lb s.2.2).2.1) g1 ⟨by omega, by omega⟩ hby ⟨by omega, hq.2.2.1.2⟩)
            · assumption
            · rfl
            · rfl
            · rfl
            · rfl
            · rfl
            rintro z_99 w_99 ⟨hz, g2, k2⟩
            have o2 := g2.1
            have f2 : frR w w_99 := fun j hj => (k2 j hj).trans (f1 j hj)
            have hz01 := tkK_01 lb (scn lb s.2.2).2.1 4 0 (scn lb s.2.2) (rAdd 1000 lc (scn lb s.2.2).2.1)
            have hzr := tkK_rng hby (scn lb s.2.2).2.1 4 0 (scn lb s.2.2) (rAdd 1000 lc (scn lb s.2.2).2.1) (by omega) hq.2.2.1.2 (hlco.add ⟨by omega, by omega⟩)
            refine V_if_ne (tgt := 110) (Y := mX1_faultIn) (pc := 102) dX1_faultIn_102 (by decide) ⟨by omega, by omega⟩ (fun h_102 => ?_) (fun h_102 => ?_)
            · refine V_iinc (Y := mX1_faultIn) (pc := 110) dX1_faultIn_110 rfl rfl ?_
              refine V_goto (tgt := 22) (Y := mX1_faultIn) (pc := 113) dX1_faultIn_113 (by decide) ?_
              first
                | (exfalso; omega)
                | (rw [if_neg (by omega), if_pos (by omega), if_neg (by omega)] at hr
                   refine V_drop 3 ?_
                   exact ih (i + 1) _ _ w_99 (by omega) (by omega) hzr.2.1.1 hzr.2.1.2 hzr.2.2 g2 f2 hr)
            · refine V_aload_n (Y := mX1_faultIn) (pc := 105) dX1_faultIn_105 rfl ?_
              apply V_get (Y := mX1_faultIn) (pc := 106) dX1_faultIn_106 fl_X1_23
              · assumption
              · rfl
              refine V_iret (Y := mX1_faultIn) (pc := 109) dX1_faultIn_109 rfl (Nat.le_of_ble_eq_true rfl) (Nat.le_of_ble_eq_true rfl) ?_
              first
                | (exfalso; omega)
                | (rw [if_neg (by omega), if_neg (by omega)] at hr
                   rw [← hr] at hQ
                   exact hQ w_34 g1 f1)
                | (rw [if_neg (by omega), if_pos (by omega), if_pos (by omega)] at hr
                   rw [← hr] at hQ
                   exact hQ w_99 g2 f2)
        · refine V_iconst (Y := mX1_faultIn) (pc := 68) dX1_faultIn_68 ?_
          refine V_goto (tgt := 89) (Y := mX1_faultIn) (pc := 69) dX1_faultIn_69 (by decide) ?_
          refine V_istore_n (Y := mX1_faultIn) (pc := 89) dX1_faultIn_89 rfl ?_
          refine V_iload_n (Y := mX1_faultIn) (pc := 90) dX1_faultIn_90 rfl ?_
          refine V_if_eq (tgt := 105) (Y := mX1_faultIn) (pc := 91) dX1_faultIn_91 (by decide) ⟨by omega, by omega⟩ (fun h_91 => ?_) (fun h_91 => ?_)
          · refine V_aload_n (Y := mX1_faultIn) (pc := 105) dX1_faultIn_105 rfl ?_
            apply V_get (Y := mX1_faultIn) (pc := 106) dX1_faultIn_106 fl_X1_23
            · assumption
            · rfl
            refine V_iret (Y := mX1_faultIn) (pc := 109) dX1_faultIn_109 rfl (Nat.le_of_ble_eq_true rfl) (Nat.le_of_ble_eq_true rfl) ?_
            first
              | (exfalso; omega)
              | (rw [if_neg (by omega), if_neg (by omega)] at hr
                 rw [← hr] at hQ
                 exact hQ w_34 g1 f1)
              | (rw [if_neg (by omega), if_pos (by omega), if_pos (by omega)] at hr
                 rw [← hr] at hQ
                 exact hQ w_99 g2 f2)
          · refine V_aload_n (Y := mX1_faultIn) (pc := 94) dX1_faultIn_94 rfl ?_
            refine V_aload_n (Y := mX1_faultIn) (pc := 95) dX1_faultIn_95 rfl ?_
            apply V_get (Y := mX1_faultIn) (pc := 96) dX1_faultIn_96 fl_X1_30
            · assumption
            · rfl
            apply V_vI (Y := mX1_faultIn) (pc := 99) dX1_faultIn_99 ok_X1_takeItem ov_X1_takeItem ln_X1_50 (c_takeItem (wd := (scn lb s.2.2).2.1) g1 ⟨by omega, by omega⟩ hby ⟨by omega, hq.2.2.1.2⟩)
            · assumption
            · rfl
            · rfl
            · rfl
            · rfl
            · rfl
            rintro z_99 w_99 ⟨hz, g2, k2⟩
            have o2 := g2.1
            have f2 : frR w w_99 := fun j hj => (k2 j hj).trans (f1 j hj)
            have hz01 := tkK_01 lb (scn lb s.2.2).2.1 4 0 (scn lb s.2.2) (rAdd 1000 lc (scn lb s.2.2).2.1)
            have hzr := tkK_rng hby (scn lb s.2.2).2.1 4 0 (scn lb s.2.2) (rAdd 1000 lc (scn lb s.2.2).2.1) (by omega) hq.2.2.1.2 (hlco.add ⟨by omega, by omega⟩)
            refine V_if_ne (tgt := 110) (Y := mX1_faultIn) (pc := 102) dX1_faultIn_102 (by decide) ⟨by omega, by omega⟩ (fun h_102 => ?_) (fun h_102 => ?_)
            · refine V_iinc (Y := mX1_faultIn) (pc := 110) dX1_faultIn_110 rfl rfl ?_
              refine V_goto (tgt := 22) (Y := mX1_faultIn) (pc := 113) dX1_faultIn_113 (by decide) ?_
              first
                | (exfalso; omega)
                | (rw [if_neg (by omega), if_pos (by omega), if_neg (by omega)] at hr
                   refine V_drop 3 ?_
                   exact ih (i + 1) _ _ w_99 (by omega) (by omega) hzr.2.1.1 hzr.2.1.2 hzr.2.2 g2 f2 hr)
            · refine V_aload_n (Y := mX1_faultIn) (pc := 105) dX1_faultIn_105 rfl ?_
              apply V_get (Y := mX1_faultIn) (pc := 106) dX1_faultIn_106 fl_X1_23
              · assumption
              · rfl
              refine V_iret (Y := mX1_faultIn) (pc := 109) dX1_faultIn_109 rfl (Nat.le_of_ble_eq_true rfl) (Nat.le_of_ble_eq_true rfl) ?_
              first
                | (exfalso; omega)
                | (rw [if_neg (by omega), if_neg (by omega)] at hr
                   rw [← hr] at hQ
                   exact hQ w_34 g1 f1)
                | (rw [if_neg (by omega), if_pos (by omega), if_pos (by omega)] at hr
                   rw [← hr] at hQ
                   exact hQ w_99 g2 f2)
    · refine V_aload_n (Y := mX1_faultIn) (pc := 44) dX1_faultIn_44 rfl ?_
      apply V_vR (Y := mX1_faultIn) (pc := 45) dX1_faultIn_45 ok_X1_items ov_X1_items ln_X1_47 (c_items o1 g1.2.2)
      · assumption
      · rfl
      · rfl
      · rfl
      · rfl
      · rfl
      refine V_if_le (tgt := 53) (Y := mX1_faultIn) (pc := 48) dX1_faultIn_48 (by decide) ⟨by omega, by omega⟩ (fun h_48 => ?_) (fun h_48 => ?_)
      · refine V_aload_n (Y := mX1_faultIn) (pc := 53) dX1_faultIn_53 rfl ?_
        apply V_vR (Y := mX1_faultIn) (pc := 54) dX1_faultIn_54 ok_X1_items ov_X1_items ln_X1_47 (c_items o1 g1.2.2)
        · assumption
        · rfl
        · rfl
        · rfl
        · rfl
        · rfl
        refine V_if_ne (tgt := 76) (Y := mX1_faultIn) (pc := 57) dX1_faultIn_57 (by decide) ⟨by omega, by omega⟩ (fun h_57 => ?_) (fun h_57 => ?_)
        · refine V_aload_n (Y := mX1_faultIn) (pc := 76) dX1_faultIn_76 rfl ?_
          apply V_get (Y := mX1_faultIn) (pc := 77) dX1_faultIn_77 fl_X1_30
          · assumption
          · rfl
          refine V_iconst (Y := mX1_faultIn) (pc := 80) dX1_faultIn_80 ?_
          refine V_icmp_le (tgt := 88) (Y := mX1_faultIn) (pc := 81) dX1_faultIn_81 (by decide) ⟨by omega, by omega⟩ ⟨by omega, by omega⟩ (fun h_81 => ?_) (fun h_81 => ?_)
          · refine V_iconst (Y := mX1_faultIn) (pc := 88) dX1_faultIn_88 ?_
            refine V_istore_n (Y := mX1_faultIn) (pc := 89) dX1_faultIn_89 rfl ?_
            refine V_iload_n (Y := mX1_faultIn) (pc := 90) dX1_faultIn_90 rfl ?_
            refine V_if_eq (tgt := 105) (Y := mX1_faultIn) (pc := 91) dX1_faultIn_91 (by decide) ⟨by omega, by omega⟩ (fun h_91 => ?_) (fun h_91 => ?_)
            · refine V_aload_n (Y := mX1_faultIn) (pc := 105) dX1_faultIn_105 rfl ?_
              apply V_get (Y := mX1_faultIn) (pc := 106) dX1_faultIn_106 fl_X1_23
              · assumption
              · rfl
              refine V_iret (Y := mX1_faultIn) (pc := 109) dX1_faultIn_109 rfl (Nat.le_of_ble_eq_true rfl) (Nat.le_of_ble_eq_true rfl) ?_
              first
                | (exfalso; omega)
                | (rw [if_neg (by omega), if_neg (by omega)] at hr
                   rw [← hr] at hQ
                   exact hQ w_34 g1 f1)
                | (rw [if_neg (by omega), if_pos (by omega), if_pos (by omega)] at hr
                   rw [← hr] at hQ
                   exact hQ w_99 g2 f2)
            · refine V_aload_n (Y := mX1_faultIn) (pc := 94) dX1_faultIn_94 rfl ?_
              refine V_aload_n (Y := mX1_faultIn) (pc := 95) dX1_faultIn_95 rfl ?_
              apply V_get (Y := mX1_faultIn) (pc := 96) dX1_faultIn_96 fl_X1_30
              · assumption
              · rfl
              apply V_vI (Y := mX1_faultIn) (pc := 99) dX1_faultIn_99 ok_X1_takeItem ov_X1_takeItem ln_X1_50 (c_takeItem (wd := (scn lb s.2.2).2.1) g1 ⟨by omega, by omega⟩ hby ⟨by omega, hq.2.2.1.2⟩)
              · assumption
              · rfl
              · rfl
              · rfl
              · rfl
              · rfl
              rintro z_99 w_99 ⟨hz, g2, k2⟩
              have o2 := g2.1
              have f2 : frR w w_99 := fun j hj => (k2 j hj).trans (f1 j hj)
              have hz01 := tkK_01 lb (scn lb s.2.2).2.1 4 0 (scn lb s.2.2) (rAdd 1000 lc (scn lb s.2.2).2.1)
              have hzr := tkK_rng hby (scn lb s.2.2).2.1 4 0 (scn lb s.2.2) (rAdd 1000 lc (scn lb s.2.2).2.1) (by omega) hq.2.2.1.2 (hlco.add ⟨by omega, by omega⟩)
              refine V_if_ne (tgt := 110) (Y := mX1_faultIn) (pc := 102) dX1_faultIn_102 (by decide) ⟨by omega, by omega⟩ (fun h_102 => ?_) (fun h_102 => ?_)
              · refine V_iinc (Y := mX1_faultIn) (pc := 110) dX1_faultIn_110 rfl rfl ?_
                refine V_goto (tgt := 22) (Y := mX1_faultIn) (pc := 113) dX1_faultIn_113 (by decide) ?_
                first
                  | (exfalso; omega)
                  | (rw [if_neg (by omega), if_pos (by omega), if_neg (by omega)] at hr
                     refine V_drop 3 ?_
                     exact ih (i + 1) _ _ w_99 (by omega) (by omega) hzr.2.1.1 hzr.2.1.2 hzr.2.2 g2 f2 hr)
              · refine V_aload_n (Y := mX1_faultIn) (pc := 105) dX1_faultIn_105 rfl ?_
                apply V_get (Y := mX1_faultIn) (pc := 106) dX1_faultIn_106 fl_X1_23
                · assumption
                · rfl
                refine V_iret (Y := mX1_faultIn) (pc := 109) dX1_faultIn_109 rfl (Nat.le_of_ble_eq_true rfl) (Nat.le_of_ble_eq_true rfl) ?_
                first
                  | (exfalso; omega)
                  | (rw [if_neg (by omega), if_neg (by omega)] at hr
                     rw [← hr] at hQ
                     exact hQ w_34 g1 f1)
                  | (rw [if_neg (by omega), if_pos (by omega), if_pos (by omega)] at hr
                     rw [← hr] at hQ
                     exact hQ w_99 g2 f2)
          · refine V_iconst (Y := mX1_faultIn) (pc := 84) dX1_faultIn_84 ?_
            refine V_goto (tgt := 89) (Y := mX1_faultIn) (pc := 85) dX1_faultIn_85 (by decide) ?_
            refine V_istore_n (Y := mX1_faultIn) (pc := 89) dX1_faultIn_89 rfl ?_
            refine V_iload_n (Y := mX1_faultIn) (pc := 90) dX1_faultIn_90 rfl ?_
            refine V_if_eq (tgt := 105) (Y := mX1_faultIn) (pc := 91) dX1_faultIn_91 (by decide) ⟨by omega, by omega⟩ (fun h_91 => ?_) (fun h_91 => ?_)
            · refine V_aload_n (Y := mX1_faultIn) (pc := 105) dX1_faultIn_105 rfl ?_
              apply V_get (Y := mX1_faultIn) (pc := 106) dX1_faultIn_106 fl_X1_23
              · assumption
              · rfl
              refine V_iret (Y := mX1_faultIn) (pc := 109) dX1_faultIn_109 rfl (Nat.le_of_ble_eq_true rfl) (Nat.le_of_ble_eq_true rfl) ?_
              first
                | (exfalso; omega)
                | (rw [if_neg (by omega), if_neg (by omega)] at hr
                   rw [← hr] at hQ
                   exact hQ w_34 g1 f1)
                | (rw [if_neg (by omega), if_pos (by omega), if_pos (by omega)] at hr
                   rw [← hr] at hQ
                   exact hQ w_99 g2 f2)
            · refine V_aload_n (Y := mX1_faultIn) (pc := 94) dX1_faultIn_94 rfl ?_
              refine V_aload_n (Y := mX1_faultIn) (pc := 95) dX1_faultIn_95 rfl ?_
              apply V_get (Y := mX1_faultIn) (pc := 96) dX1_faultIn_96 fl_X1_30
              · assumption
              · rfl
              apply V_vI (Y := mX1_faultIn) (pc := 99) dX1_faultIn_99 ok_X1_takeItem ov_X1_takeItem ln_X1_50 (c_takeItem (wd := (scn lb s.2.2).2.1) g1 ⟨by omega, by omega⟩ hby ⟨by omega, hq.2.2.1.2⟩)
              · assumption
              · rfl
              · rfl
              · rfl
              · rfl
              · rfl
              rintro z_99 w_99 ⟨hz, g2, k2⟩
              have o2 := g2.1
              have f2 : frR w w_99 := fun j hj => (k2 j hj).trans (f1 j hj)
              have hz01 := tkK_01 lb (scn lb s.2.2).2.1 4 0 (scn lb s.2.2) (rAdd 1000 lc (scn lb s.2.2).2.1)
              have hzr := tkK_rng hby (scn lb s.2.2).2.1 4 0 (scn lb s.2.2) (rAdd 1000 lc (scn lb s.2.2).2.1) (by omega) hq.2.2.1.2 (hlco.add ⟨by omega, by omega⟩)
              refine V_if_ne (tgt := 110) (Y := mX1_faultIn) (pc := 102) dX1_faultIn_102 (by decide) ⟨by omega, by omega⟩ (fun h_102 => ?_) (fun h_102 => ?_)
              · refine V_iinc (Y := mX1_faultIn) (pc := 110) dX1_faultIn_110 rfl rfl ?_
                refine V_goto (tgt := 22) (Y := mX1_faultIn) (pc := 113) dX1_faultIn_113 (by decide) ?_
                first
                  | (exfalso; omega)
                  | (rw [if_neg (by omega), if_pos (by omega), if_neg (by omega)] at hr
                     refine V_drop 3 ?_
                     exact ih (i + 1) _ _ w_99 (by omega) (by omega) hzr.2.1.1 hzr.2.1.2 hzr.2.2 g2 f2 hr)
              · refine V_aload_n (Y := mX1_faultIn) (pc := 105) dX1_faultIn_105 rfl ?_
                apply V_get (Y := mX1_faultIn) (pc := 106) dX1_faultIn_106 fl_X1_23
                · assumption
                · rfl
                refine V_iret (Y := mX1_faultIn) (pc := 109) dX1_faultIn_109 rfl (Nat.le_of_ble_eq_true rfl) (Nat.le_of_ble_eq_true rfl) ?_
                first
                  | (exfalso; omega)
                  | (rw [if_neg (by omega), if_neg (by omega)] at hr
                     rw [← hr] at hQ
                     exact hQ w_34 g1 f1)
                  | (rw [if_neg (by omega), if_pos (by omega), if_pos (by omega)] at hr
                     rw [← hr] at hQ
                     exact hQ w_99 g2 f2)
        · refine V_aload_n (Y := mX1_faultIn) (pc := 60) dX1_faultIn_60 rfl ?_
          apply V_get (Y := mX1_faultIn) (pc := 61) dX1_faultIn_61 fl_X1_30
          · assumption
          · rfl
          refine V_iconst (Y := mX1_faultIn) (pc := 64) dX1_faultIn_64 ?_
          refine V_icmp_ne (tgt := 72) (Y := mX1_faultIn) (pc := 65) dX1_faultIn_65 (by decide) ⟨by omega, by omega⟩ ⟨by omega, by omega⟩ (fun h_65 => ?_) (fun h_65 => ?_)
          · refine V_iconst (Y := mX1_faultIn) (pc := 72) dX1_faultIn_72 ?_
            refine V_goto (tgt := 89) (Y := mX1_faultIn) (pc := 73) dX1_faultIn_73 (by decide) ?_
            refine V_istore_n (Y := mX1_faultIn) (pc := 89) dX1_faultIn_89 rfl ?_
            refine V_iload_n (Y := mX1_faultIn) (pc := 90) dX1_faultIn_90 rfl ?_
            refine V_if_eq (tgt := 105) (Y := mX1_faultIn) (pc := 91) dX1_faultIn_91 (by decide) ⟨by omega, by omega⟩ (fun h_91 => ?_) (fun h_91 => ?_)
            · refine V_aload_n (Y := mX1_faultIn) (pc := 105) dX1_faultIn_105 rfl ?_
              apply V_get (Y := mX1_faultIn) (pc := 106) dX1_faultIn_106 fl_X1_23
              · assumption
              · rfl
              refine V_iret (Y := mX1_faultIn) (pc := 109) dX1_faultIn_109 rfl (Nat.le_of_ble_eq_true rfl) (Nat.le_of_ble_eq_true rfl) ?_
              first
                | (exfalso; omega)
                | (rw [if_neg (by omega), if_neg (by omega)] at hr
                   rw [← hr] at hQ
                   exact hQ w_34 g1 f1)
                | (rw [if_neg (by omega), if_pos (by omega), if_pos (by omega)] at hr
                   rw [← hr] at hQ
                   exact hQ w_99 g2 f2)
            · refine V_aload_n (Y := mX1_faultIn) (pc := 94) dX1_faultIn_94 rfl ?_
              refine V_aload_n (Y := mX1_faultIn) (pc := 95) dX1_faultIn_95 rfl ?_
              apply V_get (Y := mX1_faultIn) (pc := 96) dX1_faultIn_96 fl_X1_30
              · assumption
              · rfl
              apply V_vI (Y := mX1_faultIn) (pc := 99) dX1_faultIn_99 ok_X1_takeItem ov_X1_takeItem ln_X1_50 (c_takeItem (wd := (scn lb s.2.2).2.1) g1 ⟨by omega, by omega⟩ hby ⟨by omega, hq.2.2.1.2⟩)
              · assumption
              · rfl
              · rfl
              · rfl
              · rfl
              · rfl
              rintro z_99 w_99 ⟨hz, g2, k2⟩
              have o2 := g2.1
              have f2 : frR w w_99 := fun j hj => (k2 j hj).trans (f1 j hj)
              have hz01 := tkK_01 lb (scn lb s.2.2).2.1 4 0 (scn lb s.2.2) (rAdd 1000 lc (scn lb s.2.2).2.1)
              have hzr := tkK_rng hby (scn lb s.2.2).2.1 4 0 (scn lb s.2.2) (rAdd 1000 lc (scn lb s.2.2).2.1) (by omega) hq.2.2.1.2 (hlco.add ⟨by omega, by omega⟩)
              refine V_if_ne (tgt := 110) (Y := mX1_faultIn) (pc := 102) dX1_faultIn_102 (by decide) ⟨by omega, by omega⟩ (fun h_102 => ?_) (fun h_102 => ?_)
              · refine V_iinc (Y := mX1_faultIn) (pc := 110) dX1_faultIn_110 rfl rfl ?_
                refine V_goto (tgt := 22) (Y := mX1_faultIn) (pc := 113) dX1_faultIn_113 (by decide) ?_
                first
                  | (exfalso; omega)
                  | (rw [if_neg (by omega), if_pos (by omega), if_neg (by omega)] at hr
                     refine V_drop 3 ?_
                     exact ih (i + 1) _ _ w_99 (by omega) (by omega) hzr.2.1.1 hzr.2.1.2 hzr.2.2 g2 f2 hr)
              · refine V_aload_n (Y := mX1_faultIn) (pc := 105) dX1_faultIn_105 rfl ?_
                apply V_get (Y := mX1_faultIn) (pc := 106) dX1_faultIn_106 fl_X1_23
                · assumption
                · rfl
                refine V_iret (Y := mX1_faultIn) (pc := 109) dX1_faultIn_109 rfl (Nat.le_of_ble_eq_true rfl) (Nat.le_of_ble_eq_true rfl) ?_
                first
                  | (exfalso; omega)
                  | (rw [if_neg (by omega), if_neg (by omega)] at hr
                     rw [← hr] at hQ
                     exact hQ w_34 g1 f1)
                  | (rw [if_neg (by omega), if_pos (by omega), if_pos (by omega)] at hr
                     rw [← hr] at hQ
                     exact hQ w_99 g2 f2)
          · refine V_iconst (Y := mX1_faultIn) (pc := 68) dX1_faultIn_68 ?_
            refine V_goto (tgt := 89) (Y := mX1_faultIn) (pc := 69) dX1_faultIn_69 (by decide) ?_
            refine V_istore_n (Y := mX1_faultIn) (pc := 89) dX1_faultIn_89 rfl ?_
            refine V_iload_n (Y := mX1_faultIn) (pc := 90) dX1_faultIn_90 rfl ?_
            refine V_if_eq (tgt := 105) (Y := mX1_faultIn) (pc := 91) dX1_faultIn_91 (by decide) ⟨by omega, by omega⟩ (fun h_91 => ?_) (fun h_91 => ?_)
            · refine V_aload_n (Y := mX1_faultIn) (pc := 105) dX1_faultIn_105 rfl ?_
              apply V_get (Y := mX1_faultIn) (pc := 106) dX1_faultIn_106 fl_X1_23
              · assumption
              · rfl
              refine V_iret (Y := mX1_faultIn) (pc := 109) dX1_faultIn_109 rfl (Nat.le_of_ble_eq_true rfl) (Nat.le_of_ble_eq_true rfl) ?_
              first
                | (exfalso; omega)
                | (rw [if_neg (by omega), if_neg (by omega)] at hr
                   rw [← hr] at hQ
                   exact hQ w_34 g1 f1)
                | (rw [if_neg (by omega), if_pos (by omega), if_pos (by omega)] at hr
                   rw [← hr] at hQ
                   exact hQ w_99 g2 f2)
            · refine V_aload_n (Y := mX1_faultIn) (pc := 94) dX1_faultIn_94 rfl ?_
              refine V_aload_n (Y := mX1_faultIn) (pc := 95) dX1_faultIn_95 rfl ?_
              apply V_get (Y := mX1_faultIn) (pc := 96) dX1_faultIn_96 fl_X1_30
              · assumption
              · rfl
              apply V_vI (Y := mX1_faultIn) (pc := 99) dX1_faultIn_99 ok_X1_takeItem ov_X1_takeItem ln_X1_50 (c_takeItem (wd := (scn lb s.2.2).2.1) g1 ⟨by omega, by omega⟩ hby ⟨by omega, hq.2.2.1.2⟩)
              · assumption
              · rfl
              · rfl
              · rfl
              · rfl
              · rfl
              rintro z_99 w_99 ⟨hz, g2, k2⟩
              have o2 := g2.1
              have f2 : frR w w_99 := fun j hj => (k2 j hj).trans (f1 j hj)
              have hz01 := tkK_01 lb (scn lb s.2.2).2.1 4 0 (scn lb s.2.2) (rAdd 1000 lc (scn lb s.2.2).2.1)
              have hzr := tkK_rng hby (scn lb s.2.2).2.1 4 0 (scn lb s.2.2) (rAdd 1000 lc (scn lb s.2.2).2.1) (by omega) hq.2.2.1.2 (hlco.add ⟨by omega, by omega⟩)
              refine V_if_ne (tgt := 110) (Y := mX1_faultIn) (pc := 102) dX1_faultIn_102 (by decide) ⟨by omega, by omega⟩ (fun h_102 => ?_) (fun h_102 => ?_)
              · refine V_iinc (Y := mX1_faultIn) (pc := 110) dX1_faultIn_110 rfl rfl ?_
                refine V_goto (tgt := 22) (Y := mX1_faultIn) (pc := 113) dX1_faultIn_113 (by decide) ?_
                first
                  | (exfalso; omega)
                  | (rw [if_neg (by omega), if_pos (by omega), if_neg (by omega)] at hr
                     refine V_drop 3 ?_
                     exact ih (i + 1) _ _ w_99 (by omega) (by omega) hzr.2.1.1 hzr.2.1.2 hzr.2.2 g2 f2 hr)
              · refine V_aload_n (Y := mX1_faultIn) (pc := 105) dX1_faultIn_105 rfl ?_
                apply V_get (Y := mX1_faultIn) (pc := 106) dX1_faultIn_106 fl_X1_23
                · assumption
                · rfl
                refine V_iret (Y := mX1_faultIn) (pc := 109) dX1_faultIn_109 rfl (Nat.le_of_ble_eq_true rfl) (Nat.le_of_ble_eq_true rfl) ?_
                first
                  | (exfalso; omega)
                  | (rw [if_neg (by omega), if_neg (by omega)] at hr
                     rw [← hr] at hQ
                     exact hQ w_34 g1 f1)
                  | (rw [if_neg (by omega), if_pos (by omega), if_pos (by omega)] at hr
                     rw [← hr] at hQ
                     exact hQ w_99 g2 f2)
      · refine V_iconst (Y := mX1_faultIn) (pc := 51) dX1_faultIn_51 ?_
        refine V_iret (Y := mX1_faultIn) (pc := 52) dX1_faultIn_52 rfl (Nat.le_of_ble_eq_true rfl) (Nat.le_of_ble_eq_true rfl) ?_
        first
          | (exfalso; omega)
          | (rw [if_pos (by omega)] at hr
             rw [← hr] at hQ
             exact hQ w_34 g1 f1)
set_option maxRecDepth 100000 in
theorem c_faultIn {tx : List Int} (ho : w 79 = some (rO pl nx tk)) (hb : RowAt w 80 200 lb) (hc : RowAt w 82 1000 lc) (ht : RowAt w 77 200 tx) (hby : byOK tx) : Ctr mX1_faultIn (rm 8) [.ref 79, .ref 77] nn w (pI (fun z w' => z = (ftK tx (tx.length + 1) (0, 0, 0) []).1 ∧ RdS w' (ftK tx (tx.length + 1) (0, 0, 0) []).2.1 tx (ftK tx (tx.length + 1) (0, 0, 0) []).2.2 ∧ frR w w') nn) := by
  refine Ctr_of (lv := [some (.ref 79), some (.ref 77), none, none]) (by decide +kernel) rfl rfl ?_
  have hl := ht.len
  refine V_aload_n (Y := mX1_faultIn) (pc := 0) dX1_faultIn_0 rfl ?_
  apply V_get (Y := mX1_faultIn) (pc := 1) dX1_faultIn_1 fl_X1_14
  · assumption
  · rfl
  refine V_aload_n (Y := mX1_faultIn) (pc := 4) dX1_faultIn_4 rfl ?_
  apply V_vV (Y := mX1_faultIn) (pc := 5) dX1_faultIn_5 ok_X2_copyFrom ov_X2_copyFrom ln_X1_37 (c_Row_copyFrom hb ht ⟨by omega, by omega, by omega⟩)
  · exact hb.obj
  · rfl
  · rfl
  · rfl
  · rfl
  · rfl
  rintro w_5 ⟨g1, k1⟩
  rw [List.take_of_length_le hl.1] at g1
  have o1 := (k1 79 (by omega) (by omega)).trans ho
  have c1 := hc.keep (w' := w_5) (k1 _ (by omega) (by omega)) (k1 _ (by omega) (by omega))
  refine V_aload_n (Y := mX1_faultIn) (pc := 8) dX1_faultIn_8 rfl ?_
  apply V_get (Y := mX1_faultIn) (pc := 9) dX1_faultIn_9 fl_X1_20
  · assumption
  · rfl
  apply V_vV (Y := mX1_faultIn) (pc := 12) dX1_faultIn_12 ok_X2_drop ov_X2_drop ln_X1_41 (c_Row_drop c1)
  · exact c1.obj
  · rfl
  · rfl
  · rfl
  · rfl
  · rfl
  rintro w_12 ⟨g2, k2⟩
  have o2 := (k2 79 (by omega) (by omega)).trans o1
  have g1b := g1.keep (w' := w_12) (k2 _ (by omega) (by omega)) (k2 _ (by omega) (by omega))
  refine V_aload_n (Y := mX1_faultIn) (pc := 15) dX1_faultIn_15 rfl ?_
  refine V_iconst (Y := mX1_faultIn) (pc := 16) dX1_faultIn_16 ?_
  apply V_putiW (Y := mX1_faultIn) (pc := 17) dX1_faultIn_17 fl_X1_27
  · assumption
  · exact Nat.le_of_ble_eq_true rfl
  intro w_17 h_17 f_17
  simp only [List.set_cons_zero, List.set_cons_succ] at h_17
  refine V_iconst (Y := mX1_faultIn) (pc := 20) dX1_faultIn_20 ?_
  refine V_istore_n (Y := mX1_faultIn) (pc := 21) dX1_faultIn_21 rfl ?_
  refine lp_faultIn (w := w) (r := ftK tx (tx.length + 1) (pl, tk, 0) []) hby (fun w' q1 q2 => pI_of ⟨rfl, q1, q2⟩) (tx.length + 1) 0 (pl, tk, 0) [] w_17 (by omega) (by omega) (by show (0 : Int) ≤ 0; omega) (by show (0 : Int) ≤ (tx.length : Int); omega) (fun j => by rw [rAt_out (by simp; omega)]; omega) ⟨h_17, g1b.keep (f_17 _ (by omega)) (f_17 _ (by omega)), g2.keep (f_17 _ (by omega)) (f_17 _ (by omega))⟩ (fun j hj => (f_17 j (by omega)).trans ((k2 j (by omega) (by omega)).trans (k1 j (by omega) (by omega)))) rfl
/-- an item told -/
def fTell (lc : List Int) (a : Int) (S : vSt) : Int × vSt := if rAt lc a = 5 then fWall S (rAt lc (a + 1)) else if rAt lc a = 6 then fCord S (rAt lc (a + 1)) (rAt lc (a + 2)) (rAt lc (a + 3)) (rAt lc (a + 4)) else if rAt lc a = 7 then fCatch S (rAt lc (a + 1)) 1 else if rAt lc a = 8 then fGood S (rAt lc (a + 1)) (rAt lc (a + 2)) else fOrder S (rAt lc (a + 1))
theorem fTell_good {S : vSt} (h : vGood S) (lc : List Int) (a : Int) : vGood (fTell lc a S).2 := by
  obtain ⟨n, now, ca, po, fo, rs⟩ := S
  unfold fTell
  split
  · exact h.wall _
  · split
    · exact h.cord _ _ _ _
    · split
      · exact h.catch1 _ _
      · split
        · exact h.good1 _ _
        · exact h.order1 _
theorem fTell_rng {S : vSt} (h : vGood S) (h1 : (S.2.2.2.2.2 1).length ≤ 100) (h5 : (S.2.2.2.2.2 5).length ≤ 100) (lc : List Int) (a : Int) : -4 ≤ (fTell lc a S).1 ∧ (fTell lc a S).1 ≤ 100 := by
  obtain ⟨n, now, ca, po, fo, rs⟩ := S
  obtain ⟨hn, hnow, hca, hpo, hfo, hgd, hcv, hor, hsg, hpast⟩ := h.un
  have h1 : (rs 1).length ≤ 100 := h1
  have h5 : (rs 5).length ≤ 100 := h5
  unfold fTell
  split
  · unfold fWall
    split
    · show -4 ≤ (-2 : Int) ∧ (-2 : Int) ≤ 100; omega
    · show -4 ≤ n ∧ n ≤ 100; omega
  · split
    · unfold fCord
      split
      · show -4 ≤ (-2 : Int) ∧ (-2 : Int) ≤ 100; omega
      · split
        · show -4 ≤ (-4 : Int) ∧ (-4 : Int) ≤ 100; omega
        · show -4 ≤ ((rs 1).length : Int) ∧ ((rs 1).length : Int) ≤ 100; omega
    · split
      · unfold fCatch
        split
        · show -4 ≤ (-2 : Int) ∧ (-2 : Int) ≤ 100; omega
        · split
          · show -4 ≤ (-3 : Int) ∧ (-3 : Int) ≤ 100; omega
          · show -4 ≤ (1 : Int) ∧ (1 : Int) ≤ 100; omega
      · split
        · unfold fGood
          split
          · show -4 ≤ (-2 : Int) ∧ (-2 : Int) ≤ 100; omega
          · rename_i hd
            have hd := (Decidable.byContradiction hd).1
            have := hgd.2 _ hd.1 hd.2
            show -4 ≤ rAt (rs 0) (rAt lc (a + 1)) ∧ rAt (rs 0) (rAt lc (a + 1)) ≤ 100
            omega
        · unfold fOrder
          split
          · show -4 ≤ (-2 : Int) ∧ (-2 : Int) ≤ 100; omega
          · split
            · show -4 ≤ (-4 : Int) ∧ (-4 : Int) ≤ 100; omega
            · show -4 ≤ ((rs 5).length : Int) ∧ ((rs 5).length : Int) ≤ 100; omega
set_option maxRecDepth 100000 in
theorem c_tell {n now a : Int} {ca po fo : Nat} {rs : Nat → List Int} (ho : w 79 = some (rO pl nx tk)) (hc : RowAt w 82 1000 lc) (hlc : lcOK lc) (hW : WallAt w 20 (n, now, ca, po, fo, rs)) (hG : vGood (n, now, ca, po, fo, rs)) (ha : 0 ≤ a ∧ a ≤ 1000) (hwd : rAt lc a = 5 ∨ rAt lc a = 6 ∨ rAt lc a = 7 ∨ rAt lc a = 8 ∨ rAt lc a = 9) : Ctr mX1_tell (rm 2) [.ref 79, .ref 20, vI a] nn w (pI (fun z w' => z = (fTell lc a (n, now, ca, po, fo, rs)).1 ∧ WallAt w' 20 (fTell lc a (n, now, ca, po, fo, rs)).2 ∧ frW 20 w w') nn) := by
  refine Ctr_of (lv := [some (.ref 79), some (.ref 20), some (vI a), none, none]) (by decide +kernel) rfl rfl ?_
  obtain ⟨hn, hnow, hca, hpo, hfo, hgd, hcv, hor, hsg, hpast⟩ := hG.un
  have hn7 : 0 ≤ n ∧ n ≤ 7 := ⟨by omega, by omega⟩
  have oW := hW.obj
  have b1 := hlc (a + 1)
  have b2 := hlc (a + 2)
  have b3 := hlc (a + 3)
  have b4 := hlc (a + 4)
  refine V_aload_n (Y := mX1_tell) (pc := 0) dX1_tell_0 rfl ?_
  apply V_get (Y := mX1_tell) (pc := 1) dX1_tell_1 fl_X1_20
  · assumption
  · rfl
  refine V_iload_n (Y := mX1_tell) (pc := 4) dX1_tell_4 rfl ?_
  refine V_iconst (Y := mX1_tell) (pc := 5) dX1_tell_5 ?_
  refine V_iadd (Y := mX1_tell) (pc := 6) dX1_tell_6 ?_
  apply V_vR (Y := mX1_tell) (pc := 7) dX1_tell_7 ok_X2_at ov_X2_at ln_X1_61 (c_Row_at (i := a + 1) hc ⟨by omega, by omega⟩)
  · exact hc.obj
  · rfl
  · rfl
  · rfl
  · rfl
  · rfl
  refine V_istore_n (Y := mX1_tell) (pc := 10) dX1_tell_10 rfl ?_
  refine V_aload_n (Y := mX1_tell) (pc := 11) dX1_tell_11 rfl ?_
  apply V_get (Y := mX1_tell) (pc := 12) dX1_tell_12 fl_X1_20
  · assumption
  · rfl
  refine V_iload_n (Y := mX1_tell) (pc := 15) dX1_tell_15 rfl ?_
  refine V_iconst (Y := mX1_tell) (pc := 16) dX1_tell_16 ?_
  refine V_iadd (Y := mX1_tell) (pc := 17) dX1_tell_17 ?_
  apply V_vR (Y := mX1_tell) (pc := 18) dX1_tell_18 ok_X2_at ov_X2_at ln_X1_61 (c_Row_at (i := a + 2) hc ⟨by omega, by omega⟩)
  · exact hc.obj
  · rfl
  · rfl
  · rfl
  · rfl
  · rfl
  refine V_istore (Y := mX1_tell) (pc := 21) dX1_tell_21 rfl ?_
  refine V_aload_n (Y := mX1_tell) (pc := 23) dX1_tell_23 rfl ?_
  apply V_get (Y := mX1_tell) (pc := 24) dX1_tell_24 fl_X1_20
  · assumption
  · rfl
  refine V_iload_n (Y := mX1_tell) (pc := 27) dX1_tell_27 rfl ?_
  apply V_vR (Y := mX1_tell) (pc := 28) dX1_tell_28 ok_X2_at ov_X2_at ln_X1_61 (c_Row_at (i := a) hc ⟨by omega, by omega⟩)
  · exact hc.obj
  · rfl
  · rfl
  · rfl
  · rfl
  · rfl
  rcases (hwd) with e_31 | e_31 | e_31 | e_31 | e_31
  · rw [e_31]
    refine V_tableIn (off := 29) (tgt := 60) (Y := mX1_tell) (pc := 31) dX1_tell_31 ⟨by decide, by decide⟩ (by decide) (by decide) rfl (by decide) ?_
    refine V_aload_n (Y := mX1_tell) (pc := 60) dX1_tell_60 rfl ?_
    refine V_iload_n (Y := mX1_tell) (pc := 61) dX1_tell_61 rfl ?_
    apply V_vI (Y := mX1_tell) (pc := 62) dX1_tell_62 ok_X4_tellDrawers ov_X4_tellDrawers ln_X1_106 (c_tellDrawers (k := rAt lc (a + 1)) hW ⟨by omega, by omega⟩)
    · assumption
    · rfl
    · rfl
    · rfl
    · rfl
    · rfl
    rintro z_62 w_62 hres
    refine V_iret (Y := mX1_tell) (pc := 65) dX1_tell_65 rfl (Nat.le_of_ble_eq_true rfl) (Nat.le_of_ble_eq_true rfl) ?_
    rw [show fTell lc a (n, now, ca, po, fo, rs) = fWall (n, now, ca, po, fo, rs) (rAt lc (a + 1)) from if_pos e_31]
    exact pI_of hres
  · rw [e_31]
    refine V_tableIn (off := 35) (tgt := 66) (Y := mX1_tell) (pc := 31) dX1_tell_31 ⟨by decide, by decide⟩ (by decide) (by decide) rfl (by decide) ?_
    refine V_aload_n (Y := mX1_tell) (pc := 66) dX1_tell_66 rfl ?_
    refine V_iload_n (Y := mX1_tell) (pc := 67) dX1_tell_67 rfl ?_
    refine V_iload (Y := mX1_tell) (pc := 68) dX1_tell_68 rfl ?_
    refine V_aload_n (Y := mX1_tell) (pc := 70) dX1_tell_70 rfl ?_
    apply V_get (Y := mX1_tell) (pc := 71) dX1_tell_71 fl_X1_20
    · assumption
    · rfl
    refine V_iload_n (Y := mX1_tell) (pc := 74) dX1_tell_74 rfl ?_
    refine V_iconst (Y := mX1_tell) (pc := 75) dX1_tell_75 ?_
    refine V_iadd (Y := mX1_tell) (pc := 76) dX1_tell_76 ?_
    apply V_vR (Y := mX1_tell) (pc := 77) dX1_tell_77 ok_X2_at ov_X2_at ln_X1_61 (c_Row_at (i := a + 3) hc ⟨by omega, by omega⟩)
    · exact hc.obj
    · rfl
    · rfl
    · rfl
    · rfl
    · rfl
    refine V_aload_n (Y := mX1_tell) (pc := 80) dX1_tell_80 rfl ?_
    apply V_get (Y := mX1_tell) (pc := 81) dX1_tell_81 fl_X1_20
    · assumption
    · rfl
    refine V_iload_n (Y := mX1_tell) (pc := 84) dX1_tell_84 rfl ?_
    refine V_iconst (Y := mX1_tell) (pc := 85) dX1_tell_85 ?_
    refine V_iadd (Y := mX1_tell) (pc := 86) dX1_tell_86 ?_
    apply V_vR (Y := mX1_tell) (pc := 87) dX1_tell_87 ok_X2_at ov_X2_at ln_X1_61 (c_Row_at (i := a + 4) hc ⟨by omega, by omega⟩)
    · exact hc.obj
    · rfl
    · rfl
    · rfl
    · rfl
    · rfl
    apply V_vI (Y := mX1_tell) (pc := 90) dX1_tell_90 ok_X4_tellCord ov_X4_tellCord ln_X1_111 (c_tellCord (a := rAt lc (a + 1)) (b := rAt lc (a + 2)) (k := rAt lc (a + 3)) (v := rAt lc (a + 4)) hW hn7 hcv.1 ⟨by omega, by omega⟩ ⟨by omega, by omega⟩ ⟨by omega, by omega⟩ ⟨by omega, by omega⟩)
    · assumption
    · rfl
    · rfl
    · rfl
    · rfl
    · rfl
    rintro z_90 w_90 hres
    refine V_iret (Y := mX1_tell) (pc := 93) dX1_tell_93 rfl (Nat.le_of_ble_eq_true rfl) (Nat.le_of_ble_eq_true rfl) ?_
    rw [show fTell lc a (n, now, ca, po, fo, rs) = fCord (n, now, ca, po, fo, rs) (rAt lc (a + 1)) (rAt lc (a + 2)) (rAt lc (a + 3)) (rAt lc (a + 4)) from (if_neg (by omega)).trans (if_pos e_31)]
    exact pI_of hres
  · rw [e_31]
    refine V_tableIn (off := 63) (tgt := 94) (Y := mX1_tell) (pc := 31) dX1_tell_31 ⟨by decide, by decide⟩ (by decide) (by decide) rfl (by decide) ?_
    refine V_aload_n (Y := mX1_tell) (pc := 94) dX1_tell_94 rfl ?_
    refine V_iload_n (Y := mX1_tell) (pc := 95) dX1_tell_95 rfl ?_
    refine V_iconst (Y := mX1_tell) (pc := 96) dX1_tell_96 ?_
    apply V_vI (Y := mX1_tell) (pc := 97) dX1_tell_97 ok_X4_tellCatch ov_X4_tellCatch ln_X1_115 (c_tellCatch (d := rAt lc (a + 1)) (z := 1) hW hn7 hca ⟨by omega, by omega⟩ (Or.inr rfl))
    · assumption
    · rfl
    · rfl
    · rfl
    · rfl
    · rfl
    rintro z_97 w_97 hres
    refine V_iret (Y := mX1_tell) (pc := 100) dX1_tell_100 rfl (Nat.le_of_ble_eq_true rfl) (Nat.le_of_ble_eq_true rfl) ?_
    rw [show fTell lc a (n, now, ca, po, fo, rs) = fCatch (n, now, ca, po, fo, rs) (rAt lc (a + 1)) 1 from (if_neg (by omega)).trans ((if_neg (by omega)).trans (if_pos e_31))]
    exact pI_of hres
  · rw [e_31]
    refine V_tableIn (off := 70) (tgt := 101) (Y := mX1_tell) (pc := 31) dX1_tell_31 ⟨by decide, by decide⟩ (by decide) (by decide) rfl (by decide) ?_
    refine V_aload_n (Y := mX1_tell) (pc := 101) dX1_tell_101 rfl ?_
    refine V_iload_n (Y := mX1_tell) (pc := 102) dX1_tell_102 rfl ?_
    refine V_iload (Y := mX1_tell) (pc := 103) dX1_tell_103 rfl ?_
    apply V_vI (Y := mX1_tell) (pc := 105) dX1_tell_105 ok_X4_tellGoods ov_X4_tellGoods ln_X1_119 (c_tellGoods (d := rAt lc (a + 1)) (g := rAt lc (a + 2)) hW hn7 ⟨by omega, by omega⟩ ⟨by omega, by omega⟩)
    · assumption
    · rfl
    · rfl
    · rfl
    · rfl
    · rfl
    rintro z_105 w_105 hres
    refine V_iret (Y := mX1_tell) (pc := 108) dX1_tell_108 rfl (Nat.le_of_ble_eq_true rfl) (Nat.le_of_ble_eq_true rfl) ?_
    rw [show fTell lc a (n, now, ca, po, fo, rs) = fGood (n, now, ca, po, fo, rs) (rAt lc (a + 1)) (rAt lc (a + 2)) from (if_neg (by omega)).trans ((if_neg (by omega)).trans ((if_neg (by omega)).trans (if_pos e_31)))]
    exact pI_of hres
  · rw [e_31]
    refine V_tableOut (tgt := 109) (Y := mX1_tell) (pc := 31) dX1_tell_31 ⟨by decide, by decide⟩ (by decide) (by decide) ?_
    refine V_aload_n (Y := mX1_tell) (pc := 109) dX1_tell_109 rfl ?_
    refine V_iload_n (Y := mX1_tell) (pc := 110) dX1_tell_110 rfl ?_
    apply V_vI (Y := mX1_tell) (pc := 111) dX1_tell_111 ok_X4_tellOrder ov_X4_tellOrder ln_X1_123 (c_tellOrder (g := rAt lc (a + 1)) hW ⟨by omega, by omega⟩)
    · assumption
    · rfl
    · rfl
    · rfl
    · rfl
    · rfl
    rintro z_111 w_111 hres
    refine V_iret (Y := mX1_tell) (pc := 114) dX1_tell_114 rfl (Nat.le_of_ble_eq_true rfl) (Nat.le_of_ble_eq_true rfl) ?_
    rw [show fTell lc a (n, now, ca, po, fo, rs) = fOrder (n, now, ca, po, fo, rs) (rAt lc (a + 1)) from (if_neg (by omega)).trans ((if_neg (by omega)).trans ((if_neg (by omega)).trans (if_neg (by omega))))]
    exact pI_of hres
end RD
