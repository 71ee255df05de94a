/-! ===== DrawerWall: day, laid ===== -/
def eqF (F F' : bF) : Prop := F.1 = F'.1 ∧ F.2.2.2 = F'.2.2.2
theorem fMeet_eqF {F F' : bF} (h : eqF F F') (s f d d' : Int) : eqF (fMeet F s f d) (fMeet F' s f d') := by
  obtain ⟨h1, h2⟩ := h
  by_cases hn : rAt F.1 s = -1
  · rw [fMeet_new hn, fMeet_new (h1 ▸ hn)]
    exact ⟨by show rSet F.1 s _ = rSet F'.1 s _; rw [h1], by show rAdd 2187 F.2.2.2 s = rAdd 2187 F'.2.2.2 s; rw [h2]⟩
  · rw [fMeet_old hn, fMeet_old (h1 ▸ hn)]; exact ⟨h1, h2⟩
theorem fGrow_eqF {sp sp' : Int → Int → Int} {n s : Int} (hs : ∀ d : Int, isD n d → sp s d = sp' s d) : ∀ (m : Nat) {F F' : bF}, (m : Int) ≤ n → eqF F F' → eqF (fGrowTo sp F s m) (fGrowTo sp' F' s m)
  | 0, _, _, _, h => h
  | m + 1, F, F', hm, h => by
    have ih := fGrow_eqF hs m (by omega) h
    have h2 := fMeet_eqF ih (sp s (m : Int)) s (m : Int) (m : Int)
    rw [fGrowTo, fGrowTo, ← hs (m : Int) ⟨by omega, by omega⟩]
    exact h2
theorem fNear_eqF {N n : Int} {sp sp' : Int → Int → Int} (hn : 0 ≤ n) (hsp : spOK n N sp) (hs : ∀ s d : Int, 0 ≤ s ∧ s < N → isD n d → sp s d = sp' s d) (hh : Nat) : ∀ (m k : Nat) (best bd : Int) {F F' : bF}, FOK N F → eqF F F' → (fNear sp n.toNat hh m k best bd F).1 = (fNear sp' n.toNat hh m k best bd F').1 ∧ eqF (fNear sp n.toNat hh m k best bd F).2 (fNear sp' n.toNat hh m k best bd F').2
  | 0, _, _, _, _, _, _, h => ⟨rfl, h⟩
  | m + 1, k, best, bd, F, F', hF, h => by
    rw [fNear, fNear, ← h.1, ← h.2]
    by_cases hk : k < F.2.2.2.length
    · rw [if_pos hk, if_pos hk]
      by_cases hb : best ≠ -1 ∧ rAt F.1 best < rAt F.1 (rAt F.2.2.2 (k : Int))
      · rw [if_pos hb, if_pos hb]; exact ⟨rfl, h⟩
      · rw [if_neg hb, if_neg hb]
        have hg := hF.grow1 hn hsp hk
        by_cases hp : (nrPick hh (rAt F.2.2.2 (k : Int)) best bd).1 = -1
        · rw [if_pos hp, if_pos hp]
          exact fNear_eqF hn hsp hs hh m (k + 1) _ _ hg.1 (fGrow_eqF (fun d hd => hs _ d hg.2.1 hd) n.toNat (by omega) h)
        · rw [if_neg hp, if_neg hp]
          exact fNear_eqF hn hsp hs hh m (k + 1) _ _ hF h
    · rw [if_neg hk, if_neg hk]; exact ⟨rfl, h⟩
theorem nrTo_eqF {n : Int} {sp sp' : Int → Int → Int} (hn : 0 ≤ n ∧ n ≤ 7) (hsp : spOK n (p3 n.toNat) sp) (hs : ∀ s d : Int, isS n s → isD n d → sp s d = sp' s d) (hh : Nat) {s : Int} (hss : isS n s) {F : bF} (F' : bF) (h : FSh F) : (nrTo sp n hh s F).1 = (nrTo sp' n hh s F').1 ∧ eqF (nrTo sp n hh s F).2 (nrTo sp' n hh s F').2 := by
  have hp := p3_le n.toNat (by omega)
  have hp0 := p3_pos n.toNat
  exact fNear_eqF hn.1 hsp hs hh 2188 0 (-1) 7 ((FOK_bg h ⟨by omega, hp⟩).meet hss (Or.inl rfl)) (fMeet_eqF (F := bgF (p3 n.toNat) F) (F' := bgF (p3 n.toNat) F') ⟨rfl, rfl⟩ s (-1) (-1) (-1))
theorem fRun_eqF {n : Int} {sp sp' : Int → Int → Int} (hn : 0 ≤ n ∧ n ≤ 7) (hsp : spOK n (p3 n.toNat) sp) (hs : ∀ s d : Int, isS n s → isD n d → sp s d = sp' s d) (rs : Nat → List Int) (a b : Int) : ∀ (m : Nat) (o s sv pl : Int) (F F' : bF), isS n s → FSh F → (fRun sp n rs a b m o s sv pl F).1 = (fRun sp' n rs a b m o s sv pl F').1 ∧ (fRun sp n rs a b m o s sv pl F).2.1 = (fRun sp' n rs a b m o s sv pl F').2.1
  | 0, _, _, _, _, _, _, _, _ => ⟨rfl, rfl⟩
  | m + 1, o, s, sv, pl, F, F', hss, hF => by
    have h1 := nrTo_eqF hn hsp hs (holdB n rs a b o) hss F' hF
    have h2 := nrTo_ok hn hsp (holdB n rs a b o) hss hF
    rw [fRun, fRun, ← h1.1, ← h1.2.1]
    by_cases hc : (nrTo sp n (holdB n rs a b o) s F).1 = -1
    · rw [if_pos hc, if_pos hc]; exact ⟨rfl, rfl⟩
    · rw [if_neg hc, if_neg hc]
      exact fRun_eqF hn hsp hs rs a b m _ _ _ _ _ _ (h2.2.resolve_left hc).1 h2.1.sh
def bF0 : bF := ([], List.replicate 2187 0, List.replicate 2187 0, [])
noncomputable def dayR (n : Int) (ca : Nat) (rs : Nat → List Int) (a b : Int) : Int × Int := ((fRun (spP ca rs) n rs a b (rs 5).length 0 0 0 0 bF0).1, (fRun (spP ca rs) n rs a b (rs 5).length 0 0 0 0 bF0).2.1)
noncomputable def fDay (S : vSt) (a : Int) : Int := if ¬ (0 ≤ a ∧ a ≤ 1) then -2 else if a = 0 then (dayR S.1 S.2.2.1 S.2.2.2.2.2 0 0).2 else (dayR S.1 S.2.2.1 S.2.2.2.2.2 0 0).1
def ldSt (g : List Int) (op : Int → Int → Int × Int) (a b : Int) (p : Int × Int × Int) : Int × Int × Int := if rAt g a = rAt g b then p else if p.2.1 < (op a b).1 ∨ ((op a b).1 = p.2.1 ∧ (op a b).2 < p.2.2) then (10 * a + b, op a b) else p
def ldB (g : List Int) (op : Int → Int → Int × Int) (a : Int) : Nat → Int → Int × Int × Int → Int × Int × Int
  | 0, _, p => p
  | m + 1, b, p => ldB g op a m (b + 1) (ldSt g op a b p)
def ldA (g : List Int) (op : Int → Int → Int × Int) (n : Int) : Nat → Int → Int × Int × Int → Int × Int × Int
  | 0, _, p => p
  | m + 1, a, p => ldA g op n m (a + 1) (ldB g op a (n - (a + 1)).toNat (a + 1) p)
noncomputable def fLaid (S : vSt) : Int := (ldA (S.2.2.2.2.2 0) (dayR S.1 S.2.2.1 S.2.2.2.2.2) S.1 S.1.toNat 0 (-1, dayR S.1 S.2.2.1 S.2.2.2.2.2 0 0)).1
def ldR (p : Int × Int × Int) : Prop := -1 ≤ p.1 ∧ (0 ≤ p.2.1 ∧ p.2.1 ≤ 10) ∧ 0 ≤ p.2.2 ∧ p.2.2 ≤ 21870
theorem ldSt_R {g : List Int} {op : Int → Int → Int × Int} {a b : Int} (ha : 0 ≤ a) (hb : 0 ≤ b) (ho : (0 ≤ (op a b).1 ∧ (op a b).1 ≤ 10) ∧ 0 ≤ (op a b).2 ∧ (op a b).2 ≤ 21870) {p : Int × Int × Int} (h : ldR p) : ldR (ldSt g op a b p) := by
  unfold ldSt
  split
  · exact h
  · split
    · exact ⟨by show -1 ≤ 10 * a + b; omega, ho⟩
    · exact h
def LdInv (w w' : vWd) (n : Int) (st : List Int) (tt tb sv pl : Int) : Prop := (∃ F, WalkAt w' 84 1 n (p3 n.toNat) (-1) tt tb st F ∧ FSh F ∧ AOK F) ∧ DayAt w' 95 sv pl ∧ (∃ a b, DayAt w' 96 a b) ∧ ∀ j, (j < 84 ∨ 97 ≤ j) → w' j = w j
section CLS
variable {nn : Nat} {w : vWd} {n now : Int} {ca po fo : Nat} {rs : Nat → List Int} {S0 S1 : vSt} {k0 k1 rb rn rf : Int} {tx : List Int}
/-- a run of the orders, its answer by the state alone -/
theorem c_run2 {e tt tb a b sv pl : Int} {q : Nat} {st : List Int} {F : bF} (h : WalkAt w 84 1 n (p3 n.toNat) (-1) tt tb st F) (hw : WallAt w 1 (n, now, ca, po, fo, rs)) (hd : DayAt w q sv pl) (hn : 0 ≤ n ∧ n ≤ 7) (hcv : cvOK n rs) (htbl : tbIs n ca rs st) (hgd : gdOK n rs) (hor : orOK rs) (ha : 0 ≤ a ∧ a < 7) (hb : 0 ≤ b ∧ b < 7) (htt : inR tt) (htb : inR tb) (hq : 95 ≤ q) (hF : FSh F) (hA : AOK F) : Ctr mX0_run (rm 5) [.ref q, .ref 1, .ref 84, vI a, vI b] nn w (pV (fun w' => DayAt w' q (dayR n ca rs a b).1 (dayR n ca rs a b).2 ∧ (∃ F', WalkAt w' 84 1 n (p3 n.toNat) (-1) tt tb st F' ∧ FSh F' ∧ AOK F') ∧ ((0 ≤ (dayR n ca rs a b).1 ∧ (dayR n ca rs a b).1 ≤ 10) ∧ 0 ≤ (dayR n ca rs a b).2 ∧ (dayR n ca rs a b).2 ≤ 21870) ∧ frD 84 q w w') nn) := by
  have hp0 := p3_pos n.toNat
  have hsp := stpF_ok (tf := -1) (tt := tt) (tb := tb) hn.1 (htbl.ok hcv) (Or.inl ⟨rfl, htt, htb⟩)
  have he := fRun_eqF hn hsp (stp_spP htbl tt tb) rs a b (rs 5).length 0 0 0 0 F bF0 ⟨by omega, by omega⟩ hF
  have hA2 := AOK.run hn hsp rs a b (rs 5).length 0 0 0 0 F ⟨by omega, by omega⟩ hF hA
  refine (c_run h hw hd hn (htbl.ok hcv) hgd hor ha hb htt htb (by omega) (Or.inr (by omega)) hF).mono ?_
  rintro r n' w' ⟨rfl, rfl, q1, q2, q3, q4, q5, q6⟩
  rw [he.1, he.2] at q1
  rw [he.1] at q4
  rw [he.2] at q5
  exact ⟨rfl, rfl, q1, ⟨_, q2, q3, hA2⟩, ⟨q4, q5⟩, q6⟩
set_option maxRecDepth 100000 in
theorem cx_day {a : Int} (h : XInv w (n, now, ca, po, fo, rs) S0 S1 k0 k1 tx rb rn rf) (hG : vGood (n, now, ca, po, fo, rs)) (ha : inR a) : Ctr mX5_day (rm 6) [.ref 0, vI a] nn w (pI (fun z w' => z = fDay (n, now, ca, po, fo, rs) a ∧ XInv w' (n, now, ca, po, fo, rs) S0 S1 k0 k1 tx (tl1 (-2) z rb) (tl1 (-3) z rn) (tl1 (-4) z rf) ∧ frX w w') nn) := by
  refine Ctr_of (lv := [some (.ref 0), some (vI a)]) (by decide +kernel) rfl rfl ?_
  obtain ⟨ho, hW, hK, hr⟩ := h
  have hr0 := hr
  obtain ⟨hn, hnow, hca, hpo, hfo, hgd, hcv, hor, hsg, hpast⟩ := hG.un
  have hK0 := hK
  obtain ⟨lr, dn, sn, tt, tb, st, F, hk, hlr, hlen, hsh, haok, htt, htb⟩ := hK
  obtain ⟨⟨D, hD, hD2⟩, h2, h3, h4, h5, ⟨a6, b6, h6⟩, ⟨a7, b7, h7⟩, ⟨l8, h8⟩⟩ := hr
  have oW := hW.obj
  have ok := hk.obj
  have hn7 : 0 ≤ n ∧ n ≤ 7 := ⟨by omega, by omega⟩
  refine V_iload_n (Y := mX5_day) (pc := 0) dX5_day_0 rfl ?_
  refine V_if_lt (tgt := 9) (Y := mX5_day) (pc := 1) dX5_day_1 (by decide) ⟨by omega, by omega⟩ (fun h_1 => ?_) (fun h_1 => ?_)
  · refine V_aload_n (Y := mX5_day) (pc := 9) dX5_day_9 rfl ?_
    refine V_bipush (Y := mX5_day) (pc := 10) dX5_day_10 ⟨by decide, by decide⟩ ?_
    apply V_vI (Y := mX5_day) (pc := 12) dX5_day_12 ok_X5_counted ov_X5_counted ln_X5_85 (c_told (z := -2) ho ⟨by omega, by omega⟩)
    · assumption
    · rfl
    · rfl
    · rfl
    · rfl
    · rfl
    rintro z_12 w_12 ⟨hz2, g3, f3⟩
    subst hz2
    refine V_iret (Y := mX5_day) (pc := 15) dX5_day_15 rfl (Nat.le_of_ble_eq_true rfl) (Nat.le_of_ble_eq_true rfl) ?_
    rw [show fDay (n, now, ca, po, fo, rs) a = -2 from if_pos (by omega)]
    exact pI_of ⟨rfl, XInv.told hr0 hW hK0 (fun j hj => rfl) g3 f3⟩
  · refine V_iload_n (Y := mX5_day) (pc := 4) dX5_day_4 rfl ?_
    refine V_iconst (Y := mX5_day) (pc := 5) dX5_day_5 ?_
    refine V_icmp_le (tgt := 16) (Y := mX5_day) (pc := 6) dX5_day_6 (by decide) ⟨by omega, by omega⟩ ⟨by omega, by omega⟩ (fun h_6 => ?_) (fun h_6 => ?_)
    · refine V_aload_n (Y := mX5_day) (pc := 16) dX5_day_16 rfl ?_
      apply V_get (Y := mX5_day) (pc := 17) dX5_day_17 fl_X5_51
      · assumption
      · rfl
      refine V_aload_n (Y := mX5_day) (pc := 20) dX5_day_20 rfl ?_
      apply V_get (Y := mX5_day) (pc := 21) dX5_day_21 fl_X5_10
      · assumption
      · rfl
      apply V_vV (Y := mX5_day) (pc := 24) dX5_day_24 ok_X3_learn ov_X3_learn ln_X5_160 (c_learn hk hW hn7 hcv hca (by omega) hlr hlen)
      · assumption
      · rfl
      · rfl
      · rfl
      · rfl
      · rfl
      rintro w_24 ⟨st2, g1, hlen2, htbl, f1⟩
      have x1 := (f1 0 (by omega)).trans ho
      have W1 := hW.keep (fun j a b => f1 j (by omega))
      have d1 : DayAt w_24 95 a6 b6 := (f1 95 (by omega)).trans h6
      have d1' : w_24 95 = some (.inr (0, [vI a6, vI b6])) := d1
      refine V_aload_n (Y := mX5_day) (pc := 27) dX5_day_27 rfl ?_
      apply V_get (Y := mX5_day) (pc := 28) dX5_day_28 fl_X5_58
      · assumption
      · rfl
      refine V_aload_n (Y := mX5_day) (pc := 31) dX5_day_31 rfl ?_
      apply V_get (Y := mX5_day) (pc := 32) dX5_day_32 fl_X5_10
      · assumption
      · rfl
      refine V_aload_n (Y := mX5_day) (pc := 35) dX5_day_35 rfl ?_
      apply V_get (Y := mX5_day) (pc := 36) dX5_day_36 fl_X5_51
      · assumption
      · rfl
      refine V_iconst (Y := mX5_day) (pc := 39) dX5_day_39 ?_
      refine V_iconst (Y := mX5_day) (pc := 40) dX5_day_40 ?_
      apply V_vV (Y := mX5_day) (pc := 41) dX5_day_41 ok_X0_run ov_X0_run ln_X5_211 (c_run2 (e := 0) (a := 0) (b := 0) g1 W1 d1 hn7 hcv htbl hgd hor ⟨by omega, by omega⟩ ⟨by omega, by omega⟩ htt htb (by omega) hsh haok)
      · assumption
      · rfl
      · rfl
      · rfl
      · rfl
      · rfl
      rintro w_41 ⟨d2, ⟨F2, g2, hsh2, haok2⟩, hrg, f2⟩
      have d2' : w_41 95 = some (.inr (0, [vI (dayR n ca rs 0 0).1, vI (dayR n ca rs 0 0).2])) := d2
      have ff : ∀ j, (j < 84 ∨ 95 < j) → w_41 j = w j := fun j b => (f2 j (by omega) (by omega)).trans (f1 j (by omega))
      have x2 := (ff 0 (by omega)).trans ho
      have hX : XInv w_41 (n, now, ca, po, fo, rs) S0 S1 k0 k1 tx rb rn rf := ⟨x2, hW.keep (fun j a b => ff j (by omega)), ⟨1, n, _, tt, tb, st2, F2, g2, Or.inr ⟨rfl, rfl, rfl, htbl⟩, hlen2, hsh2, haok2, htt, htb⟩, ⟨D, hD.keep (fun j a b => ff j (by omega)), hD2⟩, h2.keep (fun j a b => ff j (by omega)), h3.keep (fun j a b => ff j (by omega)), h4.keep (ff _ (by omega)) (ff _ (by omega)), h5.keep (fun j a b => ff j (by omega)), ⟨_, _, d2⟩, ⟨a7, b7, (ff _ (by omega)).trans h7⟩, ⟨l8, h8.keep (ff _ (by omega)) (ff _ (by omega))⟩⟩
      refine V_iload_n (Y := mX5_day) (pc := 44) dX5_day_44 rfl ?_
      refine V_if_ne (tgt := 58) (Y := mX5_day) (pc := 45) dX5_day_45 (by decide) ⟨by omega, by omega⟩ (fun h_45 => ?_) (fun h_45 => ?_)
      · refine V_aload_n (Y := mX5_day) (pc := 58) dX5_day_58 rfl ?_
        apply V_get (Y := mX5_day) (pc := 59) dX5_day_59 fl_X5_58
        · assumption
        · rfl
        apply V_get (Y := mX5_day) (pc := 62) dX5_day_62 fl_X5_218
        · exact d2'
        · rfl
        refine V_iret (Y := mX5_day) (pc := 65) dX5_day_65 rfl (Nat.le_of_ble_eq_true rfl) (Nat.le_of_ble_eq_true rfl) ?_
        first
          | (exfalso; omega)
          | (rw [show fDay (n, now, ca, po, fo, rs) a = (dayR n ca rs 0 0).2 from (if_neg (by omega)).trans (if_pos (by omega))]
             exact pI_of ⟨rfl, hX.tl0 (by omega), fun j hj => ff j (by omega)⟩)
          | (rw [show fDay (n, now, ca, po, fo, rs) a = (dayR n ca rs 0 0).1 from (if_neg (by omega)).trans (if_neg (by omega))]
             exact pI_of ⟨rfl, hX.tl0 (by omega), fun j hj => ff j (by omega)⟩)
      · refine V_aload_n (Y := mX5_day) (pc := 48) dX5_day_48 rfl ?_
        apply V_get (Y := mX5_day) (pc := 49) dX5_day_49 fl_X5_58
        · assumption
        · rfl
        apply V_get (Y := mX5_day) (pc := 52) dX5_day_52 fl_X5_215
        · exact d2'
        · rfl
        refine V_goto (tgt := 65) (Y := mX5_day) (pc := 55) dX5_day_55 (by decide) ?_
        refine V_iret (Y := mX5_day) (pc := 65) dX5_day_65 rfl (Nat.le_of_ble_eq_true rfl) (Nat.le_of_ble_eq_true rfl) ?_
        first
          | (exfalso; omega)
          | (rw [show fDay (n, now, ca, po, fo, rs) a = (dayR n ca rs 0 0).2 from (if_neg (by omega)).trans (if_pos (by omega))]
             exact pI_of ⟨rfl, hX.tl0 (by omega), fun j hj => ff j (by omega)⟩)
          | (rw [show fDay (n, now, ca, po, fo, rs) a = (dayR n ca rs 0 0).1 from (if_neg (by omega)).trans (if_neg (by omega))]
             exact pI_of ⟨rfl, hX.tl0 (by omega), fun j hj => ff j (by omega)⟩)
    · refine V_aload_n (Y := mX5_day) (pc := 9) dX5_day_9 rfl ?_
      refine V_bipush (Y := mX5_day) (pc := 10) dX5_day_10 ⟨by decide, by decide⟩ ?_
      apply V_vI (Y := mX5_day) (pc := 12) dX5_day_12 ok_X5_counted ov_X5_counted ln_X5_85 (c_told (z := -2) ho ⟨by omega, by omega⟩)
      · assumption
      · rfl
      · rfl
      · rfl
      · rfl
      · rfl
      rintro z_12 w_12 ⟨hz2, g3, f3⟩
      subst hz2
      refine V_iret (Y := mX5_day) (pc := 15) dX5_day_15 rfl (Nat.le_of_ble_eq_true rfl) (Nat.le_of_ble_eq_true rfl) ?_
      rw [show fDay (n, now, ca, po, fo, rs) a = -2 from if_pos (by omega)]
      exact pI_of ⟨rfl, XInv.told hr0 hW hK0 (fun j hj => rfl) g3 f3⟩
set_option maxRecDepth 100000 in
theorem lp_ldB {a tt tb : Int} {st : List Int} {Q : vPost} {r : Int × Int × Int} (hG : vGood (n, now, ca, po, fo, rs)) (htbl : tbIs n ca rs st) (htt : inR tt) (htb : inR tb) (ho : w 0 = some (xO k0 k1 rb rn rf)) (hW : WallAt w 1 (n, now, ca, po, fo, rs)) (ha : isD n a) (K : ∀ w'', ldR r → LdInv w w'' n st tt tb r.2.1 r.2.2 → V mX5_laid (rm 6) Q 141 [some (.ref 0), some (vI r.1), some (vI a), none] [] nn w'' 0 0) : ∀ (m : Nat) (b : Int) (p : Int × Int × Int) (w' : vWd), 0 ≤ b → b ≤ n → (n - b).toNat = m → ldR p → ldB (rs 0) (dayR n ca rs) a m b p = r → LdInv w w' n st tt tb p.2.1 p.2.2 →
    V mX5_laid (rm 6) Q 47 [some (.ref 0), some (vI p.1), some (vI a), some (vI b)] [] nn w' 0 0 := by
  obtain ⟨hn, hnow, hca, hpo, hfo, hgd, hcv, hor, hsg, hpast⟩ := hG.un
  have hn7 : 0 ≤ n ∧ n ≤ 7 := ⟨by omega, by omega⟩
  intro m
  induction m with
  | zero =>
    intro b p w' hb hb2 hm hp hr hI
    have hfr := hI.2.2.2
    have ho' := (hfr 0 (by omega)).trans ho
    have hW' := hW.keep (w' := w') (fun j a b => hfr j (by omega))
    have oW := hW'.obj
    have hr : p = r := hr
    subst hr
    refine V_iload_n (Y := mX5_laid) (pc := 47) dX5_laid_47 rfl ?_
    refine V_aload_n (Y := mX5_laid) (pc := 48) dX5_laid_48 rfl ?_
    apply V_get (Y := mX5_laid) (pc := 49) dX5_laid_49 fl_X5_10
    · assumption
    · rfl
    apply V_get (Y := mX5_laid) (pc := 52) dX5_laid_52 fl_X5_199
    · assumption
    · rfl
    refine V_icmp_ge (tgt := 141) (Y := mX5_laid) (pc := 55) dX5_laid_55 (by decide) ⟨by omega, by omega⟩ ⟨by omega, by omega⟩ (fun h_55 => ?_) (fun h_55 => absurd h_55 (by omega))
    refine V_drop 3 ?_
    exact K w' hp hI
  | succ m ih =>
    intro b p w' hb hb2 hm hp hr hI
    have hI0 := hI
    obtain ⟨⟨F, hk, hsh, haok⟩, hd1, ⟨a7, b7, hd2⟩, hfr⟩ := hI
    have ho' := (hfr 0 (by omega)).trans ho
    have hW' := hW.keep (w' := w') (fun j a b => hfr j (by omega))
    have oW := hW'.obj
    have ok := hk.obj
    have hd1' : w' 95 = some (.inr (0, [vI p.2.1, vI p.2.2])) := hd1
    have hd2' : w' 96 = some (.inr (0, [vI a7, vI b7])) := hd2
    rw [ldB] at hr
    have hga := hgd.2 a ha.1 ha.2
    have hgb := hgd.2 b hb (by omega)
    refine V_iload_n (Y := mX5_laid) (pc := 47) dX5_laid_47 rfl ?_
    refine V_aload_n (Y := mX5_laid) (pc := 48) dX5_laid_48 rfl ?_
    apply V_get (Y := mX5_laid) (pc := 49) dX5_laid_49 fl_X5_10
    · assumption
    · rfl
    apply V_get (Y := mX5_laid) (pc := 52) dX5_laid_52 fl_X5_199
    · assumption
    · rfl
    refine V_icmp_ge (tgt := 141) (Y := mX5_laid) (pc := 55) dX5_laid_55 (by decide) ⟨by omega, by omega⟩ ⟨by omega, by omega⟩ (fun h_55 => absurd h_55 (by omega)) (fun h_55 => ?_)
    refine V_aload_n (Y := mX5_laid) (pc := 58) dX5_laid_58 rfl ?_
    apply V_get (Y := mX5_laid) (pc := 59) dX5_laid_59 fl_X5_10
    · assumption
    · rfl
    apply V_get (Y := mX5_laid) (pc := 62) dX5_laid_62 fl_X5_221
    · assumption
    · rfl
    refine V_iload_n (Y := mX5_laid) (pc := 65) dX5_laid_65 rfl ?_
    apply V_vR (Y := mX5_laid) (pc := 66) dX5_laid_66 ok_X2_at ov_X2_at ln_X5_185 (c_Row_at (i := a) hW'.r0 ⟨by omega, by omega⟩)
    · exact hW'.r0.obj
    · rfl
    · rfl
    · rfl
    · rfl
    · rfl
    refine V_aload_n (Y := mX5_laid) (pc := 69) dX5_laid_69 rfl ?_
    apply V_get (Y := mX5_laid) (pc := 70) dX5_laid_70 fl_X5_10
    · assumption
    · rfl
    apply V_get (Y := mX5_laid) (pc := 73) dX5_laid_73 fl_X5_221
    · assumption
    · rfl
    refine V_iload_n (Y := mX5_laid) (pc := 76) dX5_laid_76 rfl ?_
    apply V_vR (Y := mX5_laid) (pc := 77) dX5_laid_77 ok_X2_at ov_X2_at ln_X5_185 (c_Row_at (i := b) hW'.r0 ⟨by omega, by omega⟩)
    · exact hW'.r0.obj
    · rfl
    · rfl
    · rfl
    · rfl
    · rfl
    refine V_icmp_ne (tgt := 86) (Y := mX5_laid) (pc := 80) dX5_laid_80 (by decide) ⟨by omega, by omega⟩ ⟨by omega, by omega⟩ (fun h_80 => ?_) (fun h_80 => ?_)
    · refine V_aload_n (Y := mX5_laid) (pc := 86) dX5_laid_86 rfl ?_
      apply V_get (Y := mX5_laid) (pc := 87) dX5_laid_87 fl_X5_62
      · assumption
      · rfl
      refine V_aload_n (Y := mX5_laid) (pc := 90) dX5_laid_90 rfl ?_
      apply V_get (Y := mX5_laid) (pc := 91) dX5_laid_91 fl_X5_10
      · assumption
      · rfl
      refine V_aload_n (Y := mX5_laid) (pc := 94) dX5_laid_94 rfl ?_
      apply V_get (Y := mX5_laid) (pc := 95) dX5_laid_95 fl_X5_51
      · assumption
      · rfl
      refine V_iload_n (Y := mX5_laid) (pc := 98) dX5_laid_98 rfl ?_
      refine V_iload_n (Y := mX5_laid) (pc := 99) dX5_laid_99 rfl ?_
      apply V_vV (Y := mX5_laid) (pc := 100) dX5_laid_100 ok_X0_run ov_X0_run ln_X5_211 (c_run2 (e := 0) (a := a) (b := b) hk hW' hd2 hn7 hcv htbl hgd hor ⟨by omega, by omega⟩ ⟨by omega, by omega⟩ htt htb (by omega) hsh haok)
      · assumption
      · rfl
      · rfl
      · rfl
      · rfl
      · rfl
      rintro w_100 ⟨d2, ⟨F2, g2, hsh2, haok2⟩, hrg, f2⟩
      have d1 : DayAt w_100 95 p.2.1 p.2.2 := (f2 95 (by omega) (by omega)).trans hd1
      have d1' : w_100 95 = some (.inr (0, [vI p.2.1, vI p.2.2])) := d1
      have d2' : w_100 96 = some (.inr (0, [vI (dayR n ca rs a b).1, vI (dayR n ca rs a b).2])) := d2
      have x2 := (f2 0 (by omega) (by omega)).trans ho'
      have hR2 := ldSt_R (g := rs 0) (op := dayR n ca rs) ha.1 hb hrg hp
      have hf2 : ∀ j, (j < 84 ∨ 97 ≤ j) → w_100 j = w j := fun j hj => (f2 j (by omega) (by omega)).trans (hfr j hj)
      have hp2 := hp.2
      refine V_aload_n (Y := mX5_laid) (pc := 103) dX5_laid_103 rfl ?_
      apply V_get (Y := mX5_laid) (pc := 104) dX5_laid_104 fl_X5_62
      · assumption
      · rfl
      refine V_aload_n (Y := mX5_laid) (pc := 107) dX5_laid_107 rfl ?_
      apply V_get (Y := mX5_laid) (pc := 108) dX5_laid_108 fl_X5_58
      · assumption
      · rfl
      apply V_vR (Y := mX5_laid) (pc := 111) dX5_laid_111 ok_X0_isBetterThan ov_X0_isBetterThan ln_X5_224 (c_isBetterThan d2 d1 ⟨by omega, by omega⟩ ⟨by omega, by omega⟩ ⟨by omega, by omega⟩ ⟨by omega, by omega⟩)
      · assumption
      · rfl
      · rfl
      · rfl
      · rfl
      · rfl
      refine V_if_eqB (tgt := 135) (Y := mX5_laid) (pc := 114) dX5_laid_114 (by decide) (fun h_114 => ?_) (fun h_114 => ?_)
      · refine V_iinc (Y := mX5_laid) (pc := 135) dX5_laid_135 rfl rfl ?_
        refine V_goto (tgt := 47) (Y := mX5_laid) (pc := 138) dX5_laid_138 (by decide) ?_
        first
          | (have e : ldSt (rs 0) (dayR n ca rs) a b p = p := if_pos h_80
             rw [e] at hr
             exact ih (b + 1) p w' (by omega) (by omega) (by omega) hp hr hI0)
          | (have e : ldSt (rs 0) (dayR n ca rs) a b p = (10 * a + b, dayR n ca rs a b) := (if_neg h_80).trans (if_pos h_114)
             rw [e] at hr hR2
             exact ih (b + 1) _ w_125 (by omega) (by omega) (by omega) hR2 hr ⟨⟨F2, g2.keep (fun j a b => f3 j (by omega)), hsh2, haok2⟩, d3, ⟨_, _, (f3 96 (by omega)).trans d2⟩, fun j hj => (f3 j (by omega)).trans (hf2 j hj)⟩)
          | (have e : ldSt (rs 0) (dayR n ca rs) a b p = p := (if_neg h_80).trans (if_neg h_114)
             rw [e] at hr
             exact ih (b + 1) p w_100 (by omega) (by omega) (by omega) hp hr ⟨⟨F2, g2, hsh2, haok2⟩, d1, ⟨_, _, d2⟩, hf2⟩)
      · refine V_aload_n (Y := mX5_laid) (pc := 117) dX5_laid_117 rfl ?_
        apply V_get (Y := mX5_laid) (pc := 118) dX5_laid_118 fl_X5_58
        · assumption
        · rfl
        refine V_aload_n (Y := mX5_laid) (pc := 121) dX5_laid_121 rfl ?_
        apply V_get (Y := mX5_laid) (pc := 122) dX5_laid_122 fl_X5_62
        · assumption
        · rfl
        apply V_vV (Y := mX5_laid) (pc := 125) dX5_laid_125 ok_X0_copyFrom ov_X0_copyFrom ln_X5_228 (c_dayCopy d1 d2 (by omega))
        · assumption
        · rfl
        · rfl
        · rfl
        · rfl
        · rfl
        rintro w_125 ⟨d3, f3⟩
        refine V_bipush (Y := mX5_laid) (pc := 128) dX5_laid_128 ⟨by decide, by decide⟩ ?_
        refine V_iload_n (Y := mX5_laid) (pc := 130) dX5_laid_130 rfl ?_
        refine V_imul (Y := mX5_laid) (pc := 131) dX5_laid_131 ?_
        refine V_iload_n (Y := mX5_laid) (pc := 132) dX5_laid_132 rfl ?_
        refine V_iadd (Y := mX5_laid) (pc := 133) dX5_laid_133 ?_
        refine V_istore_n (Y := mX5_laid) (pc := 134) dX5_laid_134 rfl ?_
        refine V_iinc (Y := mX5_laid) (pc := 135) dX5_laid_135 rfl rfl ?_
        refine V_goto (tgt := 47) (Y := mX5_laid) (pc := 138) dX5_laid_138 (by decide) ?_
        first
          | (have e : ldSt (rs 0) (dayR n ca rs) a b p = p := if_pos h_80
             rw [e] at hr
             exact ih (b + 1) p w' (by omega) (by omega) (by omega) hp hr hI0)
          | (have e : ldSt (rs 0) (dayR n ca rs) a b p = (10 * a + b, dayR n ca rs a b) := (if_neg h_80).trans (if_pos h_114)
             rw [e] at hr hR2
             exact ih (b + 1) _ w_125 (by omega) (by omega) (by omega) hR2 hr ⟨⟨F2, g2.keep (fun j a b => f3 j (by omega)), hsh2, haok2⟩, d3, ⟨_, _, (f3 96 (by omega)).trans d2⟩, fun j hj => (f3 j (by omega)).trans (hf2 j hj)⟩)
          | (have e : ldSt (rs 0) (dayR n ca rs) a b p = p := (if_neg h_80).trans (if_neg h_114)
             rw [e] at hr
             exact ih (b + 1) p w_100 (by omega) (by omega) (by omega) hp hr ⟨⟨F2, g2, hsh2, haok2⟩, d1, ⟨_, _, d2⟩, hf2⟩)
    · refine V_goto (tgt := 135) (Y := mX5_laid) (pc := 83) dX5_laid_83 (by decide) ?_
      refine V_iinc (Y := mX5_laid) (pc := 135) dX5_laid_135 rfl rfl ?_
      refine V_goto (tgt := 47) (Y := mX5_laid) (pc := 138) dX5_laid_138 (by decide) ?_
      first
        | (have e : ldSt (rs 0) (dayR n ca rs) a b p = p := if_pos h_80
           rw [e] at hr
           exact ih (b + 1) p w' (by omega) (by omega) (by omega) hp hr hI0)
        | (have e : ldSt (rs 0) (dayR n ca rs) a b p = (10 * a + b, dayR n ca rs a b) := (if_neg h_80).trans (if_pos h_114)
           rw [e] at hr hR2
           exact ih (b + 1) _ w_125 (by omega) (by omega) (by omega) hR2 hr ⟨⟨F2, g2.keep (fun j a b => f3 j (by omega)), hsh2, haok2⟩, d3, ⟨_, _, (f3 96 (by omega)).trans d2⟩, fun j hj => (f3 j (by omega)).trans (hf2 j hj)⟩)
        | (have e : ldSt (rs 0) (dayR n ca rs) a b p = p := (if_neg h_80).trans (if_neg h_114)
           rw [e] at hr
           exact ih (b + 1) p w_100 (by omega) (by omega) (by omega) hp hr ⟨⟨F2, g2, hsh2, haok2⟩, d1, ⟨_, _, d2⟩, hf2⟩)
set_option maxRecDepth 100000 in
theorem lp_ldA {tt tb : Int} {st : List Int} {Q : vPost} {r : Int × Int × Int} (hG : vGood (n, now, ca, po, fo, rs)) (htbl : tbIs n ca rs st) (htt : inR tt) (htb : inR tb) (ho : w 0 = some (xO k0 k1 rb rn rf)) (hW : WallAt w 1 (n, now, ca, po, fo, rs)) (K : ∀ w'', ldR r → LdInv w w'' n st tt tb r.2.1 r.2.2 → Q (some (vI r.1)) nn w'') : ∀ (m : Nat) (a : Int) (p : Int × Int × Int) (w' : vWd), 0 ≤ a → a ≤ n → (n - a).toNat = m → ldR p → ldA (rs 0) (dayR n ca rs) n m a p = r → LdInv w w' n st tt tb p.2.1 p.2.2 →
    V mX5_laid (rm 6) Q 32 [some (.ref 0), some (vI p.1), some (vI a), none] [] nn w' 0 0 := by
  obtain ⟨hn, hnow, hca, hpo, hfo, hgd, hcv, hor, hsg, hpast⟩ := hG.un
  have hn7 : 0 ≤ n ∧ n ≤ 7 := ⟨by omega, by omega⟩
  intro m
  induction m with
  | zero =>
    intro a p w' ha ha2 hm hp hr hI
    have hfr := hI.2.2.2
    have ho' := (hfr 0 (by omega)).trans ho
    have hW' := hW.keep (w' := w') (fun j a b => hfr j (by omega))
    have oW := hW'.obj
    have hr : p = r := hr
    subst hr
    refine V_iload_n (Y := mX5_laid) (pc := 32) dX5_laid_32 rfl ?_
    refine V_aload_n (Y := mX5_laid) (pc := 33) dX5_laid_33 rfl ?_
    apply V_get (Y := mX5_laid) (pc := 34) dX5_laid_34 fl_X5_10
    · assumption
    · rfl
    apply V_get (Y := mX5_laid) (pc := 37) dX5_laid_37 fl_X5_199
    · assumption
    · rfl
    refine V_icmp_ge (tgt := 147) (Y := mX5_laid) (pc := 40) dX5_laid_40 (by decide) ⟨by omega, by omega⟩ ⟨by omega, by omega⟩ (fun h_40 => ?_) (fun h_40 => absurd h_40 (by omega))
    refine V_iload_n (Y := mX5_laid) (pc := 147) dX5_laid_147 rfl ?_
    refine V_iret (Y := mX5_laid) (pc := 148) dX5_laid_148 rfl (Nat.le_of_ble_eq_true rfl) (Nat.le_of_ble_eq_true rfl) ?_
    exact K w' hp hI
  | succ m ih =>
    intro a p w' ha ha2 hm hp hr hI
    have hI0 := hI
    have hfr := hI.2.2.2
    have ho' := (hfr 0 (by omega)).trans ho
    have hW' := hW.keep (w' := w') (fun j a b => hfr j (by omega))
    have oW := hW'.obj
    rw [ldA] at hr
    refine V_iload_n (Y := mX5_laid) (pc := 32) dX5_laid_32 rfl ?_
    refine V_aload_n (Y := mX5_laid) (pc := 33) dX5_laid_33 rfl ?_
    apply V_get (Y := mX5_laid) (pc := 34) dX5_laid_34 fl_X5_10
    · assumption
    · rfl
    apply V_get (Y := mX5_laid) (pc := 37) dX5_laid_37 fl_X5_199
    · assumption
    · rfl
    refine V_icmp_ge (tgt := 147) (Y := mX5_laid) (pc := 40) dX5_laid_40 (by decide) ⟨by omega, by omega⟩ ⟨by omega, by omega⟩ (fun h_40 => absurd h_40 (by omega)) (fun h_40 => ?_)
    refine V_iload_n (Y := mX5_laid) (pc := 43) dX5_laid_43 rfl ?_
    refine V_iconst (Y := mX5_laid) (pc := 44) dX5_laid_44 ?_
    refine V_iadd (Y := mX5_laid) (pc := 45) dX5_laid_45 ?_
    refine V_istore_n (Y := mX5_laid) (pc := 46) dX5_laid_46 rfl ?_
    refine lp_ldB hG htbl htt htb ho hW ⟨ha, by omega⟩ (fun w1 hR1 hI1 => ?_) (n - (a + 1)).toNat (a + 1) p w' (by omega) (by omega) rfl hp rfl hI0
    refine V_iinc (Y := mX5_laid) (pc := 141) dX5_laid_141 rfl rfl ?_
    refine V_goto (tgt := 32) (Y := mX5_laid) (pc := 144) dX5_laid_144 (by decide) ?_
    exact ih (a + 1) _ w1 (by omega) (by omega) (by omega) hR1 hr hI1
set_option maxRecDepth 100000 in
theorem cx_laid (h : XInv w (n, now, ca, po, fo, rs) S0 S1 k0 k1 tx rb rn rf) (hG : vGood (n, now, ca, po, fo, rs)) : Ctr mX5_laid (rm 6) [.ref 0] nn w (pI (fun z w' => z = fLaid (n, now, ca, po, fo, rs) ∧ XInv w' (n, now, ca, po, fo, rs) S0 S1 k0 k1 tx (tl1 (-2) z rb) (tl1 (-3) z rn) (tl1 (-4) z rf) ∧ frX w w') nn) := by
  refine Ctr_of (lv := [some (.ref 0), none, none, none]) (by decide +kernel) rfl rfl ?_
  obtain ⟨ho, hW, hK, hr⟩ := h
  obtain ⟨hn, hnow, hca, hpo, hfo, hgd, hcv, hor, hsg, hpast⟩ := hG.un
  obtain ⟨lr, dn, sn, tt, tb, st, F, hk, hlr, hlen, hsh, haok, htt, htb⟩ := hK
  obtain ⟨⟨D, hD, hD2⟩, h2, h3, h4, h5, ⟨a6, b6, h6⟩, ⟨a7, b7, h7⟩, ⟨l8, h8⟩⟩ := hr
  have oW := hW.obj
  have ok := hk.obj
  have hn7 : 0 ≤ n ∧ n ≤ 7 := ⟨by omega, by omega⟩
  refine V_aload_n (Y := mX5_laid) (pc := 0) dX5_laid_0 rfl ?_
  apply V_get (Y := mX5_laid) (pc := 1) dX5_laid_1 fl_X5_51
  · assumption
  · rfl
  refine V_aload_n (Y := mX5_laid) (pc := 4) dX5_laid_4 rfl ?_
  apply V_get (Y := mX5_laid) (pc := 5) dX5_laid_5 fl_X5_10
  · assumption
  · rfl
  apply V_vV (Y := mX5_laid) (pc := 8) dX5_laid_8 ok_X3_learn ov_X3_learn ln_X5_160 (c_learn hk hW hn7 hcv hca (by omega) hlr hlen)
  · assumption
  · rfl
  · rfl
  · rfl
  · rfl
  · rfl
  rintro w_8 ⟨st2, g1, hlen2, htbl, f1⟩
  have x1 := (f1 0 (by omega)).trans ho
  have W1 := hW.keep (fun j a b => f1 j (by omega))
  have d1 : DayAt w_8 95 a6 b6 := (f1 95 (by omega)).trans h6
  have d1' : w_8 95 = some (.inr (0, [vI a6, vI b6])) := d1
  refine V_aload_n (Y := mX5_laid) (pc := 11) dX5_laid_11 rfl ?_
  apply V_get (Y := mX5_laid) (pc := 12) dX5_laid_12 fl_X5_58
  · assumption
  · rfl
  refine V_aload_n (Y := mX5_laid) (pc := 15) dX5_laid_15 rfl ?_
  apply V_get (Y := mX5_laid) (pc := 16) dX5_laid_16 fl_X5_10
  · assumption
  · rfl
  refine V_aload_n (Y := mX5_laid) (pc := 19) dX5_laid_19 rfl ?_
  apply V_get (Y := mX5_laid) (pc := 20) dX5_laid_20 fl_X5_51
  · assumption
  · rfl
  refine V_iconst (Y := mX5_laid) (pc := 23) dX5_laid_23 ?_
  refine V_iconst (Y := mX5_laid) (pc := 24) dX5_laid_24 ?_
  apply V_vV (Y := mX5_laid) (pc := 25) dX5_laid_25 ok_X0_run ov_X0_run ln_X5_211 (c_run2 (e := 0) (a := 0) (b := 0) g1 W1 d1 hn7 hcv htbl hgd hor ⟨by omega, by omega⟩ ⟨by omega, by omega⟩ htt htb (by omega) hsh haok)
  · assumption
  · rfl
  · rfl
  · rfl
  · rfl
  · rfl
  rintro w_25 ⟨d2, ⟨F2, g2, hsh2, haok2⟩, hrg, f2⟩
  have ff : ∀ j, (j < 84 ∨ 95 < j) → w_25 j = w j := fun j b => (f2 j (by omega) (by omega)).trans (f1 j (by omega))
  have x2 := (ff 0 (by omega)).trans ho
  have W2 := hW.keep (w' := w_25) (fun j a b => ff j (by omega))
  refine V_iconst (Y := mX5_laid) (pc := 28) dX5_laid_28 ?_
  refine V_istore_n (Y := mX5_laid) (pc := 29) dX5_laid_29 rfl ?_
  refine V_iconst (Y := mX5_laid) (pc := 30) dX5_laid_30 ?_
  refine V_istore_n (Y := mX5_laid) (pc := 31) dX5_laid_31 rfl ?_
  refine lp_ldA (w := w_25) (r := ldA (rs 0) (dayR n ca rs) n n.toNat 0 (-1, dayR n ca rs 0 0)) hG htbl htt htb x2 W2 (fun w' hR hI => ?_) n.toNat 0 (-1, dayR n ca rs 0 0) w_25 (by omega) (by omega) (by omega) ⟨by show (-1 : Int) ≤ -1; omega, hrg⟩ rfl ⟨⟨F2, g2, hsh2, haok2⟩, d2, ⟨a7, b7, (ff 96 (by omega)).trans h7⟩, fun j hj => rfl⟩
  obtain ⟨⟨F3, g3, hsh3, haok3⟩, d3, ⟨a8, b8, d4⟩, f3⟩ := hI
  have fg : ∀ j, (j < 84 ∨ 97 ≤ j) → w' j = w j := fun j b => (f3 j b).trans (ff j (by omega))
  have hX : XInv w' (n, now, ca, po, fo, rs) S0 S1 k0 k1 tx rb rn rf := ⟨(fg 0 (by omega)).trans ho, hW.keep (fun j a b => fg j (by omega)), ⟨1, n, _, tt, tb, st2, F3, g3, Or.inr ⟨rfl, rfl, rfl, htbl⟩, hlen2, hsh3, haok3, htt, htb⟩, ⟨D, hD.keep (fun j a b => fg j (by omega)), hD2⟩, h2.keep (fun j a b => fg j (by omega)), h3.keep (fun j a b => fg j (by omega)), h4.keep (fg _ (by omega)) (fg _ (by omega)), h5.keep (fun j a b => fg j (by omega)), ⟨_, _, d3⟩, ⟨a8, b8, d4⟩, ⟨l8, h8.keep (fg _ (by omega)) (fg _ (by omega))⟩⟩
  exact pI_of ⟨rfl, hX.tl0 hR.1, fun j hj => fg j (by omega)⟩
end CLS
