/-! ===== DrawerWallModel: laid ===== -/
section MOD
variable {nn : Nat} {w : vWd} {n now : Int} {ca po fo : Nat} {rs : Nat → List Int} {sp : Int → Int → Int} {qt ty a0 sp0 tk vl mn fd k0 k1 rb rn rf : Int} {f : Nat → Int} {S0 S1 : vSt} {tx : List Int}
theorem btr_st {g : List Int} {op : Int → Int → Int × Int} {a b : Int} {x : Int × Int} {p : Int × Int × Int} (h : ¬ btr x p.2) : ¬ btr x (ldSt g op a b p).2 := by
  unfold ldSt
  split
  · exact h
  · split
    · rename_i q
      intro r
      refine h ?_
      have r : (op a b).1 < x.1 ∨ (x.1 = (op a b).1 ∧ x.2 < (op a b).2) := r
      show p.2.1 < x.1 ∨ (x.1 = p.2.1 ∧ x.2 < p.2.2)
      omega
    · exact h
set_option maxRecDepth 100000 in
theorem lpm_ldB {a : Int} {Q : vPost} {r : Int × Int × Int} (hG : vGood (n, now, ca, po, fo, rs)) (hl5 : (rs 5).length ≤ 6) (ha : isD n a) (K : ldR r → ¬ btr (dayR n ca rs 0 0) r.2 → ∀ w'', LT w w'' n now ca po fo rs qt ty a0 sp0 tk vl mn fd (spP ca rs) → V mX6_laid (rm 6) Q 148 [some (.ref 99), some (vI r.2.2), some (vI r.2.1), some (vI r.1), some (vI a), none, none, none] [] nn w'' 0 0) : ∀ (m : Nat) (b : Int) (p : Int × Int × Int) (w' : vWd), a < b → b + m = n → ldR p → ¬ btr (dayR n ca rs 0 0) p.2 → ldB (rs 0) (dayR n ca rs) a m b p = r → LT w w' n now ca po fo rs qt ty a0 sp0 tk vl mn fd (spP ca rs) →
    V mX6_laid (rm 6) Q 36 [some (.ref 99), some (vI p.2.2), some (vI p.2.1), some (vI p.1), some (vI a), some (vI b), none, none] [] nn w' 0 0 := by
  have hG0 := hG
  obtain ⟨hn, hnow, hca, hpo, hfo, hgd, hcv, hor, hsg, hpast⟩ := hG.un
  intro m
  induction m with
  | zero =>
    intro b p w' hab hbm hp hbs hr hI
    have hr : p = r := hr
    subst hr
    have k := K hp hbs w' hI
    obtain ⟨⟨sv, ho⟩, ⟨f, hb0, hB⟩, -⟩ := hI
    have e0 : f (0 : Int).toNat = n := hB.1.1.1
    refine V_iload (Y := mX6_laid) (pc := 36) dX6_laid_36 rfl ?_
    refine V_aload_n (Y := mX6_laid) (pc := 38) dX6_laid_38 rfl ?_
    apply V_get (Y := mX6_laid) (pc := 39) dX6_laid_39 fl_X6_7
    · assumption
    · rfl
    refine V_iconst (Y := mX6_laid) (pc := 42) dX6_laid_42 ?_
    apply V_iald (Y := mX6_laid) (pc := 43) dX6_laid_43
    · assumption
    · exact ⟨by omega, by omega⟩
    · omega
    rw [e0]
    refine V_icmp_ge (tgt := 148) (Y := mX6_laid) (pc := 44) dX6_laid_44 (by decide) ⟨by omega, by omega⟩ ⟨by omega, by omega⟩ (fun h_44 => ?_) (fun h_44 => absurd h_44 (by omega))
    exact V_drop 5 k
  | succ m ih =>
    intro b p w' hab hbm hp hbs hr hI
    have hI0 := hI
    obtain ⟨⟨sv, ho⟩, ⟨f, hb0, hB⟩, -⟩ := hI
    have e0 : f (0 : Int).toNat = n := hB.1.1.1
    have hrg := dayR_rng (ca := ca) ⟨by omega, by omega⟩ hcv hl5 a b
    have hp2 := ldSt_R (g := rs 0) (op := dayR n ca rs) ha.1 (show 0 ≤ b by omega) hrg hp
    refine V_iload (Y := mX6_laid) (pc := 36) dX6_laid_36 rfl ?_
    refine V_aload_n (Y := mX6_laid) (pc := 38) dX6_laid_38 rfl ?_
    apply V_get (Y := mX6_laid) (pc := 39) dX6_laid_39 fl_X6_7
    · assumption
    · rfl
    refine V_iconst (Y := mX6_laid) (pc := 42) dX6_laid_42 ?_
    apply V_iald (Y := mX6_laid) (pc := 43) dX6_laid_43
    · assumption
    · exact ⟨by omega, by omega⟩
    · omega
    rw [e0]
    refine V_icmp_ge (tgt := 148) (Y := mX6_laid) (pc := 44) dX6_laid_44 (by decide) ⟨by omega, by omega⟩ ⟨by omega, by omega⟩ (fun h_44 => absurd h_44 (by omega)) (fun h_44 => ?_)
    exact lpm_ldS hG0 ha ⟨by omega, by omega⟩ (by omega) hp hbs hI0 (fun w2 q2 => ih (b + 1) _ w2 (by omega) (by omega) hp2 (btr_st hbs) hr q2)
set_option maxRecDepth 100000 in
theorem lpm_ldN {a x y z : Int} {w' : vWd} {Q : vPost} (ha : isD n a) (hn : 2 ≤ n ∧ n ≤ 7) (K : V mX6_laid (rm 6) Q 19 [some (.ref 99), some (vI x), some (vI y), some (vI z), some (vI (a + 1)), none, none, none] [] nn w' 0 0) :
    V mX6_laid (rm 6) Q 148 [some (.ref 99), some (vI x), some (vI y), some (vI z), some (vI a), none, none, none] [] nn w' 0 0 := by
  refine V_iinc (Y := mX6_laid) (pc := 148) dX6_laid_148 rfl rfl ?_
  refine V_goto (tgt := 19) (Y := mX6_laid) (pc := 151) dX6_laid_151 (by decide) ?_
  exact K
set_option maxRecDepth 100000 in
theorem lpm_ldA {Q : vPost} {r : Int × Int × Int} (hG : vGood (n, now, ca, po, fo, rs)) (hl5 : (rs 5).length ≤ 6) (K : ldR r → ∀ w'', LT w w'' n now ca po fo rs qt ty a0 sp0 tk vl mn fd (spP ca rs) → Q (some (vI r.1)) nn w'') : ∀ (m : Nat) (a : Int) (p : Int × Int × Int) (w' : vWd), 0 ≤ a → a + m = n → ldR p → ¬ btr (dayR n ca rs 0 0) p.2 → ldA (rs 0) (dayR n ca rs) n m a p = r → LT w w' n now ca po fo rs qt ty a0 sp0 tk vl mn fd (spP ca rs) →
    V mX6_laid (rm 6) Q 19 [some (.ref 99), some (vI p.2.2), some (vI p.2.1), some (vI p.1), some (vI a), none, none, none] [] nn w' 0 0 := by
  have hn := hG.un.1
  intro m
  induction m with
  | zero =>
    intro a p w' ha ham hp hbs hr hI
    have hr : p = r := hr
    subst hr
    have k := K hp w' hI
    obtain ⟨⟨sv, ho⟩, ⟨f, hb0, hB⟩, -⟩ := hI
    have e0 : f (0 : Int).toNat = n := hB.1.1.1
    refine V_iload (Y := mX6_laid) (pc := 19) dX6_laid_19 rfl ?_
    refine V_aload_n (Y := mX6_laid) (pc := 21) dX6_laid_21 rfl ?_
    apply V_get (Y := mX6_laid) (pc := 22) dX6_laid_22 fl_X6_7
    · assumption
    · rfl
    refine V_iconst (Y := mX6_laid) (pc := 25) dX6_laid_25 ?_
    apply V_iald (Y := mX6_laid) (pc := 26) dX6_laid_26
    · assumption
    · exact ⟨by omega, by omega⟩
    · omega
    rw [e0]
    refine V_icmp_ge (tgt := 154) (Y := mX6_laid) (pc := 27) dX6_laid_27 (by decide) ⟨by omega, by omega⟩ ⟨by omega, by omega⟩ (fun h_27 => ?_) (fun h_27 => absurd h_27 (by omega))
    refine V_iload_n (Y := mX6_laid) (pc := 154) dX6_laid_154 rfl ?_
    refine V_iret (Y := mX6_laid) (pc := 155) dX6_laid_155 rfl (Nat.le_of_ble_eq_true rfl) (Nat.le_of_ble_eq_true rfl) ?_
    exact k
  | succ m ih =>
    intro a p w' ha ham hp hbs hr hI
    have hI0 := hI
    obtain ⟨⟨sv, ho⟩, ⟨f, hb0, hB⟩, -⟩ := hI
    have e0 : f (0 : Int).toNat = n := hB.1.1.1
    rw [ldA] at hr
    refine V_iload (Y := mX6_laid) (pc := 19) dX6_laid_19 rfl ?_
    refine V_aload_n (Y := mX6_laid) (pc := 21) dX6_laid_21 rfl ?_
    apply V_get (Y := mX6_laid) (pc := 22) dX6_laid_22 fl_X6_7
    · assumption
    · rfl
    refine V_iconst (Y := mX6_laid) (pc := 25) dX6_laid_25 ?_
    apply V_iald (Y := mX6_laid) (pc := 26) dX6_laid_26
    · assumption
    · exact ⟨by omega, by omega⟩
    · omega
    rw [e0]
    refine V_icmp_ge (tgt := 154) (Y := mX6_laid) (pc := 27) dX6_laid_27 (by decide) ⟨by omega, by omega⟩ ⟨by omega, by omega⟩ (fun h_27 => absurd h_27 (by omega)) (fun h_27 => ?_)
    refine V_iload (Y := mX6_laid) (pc := 30) dX6_laid_30 rfl ?_
    refine V_iconst (Y := mX6_laid) (pc := 32) dX6_laid_32 ?_
    refine V_iadd (Y := mX6_laid) (pc := 33) dX6_laid_33 ?_
    refine V_istore (Y := mX6_laid) (pc := 34) dX6_laid_34 rfl ?_
    refine lpm_ldB (w := w) (r := ldB (rs 0) (dayR n ca rs) a (n - (a + 1)).toNat (a + 1) p) hG hl5 ⟨ha, by omega⟩ (fun q1 q2 w2 q3 => ?_) (n - (a + 1)).toNat (a + 1) p w' (by omega) (by omega) hp hbs rfl hI0
    exact lpm_ldN ⟨ha, by omega⟩ hn (ih (a + 1) _ w2 (by omega) (by omega) q1 q2 hr q3)
set_option maxRecDepth 100000 in
theorem mx_laid (h : MInv w (n, now, ca, po, fo, rs) S0 S1 k0 k1 tx rb rn rf) (hG : vGood (n, now, ca, po, fo, rs)) : Ctr mX6_laid (rm 6) [.ref 99] nn w (pI (fun z w' => z = fLaid (n, now, ca, po, fo, rs) ∧ MInv w' (n, now, ca, po, fo, rs) S0 S1 k0 k1 tx (tl1 (-2) z rb) (tl1 (-3) z rn) (tl1 (-4) z rf) ∧ frM w w') nn) := by
  refine Ctr_of (lv := [some (.ref 99), none, none, none, none, none, none, none]) (by decide +kernel) rfl rfl ?_
  have h0 := h
  have hM := h.1.ms
  have hG0 := hG
  obtain ⟨hn, hnow, hca, hpo, hfo, hgd, hcv, hor, hsg, hpast⟩ := hG.un
  obtain ⟨⟨-, ⟨f, hb, hB⟩, hr, hq⟩, ⟨a0, sp, tk, vl, mn, fd, sv, ho⟩, hT, hI, s1, s2, ⟨ld, h7⟩, ⟨fr, h8⟩, s5, s6⟩ := h
  have hB : BkOf f n now ca po fo rs := hB
  have hl := hB.2.1
  have hsp := spP_ok (ca := ca) hcv
  have hrg := dayR_rng (ca := ca) ⟨by omega, by omega⟩ hcv hl.2.1 0 0
  have hdr : dayR n ca rs 0 0 = ((fRunH (spP ca rs) n (hdB n rs) (rs 5).length 0 0 0 0 bF0).1, (fRunH (spP ca rs) n (hdB n rs) (rs 5).length 0 0 0 0 bF0).2.1) := by
    rw [dayR_H, fRunH_congr (spP ca rs) n (N := (rs 5).length) (h1 := holdB n rs 0 0) (h2 := hdB n rs) (fun o _ _ => (hdB_0 n rs o).symm) _ _ _ _ _ _ (by omega) (by omega)]
  refine V_aload_n (Y := mX6_laid) (pc := 0) dX6_laid_0 rfl ?_
  apply V_vV (Y := mX6_laid) (pc := 1) dX6_laid_1 ok_X6_lays ov_X6_lays ln_X6_196 (cm_lays hM hG0 h7)
  · assumption
  · rfl
  · rfl
  · rfl
  · rfl
  · rfl
  rintro w_1 ⟨g1, f1⟩
  have o1 := (f1 99 (by omega)).trans ho
  refine V_aload_n (Y := mX6_laid) (pc := 4) dX6_laid_4 rfl ?_
  apply V_vI (Y := mX6_laid) (pc := 5) dX6_laid_5 ok_X6_days ov_X6_days ln_X6_225 (cm_days (sp := spP ca rs) o1 ((f1 100 (by omega)).trans hb) hB hG0 hsp g1 ((f1 108 (by omega)).trans h8))
  · assumption
  · rfl
  · rfl
  · rfl
  · rfl
  · rfl
  rintro z_5 w_5 ⟨hz, o5, ⟨fr2, g2⟩, f2⟩
  have hL2 := g1.keep (f2 107 (by omega) (by omega))
  rw [show (fRunH (spP ca rs) n (hdB n rs) (rs 5).length 0 0 0 0 bF0).1 = (dayR n ca rs 0 0).1 by rw [hdr]] at o5
  have hz : z_5 = (dayR n ca rs 0 0).2 := by rw [hz, hdr]
  subst hz
  refine V_istore_n (Y := mX6_laid) (pc := 8) dX6_laid_8 rfl ?_
  refine V_aload_n (Y := mX6_laid) (pc := 9) dX6_laid_9 rfl ?_
  apply V_get (Y := mX6_laid) (pc := 10) dX6_laid_10 fl_X6_222
  · assumption
  · rfl
  refine V_istore_n (Y := mX6_laid) (pc := 13) dX6_laid_13 rfl ?_
  refine V_iconst (Y := mX6_laid) (pc := 14) dX6_laid_14 ?_
  refine V_istore_n (Y := mX6_laid) (pc := 15) dX6_laid_15 rfl ?_
  refine V_iconst (Y := mX6_laid) (pc := 16) dX6_laid_16 ?_
  refine V_istore (Y := mX6_laid) (pc := 17) dX6_laid_17 rfl ?_
  have hp0 : ldR (-1, dayR n ca rs 0 0) := ⟨by show (-1 : Int) ≤ -1; omega, hrg⟩
  have hbs : ¬ btr (dayR n ca rs 0 0) (dayR n ca rs 0 0) := fun q => by
    have q : (dayR n ca rs 0 0).1 < (dayR n ca rs 0 0).1 ∨ ((dayR n ca rs 0 0).1 = (dayR n ca rs 0 0).1 ∧ (dayR n ca rs 0 0).2 < (dayR n ca rs 0 0).2) := q
    omega
  have hT1 : LT w w_5 n now ca po fo rs 0 tx.length a0 sp tk vl mn fd (spP ca rs) := ⟨⟨_, o5⟩, ⟨f, (f2 100 (by omega) (by omega)).trans ((f1 100 (by omega)).trans hb), hB⟩, hL2, ⟨_, g2⟩, fun j p1 p2 p3 p4 => (f2 j p1 p4).trans (f1 j p3)⟩
  refine lpm_ldA (w := w) (r := ldA (rs 0) (dayR n ca rs) n n.toNat 0 (-1, dayR n ca rs 0 0)) hG0 hl.2.1 (fun q1 w'' q2 => ?_) n.toNat 0 (-1, dayR n ca rs 0 0) w_5 (by omega) (by omega) hp0 hbs rfl hT1
  obtain ⟨⟨sv2, o2⟩, hb2, ⟨ld2, l2, -⟩, hf2, ff⟩ := q2
  have hend := h0.frD o2 hb2 ff ⟨ld2, l2⟩ hf2
  have hz : -1 ≤ fLaid (n, now, ca, po, fo, rs) := q1.1
  refine pI_of ⟨rfl, ?_, hend.2⟩
  rw [show (ldA (rs 0) (dayR n ca rs) n n.toNat 0 (-1, dayR n ca rs 0 0)).1 = fLaid (n, now, ca, po, fo, rs) from rfl, tl1_ne (by omega), tl1_ne (by omega), tl1_ne (by omega)]
  exact hend.1
end MOD
