/-! ===== DrawerWallModel: tie ===== -/
theorem cRun_ext {rs rs' : Nat → List Int} {x : Int32} {d o t0 : Int} : ∀ m : Nat, (∀ c : Int, 0 ≤ c → c < m → rAt (rs' 1) c = rAt (rs 1) c ∧ rAt (rs' 2) c = rAt (rs 2) c ∧ rAt (rs' 3) c = rAt (rs 3) c ∧ rAt (rs' 4) c = rAt (rs 4) c) → cRun rs' x d o t0 m = cRun rs x d o t0 m
  | 0, _ => rfl
  | m + 1, h => by
    rw [cRun, cRun, cRun_ext m (fun c h0 h1 => h c h0 (by omega))]
    obtain ⟨h1, h2, h3, h4⟩ := h m (by omega) (by omega)
    have ha : ∀ t : Int, cAmt rs' m t o = cAmt rs m t o := fun t => by unfold cAmt; rw [h2, h3, h4]
    by_cases hb : bitOn x m ∧ rAt (rs 1) m = d
    · have hb' : bitOn x m ∧ rAt (rs' 1) m = d := ⟨hb.1, by rw [h1]; exact hb.2⟩
      rw [cStep_t hb, cStep_t hb', h2, ha]
    · rw [cStep_f hb, cStep_f (fun q => hb ⟨q.1, by rw [← h1]; exact q.2⟩)]
theorem cRun_dg {n : Int} {rs : Nat → List Int} (hcv : cvOK n rs) {x : Int32} {d o t0 : Int} (hd : 0 ≤ d) : ∀ m : Nat, m ≤ (rs 1).length → dg (cRun rs x d o t0 m) d.toNat = dg t0 d.toNat
  | 0, _ => rfl
  | m + 1, hm => by
    rw [cRun]
    have hc := hcv.2 m (by omega) (by omega)
    by_cases hb : bitOn x m ∧ rAt (rs 1) m = d
    · rw [cStep_t hb, dg_mv_ne _ (by omega), cRun_dg hcv hd m (by omega)]
    · rw [cStep_f hb, cRun_dg hcv hd m (by omega)]
theorem spT_cord {n : Int} {ca : Nat} {rs : Nat → List Int} {s d a b v : Int} (hcv : cvOK n rs) (hl : (rs 1).length < 10) (hs : isS n s) (hd : isD n d) (hb : isD n b) : spP ca (rsCord rs a b 0 v) s d = spT ca rs a b v s d := by
  have r1 : rsCord rs a b 0 v 1 = rs 1 ++ [a] := rfl
  have r2 : rsCord rs a b 0 v 2 = rs 2 ++ [b] := rfl
  have r3 : rsCord rs a b 0 v 3 = rs 3 ++ [0] := rfl
  have r4 : rsCord rs a b 0 v 4 = rs 4 ++ [v] := rfl
  obtain ⟨⟨l2, l3, l4⟩, hc⟩ := hcv
  have hcv : cvOK n rs := ⟨⟨l2, l3, l4⟩, hc⟩
  by_cases hst : ca.testBit d.toNat = true ∧ opB s d.toNat
  · have e1 : spP ca (rsCord rs a b 0 v) s d = s := if_pos hst
    have e2 : spP ca rs s d = s := if_pos hst
    rw [e1, spT, if_pos (Or.inr e2), e2]
  · have e2 : spP ca rs s d = cRun rs (iI (-1)) d (if dg s d.toNat = 2 then 0 else 1) (aft0 s d) (rs 1).length := if_neg hst
    have e1 : spP ca (rsCord rs a b 0 v) s d = cRun (rsCord rs a b 0 v) (iI (-1)) d (if dg s d.toNat = 2 then 0 else 1) (aft0 s d) (rs 1 ++ [a]).length := if_neg hst
    rw [app_len, cRun, cRun_ext (rs := rs) (rs' := rsCord rs a b 0 v) (rs 1).length (fun c h0 h1 => by
      rw [r1, r2, r3, r4]
      exact ⟨rAt_appL h1, rAt_appL (by omega), rAt_appL (by omega), rAt_appL (by omega)⟩), ← e2] at e1
    have hne : spP ca rs s d ≠ s := by
      intro q
      have g1 := cRun_dg (o := if dg s d.toNat = 2 then 0 else 1) (t0 := aft0 s d) (x := iI (-1)) hcv hd.1 (rs 1).length (Nat.le_refl _)
      rw [← e2, q, aft0, dg_mv_same] at g1
      have hg := dg_rng s d.toNat
      revert g1
      split <;> omega
    have q1 : rAt (rsCord rs a b 0 v 1) (rs 1).length = a := by rw [r1, rAt_app (by omega) (by omega), if_pos rfl]
    have q2 : rAt (rsCord rs a b 0 v 2) (rs 1).length = b := by rw [r2, rAt_app (by omega) (by omega), if_pos (by omega)]
    have q3 : rAt (rsCord rs a b 0 v 3) (rs 1).length = 0 := by rw [r3, rAt_app (by omega) (by omega), if_pos (by omega)]
    have q4 : rAt (rsCord rs a b 0 v 4) (rs 1).length = v := by rw [r4, rAt_app (by omega) (by omega), if_pos (by omega)]
    by_cases hda : d = a
    · have e3 : spT ca rs a b v s d = mv (spP ca rs s d) b.toNat v := if_neg (fun q => q.elim (fun r => r hda) hne)
      rw [e1, e3, cStep_t ⟨bit_neg _ hl, by rw [q1]; exact hda.symm⟩, q2]
      congr 1
      unfold cAmt
      rw [q3, q4]
      rfl
    · have e3 : spT ca rs a b v s d = spP ca rs s d := if_pos (Or.inl hda)
      rw [e1, e3, cStep_f (fun q => hda (by rw [← q.2, q1]))]
theorem spT_ok {n : Int} {ca : Nat} {rs : Nat → List Int} {a b v : Int} (hcv : cvOK n rs) (hab : a = -1 ∨ isD n b) : spOK n (p3 n.toNat) (spT ca rs a b v) := fun s d hs hd => by
  have h := spP_ok (ca := ca) hcv s d hs hd
  unfold spT
  split
  · exact h
  · rename_i q
    have hb : isD n b := by
      rcases hab with h | h
      · exact absurd (Or.inl (by omega)) q
      · exact h
    exact mv_rng _ h.1 h.2 (by omega)
theorem opM_cord {n now : Int} {ca : Nat} {rs : Nat → List Int} {a b v : Int} (hn : 0 ≤ n) (hcv : cvOK n rs) (hl : (rs 1).length < 10) (hnow : isS n now) (hb : isD n b) : opM ca (rsCord rs a b 0 v) n now = opN ca rs n now a b v := by
  unfold opM opN
  rw [gFnd_congr (sp := spT ca rs a b v) (sp' := spP ca (rsCord rs a b 0 v)) hn (spT_ok hcv (Or.inr hb)) (fun s d hs hd => (spT_cord hcv hl hs hd hb).symm) hnow]
theorem opM_0 {n now : Int} {ca : Nat} {rs : Nat → List Int} (hn : 0 ≤ n) (hcv : cvOK n rs) (hnow : isS n now) : opM ca rs n now = opN ca rs n now (-1) (-1) 0 := by
  unfold opM opN
  rw [gFnd_congr (sp := spP ca rs) (sp' := spT ca rs (-1) (-1) 0) hn (spP_ok hcv) (fun s d hs hd => by rw [spT, if_pos (Or.inl (by omega))]) hnow]
theorem opN_le {n now : Int} {ca : Nat} {rs : Nat → List Int} {a b v : Int} (hn : 0 ≤ n ∧ n ≤ 7) (hcv : cvOK n rs) (hnow : isS n now) (hab : a = -1 ∨ isD n b) : 0 ≤ opN ca rs n now a b v ∧ opN ca rs n now a b v ≤ n := by
  have h := pcB_n (evB_out (n := n) (gFnd_in hn.1 (spT_ok (ca := ca) (v := v) hcv hab) hnow)) 7 (by omega)
  have h2 := pcB_rng (evB (gFnd (spT ca rs a b v) n now) (gFnd (spT ca rs a b v) n now).length) n.toNat
  unfold opN
  rw [h]
  omega
theorem tieB_id {op : Int → Int → Int → Int} {n a : Int} (h : ∀ b v, isD n b → op a b v ≤ n) {p : Int × Int} (hp : n ≤ p.1) : ∀ m : Nat, (m : Int) ≤ n → tieB op a m p = p
  | 0, _ => rfl
  | m + 1, hm => by
    have e : ∀ v, tieSt op a m v p = p := fun v => if_neg (by have := h m v ⟨by omega, by omega⟩; omega)
    by_cases ha : a = (m : Int)
    · rw [tieB_t ha, tieB_id h hp m (by omega)]
    · rw [tieB_f ha, tieB_id h hp m (by omega), e, e]
section MOD
variable {nn : Nat} {w : vWd} {n now : Int} {ca po fo : Nat} {rs : Nat → List Int} {qt ty a0 sp tk vl mn sv rb rn rf k0 k1 : Int} {S0 S1 : vSt} {tx : List Int}
/-- what there is while CORDS are tied -/
def TI (w w' : vWd) (n now : Int) (ca po fo : Nat) (rs : Nat → List Int) (qt ty a0 sp tk vl mn sv : Int) : Prop := (∃ fd, w' 99 = some (mO qt ty a0 sp tk vl mn fd sv)) ∧ (∃ f, w' 100 = some (arI 98 f) ∧ BkOf f n now ca po fo rs) ∧ (∃ g, w' 109 = some (arZ 2187 g)) ∧ (∃ g, w' 110 = some (arI 2187 g)) ∧ ∀ j, j ≠ 99 → j ≠ 100 → j ≠ 109 → j ≠ 110 → w' j = w j
theorem BkOf.uncord {f f' : Nat → Int} {a b k v : Int} (h : BkOf f n now ca po fo (rsCord rs a b k v)) (hl : (rs 2).length = (rs 1).length ∧ (rs 3).length = (rs 1).length ∧ (rs 4).length = (rs 1).length) (hlt : (rs 1).length < 10) (h1 : f' 1 = (rs 1).length) (ho : ∀ i, i ≠ 1 → f' i = f i) : BkOf f' n now ca po fo rs := by
  obtain ⟨⟨⟨b0, b1, b2, b3⟩, b4, b5, b6, b7, b8⟩, ⟨l1, l5, l6, l8, l0⟩, hd, hc, hor, hs, hp⟩ := h
  refine ⟨⟨⟨(ho 0 (by omega)).trans b0, h1, (ho 2 (by omega)).trans b2, (ho 3 (by omega)).trans b3⟩, (ho 4 (by omega)).trans b4, (ho 5 (by omega)).trans b5, (ho 6 (by omega)).trans b6, (ho 7 (by omega)).trans b7, (ho 8 (by omega)).trans b8⟩, ⟨by omega, l5, l6, l8, l0⟩, fun d q1 q2 => (ho _ (by omega)).trans (hd d q1 q2), fun c q1 q2 => ?_, fun d q1 q2 => (ho _ (by omega)).trans (hor d q1 q2), fun c q1 q2 => ?_, fun d q1 q2 => (ho _ (by omega)).trans (hp d q1 q2)⟩
  · obtain ⟨c1, c2, c3, c4⟩ := hc c q1 (by rw [show rsCord rs a b k v 1 = rs 1 ++ [a] from rfl, app_len]; omega)
    rw [show rsCord rs a b k v 1 = rs 1 ++ [a] from rfl, rAt_appL q2] at c1
    rw [show rsCord rs a b k v 2 = rs 2 ++ [b] from rfl, rAt_appL (by omega)] at c2
    rw [show rsCord rs a b k v 3 = rs 3 ++ [k] from rfl, rAt_appL (by omega)] at c3
    rw [show rsCord rs a b k v 4 = rs 4 ++ [v] from rfl, rAt_appL (by omega)] at c4
    exact ⟨(ho _ (by omega)).trans c1, (ho _ (by omega)).trans c2, (ho _ (by omega)).trans c3, (ho _ (by omega)).trans c4⟩
  · obtain ⟨c1, c2⟩ := hs c q1 q2
    exact ⟨(ho _ (by omega)).trans c1, (ho _ (by omega)).trans c2⟩
set_option maxRecDepth 100000 in
theorem lpm_tieS {a b o v : Int} {p : Int × Int} {w' : vWd} {Q : vPost} (hG : vGood (n, now, ca, po, fo, rs)) (hl : (rs 1).length < 10) (ha : isD n a) (hb : isD n b) (hab : a ≠ b) (hov : (o = 1 ∧ v = 1) ∨ (o = 0 ∧ v = -1)) (hp : tieR p) (hI : TI w w' n now ca po fo rs qt ty a0 sp tk vl mn sv) (K : ∀ w'', TI w w'' n now ca po fo rs qt ty a0 sp tk vl mn sv → V mX6_tie (rm 7) Q 47 [some (.ref 99), some (vI (tieSt (opN ca rs n now) a b v p).1), some (vI (tieSt (opN ca rs n now) a b v p).2), some (vI a), some (vI b), some (vI (o + -1)), none] [] nn w'' 0 0) :
    V mX6_tie (rm 7) Q 58 [some (.ref 99), some (vI p.1), some (vI p.2), some (vI a), some (vI b), some (vI o), none] [] nn w' 0 0 := by
  have hG0 := hG
  obtain ⟨hn, hnow, hca, hpo, hfo, hgd, hcv, hor, hsg, hpast⟩ := hG.un
  obtain ⟨⟨fd, ho⟩, ⟨f, hb0, hB⟩, ⟨th, h9⟩, ⟨qu, h10⟩, hf⟩ := hI
  have hle := opN_le (ca := ca) (rs := rs) (a := a) (b := b) (v := v) ⟨by omega, by omega⟩ hcv hnow (Or.inr hb)
  have hok : okCord n a b 0 v := ⟨ha, hb, hab, by omega, by omega, by omega, by omega, by omega⟩
  have hG2 : vGood (n, now, ca, po, fo, rsCord rs a b 0 v) := by
    have h := hG0.cord a b 0 v
    rw [show fCord (n, now, ca, po, fo, rs) a b 0 v = (((rs 1).length : Int), (n, now, ca, po, fo, rsCord rs a b 0 v)) from (if_neg (fun q => q hok)).trans (if_neg (by show ¬ 10 ≤ (rs 1).length; omega))] at h
    exact h
  have hop : opM ca (rsCord rs a b 0 v) n now = opN ca rs n now a b v := opM_cord (by omega) hcv hl hnow hb
  have ets : tieSt (opN ca rs n now) a b v p = if p.1 < opN ca rs n now a b v then (opN ca rs n now a b v, 100 * a + 10 * b + max 0 v) else p := rfl
  rcases hov with ⟨rfl, rfl⟩ | ⟨rfl, rfl⟩
  · skip
    refine V_aload_n (Y := mX6_tie) (pc := 58) dX6_tie_58 rfl ?_
    refine V_iload_n (Y := mX6_tie) (pc := 59) dX6_tie_59 rfl ?_
    refine V_iload (Y := mX6_tie) (pc := 60) dX6_tie_60 rfl ?_
    refine V_iconst (Y := mX6_tie) (pc := 62) dX6_tie_62 ?_
    refine V_iload (Y := mX6_tie) (pc := 63) dX6_tie_63 rfl ?_
    refine V_iconst (Y := mX6_tie) (pc := 65) dX6_tie_65 ?_
    refine V_icmp_ne (tgt := 73) (Y := mX6_tie) (pc := 66) dX6_tie_66 (by decide) ⟨by omega, by omega⟩ ⟨by omega, by omega⟩ (fun h_66 => absurd h_66 (by omega)) (fun h_66 => ?_)
    refine V_iconst (Y := mX6_tie) (pc := 69) dX6_tie_69 ?_
    refine V_goto (tgt := 74) (Y := mX6_tie) (pc := 70) dX6_tie_70 (by decide) ?_
    apply V_vV (Y := mX6_tie) (pc := 74) dX6_tie_74 ok_X6_ties ov_X6_ties ln_X6_94 (cm_ties (a := a) (b := b) (k := 0) (v := 1) ho hb0 hB hcv.1 hl)
    · assumption
    · rfl
    · rfl
    · rfl
    · rfl
    · rfl
    rintro w_74 ⟨⟨f2, g1, g2, -⟩, f1⟩
    have o74 := (f1 99 (by omega)).trans ho
    have e1 : f2 (1 : Int).toNat = (rs 1).length + 1 := g2.1.1.2.1.trans (by rw [show rsCord rs a b 0 1 1 = rs 1 ++ [a] from rfl, app_len]; omega)
    refine V_aload_n (Y := mX6_tie) (pc := 77) dX6_tie_77 rfl ?_
    apply V_vI (Y := mX6_tie) (pc := 78) dX6_tie_78 ok_X6_opens ov_X6_opens ln_X6_219 (cm_opens o74 g1 g2 hG2 ((f1 _ (by omega)).trans h9) ((f1 _ (by omega)).trans h10))
    · assumption
    · rfl
    · rfl
    · rfl
    · rfl
    · rfl
    rintro z_78 w_78 ⟨hz, ⟨fd2, o78⟩, t78, q78, f78⟩
    rw [hop] at hz
    subst hz
    have b78 := (f78 100 (by omega) (by omega) (by omega)).trans g1
    refine V_istore (Y := mX6_tie) (pc := 81) dX6_tie_81 rfl ?_
    refine V_aload_n (Y := mX6_tie) (pc := 83) dX6_tie_83 rfl ?_
    apply V_get (Y := mX6_tie) (pc := 84) dX6_tie_84 fl_X6_7
    · assumption
    · rfl
    refine V_iconst (Y := mX6_tie) (pc := 87) dX6_tie_87 ?_
    refine V_dup2 (Y := mX6_tie) (pc := 88) dX6_tie_88 rfl rfl ?_
    apply V_iald (Y := mX6_tie) (pc := 89) dX6_tie_89
    · assumption
    · exact ⟨by omega, by omega⟩
    · omega
    rw [e1]
    refine V_iconst (Y := mX6_tie) (pc := 90) dX6_tie_90 ?_
    refine V_isub (Y := mX6_tie) (pc := 91) dX6_tie_91 ?_
    apply V_iastW (Y := mX6_tie) (pc := 92) dX6_tie_92
    · assumption
    · exact ⟨by omega, by omega⟩
    · omega
    intro w_92 h_92 f_92
    have o92 := (f_92 99 (by omega)).trans o78
    have hT : TI w w_92 n now ca po fo rs qt ty a0 sp tk vl mn sv := ⟨⟨fd2, o92⟩, ⟨_, h_92, g2.uncord hcv.1 hl (by refine Eq.trans (va_up_self _ (1 : Int).toNat _) ?_; omega) (fun i hi => va_up_ne _ _ (by omega))⟩, by obtain ⟨g, q⟩ := t78; exact ⟨g, (f_92 _ (by omega)).trans q⟩, by obtain ⟨g, q⟩ := q78; exact ⟨g, (f_92 _ (by omega)).trans q⟩, fun j q1 q2 q3 q4 => (f_92 j q2).trans ((f78 j q1 q3 q4).trans ((f1 j q2).trans (hf j q1 q2 q3 q4)))⟩
    refine V_iload (Y := mX6_tie) (pc := 93) dX6_tie_93 rfl ?_
    refine V_iload_n (Y := mX6_tie) (pc := 95) dX6_tie_95 rfl ?_
    refine V_icmp_le (tgt := 115) (Y := mX6_tie) (pc := 96) dX6_tie_96 (by decide) ⟨by omega, by omega⟩ ⟨by have := hp.1; omega, by have := hp.2.1; omega⟩ (fun h_96 => ?_) (fun h_96 => ?_)
    · refine V_iload_n (Y := mX6_tie) (pc := 115) dX6_tie_115 rfl ?_
      refine V_istore_n (Y := mX6_tie) (pc := 116) dX6_tie_116 rfl ?_
      refine V_iload (Y := mX6_tie) (pc := 117) dX6_tie_117 rfl ?_
      refine V_iload_n (Y := mX6_tie) (pc := 119) dX6_tie_119 rfl ?_
      refine V_icmp_le (tgt := 128) (Y := mX6_tie) (pc := 120) dX6_tie_120 (by decide) ⟨by omega, by omega⟩ ⟨by have := hp.1; omega, by have := hp.2.1; omega⟩ (fun h_120 => ?_) (fun h_120 => ?_)
      · refine V_iload_n (Y := mX6_tie) (pc := 128) dX6_tie_128 rfl ?_
        refine V_istore_n (Y := mX6_tie) (pc := 129) dX6_tie_129 rfl ?_
        refine V_iinc (Y := mX6_tie) (pc := 130) dX6_tie_130 rfl rfl ?_
        refine V_goto (tgt := 47) (Y := mX6_tie) (pc := 133) dX6_tie_133 (by decide) ?_
        refine V_drop 6 ?_
        have k := K w_92 hT
        rw [ets] at k
        first
          | (exfalso; omega)
          | (rw [if_pos (by omega)] at k; exact k)
          | (rw [if_neg (by omega)] at k; exact k)
      · refine V_iload (Y := mX6_tie) (pc := 123) dX6_tie_123 rfl ?_
        refine V_goto (tgt := 129) (Y := mX6_tie) (pc := 125) dX6_tie_125 (by decide) ?_
        refine V_istore_n (Y := mX6_tie) (pc := 129) dX6_tie_129 rfl ?_
        refine V_iinc (Y := mX6_tie) (pc := 130) dX6_tie_130 rfl rfl ?_
        refine V_goto (tgt := 47) (Y := mX6_tie) (pc := 133) dX6_tie_133 (by decide) ?_
        refine V_drop 6 ?_
        have k := K w_92 hT
        rw [ets] at k
        first
          | (exfalso; omega)
          | (rw [if_pos (by omega)] at k; exact k)
          | (rw [if_neg (by omega)] at k; exact k)
    · refine V_bipush (Y := mX6_tie) (pc := 99) dX6_tie_99 ⟨by decide, by decide⟩ ?_
      refine V_iload_n (Y := mX6_tie) (pc := 101) dX6_tie_101 rfl ?_
      refine V_imul (Y := mX6_tie) (pc := 102) dX6_tie_102 ?_
      refine V_bipush (Y := mX6_tie) (pc := 103) dX6_tie_103 ⟨by decide, by decide⟩ ?_
      refine V_iload (Y := mX6_tie) (pc := 105) dX6_tie_105 rfl ?_
      refine V_imul (Y := mX6_tie) (pc := 107) dX6_tie_107 ?_
      refine V_iadd (Y := mX6_tie) (pc := 108) dX6_tie_108 ?_
      refine V_iload (Y := mX6_tie) (pc := 109) dX6_tie_109 rfl ?_
      refine V_iadd (Y := mX6_tie) (pc := 111) dX6_tie_111 ?_
      refine V_goto (tgt := 116) (Y := mX6_tie) (pc := 112) dX6_tie_112 (by decide) ?_
      refine V_istore_n (Y := mX6_tie) (pc := 116) dX6_tie_116 rfl ?_
      refine V_iload (Y := mX6_tie) (pc := 117) dX6_tie_117 rfl ?_
      refine V_iload_n (Y := mX6_tie) (pc := 119) dX6_tie_119 rfl ?_
      refine V_icmp_le (tgt := 128) (Y := mX6_tie) (pc := 120) dX6_tie_120 (by decide) ⟨by omega, by omega⟩ ⟨by have := hp.1; omega, by have := hp.2.1; omega⟩ (fun h_120 => ?_) (fun h_120 => ?_)
      · refine V_iload_n (Y := mX6_tie) (pc := 128) dX6_tie_128 rfl ?_
        refine V_istore_n (Y := mX6_tie) (pc := 129) dX6_tie_129 rfl ?_
        refine V_iinc (Y := mX6_tie) (pc := 130) dX6_tie_130 rfl rfl ?_
        refine V_goto (tgt := 47) (Y := mX6_tie) (pc := 133) dX6_tie_133 (by decide) ?_
        refine V_drop 6 ?_
        have k := K w_92 hT
        rw [ets] at k
        first
          | (exfalso; omega)
          | (rw [if_pos (by omega)] at k; exact k)
          | (rw [if_neg (by omega)] at k; exact k)
      · refine V_iload (Y := mX6_tie) (pc := 123) dX6_tie_123 rfl ?_
        refine V_goto (tgt := 129) (Y := mX6_tie) (pc := 125) dX6_tie_125 (by decide) ?_
        refine V_istore_n (Y := mX6_tie) (pc := 129) dX6_tie_129 rfl ?_
        refine V_iinc (Y := mX6_tie) (pc := 130) dX6_tie_130 rfl rfl ?_
        refine V_goto (tgt := 47) (Y := mX6_tie) (pc := 133) dX6_tie_133 (by decide) ?_
        refine V_drop 6 ?_
        have k := K w_92 hT
        rw [ets] at k
        first
          | (exfalso; omega)
          | (rw [if_pos (by omega)] at k; exact k)
          | (rw [if_neg (by omega)] at k; exact k)
  · skip
    refine V_aload_n (Y := mX6_tie) (pc := 58) dX6_tie_58 rfl ?_
    refine V_iload_n (Y := mX6_tie) (pc := 59) dX6_tie_59 rfl ?_
    refine V_iload (Y := mX6_tie) (pc := 60) dX6_tie_60 rfl ?_
    refine V_iconst (Y := mX6_tie) (pc := 62) dX6_tie_62 ?_
    refine V_iload (Y := mX6_tie) (pc := 63) dX6_tie_63 rfl ?_
    refine V_iconst (Y := mX6_tie) (pc := 65) dX6_tie_65 ?_
    refine V_icmp_ne (tgt := 73) (Y := mX6_tie) (pc := 66) dX6_tie_66 (by decide) ⟨by omega, by omega⟩ ⟨by omega, by omega⟩ (fun h_66 => ?_) (fun h_66 => absurd h_66 (by omega))
    refine V_iconst (Y := mX6_tie) (pc := 73) dX6_tie_73 ?_
    apply V_vV (Y := mX6_tie) (pc := 74) dX6_tie_74 ok_X6_ties ov_X6_ties ln_X6_94 (cm_ties (a := a) (b := b) (k := 0) (v := -1) ho hb0 hB hcv.1 hl)
    · assumption
    · rfl
    · rfl
    · rfl
    · rfl
    · rfl
    rintro w_74 ⟨⟨f2, g1, g2, -⟩, f1⟩
    have o74 := (f1 99 (by omega)).trans ho
    have e1 : f2 (1 : Int).toNat = (rs 1).length + 1 := g2.1.1.2.1.trans (by rw [show rsCord rs a b 0 (-1) 1 = rs 1 ++ [a] from rfl, app_len]; omega)
    refine V_aload_n (Y := mX6_tie) (pc := 77) dX6_tie_77 rfl ?_
    apply V_vI (Y := mX6_tie) (pc := 78) dX6_tie_78 ok_X6_opens ov_X6_opens ln_X6_219 (cm_opens o74 g1 g2 hG2 ((f1 _ (by omega)).trans h9) ((f1 _ (by omega)).trans h10))
    · assumption
    · rfl
    · rfl
    · rfl
    · rfl
    · rfl
    rintro z_78 w_78 ⟨hz, ⟨fd2, o78⟩, t78, q78, f78⟩
    rw [hop] at hz
    subst hz
    have b78 := (f78 100 (by omega) (by omega) (by omega)).trans g1
    refine V_istore (Y := mX6_tie) (pc := 81) dX6_tie_81 rfl ?_
    refine V_aload_n (Y := mX6_tie) (pc := 83) dX6_tie_83 rfl ?_
    apply V_get (Y := mX6_tie) (pc := 84) dX6_tie_84 fl_X6_7
    · assumption
    · rfl
    refine V_iconst (Y := mX6_tie) (pc := 87) dX6_tie_87 ?_
    refine V_dup2 (Y := mX6_tie) (pc := 88) dX6_tie_88 rfl rfl ?_
    apply V_iald (Y := mX6_tie) (pc := 89) dX6_tie_89
    · assumption
    · exact ⟨by omega, by omega⟩
    · omega
    rw [e1]
    refine V_iconst (Y := mX6_tie) (pc := 90) dX6_tie_90 ?_
    refine V_isub (Y := mX6_tie) (pc := 91) dX6_tie_91 ?_
    apply V_iastW (Y := mX6_tie) (pc := 92) dX6_tie_92
    · assumption
    · exact ⟨by omega, by omega⟩
    · omega
    intro w_92 h_92 f_92
    have o92 := (f_92 99 (by omega)).trans o78
    have hT : TI w w_92 n now ca po fo rs qt ty a0 sp tk vl mn sv := ⟨⟨fd2, o92⟩, ⟨_, h_92, g2.uncord hcv.1 hl (by refine Eq.trans (va_up_self _ (1 : Int).toNat _) ?_; omega) (fun i hi => va_up_ne _ _ (by omega))⟩, by obtain ⟨g, q⟩ := t78; exact ⟨g, (f_92 _ (by omega)).trans q⟩, by obtain ⟨g, q⟩ := q78; exact ⟨g, (f_92 _ (by omega)).trans q⟩, fun j q1 q2 q3 q4 => (f_92 j q2).trans ((f78 j q1 q3 q4).trans ((f1 j q2).trans (hf j q1 q2 q3 q4)))⟩
    refine V_iload (Y := mX6_tie) (pc := 93) dX6_tie_93 rfl ?_
    refine V_iload_n (Y := mX6_tie) (pc := 95) dX6_tie_95 rfl ?_
    refine V_icmp_le (tgt := 115) (Y := mX6_tie) (pc := 96) dX6_tie_96 (by decide) ⟨by omega, by omega⟩ ⟨by have := hp.1; omega, by have := hp.2.1; omega⟩ (fun h_96 => ?_) (fun h_96 => ?_)
    · refine V_iload_n (Y := mX6_tie) (pc := 115) dX6_tie_115 rfl ?_
      refine V_istore_n (Y := mX6_tie) (pc := 116) dX6_tie_116 rfl ?_
      refine V_iload (Y := mX6_tie) (pc := 117) dX6_tie_117 rfl ?_
      refine V_iload_n (Y := mX6_tie) (pc := 119) dX6_tie_119 rfl ?_
      refine V_icmp_le (tgt := 128) (Y := mX6_tie) (pc := 120) dX6_tie_120 (by decide) ⟨by omega, by omega⟩ ⟨by have := hp.1; omega, by have := hp.2.1; omega⟩ (fun h_120 => ?_) (fun h_120 => ?_)
      · refine V_iload_n (Y := mX6_tie) (pc := 128) dX6_tie_128 rfl ?_
        refine V_istore_n (Y := mX6_tie) (pc := 129) dX6_tie_129 rfl ?_
        refine V_iinc (Y := mX6_tie) (pc := 130) dX6_tie_130 rfl rfl ?_
        refine V_goto (tgt := 47) (Y := mX6_tie) (pc := 133) dX6_tie_133 (by decide) ?_
        refine V_drop 6 ?_
        have k := K w_92 hT
        rw [ets] at k
        first
          | (exfalso; omega)
          | (rw [if_pos (by omega)] at k; exact k)
          | (rw [if_neg (by omega)] at k; exact k)
      · refine V_iload (Y := mX6_tie) (pc := 123) dX6_tie_123 rfl ?_
        refine V_goto (tgt := 129) (Y := mX6_tie) (pc := 125) dX6_tie_125 (by decide) ?_
        refine V_istore_n (Y := mX6_tie) (pc := 129) dX6_tie_129 rfl ?_
        refine V_iinc (Y := mX6_tie) (pc := 130) dX6_tie_130 rfl rfl ?_
        refine V_goto (tgt := 47) (Y := mX6_tie) (pc := 133) dX6_tie_133 (by decide) ?_
        refine V_drop 6 ?_
        have k := K w_92 hT
        rw [ets] at k
        first
          | (exfalso; omega)
          | (rw [if_pos (by omega)] at k; exact k)
          | (rw [if_neg (by omega)] at k; exact k)
    · refine V_bipush (Y := mX6_tie) (pc := 99) dX6_tie_99 ⟨by decide, by decide⟩ ?_
      refine V_iload_n (Y := mX6_tie) (pc := 101) dX6_tie_101 rfl ?_
      refine V_imul (Y := mX6_tie) (pc := 102) dX6_tie_102 ?_
      refine V_bipush (Y := mX6_tie) (pc := 103) dX6_tie_103 ⟨by decide, by decide⟩ ?_
      refine V_iload (Y := mX6_tie) (pc := 105) dX6_tie_105 rfl ?_
      refine V_imul (Y := mX6_tie) (pc := 107) dX6_tie_107 ?_
      refine V_iadd (Y := mX6_tie) (pc := 108) dX6_tie_108 ?_
      refine V_iload (Y := mX6_tie) (pc := 109) dX6_tie_109 rfl ?_
      refine V_iadd (Y := mX6_tie) (pc := 111) dX6_tie_111 ?_
      refine V_goto (tgt := 116) (Y := mX6_tie) (pc := 112) dX6_tie_112 (by decide) ?_
      refine V_istore_n (Y := mX6_tie) (pc := 116) dX6_tie_116 rfl ?_
      refine V_iload (Y := mX6_tie) (pc := 117) dX6_tie_117 rfl ?_
      refine V_iload_n (Y := mX6_tie) (pc := 119) dX6_tie_119 rfl ?_
      refine V_icmp_le (tgt := 128) (Y := mX6_tie) (pc := 120) dX6_tie_120 (by decide) ⟨by omega, by omega⟩ ⟨by have := hp.1; omega, by have := hp.2.1; omega⟩ (fun h_120 => ?_) (fun h_120 => ?_)
      · refine V_iload_n (Y := mX6_tie) (pc := 128) dX6_tie_128 rfl ?_
        refine V_istore_n (Y := mX6_tie) (pc := 129) dX6_tie_129 rfl ?_
        refine V_iinc (Y := mX6_tie) (pc := 130) dX6_tie_130 rfl rfl ?_
        refine V_goto (tgt := 47) (Y := mX6_tie) (pc := 133) dX6_tie_133 (by decide) ?_
        refine V_drop 6 ?_
        have k := K w_92 hT
        rw [ets] at k
        first
          | (exfalso; omega)
          | (rw [if_pos (by omega)] at k; exact k)
          | (rw [if_neg (by omega)] at k; exact k)
      · refine V_iload (Y := mX6_tie) (pc := 123) dX6_tie_123 rfl ?_
        refine V_goto (tgt := 129) (Y := mX6_tie) (pc := 125) dX6_tie_125 (by decide) ?_
        refine V_istore_n (Y := mX6_tie) (pc := 129) dX6_tie_129 rfl ?_
        refine V_iinc (Y := mX6_tie) (pc := 130) dX6_tie_130 rfl rfl ?_
        refine V_goto (tgt := 47) (Y := mX6_tie) (pc := 133) dX6_tie_133 (by decide) ?_
        refine V_drop 6 ?_
        have k := K w_92 hT
        rw [ets] at k
        first
          | (exfalso; omega)
          | (rw [if_pos (by omega)] at k; exact k)
          | (rw [if_neg (by omega)] at k; exact k)
set_option maxRecDepth 100000 in
theorem lpm_tie47c {a b ms bs : Int} {w' : vWd} {Q : vPost} (ha : isD n a) (hb : isD n b) (hn : 2 ≤ n ∧ n ≤ 7) (K : V mX6_tie (rm 7) Q 33 [some (.ref 99), some (vI ms), some (vI bs), some (vI a), some (vI (b + 1)), some (vI (-1)), none] [] nn w' 0 0) :
    V mX6_tie (rm 7) Q 47 [some (.ref 99), some (vI ms), some (vI bs), some (vI a), some (vI b), some (vI (0 + -1)), none] [] nn w' 0 0 := by
  refine V_iload (Y := mX6_tie) (pc := 47) dX6_tie_47 rfl ?_
  refine V_if_lt (tgt := 136) (Y := mX6_tie) (pc := 49) dX6_tie_49 (by decide) ⟨by omega, by omega⟩ (fun h_49 => ?_) (fun h_49 => absurd h_49 (by omega))
  refine V_iinc (Y := mX6_tie) (pc := 136) dX6_tie_136 rfl rfl ?_
  refine V_goto (tgt := 33) (Y := mX6_tie) (pc := 139) dX6_tie_139 (by decide) ?_
  exact K
set_option maxRecDepth 100000 in
theorem lpm_tie47b {a b : Int} {p : Int × Int} {w' : vWd} {Q : vPost} (hG : vGood (n, now, ca, po, fo, rs)) (hl : (rs 1).length < 10) (ha : isD n a) (hb : isD n b) (hab : ¬ a = b) (hp : tieR p) (hI : TI w w' n now ca po fo rs qt ty a0 sp tk vl mn sv) (K : ∀ w'', TI w w'' n now ca po fo rs qt ty a0 sp tk vl mn sv → V mX6_tie (rm 7) Q 33 [some (.ref 99), some (vI (tieSt (opN ca rs n now) a b (-1) p).1), some (vI (tieSt (opN ca rs n now) a b (-1) p).2), some (vI a), some (vI (b + 1)), some (vI (-1)), none] [] nn w'' 0 0) :
    V mX6_tie (rm 7) Q 47 [some (.ref 99), some (vI p.1), some (vI p.2), some (vI a), some (vI b), some (vI (1 + -1)), none] [] nn w' 0 0 := by
  have hn := hG.un.1
  refine V_iload (Y := mX6_tie) (pc := 47) dX6_tie_47 rfl ?_
  refine V_if_lt (tgt := 136) (Y := mX6_tie) (pc := 49) dX6_tie_49 (by decide) ⟨by omega, by omega⟩ (fun h_49 => absurd h_49 (by omega)) (fun h_49 => ?_)
  refine V_iload_n (Y := mX6_tie) (pc := 52) dX6_tie_52 rfl ?_
  refine V_iload (Y := mX6_tie) (pc := 53) dX6_tie_53 rfl ?_
  refine V_icmp_eq (tgt := 136) (Y := mX6_tie) (pc := 55) dX6_tie_55 (by decide) ⟨by omega, by omega⟩ ⟨by omega, by omega⟩ (fun h_55 => absurd h_55 (by omega)) (fun h_55 => ?_)
  exact lpm_tieS (o := 0) (v := -1) hG hl ha hb hab (Or.inr ⟨rfl, rfl⟩) hp hI (fun w2 q2 => lpm_tie47c ha hb hn (K w2 q2))
set_option maxRecDepth 100000 in
theorem lpm_tie47 {a b : Int} {p : Int × Int} {w' : vWd} {Q : vPost} (hG : vGood (n, now, ca, po, fo, rs)) (hl : (rs 1).length < 10) (ha : isD n a) (hb : isD n b) (hab : ¬ a = b) (hp : tieR p) (hI : TI w w' n now ca po fo rs qt ty a0 sp tk vl mn sv) (K : ∀ w'', TI w w'' n now ca po fo rs qt ty a0 sp tk vl mn sv → V mX6_tie (rm 7) Q 33 [some (.ref 99), some (vI (tieSt (opN ca rs n now) a b (-1) (tieSt (opN ca rs n now) a b 1 p)).1), some (vI (tieSt (opN ca rs n now) a b (-1) (tieSt (opN ca rs n now) a b 1 p)).2), some (vI a), some (vI (b + 1)), some (vI (-1)), none] [] nn w'' 0 0) :
    V mX6_tie (rm 7) Q 47 [some (.ref 99), some (vI p.1), some (vI p.2), some (vI a), some (vI b), some (vI 1), none] [] nn w' 0 0 := by
  have hn := hG.un.1
  refine V_iload (Y := mX6_tie) (pc := 47) dX6_tie_47 rfl ?_
  refine V_if_lt (tgt := 136) (Y := mX6_tie) (pc := 49) dX6_tie_49 (by decide) ⟨by omega, by omega⟩ (fun h_49 => absurd h_49 (by omega)) (fun h_49 => ?_)
  refine V_iload_n (Y := mX6_tie) (pc := 52) dX6_tie_52 rfl ?_
  refine V_iload (Y := mX6_tie) (pc := 53) dX6_tie_53 rfl ?_
  refine V_icmp_eq (tgt := 136) (Y := mX6_tie) (pc := 55) dX6_tie_55 (by decide) ⟨by omega, by omega⟩ ⟨by omega, by omega⟩ (fun h_55 => absurd h_55 (by omega)) (fun h_55 => ?_)
  refine lpm_tieS (o := 1) (v := 1) hG hl ha hb hab (Or.inl ⟨rfl, rfl⟩) hp hI (fun w2 q2 => ?_)
  exact lpm_tie47b hG hl ha hb hab (tieSt_R 1 ha.1 hb.1 hp) q2 K
set_option maxRecDepth 100000 in
theorem lpm_tieB {a : Int} {p : Int × Int} {Q : vPost} (hG : vGood (n, now, ca, po, fo, rs)) (hl : (rs 1).length < 10) (ha : isD n a) (hp : tieR p) (K : ∀ w'', TI w w'' n now ca po fo rs qt ty a0 sp tk vl mn sv → V mX6_tie (rm 7) Q 142 [some (.ref 99), some (vI (tieB (opN ca rs n now) a n.toNat p).1), some (vI (tieB (opN ca rs n now) a n.toNat p).2), some (vI a), none, none, none] [] nn w'' 0 0) : ∀ (m : Nat) (b : Int) (w' : vWd), 0 ≤ b → b + m = n → TI w w' n now ca po fo rs qt ty a0 sp tk vl mn sv →
    V mX6_tie (rm 7) Q 33 [some (.ref 99), some (vI (tieB (opN ca rs n now) a b.toNat p).1), some (vI (tieB (opN ca rs n now) a b.toNat p).2), some (vI a), some (vI b), none, none] [] nn w' 0 0 := by
  have hn := hG.un.1
  intro m
  induction m with
  | zero =>
    intro b w' hb hbm hI
    have hbn : b.toNat = n.toNat := by omega
    have k := K w' hI
    obtain ⟨⟨fd, ho⟩, ⟨f, hb0, hB⟩, -⟩ := hI
    have e0 : f (0 : Int).toNat = n := hB.1.1.1
    refine V_iload (Y := mX6_tie) (pc := 33) dX6_tie_33 rfl ?_
    refine V_aload_n (Y := mX6_tie) (pc := 35) dX6_tie_35 rfl ?_
    apply V_get (Y := mX6_tie) (pc := 36) dX6_tie_36 fl_X6_7
    · assumption
    · rfl
    refine V_iconst (Y := mX6_tie) (pc := 39) dX6_tie_39 ?_
    apply V_iald (Y := mX6_tie) (pc := 40) dX6_tie_40
    · assumption
    · exact ⟨by omega, by omega⟩
    · omega
    rw [e0]
    refine V_icmp_ge (tgt := 142) (Y := mX6_tie) (pc := 41) dX6_tie_41 (by decide) ⟨by omega, by omega⟩ ⟨by omega, by omega⟩ (fun h_41 => ?_) (fun h_41 => absurd h_41 (by omega))
    rw [hbn]; exact V_drop 4 k
  | succ m ih =>
    intro b w' hb hbm hI
    have hI0 := hI
    have ih1 := fun (w2 : vWd) => ih (b + 1) w2 (by omega) (by omega)
    rw [show (b + 1).toNat = b.toNat + 1 by omega] at ih1
    obtain ⟨⟨fd, ho⟩, ⟨f, hb0, hB⟩, -⟩ := hI
    have e0 : f (0 : Int).toNat = n := hB.1.1.1
    have hpB := tieB_R (ca := ca) (rs := rs) (n := n) (now := now) (a := a) ha.1 b.toNat hp
    by_cases hab : a = b
    · rw [tieB_t (show a = ((b.toNat : Nat) : Int) by omega)] at ih1
      refine V_iload (Y := mX6_tie) (pc := 33) dX6_tie_33 rfl ?_
      refine V_aload_n (Y := mX6_tie) (pc := 35) dX6_tie_35 rfl ?_
      apply V_get (Y := mX6_tie) (pc := 36) dX6_tie_36 fl_X6_7
      · assumption
      · rfl
      refine V_iconst (Y := mX6_tie) (pc := 39) dX6_tie_39 ?_
      apply V_iald (Y := mX6_tie) (pc := 40) dX6_tie_40
      · assumption
      · exact ⟨by omega, by omega⟩
      · omega
      rw [e0]
      refine V_icmp_ge (tgt := 142) (Y := mX6_tie) (pc := 41) dX6_tie_41 (by decide) ⟨by omega, by omega⟩ ⟨by omega, by omega⟩ (fun h_41 => absurd h_41 (by omega)) (fun h_41 => ?_)
      refine V_iconst (Y := mX6_tie) (pc := 44) dX6_tie_44 ?_
      refine V_istore (Y := mX6_tie) (pc := 45) dX6_tie_45 rfl ?_
      refine V_iload (Y := mX6_tie) (pc := 47) dX6_tie_47 rfl ?_
      refine V_if_lt (tgt := 136) (Y := mX6_tie) (pc := 49) dX6_tie_49 (by decide) ⟨by omega, by omega⟩ (fun h_49 => absurd h_49 (by omega)) (fun h_49 => ?_)
      refine V_iload_n (Y := mX6_tie) (pc := 52) dX6_tie_52 rfl ?_
      refine V_iload (Y := mX6_tie) (pc := 53) dX6_tie_53 rfl ?_
      refine V_icmp_eq (tgt := 136) (Y := mX6_tie) (pc := 55) dX6_tie_55 (by decide) ⟨by omega, by omega⟩ ⟨by omega, by omega⟩ (fun h_55 => ?_) (fun h_55 => absurd h_55 (by omega))
      refine V_iinc (Y := mX6_tie) (pc := 136) dX6_tie_136 rfl rfl ?_
      refine V_goto (tgt := 33) (Y := mX6_tie) (pc := 139) dX6_tie_139 (by decide) ?_
      exact V_drop 5 (ih1 w' hI0)
    · rw [tieB_f (show ¬ a = ((b.toNat : Nat) : Int) by omega), show ((b.toNat : Nat) : Int) = b by omega] at ih1
      refine V_iload (Y := mX6_tie) (pc := 33) dX6_tie_33 rfl ?_
      refine V_aload_n (Y := mX6_tie) (pc := 35) dX6_tie_35 rfl ?_
      apply V_get (Y := mX6_tie) (pc := 36) dX6_tie_36 fl_X6_7
      · assumption
      · rfl
      refine V_iconst (Y := mX6_tie) (pc := 39) dX6_tie_39 ?_
      apply V_iald (Y := mX6_tie) (pc := 40) dX6_tie_40
      · assumption
      · exact ⟨by omega, by omega⟩
      · omega
      rw [e0]
      refine V_icmp_ge (tgt := 142) (Y := mX6_tie) (pc := 41) dX6_tie_41 (by decide) ⟨by omega, by omega⟩ ⟨by omega, by omega⟩ (fun h_41 => absurd h_41 (by omega)) (fun h_41 => ?_)
      refine V_iconst (Y := mX6_tie) (pc := 44) dX6_tie_44 ?_
      refine V_istore (Y := mX6_tie) (pc := 45) dX6_tie_45 rfl ?_
      skip
      exact lpm_tie47 hG hl ha ⟨hb, by omega⟩ hab hpB hI0 (fun w2 q => V_drop 5 (ih1 w2 q))
set_option maxRecDepth 100000 in
theorem lpm_tieN {a ms bs : Int} {w' : vWd} {Q : vPost} (ha : isD n a) (hn : 2 ≤ n ∧ n ≤ 7) (K : V mX6_tie (rm 7) Q 9 [some (.ref 99), some (vI ms), some (vI bs), some (vI (a + 1)), none, none, none] [] nn w' 0 0) :
    V mX6_tie (rm 7) Q 142 [some (.ref 99), some (vI ms), some (vI bs), some (vI a), none, none, none] [] nn w' 0 0 := by
  refine V_iinc (Y := mX6_tie) (pc := 142) dX6_tie_142 rfl rfl ?_
  refine V_goto (tgt := 9) (Y := mX6_tie) (pc := 145) dX6_tie_145 (by decide) ?_
  exact K
set_option maxRecDepth 100000 in
theorem lpm_tieX {ms k : Int} {f : Nat → Int} {fd : Int} {w' : vWd} {Q : vPost} (ho : w' 99 = some (mO qt ty a0 sp tk vl mn fd sv)) (hb : w' 100 = some (arI 98 f)) (e0 : f (0 : Int).toNat = n) (e1 : f (1 : Int).toNat = k) (hn : 2 ≤ n ∧ n ≤ 7) (hk : 10 ≤ k) (hk2 : k ≤ 10) (hQ : Q (some (vI (-1))) nn w') :
    V mX6_tie (rm 7) Q 9 [some (.ref 99), some (vI ms), some (vI (-1)), some (vI 0), none, none, none] [] nn w' 0 0 := by
  refine V_iload_n (Y := mX6_tie) (pc := 9) dX6_tie_9 rfl ?_
  refine V_aload_n (Y := mX6_tie) (pc := 10) dX6_tie_10 rfl ?_
  apply V_get (Y := mX6_tie) (pc := 11) dX6_tie_11 fl_X6_7
  · assumption
  · rfl
  refine V_iconst (Y := mX6_tie) (pc := 14) dX6_tie_14 ?_
  apply V_iald (Y := mX6_tie) (pc := 15) dX6_tie_15
  · assumption
  · exact ⟨by omega, by omega⟩
  · omega
  rw [e0]
  refine V_icmp_ge (tgt := 148) (Y := mX6_tie) (pc := 16) dX6_tie_16 (by decide) ⟨by omega, by omega⟩ ⟨by omega, by omega⟩ (fun h_16 => absurd h_16 (by omega)) (fun h_16 => ?_)
  refine V_aload_n (Y := mX6_tie) (pc := 19) dX6_tie_19 rfl ?_
  apply V_get (Y := mX6_tie) (pc := 20) dX6_tie_20 fl_X6_7
  · assumption
  · rfl
  refine V_iconst (Y := mX6_tie) (pc := 23) dX6_tie_23 ?_
  apply V_iald (Y := mX6_tie) (pc := 24) dX6_tie_24
  · assumption
  · exact ⟨by omega, by omega⟩
  · omega
  rw [e1]
  refine V_bipush (Y := mX6_tie) (pc := 25) dX6_tie_25 ⟨by decide, by decide⟩ ?_
  refine V_icmp_ge (tgt := 148) (Y := mX6_tie) (pc := 27) dX6_tie_27 (by decide) ⟨by omega, by omega⟩ ⟨by omega, by omega⟩ (fun h_27 => ?_) (fun h_27 => absurd h_27 (by omega))
  refine V_iload_n (Y := mX6_tie) (pc := 148) dX6_tie_148 rfl ?_
  refine V_iret (Y := mX6_tie) (pc := 149) dX6_tie_149 rfl (Nat.le_of_ble_eq_true rfl) (Nat.le_of_ble_eq_true rfl) ?_
  exact hQ
set_option maxRecDepth 100000 in
theorem lpm_tieA {Q : vPost} {r : Int} (hG : vGood (n, now, ca, po, fo, rs)) (hl : (rs 1).length < 10) (K : ∀ w'', TI w w'' n now ca po fo rs qt ty a0 sp tk vl mn sv → Q (some (vI r)) nn w'') : ∀ (m : Nat) (a : Int) (p : Int × Int) (w' : vWd), 0 ≤ a → a + m = n → tieR p → (tieA (opN ca rs n now) n m a p).2 = r → TI w w' n now ca po fo rs qt ty a0 sp tk vl mn sv →
    V mX6_tie (rm 7) Q 9 [some (.ref 99), some (vI p.1), some (vI p.2), some (vI a), none, none, none] [] nn w' 0 0 := by
  obtain ⟨hn, hnow, hca, hpo, hfo, hgd, hcv, hor, hsg, hpast⟩ := hG.un
  intro m
  induction m with
  | zero =>
    intro a p w' ha ham hp hr hI
    have k := K w' hI
    have hr : p.2 = r := hr
    obtain ⟨⟨fd, ho⟩, ⟨f, hb0, hB⟩, -⟩ := hI
    have e0 : f (0 : Int).toNat = n := hB.1.1.1
    refine V_iload_n (Y := mX6_tie) (pc := 9) dX6_tie_9 rfl ?_
    refine V_aload_n (Y := mX6_tie) (pc := 10) dX6_tie_10 rfl ?_
    apply V_get (Y := mX6_tie) (pc := 11) dX6_tie_11 fl_X6_7
    · assumption
    · rfl
    refine V_iconst (Y := mX6_tie) (pc := 14) dX6_tie_14 ?_
    apply V_iald (Y := mX6_tie) (pc := 15) dX6_tie_15
    · assumption
    · exact ⟨by omega, by omega⟩
    · omega
    rw [e0]
    refine V_icmp_ge (tgt := 148) (Y := mX6_tie) (pc := 16) dX6_tie_16 (by decide) ⟨by omega, by omega⟩ ⟨by omega, by omega⟩ (fun h_16 => ?_) (fun h_16 => absurd h_16 (by omega))
    refine V_iload_n (Y := mX6_tie) (pc := 148) dX6_tie_148 rfl ?_
    refine V_iret (Y := mX6_tie) (pc := 149) dX6_tie_149 rfl (Nat.le_of_ble_eq_true rfl) (Nat.le_of_ble_eq_true rfl) ?_
    rw [hr]; exact k
  | succ m ih =>
    intro a p w' ha ham hp hr hI
    have hI0 := hI
    obtain ⟨⟨fd, ho⟩, ⟨f, hb0, hB⟩, -⟩ := hI
    have e0 : f (0 : Int).toNat = n := hB.1.1.1
    have e1 : f (1 : Int).toNat = (rs 1).length := hB.1.1.2.1
    have hpB := tieB_R (ca := ca) (rs := rs) (n := n) (now := now) (a := a) ha n.toNat hp
    have hr2 : (tieA (opN ca rs n now) n m (a + 1) (tieB (opN ca rs n now) a n.toNat p)).2 = r := by
      rw [tieA] at hr
      by_cases hpn : p.1 < n
      · rw [if_pos hpn] at hr; exact hr
      · rw [if_neg hpn] at hr
        rw [tieB_id (n := n) (fun b v hb => (opN_le ⟨by omega, by omega⟩ hcv hnow (Or.inr hb)).2) (by omega) n.toNat (by omega)]
        cases m with
        | zero => exact hr
        | succ m => rw [tieA, if_neg hpn]; exact hr
    refine V_iload_n (Y := mX6_tie) (pc := 9) dX6_tie_9 rfl ?_
    refine V_aload_n (Y := mX6_tie) (pc := 10) dX6_tie_10 rfl ?_
    apply V_get (Y := mX6_tie) (pc := 11) dX6_tie_11 fl_X6_7
    · assumption
    · rfl
    refine V_iconst (Y := mX6_tie) (pc := 14) dX6_tie_14 ?_
    apply V_iald (Y := mX6_tie) (pc := 15) dX6_tie_15
    · assumption
    · exact ⟨by omega, by omega⟩
    · omega
    rw [e0]
    refine V_icmp_ge (tgt := 148) (Y := mX6_tie) (pc := 16) dX6_tie_16 (by decide) ⟨by omega, by omega⟩ ⟨by omega, by omega⟩ (fun h_16 => absurd h_16 (by omega)) (fun h_16 => ?_)
    refine V_aload_n (Y := mX6_tie) (pc := 19) dX6_tie_19 rfl ?_
    apply V_get (Y := mX6_tie) (pc := 20) dX6_tie_20 fl_X6_7
    · assumption
    · rfl
    refine V_iconst (Y := mX6_tie) (pc := 23) dX6_tie_23 ?_
    apply V_iald (Y := mX6_tie) (pc := 24) dX6_tie_24
    · assumption
    · exact ⟨by omega, by omega⟩
    · omega
    rw [e1]
    refine V_bipush (Y := mX6_tie) (pc := 25) dX6_tie_25 ⟨by decide, by decide⟩ ?_
    refine V_icmp_ge (tgt := 148) (Y := mX6_tie) (pc := 27) dX6_tie_27 (by decide) ⟨by omega, by omega⟩ ⟨by omega, by omega⟩ (fun h_27 => absurd h_27 (by omega)) (fun h_27 => ?_)
    refine V_iconst (Y := mX6_tie) (pc := 30) dX6_tie_30 ?_
    refine V_istore (Y := mX6_tie) (pc := 31) dX6_tie_31 rfl ?_
    exact lpm_tieB hG hl ⟨ha, by omega⟩ hp (fun w2 q => lpm_tieN ⟨ha, by omega⟩ hn (ih (a + 1) _ w2 (by omega) (by omega) hpB hr2 q)) n.toNat 0 w' (by omega) (by omega) hI0
set_option maxRecDepth 100000 in
theorem mx_tie (h : MInv w (n, now, ca, po, fo, rs) S0 S1 k0 k1 tx rb rn rf) (hG : vGood (n, now, ca, po, fo, rs)) : Ctr mX6_tie (rm 7) [.ref 99] nn w (pI (fun z w' => z = fTie (n, now, ca, po, fo, rs) ∧ MInv w' (n, now, ca, po, fo, rs) S0 S1 k0 k1 tx (tl1 (-2) z rb) (tl1 (-3) z rn) (tl1 (-4) z rf) ∧ frM w w') nn) := by
  refine Ctr_of (lv := [some (.ref 99), none, none, none, none, none, none]) (by decide +kernel) rfl rfl ?_
  have h0 := h
  have hG0 := hG
  obtain ⟨hn, hnow, hca, hpo, hfo, hgd, hcv, hor, hsg, hpast⟩ := hG.un
  obtain ⟨⟨-, ⟨f, hb, hB⟩, hr, hq⟩, ⟨a0, sp, tk, vl, mn, fd, sv, ho⟩, hT, hI, s1, s2, s3, s4, ⟨th, h9⟩, ⟨qu, h10⟩⟩ := h
  have hB : BkOf f n now ca po fo rs := hB
  have hl10 : (rs 1).length ≤ 10 := hB.2.1.1
  have hop := opM_0 (ca := ca) (rs := rs) (n := n) (now := now) (by omega) hcv hnow
  have hle := opN_le (ca := ca) (rs := rs) (n := n) (now := now) (a := -1) (b := -1) (v := 0) ⟨by omega, by omega⟩ hcv hnow (Or.inl rfl)
  have hend : ∀ w', TI w w' n now ca po fo rs 0 tx.length a0 sp tk vl mn sv → MInv w' (n, now, ca, po, fo, rs) S0 S1 k0 k1 tx rb rn rf ∧ frM w w' := fun w' hT2 => by
    obtain ⟨⟨fd2, o2⟩, ⟨f2, b2, B2⟩, t2, q2, ff⟩ := hT2
    have o := fun (j : Nat) (q : j < 99 ∨ (101 ≤ j ∧ j < 109)) => ff j (by omega) (by omega) (by omega) (by omega)
    refine ⟨⟨⟨⟨_, _, _, _, _, _, _, _, o2⟩, ⟨f2, b2, B2⟩, hr.keep (o _ (by omega)), hq⟩, ⟨_, _, _, _, _, _, _, o2⟩, hT.keep (o _ (by omega)), hI.keep (o _ (by omega)) (o _ (by omega)), ?_, ?_, ?_, ?_, t2, q2⟩, fun j hj => o j (by omega)⟩
    · obtain ⟨g, q⟩ := s1; exact ⟨g, (o _ (by omega)).trans q⟩
    · obtain ⟨g, q⟩ := s2; exact ⟨g, (o _ (by omega)).trans q⟩
    · obtain ⟨g, q⟩ := s3; exact ⟨g, (o _ (by omega)).trans q⟩
    · obtain ⟨g, q⟩ := s4; exact ⟨g, (o _ (by omega)).trans q⟩
  refine V_aload_n (Y := mX6_tie) (pc := 0) dX6_tie_0 rfl ?_
  apply V_vI (Y := mX6_tie) (pc := 1) dX6_tie_1 ok_X6_opens ov_X6_opens ln_X6_219 (cm_opens ho hb hB hG0 h9 h10)
  · assumption
  · rfl
  · rfl
  · rfl
  · rfl
  · rfl
  rintro z_1 w_1 ⟨hz, ⟨fd2, o1⟩, t1, q1, f1⟩
  rw [hop] at hz
  subst hz
  refine V_istore_n (Y := mX6_tie) (pc := 4) dX6_tie_4 rfl ?_
  refine V_iconst (Y := mX6_tie) (pc := 5) dX6_tie_5 ?_
  refine V_istore_n (Y := mX6_tie) (pc := 6) dX6_tie_6 rfl ?_
  refine V_iconst (Y := mX6_tie) (pc := 7) dX6_tie_7 ?_
  refine V_istore_n (Y := mX6_tie) (pc := 8) dX6_tie_8 rfl ?_
  have hT1 : TI w w_1 n now ca po fo rs 0 tx.length a0 sp tk vl mn sv := ⟨⟨fd2, o1⟩, ⟨f, (f1 _ (by omega) (by omega) (by omega)).trans hb, hB⟩, t1, q1, fun j a b c d => f1 j a c d⟩
  have hb1 := (f1 100 (by omega) (by omega) (by omega)).trans hb
  have e0 : f (0 : Int).toNat = n := hB.1.1.1
  have e1 : f (1 : Int).toNat = (rs 1).length := hB.1.1.2.1
  by_cases hl : (rs 1).length < 10
  · have hp0 : tieR (opN ca rs n now (-1) (-1) 0, -1) := ⟨hle.1, by show opN ca rs n now (-1) (-1) 0 ≤ 7; omega, by show (-1 : Int) ≤ -1; omega⟩
    have ef : fTie (n, now, ca, po, fo, rs) = (tieA (opN ca rs n now) n n.toNat 0 (opN ca rs n now (-1) (-1) 0, -1)).2 := if_neg (by show ¬ 10 ≤ (rs 1).length; omega)
    have hz : -1 ≤ fTie (n, now, ca, po, fo, rs) := by rw [ef]; exact (tieA_R n.toNat 0 (by omega) hp0).2.2
    refine lpm_tieA (w := w) (r := fTie (n, now, ca, po, fo, rs)) hG0 hl (fun w'' q => ?_) n.toNat 0 (opN ca rs n now (-1) (-1) 0, -1) w_1 (by omega) (by omega) hp0 ef.symm hT1
    have e := hend w'' q
    refine pI_of ⟨rfl, ?_, e.2⟩
    rw [tl1_ne (by omega), tl1_ne (by omega), tl1_ne (by omega)]
    exact e.1
  · have ef : fTie (n, now, ca, po, fo, rs) = -1 := if_pos (by show 10 ≤ (rs 1).length; omega)
    have e := hend w_1 hT1
    refine lpm_tieX o1 hb1 e0 e1 hn (by omega) (by omega) ?_
    rw [ef]
    refine pI_of ⟨rfl, ?_, e.2⟩
    rw [tl1_ne (by omega), tl1_ne (by omega), tl1_ne (by omega)]
    exact e.1
end MOD
