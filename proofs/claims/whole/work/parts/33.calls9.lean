/-! ===== DrawerWall: pulls, safe ===== -/
theorem fBar_len (P : Int → Prop) (l : List Int) : ∀ m : Nat, (fBar P l m).length = l.length
  | 0 => rfl
  | m + 1 => by
    by_cases h : P (m : Int)
    · rw [fBar_t h, rSet_len, fBar_len P l m]
    · rw [fBar_f h, fBar_len P l m]
theorem fBar_in {P : Int → Prop} {l : List Int} {j : Int} (hp : P j) (h0 : 0 ≤ j) : ∀ m : Nat, m ≤ l.length → j < m → rAt (fBar P l m) j = -2
  | 0, _, h => by omega
  | m + 1, hm, h => by
    by_cases hj : j = (m : Int)
    · subst hj
      rw [fBar_t hp, rAt_set (by omega) (by rw [fBar_len]; omega), if_pos rfl]
    · have ih := fBar_in (l := l) hp h0 m (by omega) (by omega)
      by_cases h2 : P (m : Int)
      · rw [fBar_t h2, rAt_set (by omega) (by rw [fBar_len]; omega), if_neg hj]; exact ih
      · rw [fBar_f h2]; exact ih
theorem fBar_out {P : Int → Prop} {l : List Int} {j : Int} (hp : ¬ (P j ∧ 0 ≤ j)) : ∀ m : Nat, m ≤ l.length → rAt (fBar P l m) j = rAt l j
  | 0, _ => rfl
  | m + 1, hm => by
    have ih := fBar_out (l := l) hp m (by omega)
    by_cases h2 : P (m : Int)
    · have hj : j ≠ (m : Int) := fun e => hp ⟨e ▸ h2, by omega⟩
      rw [fBar_t h2, rAt_set (by omega) (by rw [fBar_len]; omega), if_neg hj]; exact ih
    · rw [fBar_f h2]; exact ih
/-- the table at the begin: the barred ones told -/
noncomputable def begL (P : Int → Prop) (N : Int) : List Int := fBar P (List.replicate N.toNat (-1)) N.toNat
theorem begL_len (P : Int → Prop) {N : Int} (hN : 0 ≤ N) : ((begL P N).length : Int) = N := by
  rw [begL, fBar_len, List.length_replicate]; omega
theorem begL_in {P : Int → Prop} {N j : Int} (hp : P j) (h0 : 0 ≤ j) (h : j < N) : rAt (begL P N) j = -2 :=
  fBar_in hp h0 _ (by rw [List.length_replicate]; exact Nat.le_refl _) (by omega)
theorem begL_out {P : Int → Prop} {N j : Int} (hp : ¬ P j) (h0 : 0 ≤ j) (h : j < N) : rAt (begL P N) j = -1 := by
  rw [begL, fBar_out (fun q => hp q.1) _ (by rw [List.length_replicate]; exact Nat.le_refl _), rAt_rep, if_pos (by omega)]
theorem begL_rng (P : Int → Prop) {N : Int} (hN : 0 ≤ N) (j : Int) : (-2 ≤ rAt (begL P N) j ∧ rAt (begL P N) j ≤ 0) ∧ (0 ≤ j → j < N → rAt (begL P N) j < 0) := by
  by_cases hj : 0 ≤ j ∧ j < N
  · by_cases hp : P j
    · rw [begL_in hp hj.1 hj.2]; omega
    · rw [begL_out hp hj.1 hj.2]; omega
  · rw [rAt_out (by rcases (show j < 0 ∨ N ≤ j by omega) with q | q
                    · exact Or.inl q
                    · right; rw [begL_len P hN]; exact q)]; omega
theorem FOK_begL (P : Int → Prop) {N : Int} {F : bF} (h : FSh F) (hN : 0 ≤ N ∧ N ≤ 2187) : FOK N (begL P N, F.2.1, F.2.2.1, []) := by
  refine ⟨begL_len P hN.1, hN.2, h.1, h.2, fun i => ?_, List.nodup_nil, fun s hs => (by simp at hs), fun s h1 h2 h3 => ?_⟩
  · have := (begL_rng P hN.1 i).1
    show -2 ≤ rAt (begL P N) i ∧ rAt (begL P N) i ≤ (([] : List Int).length : Int)
    simp only [List.length_nil]
    omega
  · have := (begL_rng P hN.1 s).2 h1 h2
    have h3 : 0 ≤ rAt (begL P N) s := h3
    omega
theorem begL_none {N : Int} : begL (fun _ => False) N = List.replicate N.toNat (-1) := by
  have : ∀ m : Nat, fBar (fun _ => False) (List.replicate N.toNat (-1)) m = List.replicate N.toNat (-1) := by
    intro m
    induction m with
    | zero => rfl
    | succ m ih => rw [fBar_f (fun q => q), ih]
  exact this _
noncomputable def pfR (sp : Int → Int → Int) (n now : Int) (a b : Nat) (P : Int → Prop) (F : bF) : Int × bF := fFirst sp n.toNat (goalP a b) 2188 0 (fMeet (begL P (p3 n.toNat), F.2.1, F.2.2.1, []) now (-1) (-1))
noncomputable def pfAns (R : Int × bF) (i : Int) : Int := if R.1 = -1 then -1 else if i = -1 then rAt R.2.1 R.1 else if i < rAt R.2.1 R.1 then rAt R.2.2.2.1 (bkF R.2 R.1 (rAt R.2.1 R.1 - 1 - i).toNat) else -5
def plOK (n x y i : Int) : Prop := (0 ≤ x ∧ x < (p2 n.toNat : Nat)) ∧ (0 ≤ y ∧ y < (p2 n.toNat : Nat)) ∧ x.toNat &&& y.toNat = 0 ∧ -1 ≤ i
/-- what may not be walked through -/
def brP (S : vSt) (y : Int) (s : Int) : Prop := y = 1 ∧ dgBits S.1 S.2.2.2.1 S.2.2.2.2.1 S.2.2.2.2.2 s ≠ 0
theorem brP_0 {S : vSt} : brP S 0 = fun _ => False := by
  funext s
  exact propext ⟨fun q => by have := q.1; omega, fun q => q.elim⟩
theorem brP_1 {S : vSt} : brP S 1 = fun s => dgBits S.1 S.2.2.2.1 S.2.2.2.2.1 S.2.2.2.2.2 s ≠ 0 := by
  funext s
  exact propext ⟨fun q => q.2, fun q => ⟨rfl, q⟩⟩
theorem p2_rm {n x : Int} (hn : 0 ≤ n ∧ n ≤ 7) (h : 0 ≤ x ∧ x < (p2 n.toNat : Nat)) : x.toNat < 128 ∧ ((x.toNat : Nat) : Int) = x := by
  have := p2_le n.toNat (by omega)
  omega
theorem pfR_ok {n now : Int} {sp : Int → Int → Int} (hn : 0 ≤ n ∧ n ≤ 7) (hsp : spOK n (p3 n.toNat) sp) (hnow : isS n now) (a b : Nat) (P : Int → Prop) {F : bF} (h : FSh F) (ha : AOK F) : FOK (p3 n.toNat) (pfR sp n now a b P F).2 ∧ AOK (pfR sp n now a b P F).2 ∧ ((pfR sp n now a b P F).1 = -1 ∨ (pfR sp n now a b P F).1 ∈ (pfR sp n now a b P F).2.2.2.2) := by
  have hp := p3_le n.toNat (by omega)
  have hp0 := p3_pos n.toNat
  exact fFirst_aok hn.1 hsp (goalP a b) 2188 0 _ ((FOK_begL P h ⟨by omega, hp⟩).meet hnow (Or.inl rfl)) (AOK.meet (F := (begL P (p3 n.toNat), F.2.1, F.2.2.1, [])) ha ⟨by omega, by omega⟩)
section CLS
variable {nn : Nat} {w : vWd} {n now : Int} {ca po fo : Nat} {rs : Nat → List Int} {S0 S1 : vSt} {k0 k1 rb rn rf : Int} {tx : List Int}
set_option maxRecDepth 100000 in
theorem lp_pullOf {a b : Nat} {i e tt tb : Int} {st : List Int} {F : bF} {P : Int → Prop} {w' : vWd} (ho : w 0 = some (xO k0 k1 rb rn rf)) (hW : WallAt w 1 (n, now, ca, po, fo, rs)) (hfr : frK 84 w w') (hk : WalkAt w' 84 1 n (p3 n.toNat) (-1) tt tb st (begL P (p3 n.toNat), F.2.1, F.2.2.1, [])) (hn : 0 ≤ n ∧ n ≤ 7) (hnow : isS n now) (ht : tbOK n st) (htt : inR tt) (htb : inR tb) (hF : FSh F) (hA : AOK F) (ha : a < 128) (hb : b < 128) (hi : -1 ≤ i ∧ inR i) {Q : vPost} (hQ : ∀ w'', WalkAt w'' 84 1 n (p3 n.toNat) (-1) tt tb st (pfR (stpF st (-1) tt tb) n now a b P F).2 → frK 84 w w'' → Q (some (vI (pfAns (pfR (stpF st (-1) tt tb) n now a b P F) i))) nn w'') :
    V mX5_pullOf (rm 5) Q 66 [some (.ref 0), some (vI (a : Int)), some (vI (b : Int)), some (vI i), some (vI e), none, none] [] nn w' 0 0 := by
  have ho' := (hfr 0 (by omega)).trans ho
  have hW' := hW.keep (w' := w') (fun j a b => hfr j (by omega))
  have oW := hW'.obj
  have ok := hk.obj
  have hp := p3_le n.toNat (by omega)
  have hp0 := p3_pos n.toNat
  have hsp := stpF_ok (tf := -1) (tt := tt) (tb := tb) hn.1 ht (Or.inl ⟨rfl, htt, htb⟩)
  have hres := pfR_ok hn hsp hnow a b P hF hA
  refine V_aload_n (Y := mX5_pullOf) (pc := 66) dX5_pullOf_66 rfl ?_
  apply V_get (Y := mX5_pullOf) (pc := 67) dX5_pullOf_67 fl_X5_51
  · assumption
  · rfl
  refine V_aload_n (Y := mX5_pullOf) (pc := 70) dX5_pullOf_70 rfl ?_
  apply V_get (Y := mX5_pullOf) (pc := 71) dX5_pullOf_71 fl_X5_10
  · assumption
  · rfl
  apply V_get (Y := mX5_pullOf) (pc := 74) dX5_pullOf_74 fl_X5_141
  · assumption
  · rfl
  refine V_iload_n (Y := mX5_pullOf) (pc := 77) dX5_pullOf_77 rfl ?_
  refine V_iload_n (Y := mX5_pullOf) (pc := 78) dX5_pullOf_78 rfl ?_
  apply V_vI (Y := mX5_pullOf) (pc := 79) dX5_pullOf_79 ok_X3_firstWith ov_X3_firstWith ln_X5_292 (c_firstWith (a := a) (b := b) (s := now) hk hn ht (Or.inl ⟨rfl, htt, htb⟩) ha hb (FOK_begL P hF ⟨by omega, hp⟩) hnow)
  · assumption
  · rfl
  · rfl
  · rfl
  · rfl
  · rfl
  rintro z_79 w_79 ⟨hz, g2, f2⟩
  have hz : z_79 = (pfR (stpF st (-1) tt tb) n now a b P F).1 := hz
  have g2 : WalkAt w_79 84 1 n (p3 n.toNat) (-1) tt tb st (pfR (stpF st (-1) tt tb) n now a b P F).2 := g2
  have hq := hQ w_79 g2 (fun j hj => (f2 j hj).trans (hfr j hj))
  rw [pfAns, ← hz] at hq
  rw [← hz] at hres
  generalize (pfR (stpF st (-1) tt tb) n now a b P F).2 = G at *
  have x2 := (f2 0 (by omega)).trans ho'
  have z2 := g2.obj
  have hgl : z_79 = -1 ∨ ((0 ≤ z_79 ∧ z_79 < p3 n.toNat) ∧ 0 ≤ rAt G.1 z_79 ∧ rAt G.1 z_79 ≤ 2187) := by
    rcases hres.2.2 with q | q
    · exact Or.inl q
    · have h1 := hres.1.2.2.2.2.2.2.1 _ q
      have h2 := hres.1.2.2.2.2.1 z_79
      have h3 := hres.1.len
      exact Or.inr ⟨⟨h1.1, h1.2.1⟩, h1.2.2, by omega⟩
  refine V_istore (Y := mX5_pullOf) (pc := 82) dX5_pullOf_82 rfl ?_
  refine V_iload (Y := mX5_pullOf) (pc := 84) dX5_pullOf_84 rfl ?_
  refine V_iconst (Y := mX5_pullOf) (pc := 86) dX5_pullOf_86 ?_
  refine V_icmp_ne (tgt := 92) (Y := mX5_pullOf) (pc := 87) dX5_pullOf_87 (by decide) ⟨by omega, by omega⟩ ⟨by omega, by omega⟩ (fun h_87 => ?_) (fun h_87 => ?_)
  · try have hgl := hgl.resolve_left h_87
    refine V_aload_n (Y := mX5_pullOf) (pc := 92) dX5_pullOf_92 rfl ?_
    apply V_get (Y := mX5_pullOf) (pc := 93) dX5_pullOf_93 fl_X5_51
    · assumption
    · rfl
    apply V_get (Y := mX5_pullOf) (pc := 96) dX5_pullOf_96 fl_X5_295
    · assumption
    · rfl
    refine V_iload (Y := mX5_pullOf) (pc := 99) dX5_pullOf_99 rfl ?_
    apply V_vR (Y := mX5_pullOf) (pc := 101) dX5_pullOf_101 ok_X2_at ov_X2_at ln_X5_185 (c_Row_at (i := z_79) g2.r1 ⟨by omega, by omega⟩)
    · exact g2.r1.obj
    · rfl
    · rfl
    · rfl
    · rfl
    · rfl
    refine V_istore (Y := mX5_pullOf) (pc := 104) dX5_pullOf_104 rfl ?_
    refine V_iload_n (Y := mX5_pullOf) (pc := 106) dX5_pullOf_106 rfl ?_
    refine V_iconst (Y := mX5_pullOf) (pc := 107) dX5_pullOf_107 ?_
    refine V_icmp_ne (tgt := 114) (Y := mX5_pullOf) (pc := 108) dX5_pullOf_108 (by decide) ⟨by omega, by omega⟩ ⟨by omega, by omega⟩ (fun h_108 => ?_) (fun h_108 => ?_)
    · refine V_iload_n (Y := mX5_pullOf) (pc := 114) dX5_pullOf_114 rfl ?_
      refine V_iload (Y := mX5_pullOf) (pc := 115) dX5_pullOf_115 rfl ?_
      refine V_icmp_ge (tgt := 133) (Y := mX5_pullOf) (pc := 117) dX5_pullOf_117 (by decide) ⟨by omega, by omega⟩ ⟨by omega, by omega⟩ (fun h_117 => ?_) (fun h_117 => ?_)
      · refine V_bipush (Y := mX5_pullOf) (pc := 133) dX5_pullOf_133 ⟨by decide, by decide⟩ ?_
        refine V_iret (Y := mX5_pullOf) (pc := 135) dX5_pullOf_135 rfl (Nat.le_of_ble_eq_true rfl) (Nat.le_of_ble_eq_true rfl) ?_
        first
          | (rw [if_neg h_87, if_neg (by omega), if_neg (by omega)] at hq
             exact hq)
          | (rw [if_neg h_87, if_neg (by omega), if_pos (by omega)] at hq
             exact hq)
      · refine V_aload_n (Y := mX5_pullOf) (pc := 120) dX5_pullOf_120 rfl ?_
        apply V_get (Y := mX5_pullOf) (pc := 121) dX5_pullOf_121 fl_X5_51
        · assumption
        · rfl
        refine V_iload (Y := mX5_pullOf) (pc := 124) dX5_pullOf_124 rfl ?_
        refine V_iload_n (Y := mX5_pullOf) (pc := 126) dX5_pullOf_126 rfl ?_
        apply V_vR (Y := mX5_pullOf) (pc := 127) dX5_pullOf_127 ok_X3_pulledAt ov_X3_pulledAt ln_X5_298 (c_pulledAt (s := z_79) (i := i) g2 hres.2.1 ⟨by omega, by omega⟩ hi.2 (by omega) ⟨by omega, by omega⟩)
        · assumption
        · rfl
        · rfl
        · rfl
        · rfl
        · rfl
        refine V_goto (tgt := 135) (Y := mX5_pullOf) (pc := 130) dX5_pullOf_130 (by decide) ?_
        refine V_iret (Y := mX5_pullOf) (pc := 135) dX5_pullOf_135 rfl (Nat.le_of_ble_eq_true rfl) (Nat.le_of_ble_eq_true rfl) ?_
        first
          | (rw [if_neg h_87, if_neg (by omega), if_neg (by omega)] at hq
             exact hq)
          | (rw [if_neg h_87, if_neg (by omega), if_pos (by omega)] at hq
             exact hq)
    · refine V_iload (Y := mX5_pullOf) (pc := 111) dX5_pullOf_111 rfl ?_
      refine V_iret (Y := mX5_pullOf) (pc := 113) dX5_pullOf_113 rfl (Nat.le_of_ble_eq_true rfl) (Nat.le_of_ble_eq_true rfl) ?_
      rw [if_neg h_87, if_pos (by omega)] at hq
      exact hq
  · try have hgl := hgl.resolve_left h_87
    refine V_iconst (Y := mX5_pullOf) (pc := 90) dX5_pullOf_90 ?_
    refine V_iret (Y := mX5_pullOf) (pc := 91) dX5_pullOf_91 rfl (Nat.le_of_ble_eq_true rfl) (Nat.le_of_ble_eq_true rfl) ?_
    rw [if_pos (by omega)] at hq
    exact hq
set_option maxRecDepth 100000 in
theorem c_pullOf {x y i e tt tb : Int} {st : List Int} {F : bF} (ho : w 0 = some (xO k0 k1 rb rn rf)) (hW : WallAt w 1 (n, now, ca, po, fo, rs)) (hk : WalkAt w 84 1 n (p3 n.toNat) (-1) tt tb st F) (hG : vGood (n, now, ca, po, fo, rs)) (ht : tbOK n st) (htt : inR tt) (htb : inR tb) (hF : FSh F) (hA : AOK F) (hx : inR x) (hy : inR y) (hi : inR i) (he : e = 0 ∨ e = 1) : Ctr mX5_pullOf (rm 5) [.ref 0, vI x, vI y, vI i, vI e] nn w (pI (fun z w' => (¬ plOK n x y i ∧ z = -10 ∧ w' 0 = some (xO k0 k1 (rb + 1) rn rf) ∧ ∀ j, j ≠ 0 → w' j = w j) ∨ (plOK n x y i ∧ z = pfAns (pfR (stpF st (-1) tt tb) n now x.toNat y.toNat (brP (n, now, ca, po, fo, rs) e) F) i ∧ WalkAt w' 84 1 n (p3 n.toNat) (-1) tt tb st (pfR (stpF st (-1) tt tb) n now x.toNat y.toNat (brP (n, now, ca, po, fo, rs) e) F).2 ∧ frK 84 w w')) nn) := by
  refine Ctr_of (lv := [some (.ref 0), some (vI x), some (vI y), some (vI i), some (vI e), none, none]) (by decide +kernel) rfl rfl ?_
  obtain ⟨hn, hnow, hca, hpo, hfo, hgd, hcv, hor, hsg, hpast⟩ := hG.un
  have oW := hW.obj
  have ok := hk.obj
  have hn7 : 0 ≤ n ∧ n ≤ 7 := ⟨by omega, by omega⟩
  have hp := p3_le n.toNat (by omega)
  have hp0 := p3_pos n.toNat
  have hp2 := p2_le n.toNat (by omega)
  have hand := Nat.and_le_left (n := x.toNat) (m := y.toNat)
  by_cases hok : plOK n x y i
  · obtain ⟨h1, h2, h3, h4⟩ := hok
    have m1 := p2_rm hn7 h1
    have m2 := p2_rm hn7 h2
    have hok : plOK n x y i := ⟨h1, h2, h3, h4⟩
    have hsp := stpF_ok (tf := -1) (tt := tt) (tb := tb) hn7.1 ht (Or.inl ⟨rfl, htt, htb⟩)
    rcases he with rfl | rfl
    · skip
      refine V_aload_n (Y := mX5_pullOf) (pc := 0) dX5_pullOf_0 rfl ?_
      apply V_get (Y := mX5_pullOf) (pc := 1) dX5_pullOf_1 fl_X5_10
      · assumption
      · rfl
      refine V_iload_n (Y := mX5_pullOf) (pc := 4) dX5_pullOf_4 rfl ?_
      apply V_vR (Y := mX5_pullOf) (pc := 5) dX5_pullOf_5 ok_X4_hasSet ov_X4_hasSet ln_X5_286 (c_hasSet (x := x) hW hn7 hx)
      · assumption
      · rfl
      · rfl
      · rfl
      · rfl
      · rfl
      refine V_if_eqB (tgt := 33) (Y := mX5_pullOf) (pc := 8) dX5_pullOf_8 (by decide) (fun h_8 => ?_) (fun h_8 => ?_)
      · exfalso
        first
          | omega
          | exact absurd h1 h_8
          | exact absurd h2 h_19
      · refine V_aload_n (Y := mX5_pullOf) (pc := 11) dX5_pullOf_11 rfl ?_
        apply V_get (Y := mX5_pullOf) (pc := 12) dX5_pullOf_12 fl_X5_10
        · assumption
        · rfl
        refine V_iload_n (Y := mX5_pullOf) (pc := 15) dX5_pullOf_15 rfl ?_
        apply V_vR (Y := mX5_pullOf) (pc := 16) dX5_pullOf_16 ok_X4_hasSet ov_X4_hasSet ln_X5_286 (c_hasSet (x := y) hW hn7 hy)
        · assumption
        · rfl
        · rfl
        · rfl
        · rfl
        · rfl
        refine V_if_eqB (tgt := 33) (Y := mX5_pullOf) (pc := 19) dX5_pullOf_19 (by decide) (fun h_19 => ?_) (fun h_19 => ?_)
        · exfalso
          first
            | omega
            | exact absurd h1 h_8
            | exact absurd h2 h_19
        · refine V_iload_n (Y := mX5_pullOf) (pc := 22) dX5_pullOf_22 rfl ?_
          refine V_iload_n (Y := mX5_pullOf) (pc := 23) dX5_pullOf_23 rfl ?_
          refine V_iand (Y := mX5_pullOf) (pc := 24) dX5_pullOf_24 ((show iI x &&& iI y = iI ((x.toNat &&& y.toNat : Nat) : Int) from by rw [← iI_and, m1.2, m2.2])) ?_
          refine V_if_ne (tgt := 33) (Y := mX5_pullOf) (pc := 25) dX5_pullOf_25 (by decide) ⟨by omega, by omega⟩ (fun h_25 => ?_) (fun h_25 => ?_)
          · exfalso
            first
              | omega
              | exact absurd h1 h_8
              | exact absurd h2 h_19
          · refine V_iload_n (Y := mX5_pullOf) (pc := 28) dX5_pullOf_28 rfl ?_
            refine V_iconst (Y := mX5_pullOf) (pc := 29) dX5_pullOf_29 ?_
            refine V_icmp_ge (tgt := 43) (Y := mX5_pullOf) (pc := 30) dX5_pullOf_30 (by decide) ⟨by omega, by omega⟩ ⟨by omega, by omega⟩ (fun h_30 => ?_) (fun h_30 => ?_)
            · refine V_aload_n (Y := mX5_pullOf) (pc := 43) dX5_pullOf_43 rfl ?_
              apply V_get (Y := mX5_pullOf) (pc := 44) dX5_pullOf_44 fl_X5_51
              · assumption
              · rfl
              apply V_vV (Y := mX5_pullOf) (pc := 47) dX5_pullOf_47 ok_X3_begin ov_X3_begin ln_X5_269 (c_begin hk ⟨by omega, hp⟩)
              · assumption
              · rfl
              · rfl
              · rfl
              · rfl
              · rfl
              rintro w_47 ⟨g1, f1⟩
              have x1 := (f1 0 (by omega)).trans ho
              have W1 := hW.keep (fun j a b => f1 j (by omega))
              have y1 := W1.obj
              have z1 := g1.obj
              refine V_iload (Y := mX5_pullOf) (pc := 50) dX5_pullOf_50 rfl ?_
              refine V_if_eq (tgt := 66) (Y := mX5_pullOf) (pc := 52) dX5_pullOf_52 (by decide) ⟨by omega, by omega⟩ (fun h_52 => ?_) (fun h_52 => absurd h_52 (by omega))
              have e0 : (List.replicate (p3 n.toNat).toNat (-1 : Int)) = begL (brP (n, now, ca, po, fo, rs) 0) (p3 n.toNat) := by rw [brP_0, begL_none]
              rw [e0] at g1
              have k := lp_pullOf (nn := nn) (a := x.toNat) (b := y.toNat) (i := i) (e := 0) (Q := pI (fun z w' => (¬ plOK n x y i ∧ z = -10 ∧ w' 0 = some (xO k0 k1 (rb + 1) rn rf) ∧ ∀ j, j ≠ 0 → w' j = w j) ∨ (plOK n x y i ∧ z = pfAns (pfR (stpF st (-1) tt tb) n now x.toNat y.toNat (brP (n, now, ca, po, fo, rs) 0) F) i ∧ WalkAt w' 84 1 n (p3 n.toNat) (-1) tt tb st (pfR (stpF st (-1) tt tb) n now x.toNat y.toNat (brP (n, now, ca, po, fo, rs) 0) F).2 ∧ frK 84 w w')) nn) ho hW f1 g1 hn7 hnow ht htt htb hF hA m1.1 m2.1 ⟨h4, hi⟩ (fun w'' q1 q2 => pI_of (Or.inr ⟨hok, rfl, q1, q2⟩))
              rw [m1.2, m2.2] at k
              exact k
            · exfalso
              first
                | omega
                | exact absurd h1 h_8
                | exact absurd h2 h_19
    · skip
      refine V_aload_n (Y := mX5_pullOf) (pc := 0) dX5_pullOf_0 rfl ?_
      apply V_get (Y := mX5_pullOf) (pc := 1) dX5_pullOf_1 fl_X5_10
      · assumption
      · rfl
      refine V_iload_n (Y := mX5_pullOf) (pc := 4) dX5_pullOf_4 rfl ?_
      apply V_vR (Y := mX5_pullOf) (pc := 5) dX5_pullOf_5 ok_X4_hasSet ov_X4_hasSet ln_X5_286 (c_hasSet (x := x) hW hn7 hx)
      · assumption
      · rfl
      · rfl
      · rfl
      · rfl
      · rfl
      refine V_if_eqB (tgt := 33) (Y := mX5_pullOf) (pc := 8) dX5_pullOf_8 (by decide) (fun h_8 => ?_) (fun h_8 => ?_)
      · exfalso
        first
          | omega
          | exact absurd h1 h_8
          | exact absurd h2 h_19
      · refine V_aload_n (Y := mX5_pullOf) (pc := 11) dX5_pullOf_11 rfl ?_
        apply V_get (Y := mX5_pullOf) (pc := 12) dX5_pullOf_12 fl_X5_10
        · assumption
        · rfl
        refine V_iload_n (Y := mX5_pullOf) (pc := 15) dX5_pullOf_15 rfl ?_
        apply V_vR (Y := mX5_pullOf) (pc := 16) dX5_pullOf_16 ok_X4_hasSet ov_X4_hasSet ln_X5_286 (c_hasSet (x := y) hW hn7 hy)
        · assumption
        · rfl
        · rfl
        · rfl
        · rfl
        · rfl
        refine V_if_eqB (tgt := 33) (Y := mX5_pullOf) (pc := 19) dX5_pullOf_19 (by decide) (fun h_19 => ?_) (fun h_19 => ?_)
        · exfalso
          first
            | omega
            | exact absurd h1 h_8
            | exact absurd h2 h_19
        · refine V_iload_n (Y := mX5_pullOf) (pc := 22) dX5_pullOf_22 rfl ?_
          refine V_iload_n (Y := mX5_pullOf) (pc := 23) dX5_pullOf_23 rfl ?_
          refine V_iand (Y := mX5_pullOf) (pc := 24) dX5_pullOf_24 ((show iI x &&& iI y = iI ((x.toNat &&& y.toNat : Nat) : Int) from by rw [← iI_and, m1.2, m2.2])) ?_
          refine V_if_ne (tgt := 33) (Y := mX5_pullOf) (pc := 25) dX5_pullOf_25 (by decide) ⟨by omega, by omega⟩ (fun h_25 => ?_) (fun h_25 => ?_)
          · exfalso
            first
              | omega
              | exact absurd h1 h_8
              | exact absurd h2 h_19
          · refine V_iload_n (Y := mX5_pullOf) (pc := 28) dX5_pullOf_28 rfl ?_
            refine V_iconst (Y := mX5_pullOf) (pc := 29) dX5_pullOf_29 ?_
            refine V_icmp_ge (tgt := 43) (Y := mX5_pullOf) (pc := 30) dX5_pullOf_30 (by decide) ⟨by omega, by omega⟩ ⟨by omega, by omega⟩ (fun h_30 => ?_) (fun h_30 => ?_)
            · refine V_aload_n (Y := mX5_pullOf) (pc := 43) dX5_pullOf_43 rfl ?_
              apply V_get (Y := mX5_pullOf) (pc := 44) dX5_pullOf_44 fl_X5_51
              · assumption
              · rfl
              apply V_vV (Y := mX5_pullOf) (pc := 47) dX5_pullOf_47 ok_X3_begin ov_X3_begin ln_X5_269 (c_begin hk ⟨by omega, hp⟩)
              · assumption
              · rfl
              · rfl
              · rfl
              · rfl
              · rfl
              rintro w_47 ⟨g1, f1⟩
              have x1 := (f1 0 (by omega)).trans ho
              have W1 := hW.keep (fun j a b => f1 j (by omega))
              have y1 := W1.obj
              have z1 := g1.obj
              refine V_iload (Y := mX5_pullOf) (pc := 50) dX5_pullOf_50 rfl ?_
              refine V_if_eq (tgt := 66) (Y := mX5_pullOf) (pc := 52) dX5_pullOf_52 (by decide) ⟨by omega, by omega⟩ (fun h_52 => absurd h_52 (by omega)) (fun h_52 => ?_)
              refine V_aload_n (Y := mX5_pullOf) (pc := 55) dX5_pullOf_55 rfl ?_
              apply V_get (Y := mX5_pullOf) (pc := 56) dX5_pullOf_56 fl_X5_51
              · assumption
              · rfl
              refine V_aload_n (Y := mX5_pullOf) (pc := 59) dX5_pullOf_59 rfl ?_
              apply V_get (Y := mX5_pullOf) (pc := 60) dX5_pullOf_60 fl_X5_10
              · assumption
              · rfl
              apply V_vV (Y := mX5_pullOf) (pc := 63) dX5_pullOf_63 ok_X3_barDangers ov_X3_barDangers ln_X5_289 (c_barDangers g1 W1 hn7 hpo hfo hgd (by omega))
              · assumption
              · rfl
              · rfl
              · rfl
              · rfl
              · rfl
              rintro w_63 ⟨g2, f2⟩
              have e0 : fBar (fun s => dgBits n po fo rs s ≠ 0) (List.replicate (p3 n.toNat).toNat (-1 : Int)) (p3 n.toNat).toNat = begL (brP (n, now, ca, po, fo, rs) 1) (p3 n.toNat) := by rw [brP_1]; rfl
              have g2 : WalkAt w_63 84 1 n (p3 n.toNat) (-1) tt tb st (fBar (fun s => dgBits n po fo rs s ≠ 0) (List.replicate (p3 n.toNat).toNat (-1 : Int)) (p3 n.toNat).toNat, F.2.1, F.2.2.1, []) := g2
              rw [e0] at g2
              have k := lp_pullOf (nn := nn) (a := x.toNat) (b := y.toNat) (i := i) (e := 1) (Q := pI (fun z w' => (¬ plOK n x y i ∧ z = -10 ∧ w' 0 = some (xO k0 k1 (rb + 1) rn rf) ∧ ∀ j, j ≠ 0 → w' j = w j) ∨ (plOK n x y i ∧ z = pfAns (pfR (stpF st (-1) tt tb) n now x.toNat y.toNat (brP (n, now, ca, po, fo, rs) 1) F) i ∧ WalkAt w' 84 1 n (p3 n.toNat) (-1) tt tb st (pfR (stpF st (-1) tt tb) n now x.toNat y.toNat (brP (n, now, ca, po, fo, rs) 1) F).2 ∧ frK 84 w w')) nn) ho hW (fun j hj => (f2 j hj).trans (f1 j hj)) g2 hn7 hnow ht htt htb hF hA m1.1 m2.1 ⟨h4, hi⟩ (fun w'' q1 q2 => pI_of (Or.inr ⟨hok, rfl, q1, q2⟩))
              rw [m1.2, m2.2] at k
              exact k
            · exfalso
              first
                | omega
                | exact absurd h1 h_8
                | exact absurd h2 h_19
  · skip
    refine V_aload_n (Y := mX5_pullOf) (pc := 0) dX5_pullOf_0 rfl ?_
    apply V_get (Y := mX5_pullOf) (pc := 1) dX5_pullOf_1 fl_X5_10
    · assumption
    · rfl
    refine V_iload_n (Y := mX5_pullOf) (pc := 4) dX5_pullOf_4 rfl ?_
    apply V_vR (Y := mX5_pullOf) (pc := 5) dX5_pullOf_5 ok_X4_hasSet ov_X4_hasSet ln_X5_286 (c_hasSet (x := x) hW hn7 hx)
    · assumption
    · rfl
    · rfl
    · rfl
    · rfl
    · rfl
    refine V_if_eqB (tgt := 33) (Y := mX5_pullOf) (pc := 8) dX5_pullOf_8 (by decide) (fun h_8 => ?_) (fun h_8 => ?_)
    · refine V_aload_n (Y := mX5_pullOf) (pc := 33) dX5_pullOf_33 rfl ?_
      refine V_bipush (Y := mX5_pullOf) (pc := 34) dX5_pullOf_34 ⟨by decide, by decide⟩ ?_
      apply V_vI (Y := mX5_pullOf) (pc := 36) dX5_pullOf_36 ok_X5_counted ov_X5_counted ln_X5_85 (c_told (z := -2) ho ⟨by omega, by omega⟩)
      · assumption
      · rfl
      · rfl
      · rfl
      · rfl
      · rfl
      rintro z_36 w_36 ⟨hz2, g3, f3⟩
      refine V_pop (Y := mX5_pullOf) (pc := 39) dX5_pullOf_39 rfl ?_
      refine V_bipush (Y := mX5_pullOf) (pc := 40) dX5_pullOf_40 ⟨by decide, by decide⟩ ?_
      refine V_iret (Y := mX5_pullOf) (pc := 42) dX5_pullOf_42 rfl (Nat.le_of_ble_eq_true rfl) (Nat.le_of_ble_eq_true rfl) ?_
      exact pI_of (Or.inl ⟨hok, rfl, g3, f3⟩)
    · refine V_aload_n (Y := mX5_pullOf) (pc := 11) dX5_pullOf_11 rfl ?_
      apply V_get (Y := mX5_pullOf) (pc := 12) dX5_pullOf_12 fl_X5_10
      · assumption
      · rfl
      refine V_iload_n (Y := mX5_pullOf) (pc := 15) dX5_pullOf_15 rfl ?_
      apply V_vR (Y := mX5_pullOf) (pc := 16) dX5_pullOf_16 ok_X4_hasSet ov_X4_hasSet ln_X5_286 (c_hasSet (x := y) hW hn7 hy)
      · assumption
      · rfl
      · rfl
      · rfl
      · rfl
      · rfl
      refine V_if_eqB (tgt := 33) (Y := mX5_pullOf) (pc := 19) dX5_pullOf_19 (by decide) (fun h_19 => ?_) (fun h_19 => ?_)
      · try have m1 := p2_rm hn7 h_8
        try have m2 := p2_rm hn7 h_19
        refine V_aload_n (Y := mX5_pullOf) (pc := 33) dX5_pullOf_33 rfl ?_
        refine V_bipush (Y := mX5_pullOf) (pc := 34) dX5_pullOf_34 ⟨by decide, by decide⟩ ?_
        apply V_vI (Y := mX5_pullOf) (pc := 36) dX5_pullOf_36 ok_X5_counted ov_X5_counted ln_X5_85 (c_told (z := -2) ho ⟨by omega, by omega⟩)
        · assumption
        · rfl
        · rfl
        · rfl
        · rfl
        · rfl
        rintro z_36 w_36 ⟨hz2, g3, f3⟩
        refine V_pop (Y := mX5_pullOf) (pc := 39) dX5_pullOf_39 rfl ?_
        refine V_bipush (Y := mX5_pullOf) (pc := 40) dX5_pullOf_40 ⟨by decide, by decide⟩ ?_
        refine V_iret (Y := mX5_pullOf) (pc := 42) dX5_pullOf_42 rfl (Nat.le_of_ble_eq_true rfl) (Nat.le_of_ble_eq_true rfl) ?_
        exact pI_of (Or.inl ⟨hok, rfl, g3, f3⟩)
      · try have m1 := p2_rm hn7 h_8
        try have m2 := p2_rm hn7 h_19
        refine V_iload_n (Y := mX5_pullOf) (pc := 22) dX5_pullOf_22 rfl ?_
        refine V_iload_n (Y := mX5_pullOf) (pc := 23) dX5_pullOf_23 rfl ?_
        refine V_iand (Y := mX5_pullOf) (pc := 24) dX5_pullOf_24 ((show iI x &&& iI y = iI ((x.toNat &&& y.toNat : Nat) : Int) from by rw [← iI_and, m1.2, m2.2])) ?_
        refine V_if_ne (tgt := 33) (Y := mX5_pullOf) (pc := 25) dX5_pullOf_25 (by decide) ⟨by omega, by omega⟩ (fun h_25 => ?_) (fun h_25 => ?_)
        · refine V_aload_n (Y := mX5_pullOf) (pc := 33) dX5_pullOf_33 rfl ?_
          refine V_bipush (Y := mX5_pullOf) (pc := 34) dX5_pullOf_34 ⟨by decide, by decide⟩ ?_
          apply V_vI (Y := mX5_pullOf) (pc := 36) dX5_pullOf_36 ok_X5_counted ov_X5_counted ln_X5_85 (c_told (z := -2) ho ⟨by omega, by omega⟩)
          · assumption
          · rfl
          · rfl
          · rfl
          · rfl
          · rfl
          rintro z_36 w_36 ⟨hz2, g3, f3⟩
          refine V_pop (Y := mX5_pullOf) (pc := 39) dX5_pullOf_39 rfl ?_
          refine V_bipush (Y := mX5_pullOf) (pc := 40) dX5_pullOf_40 ⟨by decide, by decide⟩ ?_
          refine V_iret (Y := mX5_pullOf) (pc := 42) dX5_pullOf_42 rfl (Nat.le_of_ble_eq_true rfl) (Nat.le_of_ble_eq_true rfl) ?_
          exact pI_of (Or.inl ⟨hok, rfl, g3, f3⟩)
        · refine V_iload_n (Y := mX5_pullOf) (pc := 28) dX5_pullOf_28 rfl ?_
          refine V_iconst (Y := mX5_pullOf) (pc := 29) dX5_pullOf_29 ?_
          refine V_icmp_ge (tgt := 43) (Y := mX5_pullOf) (pc := 30) dX5_pullOf_30 (by decide) ⟨by omega, by omega⟩ ⟨by omega, by omega⟩ (fun h_30 => ?_) (fun h_30 => ?_)
          · exact absurd ⟨h_8, h_19, by omega, by omega⟩ hok
          · refine V_aload_n (Y := mX5_pullOf) (pc := 33) dX5_pullOf_33 rfl ?_
            refine V_bipush (Y := mX5_pullOf) (pc := 34) dX5_pullOf_34 ⟨by decide, by decide⟩ ?_
            apply V_vI (Y := mX5_pullOf) (pc := 36) dX5_pullOf_36 ok_X5_counted ov_X5_counted ln_X5_85 (c_told (z := -2) ho ⟨by omega, by omega⟩)
            · assumption
            · rfl
            · rfl
            · rfl
            · rfl
            · rfl
            rintro z_36 w_36 ⟨hz2, g3, f3⟩
            refine V_pop (Y := mX5_pullOf) (pc := 39) dX5_pullOf_39 rfl ?_
            refine V_bipush (Y := mX5_pullOf) (pc := 40) dX5_pullOf_40 ⟨by decide, by decide⟩ ?_
            refine V_iret (Y := mX5_pullOf) (pc := 42) dX5_pullOf_42 rfl (Nat.le_of_ble_eq_true rfl) (Nat.le_of_ble_eq_true rfl) ?_
            exact pI_of (Or.inl ⟨hok, rfl, g3, f3⟩)
/-- what pulls and safe answer -/
def plRel (S : vSt) (e x y i z : Int) : Prop := (¬ plOK S.1 x y i ∧ z = -10) ∨ (plOK S.1 x y i ∧ ∃ (st : List Int) (tt tb : Int) (F : bF), tbIs S.1 S.2.2.1 S.2.2.2.2.2 st ∧ inR tt ∧ inR tb ∧ FSh F ∧ AOK F ∧ z = pfAns (pfR (stpF st (-1) tt tb) S.1 S.2.1 x.toNat y.toNat (brP S e) F) i)
theorem plEnd {w' : vWd} {x y i e z tt tb : Int} {st : List Int} {F : bF} {w1 : vWd} (h : XInv w (n, now, ca, po, fo, rs) S0 S1 k0 k1 tx rb rn rf) (hG : vGood (n, now, ca, po, fo, rs)) (g1 : WalkAt w1 84 1 n (p3 n.toNat) (-1) tt tb st F) (hlen : st.length = 15309) (htbl : tbIs n ca rs st) (htt : inR tt) (htb : inR tb) (hsh : FSh F) (hA : AOK F) (f1 : frK 84 w w1) (hz : (¬ plOK n x y i ∧ z = -10 ∧ w' 0 = some (xO k0 k1 (rb + 1) rn rf) ∧ ∀ j, j ≠ 0 → w' j = w1 j) ∨ (plOK n x y i ∧ z = pfAns (pfR (stpF st (-1) tt tb) n now x.toNat y.toNat (brP (n, now, ca, po, fo, rs) e) F) i ∧ WalkAt w' 84 1 n (p3 n.toNat) (-1) tt tb st (pfR (stpF st (-1) tt tb) n now x.toNat y.toNat (brP (n, now, ca, po, fo, rs) e) F).2 ∧ frK 84 w1 w')) : plRel (n, now, ca, po, fo, rs) e x y i z ∧ XInv w' (n, now, ca, po, fo, rs) S0 S1 k0 k1 tx (rb + cI (¬ plOK n x y i)) rn rf ∧ frX w w' := by
  obtain ⟨ho, hW, hK, hr⟩ := h
  obtain ⟨hn, hnow, hca, hpo, hfo, hgd, hcv, hor, hsg, hpast⟩ := hG.un
  have hn7 : 0 ≤ n ∧ n ≤ 7 := ⟨by omega, by omega⟩
  rcases hz with ⟨q1, q2, q3, q4⟩ | ⟨q1, q2, q3, q4⟩
  · rw [cI_1.mpr q1]
    have ff : ∀ j, j ≠ 0 → (j < 84 ∨ 95 ≤ j) → w' j = w j := fun j a b => (q4 j a).trans (f1 j b)
    exact ⟨Or.inl ⟨q1, q2⟩, ⟨q3, hW.keep (fun j a b => ff j (by omega) (by omega)), ⟨1, n, _, tt, tb, st, F, g1.keep (fun j a b => q4 j (by omega)), Or.inr ⟨rfl, rfl, rfl, htbl⟩, hlen, hsh, hA, htt, htb⟩, hr.keep (fun j a b => ff j (by omega) (by omega)) (fun j a b => ff j (by omega) (by omega))⟩, fun j hj => ff j (by omega) (by omega)⟩
  · rw [cI_0.mpr (fun q => q q1), Int.add_zero]
    have hsp := stpF_ok (tf := -1) (tt := tt) (tb := tb) hn7.1 (htbl.ok hcv) (Or.inl ⟨rfl, htt, htb⟩)
    have hres := pfR_ok hn7 hsp hnow x.toNat y.toNat (brP (n, now, ca, po, fo, rs) e) hsh hA
    have hX := XInv.walk (w' := w') ho hW hr (fun j hj => (q4 j hj).trans (f1 j hj)) ⟨1, n, _, tt, tb, st, _, q3, Or.inr ⟨rfl, rfl, rfl, htbl⟩, hlen, hres.1.sh, hres.2.1, htt, htb⟩
    exact ⟨Or.inr ⟨q1, st, tt, tb, F, htbl, htt, htb, hsh, hA, q2⟩, hX⟩
set_option maxRecDepth 100000 in
theorem cx_pulls {x y i : Int} (h : XInv w (n, now, ca, po, fo, rs) S0 S1 k0 k1 tx rb rn rf) (hG : vGood (n, now, ca, po, fo, rs)) (hx : inR x) (hy : inR y) (hi : inR i) : Ctr mX5_pulls (rm 6) [.ref 0, vI x, vI y, vI i] nn w (pI (fun z w' => plRel (n, now, ca, po, fo, rs) 0 x y i z ∧ XInv w' (n, now, ca, po, fo, rs) S0 S1 k0 k1 tx (rb + cI (¬ plOK n x y i)) rn rf ∧ frX w w') nn) := by
  refine Ctr_of (lv := [some (.ref 0), some (vI x), some (vI y), some (vI i)]) (by decide +kernel) rfl rfl ?_
  have h0 := h
  obtain ⟨ho, hW, hK, hr⟩ := h
  obtain ⟨hn, hnow, hca, hpo, hfo, hgd, hcv, hor, hsg, hpast⟩ := hG.un
  obtain ⟨lr, dn, sn, tt, tb, st, F, hk, hlr, hlen, hsh, haok, htt, htb⟩ := hK
  have oW := hW.obj
  have ok := hk.obj
  have hn7 : 0 ≤ n ∧ n ≤ 7 := ⟨by omega, by omega⟩
  refine V_aload_n (Y := mX5_pulls) (pc := 0) dX5_pulls_0 rfl ?_
  apply V_get (Y := mX5_pulls) (pc := 1) dX5_pulls_1 fl_X5_51
  · assumption
  · rfl
  refine V_aload_n (Y := mX5_pulls) (pc := 4) dX5_pulls_4 rfl ?_
  apply V_get (Y := mX5_pulls) (pc := 5) dX5_pulls_5 fl_X5_10
  · assumption
  · rfl
  apply V_vV (Y := mX5_pulls) (pc := 8) dX5_pulls_8 ok_X3_learn ov_X3_learn ln_X5_160 (c_learn hk hW hn7 hcv hca (by omega) hlr hlen)
  · assumption
  · rfl
  · rfl
  · rfl
  · rfl
  · rfl
  rintro w_8 ⟨st2, g1, hlen2, htbl, f1⟩
  have x1 := (f1 0 (by omega)).trans ho
  have W1 := hW.keep (fun j a b => f1 j (by omega))
  refine V_aload_n (Y := mX5_pulls) (pc := 11) dX5_pulls_11 rfl ?_
  refine V_iload_n (Y := mX5_pulls) (pc := 12) dX5_pulls_12 rfl ?_
  refine V_iload_n (Y := mX5_pulls) (pc := 13) dX5_pulls_13 rfl ?_
  refine V_iload_n (Y := mX5_pulls) (pc := 14) dX5_pulls_14 rfl ?_
  refine V_iconst (Y := mX5_pulls) (pc := 15) dX5_pulls_15 ?_
  apply V_vI (Y := mX5_pulls) (pc := 16) dX5_pulls_16 ok_X5_pullOf ov_X5_pullOf ln_X5_163 (c_pullOf (x := x) (y := y) (i := i) (e := 0) x1 W1 g1 hG (htbl.ok hcv) htt htb hsh haok hx hy hi (Or.inl rfl))
  · assumption
  · rfl
  · rfl
  · rfl
  · rfl
  · rfl
  rintro z_16 w_16 hz
  refine V_iret (Y := mX5_pulls) (pc := 19) dX5_pulls_19 rfl (Nat.le_of_ble_eq_true rfl) (Nat.le_of_ble_eq_true rfl) ?_
  exact pI_of (plEnd h0 hG g1 hlen2 htbl htt htb hsh haok f1 hz)
set_option maxRecDepth 100000 in
theorem cx_safe {x y i : Int} (h : XInv w (n, now, ca, po, fo, rs) S0 S1 k0 k1 tx rb rn rf) (hG : vGood (n, now, ca, po, fo, rs)) (hx : inR x) (hy : inR y) (hi : inR i) : Ctr mX5_safe (rm 6) [.ref 0, vI x, vI y, vI i] nn w (pI (fun z w' => plRel (n, now, ca, po, fo, rs) 1 x y i z ∧ XInv w' (n, now, ca, po, fo, rs) S0 S1 k0 k1 tx (rb + cI (¬ plOK n x y i)) rn rf ∧ frX w w') nn) := by
  refine Ctr_of (lv := [some (.ref 0), some (vI x), some (vI y), some (vI i)]) (by decide +kernel) rfl rfl ?_
  have h0 := h
  obtain ⟨ho, hW, hK, hr⟩ := h
  obtain ⟨hn, hnow, hca, hpo, hfo, hgd, hcv, hor, hsg, hpast⟩ := hG.un
  obtain ⟨lr, dn, sn, tt, tb, st, F, hk, hlr, hlen, hsh, haok, htt, htb⟩ := hK
  have oW := hW.obj
  have ok := hk.obj
  have hn7 : 0 ≤ n ∧ n ≤ 7 := ⟨by omega, by omega⟩
  refine V_aload_n (Y := mX5_safe) (pc := 0) dX5_safe_0 rfl ?_
  apply V_get (Y := mX5_safe) (pc := 1) dX5_safe_1 fl_X5_51
  · assumption
  · rfl
  refine V_aload_n (Y := mX5_safe) (pc := 4) dX5_safe_4 rfl ?_
  apply V_get (Y := mX5_safe) (pc := 5) dX5_safe_5 fl_X5_10
  · assumption
  · rfl
  apply V_vV (Y := mX5_safe) (pc := 8) dX5_safe_8 ok_X3_learn ov_X3_learn ln_X5_160 (c_learn hk hW hn7 hcv hca (by omega) hlr hlen)
  · assumption
  · rfl
  · rfl
  · rfl
  · rfl
  · rfl
  rintro w_8 ⟨st2, g1, hlen2, htbl, f1⟩
  have x1 := (f1 0 (by omega)).trans ho
  have W1 := hW.keep (fun j a b => f1 j (by omega))
  refine V_aload_n (Y := mX5_safe) (pc := 11) dX5_safe_11 rfl ?_
  refine V_iload_n (Y := mX5_safe) (pc := 12) dX5_safe_12 rfl ?_
  refine V_iload_n (Y := mX5_safe) (pc := 13) dX5_safe_13 rfl ?_
  refine V_iload_n (Y := mX5_safe) (pc := 14) dX5_safe_14 rfl ?_
  refine V_iconst (Y := mX5_safe) (pc := 15) dX5_safe_15 ?_
  apply V_vI (Y := mX5_safe) (pc := 16) dX5_safe_16 ok_X5_pullOf ov_X5_pullOf ln_X5_163 (c_pullOf (x := x) (y := y) (i := i) (e := 1) x1 W1 g1 hG (htbl.ok hcv) htt htb hsh haok hx hy hi (Or.inr rfl))
  · assumption
  · rfl
  · rfl
  · rfl
  · rfl
  · rfl
  rintro z_16 w_16 hz
  refine V_iret (Y := mX5_safe) (pc := 19) dX5_safe_19 rfl (Nat.le_of_ble_eq_true rfl) (Nat.le_of_ble_eq_true rfl) ?_
  exact pI_of (plEnd h0 hG g1 hlen2 htbl htt htb hsh haok f1 hz)
end CLS
