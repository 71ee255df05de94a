/-! ===== DrawerWall: tie's loops ===== -/
theorem tieB_R {ca : Nat} {rs : Nat → List Int} {n now a : Int} (ha : 0 ≤ a) : ∀ (m : Nat) {p : Int × Int}, tieR p → tieR (tieB (opN ca rs n now) a m p)
  | 0, _, h => h
  | m + 1, p, h => by
    have ih := tieB_R (ca := ca) (rs := rs) (n := n) (now := now) ha m h
    rw [tieB]
    split
    · exact ih
    · exact tieSt_R _ ha (by omega) (tieSt_R _ ha (by omega) ih)
theorem tieA_R {ca : Nat} {rs : Nat → List Int} {n now : Int} : ∀ (m : Nat) (a : Int) {p : Int × Int}, 0 ≤ a → tieR p → tieR (tieA (opN ca rs n now) n m a p)
  | 0, _, _, _, h => h
  | m + 1, a, p, ha, h => by
    rw [tieA]
    split
    · exact tieA_R m (a + 1) (by omega) (tieB_R ha _ h)
    · exact h
theorem tieB_t {op : Int → Int → Int → Int} {a : Int} {m : Nat} {p : Int × Int} (h : a = (m : Int)) : tieB op a (m + 1) p = tieB op a m p := if_pos h
theorem tieB_f {op : Int → Int → Int → Int} {a : Int} {m : Nat} {p : Int × Int} (h : ¬ a = (m : Int)) : tieB op a (m + 1) p = tieSt op a (m : Int) (-1) (tieSt op a (m : Int) 1 (tieB op a m p)) := if_neg h
section CLS
variable {nn : Nat} {w : vWd} {n now : Int} {ca po fo : Nat} {rs : Nat → List Int} {S0 S1 : vSt} {k0 k1 rb rn rf : Int} {tx : List Int}
set_option maxRecDepth 100000 in
theorem lp_tieB {a : Int} {p : Int × Int} {st : List Int} {Q : vPost} (hn : 2 ≤ n ∧ n ≤ 7) (hnow : isS n now) (hcv : cvOK n rs) (htbl : tbIs n ca rs st) (ho : w 0 = some (xO k0 k1 rb rn rf)) (hW : WallAt w 1 (n, now, ca, po, fo, rs)) (ha : isD n a) (hp : tieR p) (K : ∀ w'', WkS w w'' n st → V mX5_tie (rm 7) Q 140 [some (.ref 0), some (vI (tieB (opN ca rs n now) a n.toNat p).1), some (vI (tieB (opN ca rs n now) a n.toNat p).2), some (vI a), none, none, none] [] nn w'' 0 0) : ∀ (m : Nat) (b : Int) (w' : vWd), 0 ≤ b → b ≤ n → (n - b).toNat < m → WkS w w' n st →
    V mX5_tie (rm 7) Q 63 [some (.ref 0), some (vI (tieB (opN ca rs n now) a b.toNat p).1), some (vI (tieB (opN ca rs n now) a b.toNat p).2), some (vI a), some (vI b), none, none] [] nn w' 0 0 := by
  intro m
  induction m with
  | zero => intro b w' h1 h2 h3; omega
  | succ m ih =>
    intro b w' hb hb2 hm hS
    have hS0 := hS
    obtain ⟨tf, tt, tb, F, hk, hsh, haok, hfr⟩ := hS
    have ho' := (hfr 0 (by omega)).trans ho
    have hW' := hW.keep (w' := w') (fun j a b => hfr j (by omega))
    have oW := hW'.obj
    have hR := tieB_R (ca := ca) (rs := rs) (n := n) (now := now) ha.1 b.toNat hp
    have hR1 := tieSt_R (ca := ca) (rs := rs) (n := n) (now := now) 1 ha.1 hb hR
    have k := ih (b + 1)
    rw [show (b + 1).toNat = b.toNat + 1 by omega] at k
    refine V_iload (Y := mX5_tie) (pc := 63) dX5_tie_63 rfl ?_
    refine V_aload_n (Y := mX5_tie) (pc := 65) dX5_tie_65 rfl ?_
    apply V_get (Y := mX5_tie) (pc := 66) dX5_tie_66 fl_X5_10
    · assumption
    · rfl
    apply V_get (Y := mX5_tie) (pc := 69) dX5_tie_69 fl_X5_199
    · assumption
    · rfl
    refine V_icmp_ge (tgt := 140) (Y := mX5_tie) (pc := 72) dX5_tie_72 (by decide) ⟨by omega, by omega⟩ ⟨by omega, by omega⟩ (fun h_72 => ?_) (fun h_72 => ?_)
    · refine V_drop 4 ?_
      rw [show b = n by omega]
      exact K w' hS0
    · refine V_iconst (Y := mX5_tie) (pc := 75) dX5_tie_75 ?_
      refine V_istore (Y := mX5_tie) (pc := 76) dX5_tie_76 rfl ?_
      by_cases hab : a = b
      · refine lp_tieX (a := a) (b := b) (v := 1) ⟨by omega, by omega⟩ ⟨by omega, by omega⟩ ⟨by omega, by omega⟩ (Or.inr hab) ?_
        refine V_iinc (Y := mX5_tie) (pc := 134) dX5_tie_134 rfl rfl ?_
        refine V_goto (tgt := 63) (Y := mX5_tie) (pc := 137) dX5_tie_137 (by decide) ?_
        refine V_drop 5 ?_
        rw [tieB_t (by omega)] at k
        exact k w' (by omega) (by omega) (by omega) hS0
      · refine lp_tieV (v := 1) hn hnow hcv htbl ho hW (Or.inl rfl) ha ⟨hb, by omega⟩ hab hR hS0 (fun w1 hS1 => ?_)
        refine lp_tieV (v := -1) hn hnow hcv htbl ho hW (Or.inr rfl) ha ⟨hb, by omega⟩ hab hR1 hS1 (fun w2 hS2 => ?_)
        refine lp_tieX (a := a) (b := b) (v := -3) ⟨by omega, by omega⟩ ⟨by omega, by omega⟩ ⟨by omega, by omega⟩ (Or.inl (by omega)) ?_
        refine V_iinc (Y := mX5_tie) (pc := 134) dX5_tie_134 rfl rfl ?_
        refine V_goto (tgt := 63) (Y := mX5_tie) (pc := 137) dX5_tie_137 (by decide) ?_
        refine V_drop 5 ?_
        rw [tieB_f (by omega), show ((b.toNat : Nat) : Int) = b by omega] at k
        exact k w2 (by omega) (by omega) (by omega) hS2
set_option maxRecDepth 100000 in
theorem lp_tieA {st : List Int} {Q : vPost} {r : Int} (hn : 2 ≤ n ∧ n ≤ 7) (hnow : isS n now) (hcv : cvOK n rs) (htbl : tbIs n ca rs st) (ho : w 0 = some (xO k0 k1 rb rn rf)) (hW : WallAt w 1 (n, now, ca, po, fo, rs)) (K : ∀ w'' F, WalkAt w'' 84 1 n (p3 n.toNat) (-1) (-1) 0 st F → FSh F → AOK F → frK 84 w w'' → Q (some (vI r)) nn w'') : ∀ (m : Nat) (a : Int) (p : Int × Int) (w' : vWd), 0 ≤ a → a ≤ n → (n - a).toNat = m → tieR p → (tieA (opN ca rs n now) n m a p).2 = r → WkS w w' n st →
    V mX5_tie (rm 7) Q 38 [some (.ref 0), some (vI p.1), some (vI p.2), some (vI a), none, none, none] [] nn w' 0 0 := by
  intro m
  induction m with
  | zero =>
    intro a p w' h1 h2 h3 hp hr hS
    obtain ⟨tf, tt, tb, F, hk, hsh, haok, hfr⟩ := hS
    have ho' := (hfr 0 (by omega)).trans ho
    have hW' := hW.keep (w' := w') (fun j a b => hfr j (by omega))
    have oW := hW'.obj
    have ok := hk.obj
    have hp2 := hp.2.1
    have hp1 := hp.1
    refine V_iload_n (Y := mX5_tie) (pc := 38) dX5_tie_38 rfl ?_
    refine V_aload_n (Y := mX5_tie) (pc := 39) dX5_tie_39 rfl ?_
    apply V_get (Y := mX5_tie) (pc := 40) dX5_tie_40 fl_X5_10
    · assumption
    · rfl
    apply V_get (Y := mX5_tie) (pc := 43) dX5_tie_43 fl_X5_199
    · assumption
    · rfl
    refine V_icmp_ge (tgt := 146) (Y := mX5_tie) (pc := 46) dX5_tie_46 (by decide) ⟨by omega, by omega⟩ ⟨by omega, by omega⟩ (fun h_46 => ?_) (fun h_46 => absurd h_46 (by omega))
    refine V_aload_n (Y := mX5_tie) (pc := 146) dX5_tie_146 rfl ?_
    apply V_get (Y := mX5_tie) (pc := 147) dX5_tie_147 fl_X5_51
    · assumption
    · rfl
    refine V_iconst (Y := mX5_tie) (pc := 150) dX5_tie_150 ?_
    refine V_iconst (Y := mX5_tie) (pc := 151) dX5_tie_151 ?_
    refine V_iconst (Y := mX5_tie) (pc := 152) dX5_tie_152 ?_
    apply V_vV (Y := mX5_tie) (pc := 153) dX5_tie_153 ok_X3_tied ov_X3_tied ln_X5_207 (c_tied (tf' := -1) (tt' := -1) (tb' := 0) hk)
    · assumption
    · rfl
    · rfl
    · rfl
    · rfl
    · rfl
    rintro w_153 ⟨g1, f1⟩
    refine V_iload_n (Y := mX5_tie) (pc := 156) dX5_tie_156 rfl ?_
    refine V_iret (Y := mX5_tie) (pc := 157) dX5_tie_157 rfl (Nat.le_of_ble_eq_true rfl) (Nat.le_of_ble_eq_true rfl) ?_
    have hr : p.2 = r := hr
    rw [hr]
    exact K w_153 F g1 hsh haok (fun j hj => (f1 j hj).trans (hfr j hj))
  | succ m ih =>
    intro a p w' h1 h2 h3 hp hr hS
    have hS0 := hS
    obtain ⟨tf, tt, tb, F, hk, hsh, haok, hfr⟩ := hS
    have ho' := (hfr 0 (by omega)).trans ho
    have hW' := hW.keep (w' := w') (fun j a b => hfr j (by omega))
    have oW := hW'.obj
    have ok := hk.obj
    have hp2 := hp.2.1
    have hp1 := hp.1
    rw [tieA] at hr
    refine V_iload_n (Y := mX5_tie) (pc := 38) dX5_tie_38 rfl ?_
    refine V_aload_n (Y := mX5_tie) (pc := 39) dX5_tie_39 rfl ?_
    apply V_get (Y := mX5_tie) (pc := 40) dX5_tie_40 fl_X5_10
    · assumption
    · rfl
    apply V_get (Y := mX5_tie) (pc := 43) dX5_tie_43 fl_X5_199
    · assumption
    · rfl
    refine V_icmp_ge (tgt := 146) (Y := mX5_tie) (pc := 46) dX5_tie_46 (by decide) ⟨by omega, by omega⟩ ⟨by omega, by omega⟩ (fun h_46 => absurd h_46 (by omega)) (fun h_46 => ?_)
    refine V_iload_n (Y := mX5_tie) (pc := 49) dX5_tie_49 rfl ?_
    refine V_aload_n (Y := mX5_tie) (pc := 50) dX5_tie_50 rfl ?_
    apply V_get (Y := mX5_tie) (pc := 51) dX5_tie_51 fl_X5_10
    · assumption
    · rfl
    apply V_get (Y := mX5_tie) (pc := 54) dX5_tie_54 fl_X5_199
    · assumption
    · rfl
    refine V_icmp_ge (tgt := 146) (Y := mX5_tie) (pc := 57) dX5_tie_57 (by decide) ⟨by omega, by omega⟩ ⟨by omega, by omega⟩ (fun h_57 => ?_) (fun h_57 => ?_)
    · refine V_aload_n (Y := mX5_tie) (pc := 146) dX5_tie_146 rfl ?_
      apply V_get (Y := mX5_tie) (pc := 147) dX5_tie_147 fl_X5_51
      · assumption
      · rfl
      refine V_iconst (Y := mX5_tie) (pc := 150) dX5_tie_150 ?_
      refine V_iconst (Y := mX5_tie) (pc := 151) dX5_tie_151 ?_
      refine V_iconst (Y := mX5_tie) (pc := 152) dX5_tie_152 ?_
      apply V_vV (Y := mX5_tie) (pc := 153) dX5_tie_153 ok_X3_tied ov_X3_tied ln_X5_207 (c_tied (tf' := -1) (tt' := -1) (tb' := 0) hk)
      · assumption
      · rfl
      · rfl
      · rfl
      · rfl
      · rfl
      rintro w_153 ⟨g1, f1⟩
      refine V_iload_n (Y := mX5_tie) (pc := 156) dX5_tie_156 rfl ?_
      refine V_iret (Y := mX5_tie) (pc := 157) dX5_tie_157 rfl (Nat.le_of_ble_eq_true rfl) (Nat.le_of_ble_eq_true rfl) ?_
      rw [if_neg (by omega)] at hr
      rw [hr]
      exact K w_153 F g1 hsh haok (fun j hj => (f1 j hj).trans (hfr j hj))
    · refine V_iconst (Y := mX5_tie) (pc := 60) dX5_tie_60 ?_
      refine V_istore (Y := mX5_tie) (pc := 61) dX5_tie_61 rfl ?_
      rw [if_pos (by omega)] at hr
      refine lp_tieB (a := a) (p := p) hn hnow hcv htbl ho hW ⟨h1, by omega⟩ hp (fun w1 hS1 => ?_) (n.toNat + 1) 0 w' (by omega) (by omega) (by omega) hS0
      refine V_iinc (Y := mX5_tie) (pc := 140) dX5_tie_140 rfl rfl ?_
      refine V_goto (tgt := 38) (Y := mX5_tie) (pc := 143) dX5_tie_143 (by decide) ?_
      exact ih (a + 1) _ w1 (by omega) (by omega) (by omega) (tieB_R h1 _ hp) hr hS1
set_option maxRecDepth 100000 in
theorem cx_tie (h : XInv w (n, now, ca, po, fo, rs) S0 S1 k0 k1 tx rb rn rf) (hG : vGood (n, now, ca, po, fo, rs)) : Ctr mX5_tie (rm 7) [.ref 0] nn w (pI (fun z w' => z = fTie (n, now, ca, po, fo, rs) ∧ XInv w' (n, now, ca, po, fo, rs) S0 S1 k0 k1 tx (tl1 (-2) z rb) (tl1 (-3) z rn) (tl1 (-4) z rf) ∧ frX w w') nn) := by
  refine Ctr_of (lv := [some (.ref 0), none, none, none, none, none, none]) (by decide +kernel) rfl rfl ?_
  have h0 := h
  obtain ⟨ho, hW, hK, hr⟩ := h
  obtain ⟨hn, hnow, hca, hpo, hfo, hgd, hcv, hor, hsg, hpast⟩ := hG.un
  obtain ⟨lr, dn, sn, tt, tb, st, F, hk, hlr, hlen, hsh, haok, htt, htb⟩ := hK
  have oW := hW.obj
  have ok := hk.obj
  have hn7 : 0 ≤ n ∧ n ≤ 7 := ⟨by omega, by omega⟩
  have hp := p3_le n.toNat (by omega)
  have hp0 := p3_pos n.toNat
  have hlc := hW.r1.len
  have h1 := pcB_rng (evB (gFnd (spT ca rs (-1) (-1) 0) n now) (gFnd (spT ca rs (-1) (-1) 0) n now).length) 7
  have hR0 : tieR (opN ca rs n now (-1) (-1) 0, -1) := ⟨h1.1, h1.2, by show (-1 : Int) ≤ -1; omega⟩
  refine V_aload_n (Y := mX5_tie) (pc := 0) dX5_tie_0 rfl ?_
  apply V_get (Y := mX5_tie) (pc := 1) dX5_tie_1 fl_X5_10
  · assumption
  · rfl
  apply V_get (Y := mX5_tie) (pc := 4) dX5_tie_4 fl_X5_182
  · assumption
  · rfl
  apply V_vR (Y := mX5_tie) (pc := 7) dX5_tie_7 ok_X2_isFull ov_X2_isFull ln_X5_192 (c_Row_isFull hW.r1)
  · exact hW.r1.obj
  · rfl
  · rfl
  · rfl
  · rfl
  · rfl
  refine V_if_eqB (tgt := 15) (Y := mX5_tie) (pc := 10) dX5_tie_10 (by decide) (fun h_10 => ?_) (fun h_10 => ?_)
  · refine V_aload_n (Y := mX5_tie) (pc := 15) dX5_tie_15 rfl ?_
    apply V_get (Y := mX5_tie) (pc := 16) dX5_tie_16 fl_X5_51
    · assumption
    · rfl
    refine V_aload_n (Y := mX5_tie) (pc := 19) dX5_tie_19 rfl ?_
    apply V_get (Y := mX5_tie) (pc := 20) dX5_tie_20 fl_X5_10
    · assumption
    · rfl
    apply V_vV (Y := mX5_tie) (pc := 23) dX5_tie_23 ok_X3_learn ov_X3_learn ln_X5_160 (c_learn hk hW hn7 hcv hca (by omega) hlr hlen)
    · assumption
    · rfl
    · rfl
    · rfl
    · rfl
    · rfl
    rintro w_23 ⟨st2, g1, hlen2, htbl, f1⟩
    have x1 := (f1 0 (by omega)).trans ho
    have W1 := hW.keep (fun j a b => f1 j (by omega))
    refine V_aload_n (Y := mX5_tie) (pc := 26) dX5_tie_26 rfl ?_
    refine V_iconst (Y := mX5_tie) (pc := 27) dX5_tie_27 ?_
    refine V_iconst (Y := mX5_tie) (pc := 28) dX5_tie_28 ?_
    refine V_iconst (Y := mX5_tie) (pc := 29) dX5_tie_29 ?_
    apply V_vI (Y := mX5_tie) (pc := 30) dX5_tie_30 ok_X5_openableWith ov_X5_openableWith ln_X5_196 (c_openedWith (a := -1) (b := -1) (v := 0) x1 W1 g1 hn7 hnow hcv htbl (Or.inl ⟨rfl, ⟨by omega, by omega⟩, ⟨by omega, by omega⟩⟩) hsh haok)
    · assumption
    · rfl
    · rfl
    · rfl
    · rfl
    · rfl
    rintro z_30 w_30 ⟨hz, F2, g2, hsh2, haok2, f2⟩
    subst hz
    have x2 := (f2 0 (by omega)).trans x1
    have W2 := W1.keep (fun j a b => f2 j (by omega))
    refine V_istore_n (Y := mX5_tie) (pc := 33) dX5_tie_33 rfl ?_
    refine V_iconst (Y := mX5_tie) (pc := 34) dX5_tie_34 ?_
    refine V_istore_n (Y := mX5_tie) (pc := 35) dX5_tie_35 rfl ?_
    refine V_iconst (Y := mX5_tie) (pc := 36) dX5_tie_36 ?_
    refine V_istore_n (Y := mX5_tie) (pc := 37) dX5_tie_37 rfl ?_
    have e : fTie (n, now, ca, po, fo, rs) = (tieA (opN ca rs n now) n n.toNat 0 (opN ca rs n now (-1) (-1) 0, -1)).2 := if_neg (by show ¬ 10 ≤ (rs 1).length; omega)
    have hRr := (tieA_R (ca := ca) (rs := rs) (now := now) (n := n) n.toNat 0 (by omega) hR0).2.2
    rw [← e] at hRr
    refine lp_tieA (w := w_30) (r := fTie (n, now, ca, po, fo, rs)) hn hnow hcv htbl x2 W2 (fun w' F' hk' hsh' haok' hf => ?_) n.toNat 0 (opN ca rs n now (-1) (-1) 0, -1) w_30 (by omega) (by omega) (by omega) hR0 e.symm ⟨-1, -1, 0, F2, g2, hsh2, haok2, frK.refl _ _⟩
    have hX := XInv.walk (w' := w') ho hW hr (fun j hj => (hf j hj).trans ((f2 j hj).trans (f1 j hj))) ⟨1, n, _, -1, 0, st2, F', hk', Or.inr ⟨rfl, rfl, rfl, htbl⟩, hlen2, hsh', haok', ⟨by omega, by omega⟩, ⟨by omega, by omega⟩⟩
    exact pI_of ⟨rfl, hX.1.tl0 hRr, hX.2⟩
  · refine V_iconst (Y := mX5_tie) (pc := 13) dX5_tie_13 ?_
    refine V_iret (Y := mX5_tie) (pc := 14) dX5_tie_14 rfl (Nat.le_of_ble_eq_true rfl) (Nat.le_of_ble_eq_true rfl) ?_
    rw [show fTie (n, now, ca, po, fo, rs) = -1 from if_pos (by show 10 ≤ (rs 1).length; omega)]
    exact pI_of ⟨rfl, h0.tl0 (by omega), frX.refl w⟩
end CLS
