/-! ===== DrawerWall: cut, tie ===== -/
theorem tbl_learn {g : Int → Int} {d0 N : Int} {st : List Int} (hl : st.length = 15309) (hd : 0 ≤ d0 ∧ d0 < 7) (hN : N ≤ 2187) {s d : Int} (hs : 0 ≤ s ∧ s < N) (hd2 : 0 ≤ d ∧ d < 7) : tbl (fLearn g d0 st N.toNat) s d = if d = d0 then g s else tbl st s d := by
  unfold tbl
  rw [fLearn_at hl hd _ _ (by omega)]
  by_cases h : d = d0
  · subst h
    rw [if_pos (by omega), if_pos rfl]
    congr 1
    omega
  · rw [if_neg (by omega), if_neg h]
def mskC (c : Int) : Int32 := (iI 1 <<< (iI c &&& 31)) ^^^ iI (-1)
noncomputable def spC (ca : Nat) (rs : Nat → List Int) (c s d : Int) : Int := if d = rAt (rs 1) c then aft ca rs s d (mskC c) else aft ca rs s d (iI (-1))
theorem spC_ok {n : Int} {ca : Nat} {rs : Nat → List Int} (hcv : cvOK n rs) (c : Int) : spOK n (p3 n.toNat) (spC ca rs c) := fun s d hs hd => by
  unfold spC
  split
  · exact aft_rng ca hcv _ hs hd
  · exact aft_rng ca hcv _ hs hd
noncomputable def ctN (ca : Nat) (rs : Nat → List Int) (n now c : Int) : Int := ((gFnd (spC ca rs c) n now).length : Int)
noncomputable def cutTo (ca : Nat) (rs : Nat → List Int) (n now : Int) : Nat → Int × Int
  | 0 => (((gFnd (spP ca rs) n now).length : Int), -1)
  | m + 1 => if (cutTo ca rs n now m).1 < ctN ca rs n now (m : Int) then (ctN ca rs n now (m : Int), (m : Int)) else cutTo ca rs n now m
noncomputable def fCut (S : vSt) : Int := (cutTo S.2.2.1 S.2.2.2.2.2 S.1 S.2.1 (S.2.2.2.2.2 1).length).2
theorem cutTo_t {ca : Nat} {rs : Nat → List Int} {n now : Int} {m : Nat} (h : (cutTo ca rs n now m).1 < ctN ca rs n now (m : Int)) : cutTo ca rs n now (m + 1) = (ctN ca rs n now (m : Int), (m : Int)) := if_pos h
theorem cutTo_f {ca : Nat} {rs : Nat → List Int} {n now : Int} {m : Nat} (h : ¬ (cutTo ca rs n now m).1 < ctN ca rs n now (m : Int)) : cutTo ca rs n now (m + 1) = cutTo ca rs n now m := if_neg h
theorem gFnd_len {n : Int} {sp : Int → Int → Int} (hn : 0 ≤ n ∧ n ≤ 7) (hsp : spOK n (p3 n.toNat) sp) {s : Int} (hs : isS n s) : ((gFnd sp n s).length : Int) ≤ 2187 := by
  have hp := p3_le n.toNat (by omega)
  have h := spF_all (F := ([], List.replicate 2187 0, List.replicate 2187 0, [])) hn hsp hs ⟨List.length_replicate, List.length_replicate⟩ (fun j => by
    show -1 ≤ rAt (List.replicate 2187 0) j ∧ rAt (List.replicate 2187 0) j ≤ 3000
    rw [rAt_rep]; split <;> omega)
  have h2 := h.1.len
  rw [h.2.2.2] at h2
  omega
theorem cutTo_rng {n now : Int} {ca : Nat} {rs : Nat → List Int} (hn : 0 ≤ n ∧ n ≤ 7) (hcv : cvOK n rs) (hnow : isS n now) : ∀ m : Nat, (0 ≤ (cutTo ca rs n now m).1 ∧ (cutTo ca rs n now m).1 ≤ 2187) ∧ -1 ≤ (cutTo ca rs n now m).2 ∧ (cutTo ca rs n now m).2 < m
  | 0 => ⟨⟨by show (0 : Int) ≤ ((gFnd (spP ca rs) n now).length : Int); omega, gFnd_len hn (spP_ok hcv) hnow⟩, by show (-1 : Int) ≤ -1; omega, by show (-1 : Int) < 0; omega⟩
  | m + 1 => by
    have ih := cutTo_rng (ca := ca) hn hcv hnow m
    have h2 := gFnd_len hn (spC_ok (ca := ca) hcv (m : Int)) hnow
    by_cases h : (cutTo ca rs n now m).1 < ctN ca rs n now (m : Int)
    · rw [cutTo_t h]
      refine ⟨⟨?_, h2⟩, ?_, ?_⟩
      · show (0 : Int) ≤ ((gFnd (spC ca rs (m : Int)) n now).length : Int); omega
      · show -1 ≤ (m : Int); omega
      · show (m : Int) < ((m + 1 : Nat) : Int); omega
    · rw [cutTo_f h]
      exact ⟨ih.1, ih.2.1, by omega⟩
theorem evB_lt (l : List Int) : ∀ m, evB l m < 128
  | 0 => by show 0 < 128; decide
  | m + 1 => by
    rw [evB]
    exact Nat.or_lt_two_pow (n := 7) (evB_lt l m) (drB_lt _ _ 7)
theorem pcB_rng (a : Nat) : ∀ m : Nat, 0 ≤ pcB a m ∧ pcB a m ≤ m
  | 0 => ⟨Int.le_refl 0, Int.le_refl 0⟩
  | m + 1 => by
    have ih := pcB_rng a m
    rw [pcB]
    split <;> omega
noncomputable def spT (ca : Nat) (rs : Nat → List Int) (a b v s d : Int) : Int := if d ≠ a ∨ spP ca rs s d = s then spP ca rs s d else mv (spP ca rs s d) b.toNat v
theorem stp_spT {n : Int} {ca : Nat} {rs : Nat → List Int} {st : List Int} (h : tbIs n ca rs st) (a b v : Int) : ∀ s d : Int, isS n s → isD n d → stpF st a b v s d = spT ca rs a b v s d := by
  intro s d hs hd
  rw [stpF, spT, show tbl st s d = spP ca rs s d from h s d hs hd]
noncomputable def opN (ca : Nat) (rs : Nat → List Int) (n now a b v : Int) : Int := pcB (evB (gFnd (spT ca rs a b v) n now) (gFnd (spT ca rs a b v) n now).length) 7
def tieSt (op : Int → Int → Int → Int) (a b v : Int) (p : Int × Int) : Int × Int := if p.1 < op a b v then (op a b v, 100 * a + 10 * b + max 0 v) else p
def tieB (op : Int → Int → Int → Int) (a : Int) : Nat → Int × Int → Int × Int
  | 0, p => p
  | m + 1, p => if a = (m : Int) then tieB op a m p else tieSt op a (m : Int) (-1) (tieSt op a (m : Int) 1 (tieB op a m p))
def tieA (op : Int → Int → Int → Int) (n : Int) : Nat → Int → Int × Int → Int × Int
  | 0, _, p => p
  | m + 1, a, p => if p.1 < n then tieA op n m (a + 1) (tieB op a n.toNat p) else p
noncomputable def fTie (S : vSt) : Int := if 10 ≤ (S.2.2.2.2.2 1).length then -1 else (tieA (opN S.2.2.1 S.2.2.2.2.2 S.1 S.2.1) S.1 S.1.toNat 0 (opN S.2.2.1 S.2.2.2.2.2 S.1 S.2.1 (-1) (-1) 0, -1)).2
def tieR (p : Int × Int) : Prop := 0 ≤ p.1 ∧ p.1 ≤ 7 ∧ -1 ≤ p.2
theorem tieSt_R {ca : Nat} {rs : Nat → List Int} {n now a b : Int} (v : Int) (ha : 0 ≤ a) (hb : 0 ≤ b) {p : Int × Int} (h : tieR p) : tieR (tieSt (opN ca rs n now) a b v p) := by
  have h1 := pcB_rng (evB (gFnd (spT ca rs a b v) n now) (gFnd (spT ca rs a b v) n now).length) 7
  unfold tieSt
  split
  · refine ⟨h1.1, h1.2, ?_⟩
    show -1 ≤ 100 * a + 10 * b + max 0 v
    omega
  · exact h
def WkS (w w' : vWd) (n : Int) (st : List Int) : Prop := ∃ (tf tt tb : Int) (F : bF), WalkAt w' 84 1 n (p3 n.toNat) tf tt tb st F ∧ FSh F ∧ AOK F ∧ frK 84 w w'
section CLS
variable {nn : Nat} {w : vWd} {n now : Int} {ca po fo : Nat} {rs : Nat → List Int} {S0 S1 : vSt} {k0 k1 rb rn rf : Int} {tx : List Int}
set_option maxRecDepth 100000 in
theorem lp_cut {tt tb : Int} (hn : 2 ≤ n ∧ n ≤ 7) (hnow : isS n now) (hcv : cvOK n rs) (hca : ca < 128) (htt : inR tt) (htb : inR tb) (ho : w 0 = some (xO k0 k1 rb rn rf)) (hW : WallAt w 1 (n, now, ca, po, fo, rs)) {Q : vPost} (hQ : ∀ w', WkInv w' n ca rs → frK 84 w w' → Q (some (vI (fCut (n, now, ca, po, fo, rs)))) nn w') : ∀ (m : Nat) (i : Int) (w' : vWd) (st : List Int) (F : bF), 0 ≤ i → i ≤ (rs 1).length → ((rs 1).length - i).toNat < m → WalkAt w' 84 1 n (p3 n.toNat) (-1) tt tb st F → st.length = 15309 → tbIs n ca rs st → FSh F → AOK F → frK 84 w w' →
    V mX5_cut (rm 6) Q 20 [some (.ref 0), some (vI (cutTo ca rs n now i.toNat).1), some (vI (cutTo ca rs n now i.toNat).2), some (vI i), none, none] [] nn w' 0 0 := by
  intro m
  induction m with
  | zero => intro i w' st F h1 h2 h3; omega
  | succ m ih =>
    intro i w' st F hi hi2 hm hk hlen htbl hsh haok hfr
    have ho' := (hfr 0 (by omega)).trans ho
    have hW' := hW.keep (w' := w') (fun j a b => hfr j (by omega))
    have oW := hW'.obj
    have ok := hk.obj
    have hlc := hW.r1.len
    have hn7 : 0 ≤ n ∧ n ≤ 7 := ⟨by omega, by omega⟩
    have hp := p3_le n.toNat (by omega)
    have hp0 := p3_pos n.toNat
    have hrg := cutTo_rng (ca := ca) hn7 hcv hnow i.toNat
    have hcl := gFnd_len hn7 (spC_ok (ca := ca) hcv i) hnow
    have hci := hcv.2 i hi
    unfold okCord at hci
    have k := ih (i + 1)
    rw [show (i + 1).toNat = i.toNat + 1 by omega] at k
    have hctd : ctN ca rs n now i = ((gFnd (spC ca rs i) n now).length : Int) := rfl
    refine V_iload_n (Y := mX5_cut) (pc := 20) dX5_cut_20 rfl ?_
    refine V_aload_n (Y := mX5_cut) (pc := 21) dX5_cut_21 rfl ?_
    apply V_get (Y := mX5_cut) (pc := 22) dX5_cut_22 fl_X5_10
    · assumption
    · rfl
    apply V_get (Y := mX5_cut) (pc := 25) dX5_cut_25 fl_X5_182
    · assumption
    · rfl
    apply V_vR (Y := mX5_cut) (pc := 28) dX5_cut_28 ok_X2_size ov_X2_size ln_X5_109 (c_Row_size hW'.r1)
    · exact hW'.r1.obj
    · rfl
    · rfl
    · rfl
    · rfl
    · rfl
    
    refine V_icmp_ge (tgt := 102) (Y := mX5_cut) (pc := 31) dX5_cut_31 (by decide) ⟨by omega, by omega⟩ ⟨by omega, by omega⟩ (fun h_31 => ?_) (fun h_31 => ?_)
    · try have hci := hci (by omega)
      refine V_iload_n (Y := mX5_cut) (pc := 102) dX5_cut_102 rfl ?_
      refine V_iret (Y := mX5_cut) (pc := 103) dX5_cut_103 rfl (Nat.le_of_ble_eq_true rfl) (Nat.le_of_ble_eq_true rfl) ?_
      have e : fCut (n, now, ca, po, fo, rs) = (cutTo ca rs n now i.toNat).2 := by show (cutTo ca rs n now (rs 1).length).2 = _; rw [show i.toNat = (rs 1).length by omega]
      have q := hQ w' ⟨1, n, _, tt, tb, st, F, hk, Or.inr ⟨rfl, rfl, rfl, htbl⟩, hlen, hsh, haok, htt, htb⟩ hfr
      rw [e] at q
      exact q
    · try have hci := hci (by omega)
      refine V_aload_n (Y := mX5_cut) (pc := 34) dX5_cut_34 rfl ?_
      apply V_get (Y := mX5_cut) (pc := 35) dX5_cut_35 fl_X5_10
      · assumption
      · rfl
      apply V_get (Y := mX5_cut) (pc := 38) dX5_cut_38 fl_X5_182
      · assumption
      · rfl
      refine V_iload_n (Y := mX5_cut) (pc := 41) dX5_cut_41 rfl ?_
      apply V_vR (Y := mX5_cut) (pc := 42) dX5_cut_42 ok_X2_at ov_X2_at ln_X5_185 (c_Row_at (i := i) hW'.r1 ⟨by omega, by omega⟩)
      · exact hW'.r1.obj
      · rfl
      · rfl
      · rfl
      · rfl
      · rfl
      refine V_istore (Y := mX5_cut) (pc := 45) dX5_cut_45 rfl ?_
      refine V_aload_n (Y := mX5_cut) (pc := 47) dX5_cut_47 rfl ?_
      apply V_get (Y := mX5_cut) (pc := 48) dX5_cut_48 fl_X5_51
      · assumption
      · rfl
      refine V_aload_n (Y := mX5_cut) (pc := 51) dX5_cut_51 rfl ?_
      apply V_get (Y := mX5_cut) (pc := 52) dX5_cut_52 fl_X5_10
      · assumption
      · rfl
      refine V_iload (Y := mX5_cut) (pc := 55) dX5_cut_55 rfl ?_
      refine V_iconst (Y := mX5_cut) (pc := 57) dX5_cut_57 ?_
      refine V_iload_n (Y := mX5_cut) (pc := 58) dX5_cut_58 rfl ?_
      refine V_ishl (Y := mX5_cut) (pc := 59) dX5_cut_59 (rfl) ?_
      refine V_iconst (Y := mX5_cut) (pc := 60) dX5_cut_60 ?_
      refine V_ixor (Y := mX5_cut) (pc := 61) dX5_cut_61 (rfl) ?_
      apply V_vV (Y := mX5_cut) (pc := 62) dX5_cut_62 ok_X3_learnDrawer ov_X3_learnDrawer ln_X5_188 (c_learnDrawer (d := rAt (rs 1) i) (x := mskC i) hk hW' hn7 hcv hca ⟨by omega, by omega⟩ (by omega))
      · assumption
      · rfl
      · rfl
      · rfl
      · rfl
      · rfl
      rintro w_62 ⟨g1, f1⟩
      have hst1 : ∀ s d : Int, isS n s → isD n d → tbl (fLearn (fun s => aft ca rs s (rAt (rs 1) i) (mskC i)) (rAt (rs 1) i) st (p3 n.toNat).toNat) s d = spC ca rs i s d := fun s d hs hd => by
        rw [tbl_learn hlen ⟨by omega, by omega⟩ hp hs ⟨by omega, by omega⟩, spC]
        by_cases hd2 : d = rAt (rs 1) i
        · rw [if_pos hd2, if_pos hd2, hd2]
        · rw [if_neg hd2, if_neg hd2]; exact htbl s d hs hd
      have hok1 : tbOK n (fLearn (fun s => aft ca rs s (rAt (rs 1) i) (mskC i)) (rAt (rs 1) i) st (p3 n.toNat).toNat) := fun s d hs hd => by rw [hst1 s d hs hd]; exact spC_ok hcv i s d hs hd
      have hlen1 : (fLearn (fun s => aft ca rs s (rAt (rs 1) i) (mskC i)) (rAt (rs 1) i) st (p3 n.toNat).toNat).length = 15309 := by rw [fLearn_len]; exact hlen
      have x1 := (f1 0 (by omega)).trans ho'
      have W1 := hW'.keep (fun j a b => f1 j (by omega))
      generalize hst1d : fLearn (fun s => aft ca rs s (rAt (rs 1) i) (mskC i)) (rAt (rs 1) i) st (p3 n.toNat).toNat = st1 at *
      refine V_aload_n (Y := mX5_cut) (pc := 65) dX5_cut_65 rfl ?_
      apply V_vI (Y := mX5_cut) (pc := 66) dX5_cut_66 ok_X5_walkFromNow ov_X5_walkFromNow ln_X5_167 (c_reached x1 W1 g1 hn7 hnow hok1 (Or.inl ⟨rfl, htt, htb⟩) hsh)
      · assumption
      · rfl
      · rfl
      · rfl
      · rfl
      · rfl
      rintro z_66 w_66 ⟨hz, g2, f2⟩
      have hspk := stpF_ok (tf := -1) (tt := tt) (tb := tb) hn7.1 hok1 (Or.inl ⟨rfl, htt, htb⟩)
      have hres := spF_all hn7 hspk hnow hsh haok
      have hcg := gFnd_congr hn7.1 hspk (sp' := spC ca rs i) (fun s d hs hd => by rw [stpF, if_pos (Or.inl (by omega))]; exact hst1 s d hs hd) hnow
      rw [hres.2.2.2, hcg] at hz
      have x2 := (f2 0 (by omega)).trans x1
      have W2 := W1.keep (fun j a b => f2 j (by omega))
      have y2 := W2.obj
      have z2 := g2.obj
      refine V_istore (Y := mX5_cut) (pc := 69) dX5_cut_69 rfl ?_
      refine V_aload_n (Y := mX5_cut) (pc := 71) dX5_cut_71 rfl ?_
      apply V_get (Y := mX5_cut) (pc := 72) dX5_cut_72 fl_X5_51
      · assumption
      · rfl
      refine V_aload_n (Y := mX5_cut) (pc := 75) dX5_cut_75 rfl ?_
      apply V_get (Y := mX5_cut) (pc := 76) dX5_cut_76 fl_X5_10
      · assumption
      · rfl
      refine V_iload (Y := mX5_cut) (pc := 79) dX5_cut_79 rfl ?_
      refine V_iconst (Y := mX5_cut) (pc := 81) dX5_cut_81 ?_
      apply V_vV (Y := mX5_cut) (pc := 82) dX5_cut_82 ok_X3_learnDrawer ov_X3_learnDrawer ln_X5_188 (c_learnDrawer (d := rAt (rs 1) i) (x := iI (-1)) g2 W2 hn7 hcv hca ⟨by omega, by omega⟩ (by omega))
      · assumption
      · rfl
      · rfl
      · rfl
      · rfl
      · rfl
      rintro w_82 ⟨g3, f3⟩
      have htb3 : tbIs n ca rs (fLearn (fun s => aft ca rs s (rAt (rs 1) i) (iI (-1))) (rAt (rs 1) i) st1 (p3 n.toNat).toNat) := fun s d hs hd => by
        rw [tbl_learn hlen1 ⟨by omega, by omega⟩ hp hs ⟨by omega, by omega⟩]
        by_cases hd2 : d = rAt (rs 1) i
        · rw [if_pos hd2, hd2]
        · rw [if_neg hd2, hst1 s d hs hd, spC, if_neg hd2]
      have hl3 : (fLearn (fun s => aft ca rs s (rAt (rs 1) i) (iI (-1))) (rAt (rs 1) i) st1 (p3 n.toNat).toNat).length = 15309 := by rw [fLearn_len]; exact hlen1
      have hf3 : frK 84 w w_82 := fun j hj => (f3 j hj).trans ((f2 j hj).trans ((f1 j hj).trans (hfr j hj)))
      subst hz
      have hct : ctN ca rs n now ((i.toNat : Nat) : Int) = ((gFnd (spC ca rs i) n now).length : Int) := by rw [show ((i.toNat : Nat) : Int) = i by omega]; rfl
      refine V_iload (Y := mX5_cut) (pc := 85) dX5_cut_85 rfl ?_
      refine V_iload_n (Y := mX5_cut) (pc := 87) dX5_cut_87 rfl ?_
      refine V_icmp_le (tgt := 96) (Y := mX5_cut) (pc := 88) dX5_cut_88 (by decide) ⟨by omega, by omega⟩ ⟨by omega, by omega⟩ (fun h_88 => ?_) (fun h_88 => ?_)
      · refine V_iinc (Y := mX5_cut) (pc := 96) dX5_cut_96 rfl rfl ?_
        refine V_goto (tgt := 20) (Y := mX5_cut) (pc := 99) dX5_cut_99 (by decide) ?_
        refine V_drop 4 (V_drop 5 ?_)
        first
          | (rw [cutTo_f (by omega)] at k
             exact k w_82 _ _ (by omega) (by omega) (by omega) g3 hl3 htb3 hres.1.sh hres.2.1 hf3)
          | (rw [cutTo_t (by omega), hct, show ((i.toNat : Nat) : Int) = i by omega] at k
             exact k w_82 _ _ (by omega) (by omega) (by omega) g3 hl3 htb3 hres.1.sh hres.2.1 hf3)
      · refine V_iload (Y := mX5_cut) (pc := 91) dX5_cut_91 rfl ?_
        refine V_istore_n (Y := mX5_cut) (pc := 93) dX5_cut_93 rfl ?_
        refine V_iload_n (Y := mX5_cut) (pc := 94) dX5_cut_94 rfl ?_
        refine V_istore_n (Y := mX5_cut) (pc := 95) dX5_cut_95 rfl ?_
        refine V_iinc (Y := mX5_cut) (pc := 96) dX5_cut_96 rfl rfl ?_
        refine V_goto (tgt := 20) (Y := mX5_cut) (pc := 99) dX5_cut_99 (by decide) ?_
        refine V_drop 4 (V_drop 5 ?_)
        first
          | (rw [cutTo_f (by omega)] at k
             exact k w_82 _ _ (by omega) (by omega) (by omega) g3 hl3 htb3 hres.1.sh hres.2.1 hf3)
          | (rw [cutTo_t (by omega), hct, show ((i.toNat : Nat) : Int) = i by omega] at k
             exact k w_82 _ _ (by omega) (by omega) (by omega) g3 hl3 htb3 hres.1.sh hres.2.1 hf3)
set_option maxRecDepth 100000 in
theorem cx_cut (h : XInv w (n, now, ca, po, fo, rs) S0 S1 k0 k1 tx rb rn rf) (hG : vGood (n, now, ca, po, fo, rs)) : Ctr mX5_cut (rm 6) [.ref 0] nn w (pI (fun z w' => z = fCut (n, now, ca, po, fo, rs) ∧ XInv w' (n, now, ca, po, fo, rs) S0 S1 k0 k1 tx (tl1 (-2) z rb) (tl1 (-3) z rn) (tl1 (-4) z rf) ∧ frX w w') nn) := by
  refine Ctr_of (lv := [some (.ref 0), none, none, none, none, none]) (by decide +kernel) rfl rfl ?_
  obtain ⟨ho, hW, hK, hr⟩ := h
  obtain ⟨hn, hnow, hca, hpo, hfo, hgd, hcv, hor, hsg, hpast⟩ := hG.un
  obtain ⟨lr, dn, sn, tt, tb, st, F, hk, hlr, hlen, hsh, haok, htt, htb⟩ := hK
  have oW := hW.obj
  have ok := hk.obj
  have hn7 : 0 ≤ n ∧ n ≤ 7 := ⟨by omega, by omega⟩
  have hp := p3_le n.toNat (by omega)
  have hp0 := p3_pos n.toNat
  have hrg := (cutTo_rng (ca := ca) hn7 hcv hnow (rs 1).length).2
  have hrg : -1 ≤ fCut (n, now, ca, po, fo, rs) := hrg.1
  refine V_aload_n (Y := mX5_cut) (pc := 0) dX5_cut_0 rfl ?_
  apply V_get (Y := mX5_cut) (pc := 1) dX5_cut_1 fl_X5_51
  · assumption
  · rfl
  refine V_aload_n (Y := mX5_cut) (pc := 4) dX5_cut_4 rfl ?_
  apply V_get (Y := mX5_cut) (pc := 5) dX5_cut_5 fl_X5_10
  · assumption
  · rfl
  apply V_vV (Y := mX5_cut) (pc := 8) dX5_cut_8 ok_X3_learn ov_X3_learn ln_X5_160 (c_learn hk hW hn7 hcv hca (by omega) hlr hlen)
  · assumption
  · rfl
  · rfl
  · rfl
  · rfl
  · rfl
  rintro w_8 ⟨st2, g1, hlen2, htbl, f1⟩
  have hres := rch_res hn7 hcv hnow htbl htt htb hsh haok
  have x1 := (f1 0 (by omega)).trans ho
  have W1 := hW.keep (fun j a b => f1 j (by omega))
  refine V_aload_n (Y := mX5_cut) (pc := 11) dX5_cut_11 rfl ?_
  apply V_vI (Y := mX5_cut) (pc := 12) dX5_cut_12 ok_X5_walkFromNow ov_X5_walkFromNow ln_X5_167 (c_reached x1 W1 g1 hn7 hnow (htbl.ok hcv) (Or.inl ⟨rfl, htt, htb⟩) hsh)
  · assumption
  · rfl
  · rfl
  · rfl
  · rfl
  · rfl
  rintro z_12 w_12 ⟨hz, g2, f2⟩
  rw [hres.2.2.2] at hz
  subst hz
  have x2 := (f2 0 (by omega)).trans x1
  have W2 := W1.keep (fun j a b => f2 j (by omega))
  refine V_istore_n (Y := mX5_cut) (pc := 15) dX5_cut_15 rfl ?_
  refine V_iconst (Y := mX5_cut) (pc := 16) dX5_cut_16 ?_
  refine V_istore_n (Y := mX5_cut) (pc := 17) dX5_cut_17 rfl ?_
  refine V_iconst (Y := mX5_cut) (pc := 18) dX5_cut_18 ?_
  refine V_istore_n (Y := mX5_cut) (pc := 19) dX5_cut_19 rfl ?_
  refine lp_cut (w := w_12) hn hnow hcv hca htt htb x2 W2 ?_ ((rs 1).length + 1) 0 w_12 st2 _ (by omega) (by omega) (by omega) g2 hlen2 htbl hres.1.sh hres.2.1 (frK.refl _ _)
  intro w' hK' hf
  have hX := XInv.walk ho hW hr (fun j hj => (hf j hj).trans ((f2 j hj).trans (f1 j hj))) hK'
  exact pI_of ⟨rfl, hX.1.tl0 hrg, hX.2⟩
set_option maxRecDepth 100000 in
theorem c_openedWith {a b v tf tt tb : Int} {st : List Int} {F : bF} (ho : w 0 = some (xO k0 k1 rb rn rf)) (hW : WallAt w 1 (n, now, ca, po, fo, rs)) (hk : WalkAt w 84 1 n (p3 n.toNat) tf tt tb st F) (hn : 0 ≤ n ∧ n ≤ 7) (hnow : isS n now) (hcv : cvOK n rs) (htbl : tbIs n ca rs st) (htd : tdOK n a b v) (hF : FSh F) (hA : AOK F) : Ctr mX5_openableWith (rm 6) [.ref 0, vI a, vI b, vI v] nn w (pI (fun z w' => z = opN ca rs n now a b v ∧ ∃ F', WalkAt w' 84 1 n (p3 n.toNat) a b v st F' ∧ FSh F' ∧ AOK F' ∧ frK 84 w w') nn) := by
  refine Ctr_of (lv := [some (.ref 0), some (vI a), some (vI b), some (vI v)]) (by decide +kernel) rfl rfl ?_
  have oW := hW.obj
  have ok := hk.obj
  refine V_aload_n (Y := mX5_openableWith) (pc := 0) dX5_openableWith_0 rfl ?_
  apply V_get (Y := mX5_openableWith) (pc := 1) dX5_openableWith_1 fl_X5_51
  · assumption
  · rfl
  refine V_iload_n (Y := mX5_openableWith) (pc := 4) dX5_openableWith_4 rfl ?_
  refine V_iload_n (Y := mX5_openableWith) (pc := 5) dX5_openableWith_5 rfl ?_
  refine V_iload_n (Y := mX5_openableWith) (pc := 6) dX5_openableWith_6 rfl ?_
  apply V_vV (Y := mX5_openableWith) (pc := 7) dX5_openableWith_7 ok_X3_tied ov_X3_tied ln_X5_207 (c_tied (tf' := a) (tt' := b) (tb' := v) hk)
  · assumption
  · rfl
  · rfl
  · rfl
  · rfl
  · rfl
  rintro w_7 ⟨g1, f1⟩
  have x1 := (f1 0 (by omega)).trans ho
  have W1 := hW.keep (fun j a b => f1 j (by omega))
  have hspk := stpF_ok (tf := a) (tt := b) (tb := v) hn.1 (htbl.ok hcv) htd
  have hres := spF_all hn hspk hnow hF hA
  have hcg := gFnd_congr hn.1 hspk (stp_spT htbl a b v) hnow
  refine V_aload_n (Y := mX5_openableWith) (pc := 10) dX5_openableWith_10 rfl ?_
  apply V_vI (Y := mX5_openableWith) (pc := 11) dX5_openableWith_11 ok_X5_walkFromNow ov_X5_walkFromNow ln_X5_167 (c_reached x1 W1 g1 hn hnow (htbl.ok hcv) htd hF)
  · assumption
  · rfl
  · rfl
  · rfl
  · rfl
  · rfl
  rintro z_11 w_11 ⟨hz, g2, f2⟩
  have x2 := (f2 0 (by omega)).trans x1
  have z2 := g2.obj
  refine V_pop (Y := mX5_openableWith) (pc := 14) dX5_openableWith_14 rfl ?_
  refine V_aload_n (Y := mX5_openableWith) (pc := 15) dX5_openableWith_15 rfl ?_
  apply V_get (Y := mX5_openableWith) (pc := 16) dX5_openableWith_16 fl_X5_51
  · assumption
  · rfl
  apply V_vR (Y := mX5_openableWith) (pc := 19) dX5_openableWith_19 ok_X3_everOpen ov_X3_everOpen ln_X5_278 (c_everOpen g2 hres.1)
  · assumption
  · rfl
  · rfl
  · rfl
  · rfl
  · rfl
  apply V_sR (Y := mX5_openableWith) (pc := 22) dX5_openableWith_22 ok_J6_bitCount_0f7a4 os_J6_bitCount_0f7a4 ln_X5_281 (c_bitCount (a := evB (spF (stpF st a b v) n now F).2.2.2 (spF (stpF st a b v) n now F).2.2.2.length) (evB_lt _ _))
  · rfl
  · rfl
  · rfl
  refine V_iret (Y := mX5_openableWith) (pc := 25) dX5_openableWith_25 rfl (Nat.le_of_ble_eq_true rfl) (Nat.le_of_ble_eq_true rfl) ?_
  rw [hres.2.2.2, hcg]
  exact pI_of ⟨rfl, _, g2, hres.1.sh, hres.2.1, fun j hj => (f2 j hj).trans (f1 j hj)⟩
set_option maxRecDepth 100000 in
theorem lp_tieX {a b v ms bs : Int} {Q : vPost} (hv : inR v) (ha : inR a) (hb : inR b) (h : v < -1 ∨ a = b) (K : V mX5_tie (rm 7) Q 134 [some (.ref 0), some (vI ms), some (vI bs), some (vI a), some (vI b), some (vI v), none] [] nn w 0 0) : V mX5_tie (rm 7) Q 78 [some (.ref 0), some (vI ms), some (vI bs), some (vI a), some (vI b), some (vI v), none] [] nn w 0 0 := by
  refine V_iload (Y := mX5_tie) (pc := 78) dX5_tie_78 rfl ?_
  refine V_iconst (Y := mX5_tie) (pc := 80) dX5_tie_80 ?_
  refine V_icmp_lt (tgt := 134) (Y := mX5_tie) (pc := 81) dX5_tie_81 (by decide) ⟨by omega, by omega⟩ ⟨by omega, by omega⟩ (fun h_81 => ?_) (fun h_81 => ?_)
  · exact K
  · refine V_iload_n (Y := mX5_tie) (pc := 84) dX5_tie_84 rfl ?_
    refine V_iload (Y := mX5_tie) (pc := 85) dX5_tie_85 rfl ?_
    refine V_icmp_eq (tgt := 134) (Y := mX5_tie) (pc := 87) dX5_tie_87 (by decide) ⟨by omega, by omega⟩ ⟨by omega, by omega⟩ (fun h_87 => ?_) (fun h_87 => absurd h_87 (by omega))
    exact K
set_option maxRecDepth 100000 in
theorem lp_tieV {a b v : Int} {p : Int × Int} {w' : vWd} {st : List Int} {Q : vPost} (hn : 2 ≤ n ∧ n ≤ 7) (hnow : isS n now) (hcv : cvOK n rs) (htbl : tbIs n ca rs st) (ho : w 0 = some (xO k0 k1 rb rn rf)) (hW : WallAt w 1 (n, now, ca, po, fo, rs)) (hv : v = 1 ∨ v = -1) (ha : isD n a) (hb : isD n b) (hab : a ≠ b) (hp : tieR p) (hS : WkS w w' n st) (K : ∀ w'', WkS w w'' n st → V mX5_tie (rm 7) Q 78 [some (.ref 0), some (vI (tieSt (opN ca rs n now) a b v p).1), some (vI (tieSt (opN ca rs n now) a b v p).2), some (vI a), some (vI b), some (vI (v + -2)), none] [] nn w'' 0 0) : V mX5_tie (rm 7) Q 78 [some (.ref 0), some (vI p.1), some (vI p.2), some (vI a), some (vI b), some (vI v), none] [] nn w' 0 0 := by
  obtain ⟨tf, tt, tb, F, hk, hsh, haok, hfr⟩ := hS
  have ho' := (hfr 0 (by omega)).trans ho
  have hW' := hW.keep (w' := w') (fun j a b => hfr j (by omega))
  have h1 := pcB_rng (evB (gFnd (spT ca rs a b v) n now) (gFnd (spT ca rs a b v) n now).length) 7
  have h1 : 0 ≤ opN ca rs n now a b v ∧ opN ca rs n now a b v ≤ 7 := h1
  have hp1 := hp.1
  have hp2 := hp.2.1
  refine V_iload (Y := mX5_tie) (pc := 78) dX5_tie_78 rfl ?_
  refine V_iconst (Y := mX5_tie) (pc := 80) dX5_tie_80 ?_
  refine V_icmp_lt (tgt := 134) (Y := mX5_tie) (pc := 81) dX5_tie_81 (by decide) ⟨by omega, by omega⟩ ⟨by omega, by omega⟩ (fun h_81 => absurd h_81 (by omega)) (fun h_81 => ?_)
  refine V_iload_n (Y := mX5_tie) (pc := 84) dX5_tie_84 rfl ?_
  refine V_iload (Y := mX5_tie) (pc := 85) dX5_tie_85 rfl ?_
  refine V_icmp_eq (tgt := 134) (Y := mX5_tie) (pc := 87) dX5_tie_87 (by decide) ⟨by omega, by omega⟩ ⟨by omega, by omega⟩ (fun h_87 => absurd h_87 (by omega)) (fun h_87 => ?_)
  refine V_aload_n (Y := mX5_tie) (pc := 90) dX5_tie_90 rfl ?_
  refine V_iload_n (Y := mX5_tie) (pc := 91) dX5_tie_91 rfl ?_
  refine V_iload (Y := mX5_tie) (pc := 92) dX5_tie_92 rfl ?_
  refine V_iload (Y := mX5_tie) (pc := 94) dX5_tie_94 rfl ?_
  apply V_vI (Y := mX5_tie) (pc := 96) dX5_tie_96 ok_X5_openableWith ov_X5_openableWith ln_X5_196 (c_openedWith (a := a) (b := b) (v := v) ho' hW' hk ⟨by omega, by omega⟩ hnow hcv htbl (Or.inr ⟨by omega, by omega, by omega, by omega, by omega, by omega⟩) hsh haok)
  · assumption
  · rfl
  · rfl
  · rfl
  · rfl
  · rfl
  rintro z_96 w_96 ⟨hz, F2, g2, hsh2, haok2, f2⟩
  subst hz
  have hS2 : WkS w w_96 n st := ⟨a, b, v, F2, g2, hsh2, haok2, fun j hj => (f2 j hj).trans (hfr j hj)⟩
  refine V_istore (Y := mX5_tie) (pc := 99) dX5_tie_99 rfl ?_
  refine V_iload (Y := mX5_tie) (pc := 101) dX5_tie_101 rfl ?_
  refine V_iload_n (Y := mX5_tie) (pc := 103) dX5_tie_103 rfl ?_
  refine V_icmp_le (tgt := 128) (Y := mX5_tie) (pc := 104) dX5_tie_104 (by decide) ⟨by omega, by omega⟩ ⟨by omega, by omega⟩ (fun h_104 => ?_) (fun h_104 => ?_)
  · refine V_iinc (Y := mX5_tie) (pc := 128) dX5_tie_128 rfl rfl ?_
    refine V_goto (tgt := 78) (Y := mX5_tie) (pc := 131) dX5_tie_131 (by decide) ?_
    refine V_drop 6 ?_
    have k := K w_96 hS2
    first
      | (rw [show tieSt (opN ca rs n now) a b v p = p from if_neg (by omega)] at k
         exact k)
      | (rw [show tieSt (opN ca rs n now) a b v p = (opN ca rs n now a b v, 100 * a + 10 * b + max 0 v) from if_pos (by omega)] at k
         exact k)
  · refine V_iload (Y := mX5_tie) (pc := 107) dX5_tie_107 rfl ?_
    refine V_istore_n (Y := mX5_tie) (pc := 109) dX5_tie_109 rfl ?_
    refine V_bipush (Y := mX5_tie) (pc := 110) dX5_tie_110 ⟨by decide, by decide⟩ ?_
    refine V_iload_n (Y := mX5_tie) (pc := 112) dX5_tie_112 rfl ?_
    refine V_imul (Y := mX5_tie) (pc := 113) dX5_tie_113 ?_
    refine V_bipush (Y := mX5_tie) (pc := 114) dX5_tie_114 ⟨by decide, by decide⟩ ?_
    refine V_iload (Y := mX5_tie) (pc := 116) dX5_tie_116 rfl ?_
    refine V_imul (Y := mX5_tie) (pc := 118) dX5_tie_118 ?_
    refine V_iadd (Y := mX5_tie) (pc := 119) dX5_tie_119 ?_
    refine V_iconst (Y := mX5_tie) (pc := 120) dX5_tie_120 ?_
    refine V_iload (Y := mX5_tie) (pc := 121) dX5_tie_121 rfl ?_
    refine V_max (Y := mX5_tie) (pc := 123) dX5_tie_123 ln_X5_202 ⟨by omega, by omega⟩ ⟨by omega, by omega⟩ rfl ?_
    refine V_iadd (Y := mX5_tie) (pc := 126) dX5_tie_126 ?_
    refine V_istore_n (Y := mX5_tie) (pc := 127) dX5_tie_127 rfl ?_
    refine V_iinc (Y := mX5_tie) (pc := 128) dX5_tie_128 rfl rfl ?_
    refine V_goto (tgt := 78) (Y := mX5_tie) (pc := 131) dX5_tie_131 (by decide) ?_
    refine V_drop 6 ?_
    have k := K w_96 hS2
    first
      | (rw [show tieSt (opN ca rs n now) a b v p = p from if_neg (by omega)] at k
         exact k)
      | (rw [show tieSt (opN ca rs n now) a b v p = (opN ca rs n now a b v, 100 * a + 10 * b + max 0 v) from if_pos (by omega)] at k
         exact k)
end CLS
