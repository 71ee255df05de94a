/-! ===== DrawerWallModel: kept, cut, opens ===== -/
theorem bit_cut1 : ∀ k, k ≤ 10 → ∀ c, c < k → ∀ e, e < k → ((iI (((p2 k : Nat) : Int) - 1) &&& mskC ((c : Nat) : Int)) >>> (iI ((e : Nat) : Int) &&& 31)) &&& iI 1 = if e = c then iI 0 else iI 1 := by decide +kernel
theorem bit_cut2 : ∀ c, c < 10 → ∀ e, e < 10 → (mskC ((c : Nat) : Int) >>> (iI ((e : Nat) : Int) &&& 31)) &&& iI 1 = if e = c then iI 0 else iI 1 := by decide +kernel
theorem spX_cut {ca : Nat} {rs : Nat → List Int} {c : Int} (h10 : (rs 1).length ≤ 10) (hc : 0 ≤ c ∧ c < (rs 1).length) (s d : Int) : spX ca rs (iI (alI rs) &&& mskC c) s d = spC ca rs c s d := by
  have ec : ((c.toNat : Nat) : Int) = c := by omega
  have b1 : ∀ e : Nat, e < (rs 1).length → (bitOn (iI (alI rs) &&& mskC c) e ↔ e ≠ c.toNat) := fun e he => by
    have := bit_cut1 (rs 1).length h10 c.toNat (by omega) e he
    rw [ec] at this
    unfold bitOn alI
    rw [this]
    split
    · rename_i q; exact ⟨fun h => absurd h (by decide), fun h => absurd q h⟩
    · rename_i q; exact ⟨fun _ => q, fun _ => rfl⟩
  have b2 : ∀ e : Nat, e < (rs 1).length → (bitOn (mskC c) e ↔ e ≠ c.toNat) := fun e he => by
    have := bit_cut2 c.toNat (by omega) e (by omega)
    rw [ec] at this
    unfold bitOn
    rw [this]
    split
    · rename_i q; exact ⟨fun h => absurd h (by decide), fun h => absurd q h⟩
    · rename_i q; exact ⟨fun _ => q, fun _ => rfl⟩
  unfold spX spC
  by_cases hd : d = rAt (rs 1) c
  · rw [if_pos hd]
    exact aft_bits (fun e he _ => (b1 e he).trans (b2 e he).symm)
  · rw [if_neg hd]
    refine aft_bits (fun e he hed => ⟨fun _ => bit_neg e (by omega), fun _ => (b1 e he).mpr (fun q => hd ?_)⟩)
    rw [← hed, q, ec]
theorem any_1 {P : Int → Prop} {k z : Int} (hz : zP z (∃ j : Int, 0 ≤ j ∧ j < k ∧ P j)) (h : z = 1) : ∃ j : Int, 0 ≤ j ∧ j < k + 1 ∧ P j := by
  rcases hz with q | q
  · obtain ⟨j, j0, j1, j2⟩ := q.2
    exact ⟨j, j0, by omega, j2⟩
  · omega
theorem any_0 {P : Int → Prop} {k z : Int} (hz : zP z (∃ j : Int, 0 ≤ j ∧ j < k ∧ P j)) (h : z = 0) (hp : ¬ P k) : ¬ ∃ j : Int, 0 ≤ j ∧ j < k + 1 ∧ P j := by
  rintro ⟨j, j0, j1, j2⟩
  by_cases hj : j = k
  · subst hj; exact hp j2
  · rcases hz with q | q
    · omega
    · exact q.2 ⟨j, j0, by omega, j2⟩
theorem evB_bit (L : List Int) (d : Nat) : ∀ m : Nat, ((evB L m).testBit d = true ↔ d < 7 ∧ ∃ j : Int, 0 ≤ j ∧ j < m ∧ dg (rAt L j) d = 2)
  | 0 => by
    rw [evB, Nat.zero_testBit]
    exact ⟨fun h => absurd h (by decide), fun h => by obtain ⟨_, j, h0, h1, _⟩ := h; omega⟩
  | m + 1 => by
    rw [evB, Nat.testBit_or, drB_bit, Bool.or_eq_true, evB_bit L d m, decide_eq_true_eq]
    constructor
    · rintro (⟨h, j, j0, j1, j2⟩ | ⟨h, h2⟩)
      · exact ⟨h, j, j0, by omega, j2⟩
      · exact ⟨h, m, by omega, by omega, h2⟩
    · rintro ⟨h, j, j0, j1, j2⟩
      by_cases hj : j = m
      · subst hj; exact Or.inr ⟨h, j2⟩
      · exact Or.inl ⟨h, j, j0, by omega, j2⟩
theorem pcB_n {E n : Nat} (h : ∀ d, n ≤ d → E.testBit d = false) : ∀ m : Nat, n ≤ m → pcB E m = pcB E n
  | 0, hm => by rw [show n = 0 by omega]
  | m + 1, hm => by
    by_cases hn : n = m + 1
    · rw [hn]
    · rw [pcB, pcB_n h m (by omega), h m (by omega)]
      simp
theorem evB_out {n : Int} {L : List Int} (hL : ∀ x ∈ L, isS n x) : ∀ d : Nat, n.toNat ≤ d → (evB L L.length).testBit d = false := fun d hd => by
  rw [Bool.eq_false_iff]
  intro h
  obtain ⟨-, j, j0, j1, j2⟩ := (evB_bit L d L.length).mp h
  have hs := hL _ (rAt_mem j0 j1)
  rw [dg_out hs.1 hs.2 hd] at j2
  cases j2
noncomputable def opM (ca : Nat) (rs : Nat → List Int) (n now : Int) : Int := pcB (evB (gFnd (spP ca rs) n now) (gFnd (spP ca rs) n now).length) 7
section MOD
variable {nn : Nat} {w : vWd} {n now : Int} {ca po fo : Nat} {rs : Nat → List Int} {qt ty a0 sp tk vl mn sv rb rn rf k0 k1 : Int} {f : Nat → Int} {S0 S1 : vSt} {tx : List Int}
set_option maxRecDepth 100000 in
theorem lpm_kpt2 {v : Int} {L : List Int} {qu : Nat → Int} {Q : vPost} (hM : MS w n now ca po fo rs) (hG : vGood (n, now, ca, po, fo, rs)) (ho : w 99 = some (mO qt ty a0 sp tk vl mn L.length sv)) (h10 : w 110 = some (arI 2187 qu)) (hl : L.length ≤ 2187) (hpos : 0 < L.length) (hqu : ∀ i : Int, 0 ≤ i → i < L.length → qu i.toNat = rAt L i) (hL : ∀ x ∈ L, isS n x) (h0 : rAt L 0 = now) (hv : isS n v) (K : ∀ z : Int, zP z (kpP L now v) → V mX6_kept (rm 6) Q 71 [some (.ref 99), some (vI v), some (vI z), none] [] nn w 0 0) : ∀ (m : Nat) (k z : Int), 1 ≤ k → k + m = L.length → zP z (∀ j : Int, 1 ≤ j → j < k → sumW v (rAt L j) 7 % 3 = sumW v now 7 % 3) →
    V mX6_kept (rm 6) Q 22 [some (.ref 99), some (vI v), some (vI z), some (vI k)] [] nn w 0 0 := by
  have hn := hG.un.1
  have e00 : qu (0 : Int).toNat = now := by rw [hqu 0 (by omega) (by omega)]; exact h0
  intro m
  induction m with
  | zero =>
    intro k z hk hkm hz
    have hiff : (∀ j : Int, 1 ≤ j → j < k → sumW v (rAt L j) 7 % 3 = sumW v now 7 % 3) ↔ kpP L now v := by
      rw [kpP, ← rAll (P := fun s => sumW v s 7 % 3 = sumW v now 7 % 3)]
      refine ⟨fun h j j0 j1 => ?_, fun h j j0 j1 => h j (by omega) (by omega)⟩
      by_cases hj : j = 0
      · rw [hj, h0]
      · exact h j (by omega) (by omega)
    refine V_iload_n (Y := mX6_kept) (pc := 22) dX6_kept_22 rfl ?_
    refine V_aload_n (Y := mX6_kept) (pc := 23) dX6_kept_23 rfl ?_
    apply V_get (Y := mX6_kept) (pc := 24) dX6_kept_24 fl_X6_210
    · assumption
    · rfl
    refine V_icmp_ge (tgt := 71) (Y := mX6_kept) (pc := 27) dX6_kept_27 (by decide) ⟨by omega, by omega⟩ ⟨by omega, by omega⟩ (fun h_27 => ?_) (fun h_27 => absurd h_27 (by omega))
    exact V_drop 3 (K z (by rcases hz with q | q; exact Or.inl ⟨q.1, hiff.mp q.2⟩; exact Or.inr ⟨q.1, fun r => q.2 (hiff.mpr r)⟩))
  | succ m ih =>
    intro k z hk hkm hz
    have hzz : z = 0 ∨ z = 1 := by rcases hz with h | h <;> omega
    have ih1 := fun (z' : Int) (hz' : zP z' (∀ j : Int, 1 ≤ j → j < k + 1 → sumW v (rAt L j) 7 % 3 = sumW v now 7 % 3)) => ih (k + 1) z' (by omega) (by omega) hz'
    have hs := hqu k (by omega) (by omega)
    have r1 := sumW_big v (rAt L k)
    have r2 := sumW_big v now
    have hsk : isS n (rAt L k) := hL _ (rAt_mem (by omega) (by omega))
    have hsn : isS n now := by rw [← h0]; exact hL _ (rAt_mem (by omega) (by omega))
    refine V_iload_n (Y := mX6_kept) (pc := 22) dX6_kept_22 rfl ?_
    refine V_aload_n (Y := mX6_kept) (pc := 23) dX6_kept_23 rfl ?_
    apply V_get (Y := mX6_kept) (pc := 24) dX6_kept_24 fl_X6_210
    · assumption
    · rfl
    refine V_icmp_ge (tgt := 71) (Y := mX6_kept) (pc := 27) dX6_kept_27 (by decide) ⟨by omega, by omega⟩ ⟨by omega, by omega⟩ (fun h_27 => absurd h_27 (by omega)) (fun h_27 => ?_)
    refine V_iload_n (Y := mX6_kept) (pc := 30) dX6_kept_30 rfl ?_
    refine V_if_eq (tgt := 71) (Y := mX6_kept) (pc := 31) dX6_kept_31 (by decide) ⟨by omega, by omega⟩ (fun h_31 => ?_) (fun h_31 => ?_)
    · exact V_drop 3 (K z (by
        rcases hz with q | q
        · exfalso; omega
        · exact Or.inr ⟨q.1, fun r => q.2 (fun j j0 j1 => r _ (rAt_mem (by omega) (by omega)))⟩))
    · refine V_aload_n (Y := mX6_kept) (pc := 34) dX6_kept_34 rfl ?_
      refine V_iload_n (Y := mX6_kept) (pc := 35) dX6_kept_35 rfl ?_
      refine V_aload_n (Y := mX6_kept) (pc := 36) dX6_kept_36 rfl ?_
      apply V_get (Y := mX6_kept) (pc := 37) dX6_kept_37 fl_X6_41
      · assumption
      · rfl
      refine V_iload_n (Y := mX6_kept) (pc := 40) dX6_kept_40 rfl ?_
      apply V_iald (Y := mX6_kept) (pc := 41) dX6_kept_41
      · assumption
      · exact ⟨by omega, by omega⟩
      · omega
      rw [hs]
      apply V_vR (Y := mX6_kept) (pc := 42) dX6_kept_42 ok_X6_sumBy ov_X6_sumBy ln_X6_216 (cm_sumBy (v := v) (s := rAt L k) hM hn hv hsk)
      · assumption
      · rfl
      · rfl
      · rfl
      · rfl
      · rfl
      refine V_aload_n (Y := mX6_kept) (pc := 45) dX6_kept_45 rfl ?_
      refine V_iload_n (Y := mX6_kept) (pc := 46) dX6_kept_46 rfl ?_
      refine V_aload_n (Y := mX6_kept) (pc := 47) dX6_kept_47 rfl ?_
      apply V_get (Y := mX6_kept) (pc := 48) dX6_kept_48 fl_X6_41
      · assumption
      · rfl
      refine V_iconst (Y := mX6_kept) (pc := 51) dX6_kept_51 ?_
      apply V_iald (Y := mX6_kept) (pc := 52) dX6_kept_52
      · assumption
      · exact ⟨by omega, by omega⟩
      · omega
      rw [e00]
      apply V_vR (Y := mX6_kept) (pc := 53) dX6_kept_53 ok_X6_sumBy ov_X6_sumBy ln_X6_216 (cm_sumBy (v := v) (s := now) hM hn hv hsn)
      · assumption
      · rfl
      · rfl
      · rfl
      · rfl
      · rfl
      refine V_icmp_ne (tgt := 63) (Y := mX6_kept) (pc := 56) dX6_kept_56 (by decide) ⟨by omega, by omega⟩ ⟨by omega, by omega⟩ (fun h_56 => ?_) (fun h_56 => ?_)
      · refine V_iconst (Y := mX6_kept) (pc := 63) dX6_kept_63 ?_
        refine V_istore_n (Y := mX6_kept) (pc := 64) dX6_kept_64 rfl ?_
        refine V_iinc (Y := mX6_kept) (pc := 65) dX6_kept_65 rfl rfl ?_
        refine V_goto (tgt := 22) (Y := mX6_kept) (pc := 68) dX6_kept_68 (by decide) ?_
        first
          | exact ih1 _ (zP.t (fun j j0 j1 => by
               by_cases hj : j = k
               · subst hj; exact h_56
               · rcases hz with h | h
                 · exact h.2 j j0 (by omega)
                 · exfalso; omega))
          | exact ih1 _ (zP.f (fun q => h_56 (q k (by omega) (by omega))))
      · refine V_iconst (Y := mX6_kept) (pc := 59) dX6_kept_59 ?_
        refine V_goto (tgt := 64) (Y := mX6_kept) (pc := 60) dX6_kept_60 (by decide) ?_
        refine V_istore_n (Y := mX6_kept) (pc := 64) dX6_kept_64 rfl ?_
        refine V_iinc (Y := mX6_kept) (pc := 65) dX6_kept_65 rfl rfl ?_
        refine V_goto (tgt := 22) (Y := mX6_kept) (pc := 68) dX6_kept_68 (by decide) ?_
        first
          | exact ih1 _ (zP.t (fun j j0 j1 => by
               by_cases hj : j = k
               · subst hj; exact h_56
               · rcases hz with h | h
                 · exact h.2 j j0 (by omega)
                 · exfalso; omega))
          | exact ih1 _ (zP.f (fun q => h_56 (q k (by omega) (by omega))))
set_option maxRecDepth 100000 in
theorem lpm_kpt3 {v z : Int} {X : Prop} {Q : vPost} (hv : 1 ≤ v) (hv2 : v ≤ 3000) (hz : zP z X) (K1 : X → Q (some (vI v)) nn w) (K0 : ¬ X → V mX6_kept (rm 6) Q 10 [some (.ref 99), some (vI (v + 1)), none, none] [] nn w 0 0) :
    V mX6_kept (rm 6) Q 71 [some (.ref 99), some (vI v), some (vI z), none] [] nn w 0 0 := by
  have hzz : z = 0 ∨ z = 1 := by rcases hz with h | h <;> omega
  refine V_iload_n (Y := mX6_kept) (pc := 71) dX6_kept_71 rfl ?_
  refine V_if_eq (tgt := 77) (Y := mX6_kept) (pc := 72) dX6_kept_72 (by decide) ⟨by omega, by omega⟩ (fun h_72 => ?_) (fun h_72 => ?_)
  · refine V_iinc (Y := mX6_kept) (pc := 77) dX6_kept_77 rfl rfl ?_
    refine V_goto (tgt := 10) (Y := mX6_kept) (pc := 80) dX6_kept_80 (by decide) ?_
    refine V_drop 2 (K0 ?_)
    rcases hz with h | h
    · exfalso; omega
    · exact h.2
  · refine V_iload_n (Y := mX6_kept) (pc := 75) dX6_kept_75 rfl ?_
    refine V_iret (Y := mX6_kept) (pc := 76) dX6_kept_76 rfl (Nat.le_of_ble_eq_true rfl) (Nat.le_of_ble_eq_true rfl) ?_
    refine K1 ?_
    rcases hz with h | h
    · exact h.2
    · exfalso; omega
set_option maxRecDepth 100000 in
theorem lpm_kpt1 {L : List Int} {Q : vPost} {r : Int} (hM : MS w n now ca po fo rs) (hG : vGood (n, now, ca, po, fo, rs)) (hI : GI w n qt ty a0 sp tk vl mn sv L) (h0 : rAt L 0 = now) (K : Q (some (vI r)) nn w) : ∀ (m : Nat) (v : Int), 1 ≤ v → v + m = p3 n.toNat → fst1 (kpP L now) m v = r →
    V mX6_kept (rm 6) Q 10 [some (.ref 99), some (vI v), none, none] [] nn w 0 0 := by
  have hn := hG.un.1
  have hp := p3_le n.toNat (by omega)
  have hM0 := hM
  obtain ⟨ho, -, ⟨qu, h10, hql, hqu⟩, hd, hL, hpos⟩ := hI
  intro m
  induction m with
  | zero =>
    intro v hv hvm hr
    have hr : -1 = r := hr
    refine V_iload_n (Y := mX6_kept) (pc := 10) dX6_kept_10 rfl ?_
    refine V_aload_n (Y := mX6_kept) (pc := 11) dX6_kept_11 rfl ?_
    apply V_vR (Y := mX6_kept) (pc := 12) dX6_kept_12 ok_X6_states ov_X6_states ln_X6_183 (cm_states hM0 hn)
    · assumption
    · rfl
    · rfl
    · rfl
    · rfl
    · rfl
    refine V_icmp_ge (tgt := 83) (Y := mX6_kept) (pc := 15) dX6_kept_15 (by decide) ⟨by omega, by omega⟩ ⟨by omega, by omega⟩ (fun h_15 => ?_) (fun h_15 => absurd h_15 (by omega))
    refine V_iconst (Y := mX6_kept) (pc := 83) dX6_kept_83 ?_
    refine V_iret (Y := mX6_kept) (pc := 84) dX6_kept_84 rfl (Nat.le_of_ble_eq_true rfl) (Nat.le_of_ble_eq_true rfl) ?_
    rw [hr]; exact K
  | succ m ih =>
    intro v hv hvm hr
    refine V_iload_n (Y := mX6_kept) (pc := 10) dX6_kept_10 rfl ?_
    refine V_aload_n (Y := mX6_kept) (pc := 11) dX6_kept_11 rfl ?_
    apply V_vR (Y := mX6_kept) (pc := 12) dX6_kept_12 ok_X6_states ov_X6_states ln_X6_183 (cm_states hM0 hn)
    · assumption
    · rfl
    · rfl
    · rfl
    · rfl
    · rfl
    refine V_icmp_ge (tgt := 83) (Y := mX6_kept) (pc := 15) dX6_kept_15 (by decide) ⟨by omega, by omega⟩ ⟨by omega, by omega⟩ (fun h_15 => absurd h_15 (by omega)) (fun h_15 => ?_)
    refine V_iconst (Y := mX6_kept) (pc := 18) dX6_kept_18 ?_
    refine V_istore_n (Y := mX6_kept) (pc := 19) dX6_kept_19 rfl ?_
    refine V_iconst (Y := mX6_kept) (pc := 20) dX6_kept_20 ?_
    refine V_istore_n (Y := mX6_kept) (pc := 21) dX6_kept_21 rfl ?_
    refine lpm_kpt2 (L := L) hM0 hG ho h10 hql hpos hqu hL h0 ⟨by omega, by omega⟩ (fun z hz => ?_) (L.length - 1) 1 1 (by omega) (by omega) (zP.t (fun j j0 j1 => by omega))
    exact lpm_kpt3 hv (by omega) hz (fun hp => by rw [fst1_t hp] at hr; rw [hr]; exact K) (fun hp => ih (v + 1) (by omega) (by omega) (by rw [fst1_f hp] at hr; exact hr))
set_option maxRecDepth 100000 in
theorem mx_kept (h : MInv w (n, now, ca, po, fo, rs) S0 S1 k0 k1 tx rb rn rf) (hG : vGood (n, now, ca, po, fo, rs)) : Ctr mX6_kept (rm 6) [.ref 99] nn w (pI (fun z w' => z = fKept (n, now, ca, po, fo, rs) ∧ MInv w' (n, now, ca, po, fo, rs) S0 S1 k0 k1 tx (tl1 (-2) z rb) (tl1 (-3) z rn) (tl1 (-4) z rf) ∧ frM w w') nn) := by
  refine Ctr_of (lv := [some (.ref 99), none, none, none]) (by decide +kernel) rfl rfl ?_
  have h0 := h
  have hM := h.1.ms
  have hn := hG.un.1
  have hp := p3_1 n.toNat
  obtain ⟨⟨-, ⟨f, hb, hB⟩, hr, hq⟩, ⟨a0, sp, tk, vl, mn, fd, sv, ho⟩, hT, hI, -, -, -, -, ⟨th, h9⟩, ⟨qu, h10⟩⟩ := h
  have hB : BkOf f n now ca po fo rs := hB
  have hl : (rs 1).length ≤ 10 := hB.2.1.1
  refine V_aload_n (Y := mX6_kept) (pc := 0) dX6_kept_0 rfl ?_
  refine V_aload_n (Y := mX6_kept) (pc := 1) dX6_kept_1 rfl ?_
  apply V_vR (Y := mX6_kept) (pc := 2) dX6_kept_2 ok_X6_allCords ov_X6_allCords ln_X6_176 (cm_allCords hM)
  · assumption
  · rfl
  · rfl
  · rfl
  · rfl
  · rfl
  apply V_vV (Y := mX6_kept) (pc := 5) dX6_kept_5 ok_X6_goes ov_X6_goes ln_X6_213 (cm_goes (x := iI (alI rs)) ho hb hB hG h9 h10)
  · assumption
  · rfl
  · rfl
  · rfl
  · rfl
  · rfl
  rintro w_5 ⟨g1, f1⟩
  rw [spX_al hl] at g1
  have g0 := g1
  obtain ⟨o5, ⟨th2, t5, -⟩, ⟨qu2, q5, ql, -⟩, hd, hL, hpos⟩ := g1
  have hI2 := h0.frG o5 f1 ⟨_, t5⟩ ⟨_, q5⟩
  refine V_iconst (Y := mX6_kept) (pc := 8) dX6_kept_8 ?_
  refine V_istore_n (Y := mX6_kept) (pc := 9) dX6_kept_9 rfl ?_
  have hM2 := hI2.1.1.ms
  have hz : -1 ≤ fKept (n, now, ca, po, fo, rs) := by
    have := fst1_rng (P := kpP (gFnd (spP ca rs) n now) now) (p3 n.toNat - 1).toNat 1
    show -1 ≤ fst1 (kpP (gFnd (spP ca rs) n now) now) (p3 n.toNat - 1).toNat 1
    omega
  refine lpm_kpt1 (L := gFnd (spP ca rs) n now) (r := fKept (n, now, ca, po, fo, rs)) hM2 hG g0 (gFnd_0 _ _ _).1 (pI_of ⟨rfl, ?_, hI2.2⟩) (p3 n.toNat - 1).toNat 1 (by omega) (by omega) rfl
  rw [tl1_ne (by omega), tl1_ne (by omega), tl1_ne (by omega)]
  exact hI2.1
set_option maxRecDepth 100000 in
theorem lpm_cut {Q : vPost} (hb : w 100 = some (arI 98 f)) (hB : BkOf f n now ca po fo rs) (hG : vGood (n, now, ca, po, fo, rs)) (K : ∀ w' fd, w' 99 = some (mO qt ty a0 sp tk vl mn fd sv) → (∃ g, w' 109 = some (arZ 2187 g)) → (∃ g, w' 110 = some (arI 2187 g)) → frG w w' → Q (some (vI (fCut (n, now, ca, po, fo, rs)))) nn w') : ∀ (m : Nat) (c : Int) (w' : vWd), 0 ≤ c → c + m = (rs 1).length → (∃ fd, w' 99 = some (mO qt ty a0 sp tk vl mn fd sv)) → (∃ g, w' 109 = some (arZ 2187 g)) → (∃ g, w' 110 = some (arI 2187 g)) → frG w w' →
    V mX6_cut (rm 6) Q 17 [some (.ref 99), some (vI (cutTo ca rs n now c.toNat).1), some (vI (cutTo ca rs n now c.toNat).2), some (vI c)] [] nn w' 0 0 := by
  obtain ⟨hn, hnow, hca, hpo, hfo, hgd, hcv, hor, hsg, hpast⟩ := hG.un
  have e1 : f (1 : Int).toNat = (rs 1).length := hB.1.1.2.1
  have hl := hB.2.1.1
  intro m
  induction m with
  | zero =>
    intro c w' hc hcm hO h9 h10 hf
    obtain ⟨fd, ho⟩ := hO
    have hb' := (hf 100 (by omega) (by omega) (by omega)).trans hb
    refine V_iload_n (Y := mX6_cut) (pc := 17) dX6_cut_17 rfl ?_
    refine V_aload_n (Y := mX6_cut) (pc := 18) dX6_cut_18 rfl ?_
    apply V_get (Y := mX6_cut) (pc := 19) dX6_cut_19 fl_X6_7
    · assumption
    · rfl
    refine V_iconst (Y := mX6_cut) (pc := 22) dX6_cut_22 ?_
    apply V_iald (Y := mX6_cut) (pc := 23) dX6_cut_23
    · assumption
    · exact ⟨by omega, by omega⟩
    · omega
    rw [e1]
    refine V_icmp_ge (tgt := 78) (Y := mX6_cut) (pc := 24) dX6_cut_24 (by decide) ⟨by omega, by omega⟩ ⟨by omega, by omega⟩ (fun h_24 => ?_) (fun h_24 => absurd h_24 (by omega))
    refine V_iload_n (Y := mX6_cut) (pc := 78) dX6_cut_78 rfl ?_
    refine V_iret (Y := mX6_cut) (pc := 79) dX6_cut_79 rfl (Nat.le_of_ble_eq_true rfl) (Nat.le_of_ble_eq_true rfl) ?_
    have k := K w' fd ho h9 h10 hf
    rw [show fCut (n, now, ca, po, fo, rs) = (cutTo ca rs n now c.toNat).2 by rw [show c.toNat = (rs 1).length by omega]; rfl] at k
    exact k
  | succ m ih =>
    intro c w' hc hcm hO h9 h10 hf
    obtain ⟨fd, ho⟩ := hO
    obtain ⟨th, h9⟩ := h9
    obtain ⟨qu, h10⟩ := h10
    have hb' := (hf 100 (by omega) (by omega) (by omega)).trans hb
    have hM : MS w' n now ca po fo rs := ⟨f, ⟨_, _, _, _, _, _, _, _, _, ho⟩, hb', hB⟩
    have eg : gFnd (spX ca rs (iI (alI rs) &&& mskC c)) n now = gFnd (spC ca rs c) n now := gFnd_congr (by omega) (spX_ok hcv _) (fun s d _ _ => spX_cut hl ⟨hc, by omega⟩ s d) hnow
    have ect : ((gFnd (spC ca rs c) n now).length : Int) = ctN ca rs n now c := rfl
    have hcr := cutTo_rng (now := now) (ca := ca) (rs := rs) ⟨by omega, by omega⟩ hcv hnow c.toNat
    have hlr := gFnd_len (n := n) ⟨by omega, by omega⟩ (spC_ok (ca := ca) hcv c) hnow
    have ih1 := fun (w2 : vWd) => ih (c + 1) w2 (by omega) (by omega)
    rw [show (c + 1).toNat = c.toNat + 1 by omega] at ih1
    have ct := cutTo_t (ca := ca) (rs := rs) (n := n) (now := now) (m := c.toNat)
    have cf := cutTo_f (ca := ca) (rs := rs) (n := n) (now := now) (m := c.toNat)
    rw [show ((c.toNat : Nat) : Int) = c by omega] at ct cf
    refine V_iload_n (Y := mX6_cut) (pc := 17) dX6_cut_17 rfl ?_
    refine V_aload_n (Y := mX6_cut) (pc := 18) dX6_cut_18 rfl ?_
    apply V_get (Y := mX6_cut) (pc := 19) dX6_cut_19 fl_X6_7
    · assumption
    · rfl
    refine V_iconst (Y := mX6_cut) (pc := 22) dX6_cut_22 ?_
    apply V_iald (Y := mX6_cut) (pc := 23) dX6_cut_23
    · assumption
    · exact ⟨by omega, by omega⟩
    · omega
    rw [e1]
    refine V_icmp_ge (tgt := 78) (Y := mX6_cut) (pc := 24) dX6_cut_24 (by decide) ⟨by omega, by omega⟩ ⟨by omega, by omega⟩ (fun h_24 => absurd h_24 (by omega)) (fun h_24 => ?_)
    refine V_aload_n (Y := mX6_cut) (pc := 27) dX6_cut_27 rfl ?_
    refine V_aload_n (Y := mX6_cut) (pc := 28) dX6_cut_28 rfl ?_
    apply V_vR (Y := mX6_cut) (pc := 29) dX6_cut_29 ok_X6_allCords ov_X6_allCords ln_X6_176 (cm_allCords hM)
    · assumption
    · rfl
    · rfl
    · rfl
    · rfl
    · rfl
    refine V_iconst (Y := mX6_cut) (pc := 32) dX6_cut_32 ?_
    refine V_iload_n (Y := mX6_cut) (pc := 33) dX6_cut_33 rfl ?_
    refine V_ishl (Y := mX6_cut) (pc := 34) dX6_cut_34 (rfl) ?_
    refine V_iconst (Y := mX6_cut) (pc := 35) dX6_cut_35 ?_
    refine V_ixor (Y := mX6_cut) (pc := 36) dX6_cut_36 (rfl) ?_
    refine V_iand (Y := mX6_cut) (pc := 37) dX6_cut_37 (rfl) ?_
    apply V_vV (Y := mX6_cut) (pc := 38) dX6_cut_38 ok_X6_goes ov_X6_goes ln_X6_213 (cm_goes (x := iI (alI rs) &&& mskC c) ho hb' hB hG h9 h10)
    · assumption
    · rfl
    · rfl
    · rfl
    · rfl
    · rfl
    rintro w_38 ⟨g1, f1⟩
    rw [eg] at g1
    obtain ⟨o38, ⟨th2, t38, -⟩, ⟨qu2, q38, ql, -⟩, hd, hL, hpos⟩ := g1
    rw [ect] at o38
    refine V_aload_n (Y := mX6_cut) (pc := 41) dX6_cut_41 rfl ?_
    apply V_get (Y := mX6_cut) (pc := 42) dX6_cut_42 fl_X6_210
    · assumption
    · rfl
    refine V_iload_n (Y := mX6_cut) (pc := 45) dX6_cut_45 rfl ?_
    refine V_icmp_le (tgt := 53) (Y := mX6_cut) (pc := 46) dX6_cut_46 (by decide) ⟨by omega, by omega⟩ ⟨by omega, by omega⟩ (fun h_46 => ?_) (fun h_46 => ?_)
    · refine V_iload_n (Y := mX6_cut) (pc := 53) dX6_cut_53 rfl ?_
      refine V_istore_n (Y := mX6_cut) (pc := 54) dX6_cut_54 rfl ?_
      refine V_aload_n (Y := mX6_cut) (pc := 55) dX6_cut_55 rfl ?_
      apply V_get (Y := mX6_cut) (pc := 56) dX6_cut_56 fl_X6_210
      · assumption
      · rfl
      refine V_iload_n (Y := mX6_cut) (pc := 59) dX6_cut_59 rfl ?_
      refine V_icmp_le (tgt := 70) (Y := mX6_cut) (pc := 60) dX6_cut_60 (by decide) ⟨by omega, by omega⟩ ⟨by omega, by omega⟩ (fun h_60 => ?_) (fun h_60 => ?_)
      · refine V_iload_n (Y := mX6_cut) (pc := 70) dX6_cut_70 rfl ?_
        refine V_istore_n (Y := mX6_cut) (pc := 71) dX6_cut_71 rfl ?_
        refine V_iinc (Y := mX6_cut) (pc := 72) dX6_cut_72 rfl rfl ?_
        refine V_goto (tgt := 17) (Y := mX6_cut) (pc := 75) dX6_cut_75 (by decide) ?_
        first
          | (exfalso; omega)
          | (rw [ct (by omega)] at ih1
             exact ih1 w_38 ⟨_, o38⟩ ⟨_, t38⟩ ⟨_, q38⟩ (hf.trans f1))
          | (rw [cf (by omega)] at ih1
             exact ih1 w_38 ⟨_, o38⟩ ⟨_, t38⟩ ⟨_, q38⟩ (hf.trans f1))
      · refine V_aload_n (Y := mX6_cut) (pc := 63) dX6_cut_63 rfl ?_
        apply V_get (Y := mX6_cut) (pc := 64) dX6_cut_64 fl_X6_210
        · assumption
        · rfl
        refine V_goto (tgt := 71) (Y := mX6_cut) (pc := 67) dX6_cut_67 (by decide) ?_
        refine V_istore_n (Y := mX6_cut) (pc := 71) dX6_cut_71 rfl ?_
        refine V_iinc (Y := mX6_cut) (pc := 72) dX6_cut_72 rfl rfl ?_
        refine V_goto (tgt := 17) (Y := mX6_cut) (pc := 75) dX6_cut_75 (by decide) ?_
        first
          | (exfalso; omega)
          | (rw [ct (by omega)] at ih1
             exact ih1 w_38 ⟨_, o38⟩ ⟨_, t38⟩ ⟨_, q38⟩ (hf.trans f1))
          | (rw [cf (by omega)] at ih1
             exact ih1 w_38 ⟨_, o38⟩ ⟨_, t38⟩ ⟨_, q38⟩ (hf.trans f1))
    · refine V_iload_n (Y := mX6_cut) (pc := 49) dX6_cut_49 rfl ?_
      refine V_goto (tgt := 54) (Y := mX6_cut) (pc := 50) dX6_cut_50 (by decide) ?_
      refine V_istore_n (Y := mX6_cut) (pc := 54) dX6_cut_54 rfl ?_
      refine V_aload_n (Y := mX6_cut) (pc := 55) dX6_cut_55 rfl ?_
      apply V_get (Y := mX6_cut) (pc := 56) dX6_cut_56 fl_X6_210
      · assumption
      · rfl
      refine V_iload_n (Y := mX6_cut) (pc := 59) dX6_cut_59 rfl ?_
      refine V_icmp_le (tgt := 70) (Y := mX6_cut) (pc := 60) dX6_cut_60 (by decide) ⟨by omega, by omega⟩ ⟨by omega, by omega⟩ (fun h_60 => ?_) (fun h_60 => ?_)
      · refine V_iload_n (Y := mX6_cut) (pc := 70) dX6_cut_70 rfl ?_
        refine V_istore_n (Y := mX6_cut) (pc := 71) dX6_cut_71 rfl ?_
        refine V_iinc (Y := mX6_cut) (pc := 72) dX6_cut_72 rfl rfl ?_
        refine V_goto (tgt := 17) (Y := mX6_cut) (pc := 75) dX6_cut_75 (by decide) ?_
        first
          | (exfalso; omega)
          | (rw [ct (by omega)] at ih1
             exact ih1 w_38 ⟨_, o38⟩ ⟨_, t38⟩ ⟨_, q38⟩ (hf.trans f1))
          | (rw [cf (by omega)] at ih1
             exact ih1 w_38 ⟨_, o38⟩ ⟨_, t38⟩ ⟨_, q38⟩ (hf.trans f1))
      · refine V_aload_n (Y := mX6_cut) (pc := 63) dX6_cut_63 rfl ?_
        apply V_get (Y := mX6_cut) (pc := 64) dX6_cut_64 fl_X6_210
        · assumption
        · rfl
        refine V_goto (tgt := 71) (Y := mX6_cut) (pc := 67) dX6_cut_67 (by decide) ?_
        refine V_istore_n (Y := mX6_cut) (pc := 71) dX6_cut_71 rfl ?_
        refine V_iinc (Y := mX6_cut) (pc := 72) dX6_cut_72 rfl rfl ?_
        refine V_goto (tgt := 17) (Y := mX6_cut) (pc := 75) dX6_cut_75 (by decide) ?_
        first
          | (exfalso; omega)
          | (rw [ct (by omega)] at ih1
             exact ih1 w_38 ⟨_, o38⟩ ⟨_, t38⟩ ⟨_, q38⟩ (hf.trans f1))
          | (rw [cf (by omega)] at ih1
             exact ih1 w_38 ⟨_, o38⟩ ⟨_, t38⟩ ⟨_, q38⟩ (hf.trans f1))
set_option maxRecDepth 100000 in
theorem mx_cut (h : MInv w (n, now, ca, po, fo, rs) S0 S1 k0 k1 tx rb rn rf) (hG : vGood (n, now, ca, po, fo, rs)) : Ctr mX6_cut (rm 6) [.ref 99] nn w (pI (fun z w' => z = fCut (n, now, ca, po, fo, rs) ∧ MInv w' (n, now, ca, po, fo, rs) S0 S1 k0 k1 tx (tl1 (-2) z rb) (tl1 (-3) z rn) (tl1 (-4) z rf) ∧ frM w w') nn) := by
  refine Ctr_of (lv := [some (.ref 99), none, none, none]) (by decide +kernel) rfl rfl ?_
  have h0 := h
  have hM := h.1.ms
  obtain ⟨hn, hnow, hca, hpo, hfo, hgd, hcv, hor, hsg, hpast⟩ := hG.un
  obtain ⟨⟨-, ⟨f, hb, hB⟩, hr, hq⟩, ⟨a0, sp, tk, vl, mn, fd, sv, ho⟩, hT, hI, -, -, -, -, ⟨th, h9⟩, ⟨qu, h10⟩⟩ := h
  have hB : BkOf f n now ca po fo rs := hB
  have hl : (rs 1).length ≤ 10 := hB.2.1.1
  have hz := (cutTo_rng (now := now) (ca := ca) (rs := rs) ⟨by omega, by omega⟩ hcv hnow (rs 1).length).2.1
  have hz : -1 ≤ fCut (n, now, ca, po, fo, rs) := hz
  refine V_aload_n (Y := mX6_cut) (pc := 0) dX6_cut_0 rfl ?_
  refine V_aload_n (Y := mX6_cut) (pc := 1) dX6_cut_1 rfl ?_
  apply V_vR (Y := mX6_cut) (pc := 2) dX6_cut_2 ok_X6_allCords ov_X6_allCords ln_X6_176 (cm_allCords hM)
  · assumption
  · rfl
  · rfl
  · rfl
  · rfl
  · rfl
  apply V_vV (Y := mX6_cut) (pc := 5) dX6_cut_5 ok_X6_goes ov_X6_goes ln_X6_213 (cm_goes (x := iI (alI rs)) ho hb hB hG h9 h10)
  · assumption
  · rfl
  · rfl
  · rfl
  · rfl
  · rfl
  rintro w_5 ⟨g1, f1⟩
  rw [spX_al hl] at g1
  obtain ⟨o5, ⟨th2, t5, -⟩, ⟨qu2, q5, ql, -⟩, hd, hL, hpos⟩ := g1
  refine V_aload_n (Y := mX6_cut) (pc := 8) dX6_cut_8 rfl ?_
  apply V_get (Y := mX6_cut) (pc := 9) dX6_cut_9 fl_X6_210
  · assumption
  · rfl
  refine V_istore_n (Y := mX6_cut) (pc := 12) dX6_cut_12 rfl ?_
  refine V_iconst (Y := mX6_cut) (pc := 13) dX6_cut_13 ?_
  refine V_istore_n (Y := mX6_cut) (pc := 14) dX6_cut_14 rfl ?_
  refine V_iconst (Y := mX6_cut) (pc := 15) dX6_cut_15 ?_
  refine V_istore_n (Y := mX6_cut) (pc := 16) dX6_cut_16 rfl ?_
  refine lpm_cut (w := w) hb hB hG (fun w' fd q1 q2 q3 q4 => ?_) (rs 1).length 0 w_5 (by omega) (by omega) ⟨_, o5⟩ ⟨_, t5⟩ ⟨_, q5⟩ f1
  have hI2 := h0.frG q1 q4 q2 q3
  refine pI_of ⟨rfl, ?_, hI2.2⟩
  rw [tl1_ne (by omega), tl1_ne (by omega), tl1_ne (by omega)]
  exact hI2.1
set_option maxRecDepth 100000 in
theorem lpm_op2 {c d : Int} {L : List Int} {qu : Nat → Int} {Q : vPost} (ho : w 99 = some (mO qt ty a0 sp tk vl mn L.length sv)) (h10 : w 110 = some (arI 2187 qu)) (hl : L.length ≤ 2187) (hqu : ∀ i : Int, 0 ≤ i → i < L.length → qu i.toNat = rAt L i) (hL : ∀ x ∈ L, isS n x) (hn : 2 ≤ n ∧ n ≤ 7) (hd : isD n d) (K : ∀ z : Int, zP z ((evB L L.length).testBit d.toNat = true) → V mX6_opens (rm 6) Q 67 [some (.ref 99), some (vI c), some (vI d), some (vI z), none] [] nn w 0 0) : ∀ (m : Nat) (k z : Int), 0 ≤ k → k + m = L.length → zP z (∃ j : Int, 0 ≤ j ∧ j < k ∧ dg (rAt L j) d.toNat = 2) →
    V mX6_opens (rm 6) Q 27 [some (.ref 99), some (vI c), some (vI d), some (vI z), some (vI k)] [] nn w 0 0 := by
  have hp := p3_le n.toNat (by omega)
  intro m
  induction m with
  | zero =>
    intro k z hk hkm hz
    have hiff := evB_bit L d.toNat L.length
    refine V_iload (Y := mX6_opens) (pc := 27) dX6_opens_27 rfl ?_
    refine V_aload_n (Y := mX6_opens) (pc := 29) dX6_opens_29 rfl ?_
    apply V_get (Y := mX6_opens) (pc := 30) dX6_opens_30 fl_X6_210
    · assumption
    · rfl
    refine V_icmp_ge (tgt := 67) (Y := mX6_opens) (pc := 33) dX6_opens_33 (by decide) ⟨by omega, by omega⟩ ⟨by omega, by omega⟩ (fun h_33 => ?_) (fun h_33 => absurd h_33 (by omega))
    exact V_drop 4 (K z (by
      rcases hz with q | q
      · obtain ⟨j, j0, j1, j2⟩ := q.2
        exact Or.inl ⟨q.1, hiff.mpr ⟨by omega, j, j0, by omega, j2⟩⟩
      · exact Or.inr ⟨q.1, fun r => by obtain ⟨-, j, j0, j1, j2⟩ := hiff.mp r; exact q.2 ⟨j, j0, by omega, j2⟩⟩))
  | succ m ih =>
    intro k z hk hkm hz
    have hzz : z = 0 ∨ z = 1 := by rcases hz with h | h <;> omega
    have ih1 := fun (z' : Int) (hz' : zP z' (∃ j : Int, 0 ≤ j ∧ j < k + 1 ∧ dg (rAt L j) d.toNat = 2)) => ih (k + 1) z' (by omega) (by omega) hz'
    have hs := hqu k (by omega) (by omega)
    have hsk : isS n (rAt L k) := hL _ (rAt_mem (by omega) (by omega))
    have hg := dg_rng (rAt L k) d.toNat
    refine V_iload (Y := mX6_opens) (pc := 27) dX6_opens_27 rfl ?_
    refine V_aload_n (Y := mX6_opens) (pc := 29) dX6_opens_29 rfl ?_
    apply V_get (Y := mX6_opens) (pc := 30) dX6_opens_30 fl_X6_210
    · assumption
    · rfl
    refine V_icmp_ge (tgt := 67) (Y := mX6_opens) (pc := 33) dX6_opens_33 (by decide) ⟨by omega, by omega⟩ ⟨by omega, by omega⟩ (fun h_33 => absurd h_33 (by omega)) (fun h_33 => ?_)
    refine V_iload_n (Y := mX6_opens) (pc := 36) dX6_opens_36 rfl ?_
    refine V_if_ne (tgt := 55) (Y := mX6_opens) (pc := 37) dX6_opens_37 (by decide) ⟨by omega, by omega⟩ (fun h_37 => ?_) (fun h_37 => ?_)
    · refine V_iconst (Y := mX6_opens) (pc := 55) dX6_opens_55 ?_
      refine V_goto (tgt := 60) (Y := mX6_opens) (pc := 56) dX6_opens_56 (by decide) ?_
      refine V_istore_n (Y := mX6_opens) (pc := 60) dX6_opens_60 rfl ?_
      refine V_iinc (Y := mX6_opens) (pc := 61) dX6_opens_61 rfl rfl ?_
      refine V_goto (tgt := 27) (Y := mX6_opens) (pc := 64) dX6_opens_64 (by decide) ?_
      first
        | exact ih1 _ (zP.t (any_1 hz (by omega)))
        | exact ih1 _ (zP.t ⟨k, by omega, by omega, h_52⟩)
        | exact ih1 _ (zP.f (any_0 hz (by omega) h_52))
    · refine V_aload_n (Y := mX6_opens) (pc := 40) dX6_opens_40 rfl ?_
      apply V_get (Y := mX6_opens) (pc := 41) dX6_opens_41 fl_X6_41
      · assumption
      · rfl
      refine V_iload (Y := mX6_opens) (pc := 44) dX6_opens_44 rfl ?_
      apply V_iald (Y := mX6_opens) (pc := 46) dX6_opens_46
      · assumption
      · exact ⟨by omega, by omega⟩
      · omega
      rw [hs]
      refine V_iload_n (Y := mX6_opens) (pc := 47) dX6_opens_47 rfl ?_
      apply V_sR (Y := mX6_opens) (pc := 48) dX6_opens_48 ok_X6_outIn os_X6_outIn ln_X6_64 (cm_outIn (s := rAt L k) (d := d) hsk.1 ⟨by omega, by omega⟩ ⟨by omega, by omega⟩)
      · rfl
      · rfl
      · rfl
      refine V_iconst (Y := mX6_opens) (pc := 51) dX6_opens_51 ?_
      refine V_icmp_ne (tgt := 59) (Y := mX6_opens) (pc := 52) dX6_opens_52 (by decide) ⟨by omega, by omega⟩ ⟨by omega, by omega⟩ (fun h_52 => ?_) (fun h_52 => ?_)
      · refine V_iconst (Y := mX6_opens) (pc := 59) dX6_opens_59 ?_
        refine V_istore_n (Y := mX6_opens) (pc := 60) dX6_opens_60 rfl ?_
        refine V_iinc (Y := mX6_opens) (pc := 61) dX6_opens_61 rfl rfl ?_
        refine V_goto (tgt := 27) (Y := mX6_opens) (pc := 64) dX6_opens_64 (by decide) ?_
        first
          | exact ih1 _ (zP.t (any_1 hz (by omega)))
          | exact ih1 _ (zP.t ⟨k, by omega, by omega, h_52⟩)
          | exact ih1 _ (zP.f (any_0 hz (by omega) h_52))
      · refine V_iconst (Y := mX6_opens) (pc := 55) dX6_opens_55 ?_
        refine V_goto (tgt := 60) (Y := mX6_opens) (pc := 56) dX6_opens_56 (by decide) ?_
        refine V_istore_n (Y := mX6_opens) (pc := 60) dX6_opens_60 rfl ?_
        refine V_iinc (Y := mX6_opens) (pc := 61) dX6_opens_61 rfl rfl ?_
        refine V_goto (tgt := 27) (Y := mX6_opens) (pc := 64) dX6_opens_64 (by decide) ?_
        first
          | exact ih1 _ (zP.t (any_1 hz (by omega)))
          | exact ih1 _ (zP.t ⟨k, by omega, by omega, h_52⟩)
          | exact ih1 _ (zP.f (any_0 hz (by omega) h_52))
set_option maxRecDepth 100000 in
theorem lpm_op3 {d z : Int} {E : Nat} {Q : vPost} (hz : zP z (E.testBit d.toNat = true)) (K : V mX6_opens (rm 6) Q 12 [some (.ref 99), some (vI (pcB E d.toNat + (if E.testBit d.toNat = true then 1 else 0))), some (vI (d + 1)), none, none] [] nn w 0 0) :
    V mX6_opens (rm 6) Q 67 [some (.ref 99), some (vI (pcB E d.toNat)), some (vI d), some (vI z), none] [] nn w 0 0 := by
  have hzz : z = 0 ∨ z = 1 := by rcases hz with h | h <;> omega
  refine V_iload_n (Y := mX6_opens) (pc := 67) dX6_opens_67 rfl ?_
  refine V_iload_n (Y := mX6_opens) (pc := 68) dX6_opens_68 rfl ?_
  refine V_if_eq (tgt := 76) (Y := mX6_opens) (pc := 69) dX6_opens_69 (by decide) ⟨by omega, by omega⟩ (fun h_69 => ?_) (fun h_69 => ?_)
  · refine V_iconst (Y := mX6_opens) (pc := 76) dX6_opens_76 ?_
    refine V_iadd (Y := mX6_opens) (pc := 77) dX6_opens_77 ?_
    refine V_istore_n (Y := mX6_opens) (pc := 78) dX6_opens_78 rfl ?_
    refine V_iinc (Y := mX6_opens) (pc := 79) dX6_opens_79 rfl rfl ?_
    refine V_goto (tgt := 12) (Y := mX6_opens) (pc := 82) dX6_opens_82 (by decide) ?_
    refine V_drop 3 ?_
    rcases hz with ⟨h1, h2⟩ | ⟨h1, h2⟩
    · rw [if_pos h2] at K
      first
        | (exfalso; omega)
        | exact K
    · rw [if_neg h2] at K
      first
        | (exfalso; omega)
        | exact K
  · refine V_iconst (Y := mX6_opens) (pc := 72) dX6_opens_72 ?_
    refine V_goto (tgt := 77) (Y := mX6_opens) (pc := 73) dX6_opens_73 (by decide) ?_
    refine V_iadd (Y := mX6_opens) (pc := 77) dX6_opens_77 ?_
    refine V_istore_n (Y := mX6_opens) (pc := 78) dX6_opens_78 rfl ?_
    refine V_iinc (Y := mX6_opens) (pc := 79) dX6_opens_79 rfl rfl ?_
    refine V_goto (tgt := 12) (Y := mX6_opens) (pc := 82) dX6_opens_82 (by decide) ?_
    refine V_drop 3 ?_
    rcases hz with ⟨h1, h2⟩ | ⟨h1, h2⟩
    · rw [if_pos h2] at K
      first
        | (exfalso; omega)
        | exact K
    · rw [if_neg h2] at K
      first
        | (exfalso; omega)
        | exact K
set_option maxRecDepth 100000 in
theorem lpm_op1 {L : List Int} {Q : vPost} (hM : MS w n now ca po fo rs) (hG : vGood (n, now, ca, po, fo, rs)) (hI : GI w n qt ty a0 sp tk vl mn sv L) (K : Q (some (vI (pcB (evB L L.length) 7))) nn w) : ∀ (m : Nat) (d : Int), 0 ≤ d → d + m = n →
    V mX6_opens (rm 6) Q 12 [some (.ref 99), some (vI (pcB (evB L L.length) d.toNat)), some (vI d), none, none] [] nn w 0 0 := by
  have hn := hG.un.1
  obtain ⟨f, -, hb, hB⟩ := hM
  have e0 : f (0 : Int).toNat = n := hB.1.1.1
  obtain ⟨ho, -, ⟨qu, h10, hql, hqu⟩, hd, hL, hpos⟩ := hI
  intro m
  induction m with
  | zero =>
    intro d hd hdm
    refine V_iload_n (Y := mX6_opens) (pc := 12) dX6_opens_12 rfl ?_
    refine V_aload_n (Y := mX6_opens) (pc := 13) dX6_opens_13 rfl ?_
    apply V_get (Y := mX6_opens) (pc := 14) dX6_opens_14 fl_X6_7
    · assumption
    · rfl
    refine V_iconst (Y := mX6_opens) (pc := 17) dX6_opens_17 ?_
    apply V_iald (Y := mX6_opens) (pc := 18) dX6_opens_18
    · assumption
    · exact ⟨by omega, by omega⟩
    · omega
    rw [e0]
    refine V_icmp_ge (tgt := 85) (Y := mX6_opens) (pc := 19) dX6_opens_19 (by decide) ⟨by omega, by omega⟩ ⟨by omega, by omega⟩ (fun h_19 => ?_) (fun h_19 => absurd h_19 (by omega))
    refine V_iload_n (Y := mX6_opens) (pc := 85) dX6_opens_85 rfl ?_
    refine V_iret (Y := mX6_opens) (pc := 86) dX6_opens_86 rfl (Nat.le_of_ble_eq_true rfl) (Nat.le_of_ble_eq_true rfl) ?_
    rw [pcB_n (evB_out hL) 7 (by omega)] at K
    rw [show d.toNat = n.toNat by omega]
    exact K
  | succ m ih =>
    intro d hd hdm
    have ih1 := ih (d + 1) (by omega) (by omega)
    rw [show (d + 1).toNat = d.toNat + 1 by omega, pcB] at ih1
    refine V_iload_n (Y := mX6_opens) (pc := 12) dX6_opens_12 rfl ?_
    refine V_aload_n (Y := mX6_opens) (pc := 13) dX6_opens_13 rfl ?_
    apply V_get (Y := mX6_opens) (pc := 14) dX6_opens_14 fl_X6_7
    · assumption
    · rfl
    refine V_iconst (Y := mX6_opens) (pc := 17) dX6_opens_17 ?_
    apply V_iald (Y := mX6_opens) (pc := 18) dX6_opens_18
    · assumption
    · exact ⟨by omega, by omega⟩
    · omega
    rw [e0]
    refine V_icmp_ge (tgt := 85) (Y := mX6_opens) (pc := 19) dX6_opens_19 (by decide) ⟨by omega, by omega⟩ ⟨by omega, by omega⟩ (fun h_19 => absurd h_19 (by omega)) (fun h_19 => ?_)
    refine V_iconst (Y := mX6_opens) (pc := 22) dX6_opens_22 ?_
    refine V_istore_n (Y := mX6_opens) (pc := 23) dX6_opens_23 rfl ?_
    refine V_iconst (Y := mX6_opens) (pc := 24) dX6_opens_24 ?_
    refine V_istore (Y := mX6_opens) (pc := 25) dX6_opens_25 rfl ?_
    exact lpm_op2 (n := n) (L := L) ho h10 hql hqu hL hn ⟨hd, by omega⟩ (fun z hz => lpm_op3 hz ih1) L.length 0 0 (by omega) (by omega) (zP.f (fun ⟨j, j0, j1, _⟩ => by omega))
set_option maxRecDepth 100000 in
theorem cm_opens {fd : Int} {qu th : Nat → Int} (ho : w 99 = some (mO qt ty a0 sp tk vl mn fd sv)) (hb : w 100 = some (arI 98 f)) (hB : BkOf f n now ca po fo rs) (hG : vGood (n, now, ca, po, fo, rs)) (h9 : w 109 = some (arZ 2187 th)) (h10 : w 110 = some (arI 2187 qu)) : Ctr mX6_opens (rm 6) [.ref 99] nn w (pI (fun z w' => z = opM ca rs n now ∧ (∃ fd', w' 99 = some (mO qt ty a0 sp tk vl mn fd' sv)) ∧ (∃ g, w' 109 = some (arZ 2187 g)) ∧ (∃ g, w' 110 = some (arI 2187 g)) ∧ frG w w') nn) := by
  refine Ctr_of (lv := [some (.ref 99), none, none, none, none]) (by decide +kernel) rfl rfl ?_
  have hn := hG.un.1
  have hM : MS w n now ca po fo rs := ⟨f, ⟨_, _, _, _, _, _, _, _, _, ho⟩, hb, hB⟩
  have hl : (rs 1).length ≤ 10 := hB.2.1.1
  refine V_aload_n (Y := mX6_opens) (pc := 0) dX6_opens_0 rfl ?_
  refine V_aload_n (Y := mX6_opens) (pc := 1) dX6_opens_1 rfl ?_
  apply V_vR (Y := mX6_opens) (pc := 2) dX6_opens_2 ok_X6_allCords ov_X6_allCords ln_X6_176 (cm_allCords hM)
  · assumption
  · rfl
  · rfl
  · rfl
  · rfl
  · rfl
  apply V_vV (Y := mX6_opens) (pc := 5) dX6_opens_5 ok_X6_goes ov_X6_goes ln_X6_213 (cm_goes (x := iI (alI rs)) ho hb hB hG h9 h10)
  · assumption
  · rfl
  · rfl
  · rfl
  · rfl
  · rfl
  rintro w_5 ⟨g1, f1⟩
  rw [spX_al hl] at g1
  have g0 := g1
  obtain ⟨o5, ⟨th2, t5, -⟩, ⟨qu2, q5, ql, -⟩, hd, hL, hpos⟩ := g1
  refine V_iconst (Y := mX6_opens) (pc := 8) dX6_opens_8 ?_
  refine V_istore_n (Y := mX6_opens) (pc := 9) dX6_opens_9 rfl ?_
  refine V_iconst (Y := mX6_opens) (pc := 10) dX6_opens_10 ?_
  refine V_istore_n (Y := mX6_opens) (pc := 11) dX6_opens_11 rfl ?_
  have hM2 : MS w_5 n now ca po fo rs := ⟨f, ⟨_, _, _, _, _, _, _, _, _, o5⟩, (f1 _ (by omega) (by omega) (by omega)).trans hb, hB⟩
  exact lpm_op1 (L := gFnd (spP ca rs) n now) hM2 hG g0 (pI_of ⟨rfl, ⟨_, o5⟩, ⟨_, t5⟩, ⟨_, q5⟩, f1⟩) n.toNat 0 (by omega) (by omega)
end MOD
