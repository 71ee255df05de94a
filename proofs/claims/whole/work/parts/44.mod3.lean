/-! ===== DrawerWallModel: catches, goods, orders, pulls, sights ===== -/
section MOD
variable {nn : Nat} {w : vWd} {n now : Int} {ca po fo : Nat} {rs : Nat → List Int} {qt ty a0 sp tk vl mn fd sv : Int} {rb rn rf : Int}
theorem BkOf.sc {f f' : Nat → Int} {now' : Int} {ca' po' fo' : Nat} (h : BkOf f n now ca po fo rs) (h4 : f' 4 = ca') (h5 : f' 5 = po') (h6 : f' 6 = fo') (h7 : f' 7 = now') (ho : ∀ i, i ≠ 4 → i ≠ 5 → i ≠ 6 → i ≠ 7 → f' i = f i) : BkOf f' n now' ca' po' fo' rs := by
  obtain ⟨⟨⟨b0, b1, b2, b3⟩, b4, b5, b6, b7, b8⟩, hl, hd, hc, hor, hs, hp⟩ := h
  have o := fun (i : Nat) (q : i < 4 ∨ 8 ≤ i) => ho i (by omega) (by omega) (by omega) (by omega)
  refine ⟨⟨⟨(o 0 (by omega)).trans b0, (o 1 (by omega)).trans b1, (o 2 (by omega)).trans b2, (o 3 (by omega)).trans b3⟩, h4, h5, h6, h7, (o 8 (by omega)).trans b8⟩, hl, fun d q1 q2 => (o _ (by omega)).trans (hd d q1 q2), fun c q1 q2 => ?_, fun d q1 q2 => (o _ (by omega)).trans (hor d q1 q2), fun c q1 q2 => ?_, fun d q1 q2 => (o _ (by omega)).trans (hp d q1 q2)⟩
  · obtain ⟨c1, c2, c3, c4⟩ := hc c q1 q2
    exact ⟨(o _ (by omega)).trans c1, (o _ (by omega)).trans c2, (o _ (by omega)).trans c3, (o _ (by omega)).trans c4⟩
  · obtain ⟨c1, c2⟩ := hs c q1 q2
    exact ⟨(o _ (by omega)).trans c1, (o _ (by omega)).trans c2⟩
theorem BkOf.good {f f' : Nat → Int} {d g : Int} (h : BkOf f n now ca po fo rs) (hd0 : 0 ≤ d) (hd1 : d < (rs 0).length) (hg : f' (9 + d).toNat = g) (ho : ∀ i, i ≠ (9 + d).toNat → f' i = f i) : BkOf f' n now ca po fo (va_up rs 0 (rSet (rs 0) d g)) := by
  obtain ⟨⟨⟨b0, b1, b2, b3⟩, b4, b5, b6, b7, b8⟩, ⟨l1, l5, l6, l8, l0⟩, hd, hc, hor, hs, hp⟩ := h
  have o := fun (i : Nat) (q : i < 9 ∨ 16 ≤ i) => ho i (by omega)
  have r0 : va_up rs 0 (rSet (rs 0) d g) 0 = rSet (rs 0) d g := rfl
  refine ⟨⟨⟨(o 0 (by omega)).trans b0, (o 1 (by omega)).trans b1, (o 2 (by omega)).trans b2, (o 3 (by omega)).trans b3⟩, (o 4 (by omega)).trans b4, (o 5 (by omega)).trans b5, (o 6 (by omega)).trans b6, (o 7 (by omega)).trans b7, (o 8 (by omega)).trans b8⟩, ⟨l1, l5, l6, l8, by rw [r0, rSet_len]; exact l0⟩, fun e q1 q2 => ?_, fun c q1 q2 => ?_, fun d q1 q2 => (o _ (by omega)).trans (hor d q1 q2), fun c q1 q2 => ?_, fun d q1 q2 => (o _ (by omega)).trans (hp d q1 q2)⟩
  · rw [r0, rSet_len] at q2
    rw [r0, rAt_set hd0 hd1]
    by_cases hed : e = d
    · subst hed; rw [if_pos rfl]; exact hg
    · rw [if_neg hed]; exact (ho _ (by omega)).trans (hd e q1 q2)
  · obtain ⟨c1, c2, c3, c4⟩ := hc c q1 q2
    exact ⟨(o _ (by omega)).trans c1, (o _ (by omega)).trans c2, (o _ (by omega)).trans c3, (o _ (by omega)).trans c4⟩
  · obtain ⟨c1, c2⟩ := hs c q1 q2
    exact ⟨(o _ (by omega)).trans c1, (o _ (by omega)).trans c2⟩
theorem BkOf.order {f f' : Nat → Int} {l : List Int} (h : BkOf f n now ca po fo rs) (hl5 : l.length ≤ 6) (h2 : f' 2 = l.length) (hg : ∀ o : Int, 0 ≤ o → o < l.length → f' (56 + o).toNat = rAt l o) (ho : ∀ i, i ≠ 2 → (i < 56 ∨ 62 ≤ i) → f' i = f i) : BkOf f' n now ca po fo (va_up rs 5 l) := by
  obtain ⟨⟨⟨b0, b1, b2, b3⟩, b4, b5, b6, b7, b8⟩, ⟨l1, l5, l6, l8, l0⟩, hd, hc, hor, hs, hp⟩ := h
  refine ⟨⟨⟨(ho 0 (by omega) (by omega)).trans b0, (ho 1 (by omega) (by omega)).trans b1, h2, (ho 3 (by omega) (by omega)).trans b3⟩, (ho 4 (by omega) (by omega)).trans b4, (ho 5 (by omega) (by omega)).trans b5, (ho 6 (by omega) (by omega)).trans b6, (ho 7 (by omega) (by omega)).trans b7, (ho 8 (by omega) (by omega)).trans b8⟩, ⟨l1, hl5, l6, l8, l0⟩, fun e q1 q2 => ?_, fun c q1 q2 => ?_, hg, fun c q1 q2 => ?_, fun d q1 q2 => ?_⟩
  · have q2 : e < (rs 0).length := q2
    exact (ho _ (by omega) (by omega)).trans (hd e q1 q2)
  · have q2 : c < (rs 1).length := q2
    obtain ⟨c1, c2, c3, c4⟩ := hc c q1 q2
    exact ⟨(ho _ (by omega) (by omega)).trans c1, (ho _ (by omega) (by omega)).trans c2, (ho _ (by omega) (by omega)).trans c3, (ho _ (by omega) (by omega)).trans c4⟩
  · have q2 : c < (rs 6).length := q2
    obtain ⟨c1, c2⟩ := hs c q1 q2
    exact ⟨(ho _ (by omega) (by omega)).trans c1, (ho _ (by omega) (by omega)).trans c2⟩
  · have q2 : d < (rs 8).length := q2
    exact (ho _ (by omega) (by omega)).trans (hp d q1 q2)
theorem BkOf.sight {f f' : Nat → Int} {l l2 : List Int} (h : BkOf f n now ca po fo rs) (hl6 : l.length ≤ 8) (h3 : f' 3 = l.length) (hg : ∀ k : Int, 0 ≤ k → k < l.length → f' (62 + 2 * k).toNat = rAt l k ∧ f' (62 + 2 * k + 1).toNat = rAt l2 k) (ho : ∀ i, i ≠ 3 → (i < 62 ∨ 78 ≤ i) → f' i = f i) : BkOf f' n now ca po fo (va_up (va_up rs 6 l) 7 l2) := by
  obtain ⟨⟨⟨b0, b1, b2, b3⟩, b4, b5, b6, b7, b8⟩, ⟨l1, l5, l6, l8, l0⟩, hd, hc, hor, hs, hp⟩ := h
  refine ⟨⟨⟨(ho 0 (by omega) (by omega)).trans b0, (ho 1 (by omega) (by omega)).trans b1, (ho 2 (by omega) (by omega)).trans b2, h3⟩, (ho 4 (by omega) (by omega)).trans b4, (ho 5 (by omega) (by omega)).trans b5, (ho 6 (by omega) (by omega)).trans b6, (ho 7 (by omega) (by omega)).trans b7, (ho 8 (by omega) (by omega)).trans b8⟩, ⟨l1, l5, hl6, l8, l0⟩, fun e q1 q2 => ?_, fun c q1 q2 => ?_, fun d q1 q2 => ?_, hg, fun d q1 q2 => ?_⟩
  · have q2 : e < (rs 0).length := q2
    exact (ho _ (by omega) (by omega)).trans (hd e q1 q2)
  · have q2 : c < (rs 1).length := q2
    obtain ⟨c1, c2, c3, c4⟩ := hc c q1 q2
    exact ⟨(ho _ (by omega) (by omega)).trans c1, (ho _ (by omega) (by omega)).trans c2, (ho _ (by omega) (by omega)).trans c3, (ho _ (by omega) (by omega)).trans c4⟩
  · have q2 : d < (rs 5).length := q2
    exact (ho _ (by omega) (by omega)).trans (hor d q1 q2)
  · have q2 : d < (rs 8).length := q2
    exact (ho _ (by omega) (by omega)).trans (hp d q1 q2)
theorem BkOf.past {f f' : Nat → Int} {now' : Int} {l : List Int} (h : BkOf f n now ca po fo rs) (hl8 : l.length ≤ 20) (h7 : f' 7 = now') (h8 : f' 8 = l.length) (hg : ∀ k : Int, 0 ≤ k → k < l.length → f' (78 + k).toNat = rAt l k) (ho : ∀ i, i ≠ 7 → i ≠ 8 → i < 78 → f' i = f i) : BkOf f' n now' ca po fo (va_up rs 8 l) := by
  obtain ⟨⟨⟨b0, b1, b2, b3⟩, b4, b5, b6, b7, b8⟩, ⟨l1, l5, l6, l8, l0⟩, hd, hc, hor, hs, hp⟩ := h
  have o := fun (i : Nat) (q : i < 7 ∨ (9 ≤ i ∧ i < 78)) => ho i (by omega) (by omega) (by omega)
  refine ⟨⟨⟨(o 0 (by omega)).trans b0, (o 1 (by omega)).trans b1, (o 2 (by omega)).trans b2, (o 3 (by omega)).trans b3⟩, (o 4 (by omega)).trans b4, (o 5 (by omega)).trans b5, (o 6 (by omega)).trans b6, h7, h8⟩, ⟨l1, l5, l6, hl8, l0⟩, fun e q1 q2 => ?_, fun c q1 q2 => ?_, fun d q1 q2 => ?_, fun c q1 q2 => ?_, hg⟩
  · have q2 : e < (rs 0).length := q2
    exact (o _ (by omega)).trans (hd e q1 q2)
  · have q2 : c < (rs 1).length := q2
    obtain ⟨c1, c2, c3, c4⟩ := hc c q1 q2
    exact ⟨(o _ (by omega)).trans c1, (o _ (by omega)).trans c2, (o _ (by omega)).trans c3, (o _ (by omega)).trans c4⟩
  · have q2 : d < (rs 5).length := q2
    exact (o _ (by omega)).trans (hor d q1 q2)
  · have q2 : c < (rs 6).length := q2
    obtain ⟨c1, c2⟩ := hs c q1 q2
    exact ⟨(o _ (by omega)).trans c1, (o _ (by omega)).trans c2⟩
set_option maxRecDepth 100000 in
theorem cm_caught {d z : Int} (hK : MK w qt (n, now, ca, po, fo, rs) rb rn rf) (hG : vGood (n, now, ca, po, fo, rs)) (hd : inR d) (hz : z = 0 ∨ z = 1) : Ctr mX6_caught (rm 2) [.ref 99, vI d, vI z] nn w (pI (fun r w' => r = (fCatch (n, now, ca, po, fo, rs) d z).1 ∧ MK w' qt (fCatch (n, now, ca, po, fo, rs) d z).2 (tq qt (-2) r rb) (tq qt (-3) r rn) (tq qt (-4) r rf) ∧ frB w w') nn) := by
  refine Ctr_of (lv := [some (.ref 99), some (vI d), some (vI z)]) (by decide +kernel) rfl rfl ?_
  have hM := hK.ms
  obtain ⟨⟨ty, a0, sp, tk, vl, mn, fd, sv, ho⟩, ⟨f, hb0, hB⟩, hr, hq⟩ := hK
  obtain ⟨hn, hnow, hca, hpo, hfo, hgd, hcv, hor, hsg, hpast⟩ := hG.un
  have hB : BkOf f n now ca po fo rs := hB
  have e4 : f (4 : Int).toNat = (ca : Int) := hB.1.2.1
  have e5 : f (5 : Int).toNat = (po : Int) := hB.1.2.2.1
  have hbr := bI_01 (ca.testBit d.toNat = true)
  refine V_aload_n (Y := mX6_caught) (pc := 0) dX6_caught_0 rfl ?_
  refine V_iload_n (Y := mX6_caught) (pc := 1) dX6_caught_1 rfl ?_
  apply V_vR (Y := mX6_caught) (pc := 2) dX6_caught_2 ok_X6_isDrawer ov_X6_isDrawer ln_X6_83 (cm_isDrawer (d := d) hM hn hd)
  · assumption
  · rfl
  · rfl
  · rfl
  · rfl
  · rfl
  refine V_if_neB (tgt := 13) (Y := mX6_caught) (pc := 5) dX6_caught_5 (by decide) (fun h_5 => ?_) (fun h_5 => ?_)
  · refine V_aload_n (Y := mX6_caught) (pc := 13) dX6_caught_13 rfl ?_
    apply V_get (Y := mX6_caught) (pc := 14) dX6_caught_14 fl_X6_7
    · assumption
    · rfl
    refine V_iconst (Y := mX6_caught) (pc := 17) dX6_caught_17 ?_
    apply V_iald (Y := mX6_caught) (pc := 18) dX6_caught_18
    · assumption
    · exact ⟨by omega, by omega⟩
    · omega
    rw [e4]
    refine V_iload_n (Y := mX6_caught) (pc := 19) dX6_caught_19 rfl ?_
    refine V_ishr (Y := mX6_caught) (pc := 20) dX6_caught_20 (rfl) ?_
    refine V_iconst (Y := mX6_caught) (pc := 21) dX6_caught_21 ?_
    refine V_iand (Y := mX6_caught) (pc := 22) dX6_caught_22 (bitB (by omega) (by omega) (by omega)) ?_
    refine V_iconst (Y := mX6_caught) (pc := 23) dX6_caught_23 ?_
    refine V_icmp_ne (tgt := 31) (Y := mX6_caught) (pc := 24) dX6_caught_24 (by decide) (bI_R _) ⟨by omega, by omega⟩ (fun h_24 => ?_) (fun h_24 => ?_)
    · refine V_iconst (Y := mX6_caught) (pc := 31) dX6_caught_31 ?_
      refine V_iload_n (Y := mX6_caught) (pc := 32) dX6_caught_32 rfl ?_
      refine V_icmp_ne (tgt := 41) (Y := mX6_caught) (pc := 33) dX6_caught_33 (by decide) ⟨by omega, by omega⟩ ⟨by omega, by omega⟩ (fun h_33 => ?_) (fun h_33 => ?_)
      · refine V_aload_n (Y := mX6_caught) (pc := 41) dX6_caught_41 rfl ?_
        apply V_get (Y := mX6_caught) (pc := 42) dX6_caught_42 fl_X6_7
        · assumption
        · rfl
        refine V_iconst (Y := mX6_caught) (pc := 45) dX6_caught_45 ?_
        refine V_dup2 (Y := mX6_caught) (pc := 46) dX6_caught_46 rfl rfl ?_
        apply V_iald (Y := mX6_caught) (pc := 47) dX6_caught_47
        · assumption
        · exact ⟨by omega, by omega⟩
        · omega
        rw [e4]
        refine V_iconst (Y := mX6_caught) (pc := 48) dX6_caught_48 ?_
        refine V_iload_n (Y := mX6_caught) (pc := 49) dX6_caught_49 rfl ?_
        refine V_ishl (Y := mX6_caught) (pc := 50) dX6_caught_50 (iI_shl2 (by omega) (by omega)) ?_
        refine V_ixor (Y := mX6_caught) (pc := 51) dX6_caught_51 (iI_xor _ _) ?_
        apply V_iastW (Y := mX6_caught) (pc := 52) dX6_caught_52
        · assumption
        · exact ⟨by omega, by omega⟩
        · omega
        intro w_52 h_52 f_52
        refine V_iconst (Y := mX6_caught) (pc := 53) dX6_caught_53 ?_
        refine V_iret (Y := mX6_caught) (pc := 54) dX6_caught_54 rfl (Nat.le_of_ble_eq_true rfl) (Nat.le_of_ble_eq_true rfl) ?_
        rw [show fCatch (n, now, ca, po, fo, rs) d z = (1, (n, now, ca ^^^ p2 d.toNat, po, fo, rs)) from (if_neg (fun q => q h_5)).trans (if_neg (by show ¬ bI (ca.testBit d.toNat = true) = z; omega))]
        refine pI_of ⟨rfl, MK.tq0 ⟨⟨_, _, _, _, _, _, _, _, (f_52 _ (by omega)).trans ho⟩, ⟨_, h_52, BkOf.sc hB ?_ ?_ ?_ ?_ ?_⟩, hr.keep (f_52 _ (by omega)), hq⟩ (by omega), fun j a b => f_52 j a⟩
        · rw [show (4 : Nat) = (4 : Int).toNat from rfl, va_up_self]
        · rw [va_up_ne _ _ (by omega)]; exact hB.1.2.2.1
        · rw [va_up_ne _ _ (by omega)]; exact hB.1.2.2.2.1
        · rw [va_up_ne _ _ (by omega)]; exact hB.1.2.2.2.2.1
        · exact fun i a b c e => va_up_ne _ _ (by omega)
      · refine V_aload_n (Y := mX6_caught) (pc := 36) dX6_caught_36 rfl ?_
        apply V_vI (Y := mX6_caught) (pc := 37) dX6_caught_37 ok_X6_no ov_X6_no ln_X6_98 (cm_no ho hr hq)
        · assumption
        · rfl
        · rfl
        · rfl
        · rfl
        · rfl
        rintro z_37 w_37 ⟨hz2, g1, f1⟩
        subst hz2
        refine V_iret (Y := mX6_caught) (pc := 40) dX6_caught_40 rfl (Nat.le_of_ble_eq_true rfl) (Nat.le_of_ble_eq_true rfl) ?_
        rw [show fCatch (n, now, ca, po, fo, rs) d z = (-3, (n, now, ca, po, fo, rs)) from (if_neg (fun q => q h_5)).trans (if_pos (by show bI (ca.testBit d.toNat = true) = z; omega))]
        exact pI_of ⟨rfl, ⟨⟨_, _, _, _, _, _, _, _, (f1 _ (by omega)).trans ho⟩, ⟨f, (f1 _ (by omega)).trans hb0, hB⟩, g1, hq⟩, fun j a b => f1 j b⟩
    · refine V_iconst (Y := mX6_caught) (pc := 27) dX6_caught_27 ?_
      refine V_goto (tgt := 32) (Y := mX6_caught) (pc := 28) dX6_caught_28 (by decide) ?_
      refine V_iload_n (Y := mX6_caught) (pc := 32) dX6_caught_32 rfl ?_
      refine V_icmp_ne (tgt := 41) (Y := mX6_caught) (pc := 33) dX6_caught_33 (by decide) ⟨by omega, by omega⟩ ⟨by omega, by omega⟩ (fun h_33 => ?_) (fun h_33 => ?_)
      · refine V_aload_n (Y := mX6_caught) (pc := 41) dX6_caught_41 rfl ?_
        apply V_get (Y := mX6_caught) (pc := 42) dX6_caught_42 fl_X6_7
        · assumption
        · rfl
        refine V_iconst (Y := mX6_caught) (pc := 45) dX6_caught_45 ?_
        refine V_dup2 (Y := mX6_caught) (pc := 46) dX6_caught_46 rfl rfl ?_
        apply V_iald (Y := mX6_caught) (pc := 47) dX6_caught_47
        · assumption
        · exact ⟨by omega, by omega⟩
        · omega
        rw [e4]
        refine V_iconst (Y := mX6_caught) (pc := 48) dX6_caught_48 ?_
        refine V_iload_n (Y := mX6_caught) (pc := 49) dX6_caught_49 rfl ?_
        refine V_ishl (Y := mX6_caught) (pc := 50) dX6_caught_50 (iI_shl2 (by omega) (by omega)) ?_
        refine V_ixor (Y := mX6_caught) (pc := 51) dX6_caught_51 (iI_xor _ _) ?_
        apply V_iastW (Y := mX6_caught) (pc := 52) dX6_caught_52
        · assumption
        · exact ⟨by omega, by omega⟩
        · omega
        intro w_52 h_52 f_52
        refine V_iconst (Y := mX6_caught) (pc := 53) dX6_caught_53 ?_
        refine V_iret (Y := mX6_caught) (pc := 54) dX6_caught_54 rfl (Nat.le_of_ble_eq_true rfl) (Nat.le_of_ble_eq_true rfl) ?_
        rw [show fCatch (n, now, ca, po, fo, rs) d z = (1, (n, now, ca ^^^ p2 d.toNat, po, fo, rs)) from (if_neg (fun q => q h_5)).trans (if_neg (by show ¬ bI (ca.testBit d.toNat = true) = z; omega))]
        refine pI_of ⟨rfl, MK.tq0 ⟨⟨_, _, _, _, _, _, _, _, (f_52 _ (by omega)).trans ho⟩, ⟨_, h_52, BkOf.sc hB ?_ ?_ ?_ ?_ ?_⟩, hr.keep (f_52 _ (by omega)), hq⟩ (by omega), fun j a b => f_52 j a⟩
        · rw [show (4 : Nat) = (4 : Int).toNat from rfl, va_up_self]
        · rw [va_up_ne _ _ (by omega)]; exact hB.1.2.2.1
        · rw [va_up_ne _ _ (by omega)]; exact hB.1.2.2.2.1
        · rw [va_up_ne _ _ (by omega)]; exact hB.1.2.2.2.2.1
        · exact fun i a b c e => va_up_ne _ _ (by omega)
      · refine V_aload_n (Y := mX6_caught) (pc := 36) dX6_caught_36 rfl ?_
        apply V_vI (Y := mX6_caught) (pc := 37) dX6_caught_37 ok_X6_no ov_X6_no ln_X6_98 (cm_no ho hr hq)
        · assumption
        · rfl
        · rfl
        · rfl
        · rfl
        · rfl
        rintro z_37 w_37 ⟨hz2, g1, f1⟩
        subst hz2
        refine V_iret (Y := mX6_caught) (pc := 40) dX6_caught_40 rfl (Nat.le_of_ble_eq_true rfl) (Nat.le_of_ble_eq_true rfl) ?_
        rw [show fCatch (n, now, ca, po, fo, rs) d z = (-3, (n, now, ca, po, fo, rs)) from (if_neg (fun q => q h_5)).trans (if_pos (by show bI (ca.testBit d.toNat = true) = z; omega))]
        exact pI_of ⟨rfl, ⟨⟨_, _, _, _, _, _, _, _, (f1 _ (by omega)).trans ho⟩, ⟨f, (f1 _ (by omega)).trans hb0, hB⟩, g1, hq⟩, fun j a b => f1 j b⟩
  · refine V_aload_n (Y := mX6_caught) (pc := 8) dX6_caught_8 rfl ?_
    apply V_vI (Y := mX6_caught) (pc := 9) dX6_caught_9 ok_X6_bad ov_X6_bad ln_X6_79 (cm_bad ho hr hq)
    · assumption
    · rfl
    · rfl
    · rfl
    · rfl
    · rfl
    rintro z_9 w_9 ⟨hz2, g1, f1⟩
    subst hz2
    refine V_iret (Y := mX6_caught) (pc := 12) dX6_caught_12 rfl (Nat.le_of_ble_eq_true rfl) (Nat.le_of_ble_eq_true rfl) ?_
    rw [show fCatch (n, now, ca, po, fo, rs) d z = (-2, (n, now, ca, po, fo, rs)) from if_pos h_5]
    exact pI_of ⟨rfl, ⟨⟨_, _, _, _, _, _, _, _, (f1 _ (by omega)).trans ho⟩, ⟨f, (f1 _ (by omega)).trans hb0, hB⟩, g1, hq⟩, fun j a b => f1 j b⟩
set_option maxRecDepth 100000 in
theorem cm_good {d g : Int} (hK : MK w qt (n, now, ca, po, fo, rs) rb rn rf) (hG : vGood (n, now, ca, po, fo, rs)) (hd : inR d) (hg : inR g) : Ctr mX6_good (rm 2) [.ref 99, vI d, vI g] nn w (pI (fun r w' => r = (fGood (n, now, ca, po, fo, rs) d g).1 ∧ MK w' qt (fGood (n, now, ca, po, fo, rs) d g).2 (tq qt (-2) r rb) (tq qt (-3) r rn) (tq qt (-4) r rf) ∧ frB w w') nn) := by
  refine Ctr_of (lv := [some (.ref 99), some (vI d), some (vI g), none]) (by decide +kernel) rfl rfl ?_
  have hM := hK.ms
  obtain ⟨⟨ty, a0, sp, tk, vl, mn, fd, sv, ho⟩, ⟨f, hb0, hB⟩, hr, hq⟩ := hK
  obtain ⟨hn, hnow, hca, hpo, hfo, hgd, hcv, hor, hsg, hpast⟩ := hG.un
  have hB : BkOf f n now ca po fo rs := hB
  have hgl := hgd.1
  have hgr := hgd.2 d
  refine V_aload_n (Y := mX6_good) (pc := 0) dX6_good_0 rfl ?_
  refine V_iload_n (Y := mX6_good) (pc := 1) dX6_good_1 rfl ?_
  apply V_vR (Y := mX6_good) (pc := 2) dX6_good_2 ok_X6_isDrawer ov_X6_isDrawer ln_X6_83 (cm_isDrawer (d := d) hM hn hd)
  · assumption
  · rfl
  · rfl
  · rfl
  · rfl
  · rfl
  refine V_if_eqB (tgt := 20) (Y := mX6_good) (pc := 5) dX6_good_5 (by decide) (fun h_5 => ?_) (fun h_5 => ?_)
  · refine V_aload_n (Y := mX6_good) (pc := 20) dX6_good_20 rfl ?_
    apply V_vI (Y := mX6_good) (pc := 21) dX6_good_21 ok_X6_bad ov_X6_bad ln_X6_79 (cm_bad ho hr hq)
    · assumption
    · rfl
    · rfl
    · rfl
    · rfl
    · rfl
    rintro z_9 w_9 ⟨hz2, g1, f1⟩
    subst hz2
    refine V_iret (Y := mX6_good) (pc := 24) dX6_good_24 rfl (Nat.le_of_ble_eq_true rfl) (Nat.le_of_ble_eq_true rfl) ?_
    rw [show fGood (n, now, ca, po, fo, rs) d g = (-2, (n, now, ca, po, fo, rs)) from if_pos (by omega)]
    exact pI_of ⟨rfl, ⟨⟨_, _, _, _, _, _, _, _, (f1 _ (by omega)).trans ho⟩, ⟨f, (f1 _ (by omega)).trans hb0, hB⟩, g1, hq⟩, fun j a b => f1 j b⟩
  · refine V_iload_n (Y := mX6_good) (pc := 8) dX6_good_8 rfl ?_
    refine V_i2l (Y := mX6_good) (pc := 9) dX6_good_9 hg ?_
    refine V_lconst (Y := mX6_good) (pc := 10) dX6_good_10 ?_
    refine V_ldc2 (z := (6 : Int)) (Y := mX6_good) (pc := 11) dX6_good_11 cl_X6_101 (by decide) ?_
    apply V_sR (Y := mX6_good) (pc := 14) dX6_good_14 ok_X6_in os_X6_in ln_X6_56 (cm_in (a := g) (b := 0) (c := 6) hg ⟨by omega, by omega⟩ ⟨by omega, by omega⟩)
    · rfl
    · rfl
    · rfl
    refine V_if_neB (tgt := 25) (Y := mX6_good) (pc := 17) dX6_good_17 (by decide) (fun h_17 => ?_) (fun h_17 => ?_)
    · refine V_aload_n (Y := mX6_good) (pc := 25) dX6_good_25 rfl ?_
      apply V_get (Y := mX6_good) (pc := 26) dX6_good_26 fl_X6_7
      · assumption
      · rfl
      refine V_bipush (Y := mX6_good) (pc := 29) dX6_good_29 ⟨by decide, by decide⟩ ?_
      refine V_iload_n (Y := mX6_good) (pc := 31) dX6_good_31 rfl ?_
      refine V_iadd (Y := mX6_good) (pc := 32) dX6_good_32 ?_
      apply V_iald (Y := mX6_good) (pc := 33) dX6_good_33
      · assumption
      · exact ⟨by omega, by omega⟩
      · omega
      rw [hB.2.2.1 d (by omega) (by omega)]
      refine V_istore_n (Y := mX6_good) (pc := 34) dX6_good_34 rfl ?_
      refine V_aload_n (Y := mX6_good) (pc := 35) dX6_good_35 rfl ?_
      apply V_get (Y := mX6_good) (pc := 36) dX6_good_36 fl_X6_7
      · assumption
      · rfl
      refine V_bipush (Y := mX6_good) (pc := 39) dX6_good_39 ⟨by decide, by decide⟩ ?_
      refine V_iload_n (Y := mX6_good) (pc := 41) dX6_good_41 rfl ?_
      refine V_iadd (Y := mX6_good) (pc := 42) dX6_good_42 ?_
      refine V_iload_n (Y := mX6_good) (pc := 43) dX6_good_43 rfl ?_
      apply V_iastW (Y := mX6_good) (pc := 44) dX6_good_44
      · assumption
      · exact ⟨by omega, by omega⟩
      · omega
      intro w_44 h_44 f_44
      refine V_iload_n (Y := mX6_good) (pc := 45) dX6_good_45 rfl ?_
      refine V_iret (Y := mX6_good) (pc := 46) dX6_good_46 rfl (Nat.le_of_ble_eq_true rfl) (Nat.le_of_ble_eq_true rfl) ?_
      rw [show fGood (n, now, ca, po, fo, rs) d g = (rAt (rs 0) d, (n, now, ca, po, fo, va_up rs 0 (rSet (rs 0) d g))) from if_neg (by omega)]
      have hgr := hgr h_5.1 h_5.2
      exact pI_of ⟨rfl, MK.tq0 ⟨⟨_, _, _, _, _, _, _, _, (f_44 _ (by omega)).trans ho⟩, ⟨_, h_44, BkOf.good hB (by omega) (by omega) (va_up_self _ _ _) (fun i hi => va_up_ne _ _ hi)⟩, hr.keep (f_44 _ (by omega)), hq⟩ (by omega), fun j a b => f_44 j a⟩
    · refine V_aload_n (Y := mX6_good) (pc := 20) dX6_good_20 rfl ?_
      apply V_vI (Y := mX6_good) (pc := 21) dX6_good_21 ok_X6_bad ov_X6_bad ln_X6_79 (cm_bad ho hr hq)
      · assumption
      · rfl
      · rfl
      · rfl
      · rfl
      · rfl
      rintro z_9 w_9 ⟨hz2, g1, f1⟩
      subst hz2
      refine V_iret (Y := mX6_good) (pc := 24) dX6_good_24 rfl (Nat.le_of_ble_eq_true rfl) (Nat.le_of_ble_eq_true rfl) ?_
      rw [show fGood (n, now, ca, po, fo, rs) d g = (-2, (n, now, ca, po, fo, rs)) from if_pos (by omega)]
      exact pI_of ⟨rfl, ⟨⟨_, _, _, _, _, _, _, _, (f1 _ (by omega)).trans ho⟩, ⟨f, (f1 _ (by omega)).trans hb0, hB⟩, g1, hq⟩, fun j a b => f1 j b⟩
set_option maxRecDepth 100000 in
theorem cm_put {a x : Int} (hK : MK w qt (n, now, ca, po, fo, rs) rb rn rf) (ha : inR a) (hx : inR x) : Ctr mX6_put (rm 2) [.ref 99, vI a, vI x] nn w (pI (fun r w' => r = (fPut (n, now, ca, po, fo, rs) a x).1 ∧ MK w' qt (fPut (n, now, ca, po, fo, rs) a x).2 (tq qt (-2) r rb) (tq qt (-3) r rn) (tq qt (-4) r rf) ∧ frB w w') nn) := by
  refine Ctr_of (lv := [some (.ref 99), some (vI a), some (vI x), none]) (by decide +kernel) rfl rfl ?_
  obtain ⟨⟨ty, a0, sp, tk, vl, mn, fd, sv, ho⟩, ⟨f, hb0, hB⟩, hr, hq⟩ := hK
  have hB : BkOf f n now ca po fo rs := hB
  refine V_iload_n (Y := mX6_put) (pc := 0) dX6_put_0 rfl ?_
  refine V_i2l (Y := mX6_put) (pc := 1) dX6_put_1 ha ?_
  refine V_lconst (Y := mX6_put) (pc := 2) dX6_put_2 ?_
  refine V_lconst (Y := mX6_put) (pc := 3) dX6_put_3 ?_
  apply V_sR (Y := mX6_put) (pc := 4) dX6_put_4 ok_X6_in os_X6_in ln_X6_56 (cm_in (a := a) (b := 0) (c := 1) ha ⟨by omega, by omega⟩ ⟨by omega, by omega⟩)
  · rfl
  · rfl
  · rfl
  refine V_if_eqB (tgt := 22) (Y := mX6_put) (pc := 7) dX6_put_7 (by decide) (fun h_7 => ?_) (fun h_7 => ?_)
  · refine V_aload_n (Y := mX6_put) (pc := 22) dX6_put_22 rfl ?_
    apply V_vI (Y := mX6_put) (pc := 23) dX6_put_23 ok_X6_bad ov_X6_bad ln_X6_79 (cm_bad ho hr hq)
    · assumption
    · rfl
    · rfl
    · rfl
    · rfl
    · rfl
    rintro z_9 w_9 ⟨hz2, g1, f1⟩
    subst hz2
    refine V_iret (Y := mX6_put) (pc := 26) dX6_put_26 rfl (Nat.le_of_ble_eq_true rfl) (Nat.le_of_ble_eq_true rfl) ?_
    rw [show fPut (n, now, ca, po, fo, rs) a x = (-2, (n, now, ca, po, fo, rs)) from if_pos (by omega)]
    exact pI_of ⟨rfl, ⟨⟨_, _, _, _, _, _, _, _, (f1 _ (by omega)).trans ho⟩, ⟨f, (f1 _ (by omega)).trans hb0, hB⟩, g1, hq⟩, fun j a b => f1 j b⟩
  · refine V_iload_n (Y := mX6_put) (pc := 10) dX6_put_10 rfl ?_
    refine V_i2l (Y := mX6_put) (pc := 11) dX6_put_11 hx ?_
    refine V_lconst (Y := mX6_put) (pc := 12) dX6_put_12 ?_
    refine V_ldc2 (z := (127 : Int)) (Y := mX6_put) (pc := 13) dX6_put_13 cl_X6_103 (by decide) ?_
    apply V_sR (Y := mX6_put) (pc := 16) dX6_put_16 ok_X6_in os_X6_in ln_X6_56 (cm_in (a := x) (b := 0) (c := 127) hx ⟨by omega, by omega⟩ ⟨by omega, by omega⟩)
    · rfl
    · rfl
    · rfl
    refine V_if_neB (tgt := 27) (Y := mX6_put) (pc := 19) dX6_put_19 (by decide) (fun h_19 => ?_) (fun h_19 => ?_)
    · refine V_aload_n (Y := mX6_put) (pc := 27) dX6_put_27 rfl ?_
      apply V_get (Y := mX6_put) (pc := 28) dX6_put_28 fl_X6_7
      · assumption
      · rfl
      refine V_iconst (Y := mX6_put) (pc := 31) dX6_put_31 ?_
      refine V_iload_n (Y := mX6_put) (pc := 32) dX6_put_32 rfl ?_
      refine V_iadd (Y := mX6_put) (pc := 33) dX6_put_33 ?_
      apply V_iald (Y := mX6_put) (pc := 34) dX6_put_34
      · assumption
      · exact ⟨by omega, by omega⟩
      · omega
      refine V_istore_n (Y := mX6_put) (pc := 35) dX6_put_35 rfl ?_
      refine V_aload_n (Y := mX6_put) (pc := 36) dX6_put_36 rfl ?_
      apply V_get (Y := mX6_put) (pc := 37) dX6_put_37 fl_X6_7
      · assumption
      · rfl
      refine V_iconst (Y := mX6_put) (pc := 40) dX6_put_40 ?_
      refine V_iload_n (Y := mX6_put) (pc := 41) dX6_put_41 rfl ?_
      refine V_iadd (Y := mX6_put) (pc := 42) dX6_put_42 ?_
      refine V_iload_n (Y := mX6_put) (pc := 43) dX6_put_43 rfl ?_
      apply V_iastW (Y := mX6_put) (pc := 44) dX6_put_44
      · assumption
      · exact ⟨by omega, by omega⟩
      · omega
      intro w_44 h_44 f_44
      refine V_iload_n (Y := mX6_put) (pc := 45) dX6_put_45 rfl ?_
      refine V_iret (Y := mX6_put) (pc := 46) dX6_put_46 rfl (Nat.le_of_ble_eq_true rfl) (Nat.le_of_ble_eq_true rfl) ?_
      rcases (show a = 0 ∨ a = 1 by omega) with rfl | rfl
      · rw [show fPut (n, now, ca, po, fo, rs) 0 x = ((po : Int), (n, now, ca, x.toNat, fo, rs)) from (if_neg (by omega)).trans (if_pos rfl)]
        have e5 : f (5 + 0 : Int).toNat = (po : Int) := hB.1.2.2.1
        rw [e5]
        refine pI_of ⟨rfl, MK.tq0 ⟨⟨_, _, _, _, _, _, _, _, (f_44 _ (by omega)).trans ho⟩, ⟨_, h_44, BkOf.sc hB ?_ ?_ ?_ ?_ ?_⟩, hr.keep (f_44 _ (by omega)), hq⟩ (by omega), fun j a b => f_44 j a⟩
        · rw [va_up_ne _ _ (by omega)]; exact hB.1.2.1
        · rw [show (5 : Nat) = (5 + 0 : Int).toNat from rfl, va_up_self]; show x = ((x.toNat : Nat) : Int); omega
        · rw [va_up_ne _ _ (by omega)]; exact hB.1.2.2.2.1
        · rw [va_up_ne _ _ (by omega)]; exact hB.1.2.2.2.2.1
        · exact fun i a b c e => va_up_ne _ _ (by omega)
      · rw [show fPut (n, now, ca, po, fo, rs) 1 x = ((fo : Int), (n, now, ca, po, x.toNat, rs)) from (if_neg (by omega)).trans (if_neg (by omega))]
        have e5 : f (5 + 1 : Int).toNat = (fo : Int) := hB.1.2.2.2.1
        rw [e5]
        refine pI_of ⟨rfl, MK.tq0 ⟨⟨_, _, _, _, _, _, _, _, (f_44 _ (by omega)).trans ho⟩, ⟨_, h_44, BkOf.sc hB ?_ ?_ ?_ ?_ ?_⟩, hr.keep (f_44 _ (by omega)), hq⟩ (by omega), fun j a b => f_44 j a⟩
        · rw [va_up_ne _ _ (by omega)]; exact hB.1.2.1
        · rw [va_up_ne _ _ (by omega)]; exact hB.1.2.2.1
        · rw [show (6 : Nat) = (5 + 1 : Int).toNat from rfl, va_up_self]; show x = ((x.toNat : Nat) : Int); omega
        · rw [va_up_ne _ _ (by omega)]; exact hB.1.2.2.2.2.1
        · exact fun i a b c e => va_up_ne _ _ (by omega)
    · refine V_aload_n (Y := mX6_put) (pc := 22) dX6_put_22 rfl ?_
      apply V_vI (Y := mX6_put) (pc := 23) dX6_put_23 ok_X6_bad ov_X6_bad ln_X6_79 (cm_bad ho hr hq)
      · assumption
      · rfl
      · rfl
      · rfl
      · rfl
      · rfl
      rintro z_9 w_9 ⟨hz2, g1, f1⟩
      subst hz2
      refine V_iret (Y := mX6_put) (pc := 26) dX6_put_26 rfl (Nat.le_of_ble_eq_true rfl) (Nat.le_of_ble_eq_true rfl) ?_
      rw [show fPut (n, now, ca, po, fo, rs) a x = (-2, (n, now, ca, po, fo, rs)) from if_pos (by omega)]
      exact pI_of ⟨rfl, ⟨⟨_, _, _, _, _, _, _, _, (f1 _ (by omega)).trans ho⟩, ⟨f, (f1 _ (by omega)).trans hb0, hB⟩, g1, hq⟩, fun j a b => f1 j b⟩
set_option maxRecDepth 100000 in
theorem cm_order {g : Int} (hK : MK w qt (n, now, ca, po, fo, rs) rb rn rf) (hg : inR g) : Ctr mX6_order (rm 2) [.ref 99, vI g] nn w (pI (fun r w' => r = (fOrder (n, now, ca, po, fo, rs) g).1 ∧ MK w' qt (fOrder (n, now, ca, po, fo, rs) g).2 (tq qt (-2) r rb) (tq qt (-3) r rn) (tq qt (-4) r rf) ∧ frB w w') nn) := by
  refine Ctr_of (lv := [some (.ref 99), some (vI g)]) (by decide +kernel) rfl rfl ?_
  obtain ⟨⟨ty, a0, sp, tk, vl, mn, fd, sv, ho⟩, ⟨f, hb0, hB⟩, hr, hq⟩ := hK
  have hB : BkOf f n now ca po fo rs := hB
  have e2 : f (2 : Int).toNat = (rs 5).length := hB.1.1.2.2.1
  have hl := hB.2.1
  refine V_iload_n (Y := mX6_order) (pc := 0) dX6_order_0 rfl ?_
  refine V_i2l (Y := mX6_order) (pc := 1) dX6_order_1 hg ?_
  refine V_lconst (Y := mX6_order) (pc := 2) dX6_order_2 ?_
  refine V_ldc2 (z := (6 : Int)) (Y := mX6_order) (pc := 3) dX6_order_3 cl_X6_101 (by decide) ?_
  apply V_sR (Y := mX6_order) (pc := 6) dX6_order_6 ok_X6_in os_X6_in ln_X6_56 (cm_in (a := g) (b := 0) (c := 6) hg ⟨by omega, by omega⟩ ⟨by omega, by omega⟩)
  · rfl
  · rfl
  · rfl
  refine V_if_neB (tgt := 17) (Y := mX6_order) (pc := 9) dX6_order_9 (by decide) (fun h_9 => ?_) (fun h_9 => ?_)
  · refine V_aload_n (Y := mX6_order) (pc := 17) dX6_order_17 rfl ?_
    apply V_get (Y := mX6_order) (pc := 18) dX6_order_18 fl_X6_7
    · assumption
    · rfl
    refine V_iconst (Y := mX6_order) (pc := 21) dX6_order_21 ?_
    apply V_iald (Y := mX6_order) (pc := 22) dX6_order_22
    · assumption
    · exact ⟨by omega, by omega⟩
    · omega
    rw [e2]
    refine V_bipush (Y := mX6_order) (pc := 23) dX6_order_23 ⟨by decide, by decide⟩ ?_
    refine V_icmp_ne (tgt := 33) (Y := mX6_order) (pc := 25) dX6_order_25 (by decide) ⟨by omega, by omega⟩ ⟨by omega, by omega⟩ (fun h_25 => ?_) (fun h_25 => ?_)
    · refine V_aload_n (Y := mX6_order) (pc := 33) dX6_order_33 rfl ?_
      apply V_get (Y := mX6_order) (pc := 34) dX6_order_34 fl_X6_7
      · assumption
      · rfl
      refine V_bipush (Y := mX6_order) (pc := 37) dX6_order_37 ⟨by decide, by decide⟩ ?_
      refine V_aload_n (Y := mX6_order) (pc := 39) dX6_order_39 rfl ?_
      apply V_get (Y := mX6_order) (pc := 40) dX6_order_40 fl_X6_7
      · assumption
      · rfl
      refine V_iconst (Y := mX6_order) (pc := 43) dX6_order_43 ?_
      apply V_iald (Y := mX6_order) (pc := 44) dX6_order_44
      · assumption
      · exact ⟨by omega, by omega⟩
      · omega
      rw [e2]
      refine V_iadd (Y := mX6_order) (pc := 45) dX6_order_45 ?_
      refine V_iload_n (Y := mX6_order) (pc := 46) dX6_order_46 rfl ?_
      apply V_iastW (Y := mX6_order) (pc := 47) dX6_order_47
      · assumption
      · exact ⟨by omega, by omega⟩
      · omega
      intro w_47 h_47 f_47
      have o47 := (f_47 99 (by omega)).trans ho
      refine V_aload_n (Y := mX6_order) (pc := 48) dX6_order_48 rfl ?_
      apply V_get (Y := mX6_order) (pc := 49) dX6_order_49 fl_X6_7
      · assumption
      · rfl
      refine V_iconst (Y := mX6_order) (pc := 52) dX6_order_52 ?_
      refine V_dup2 (Y := mX6_order) (pc := 53) dX6_order_53 rfl rfl ?_
      apply V_iald (Y := mX6_order) (pc := 54) dX6_order_54
      · assumption
      · exact ⟨by omega, by omega⟩
      · omega
      rw [va_up_ne _ _ (by omega), e2]
      refine V_iconst (Y := mX6_order) (pc := 55) dX6_order_55 ?_
      refine V_iadd (Y := mX6_order) (pc := 56) dX6_order_56 ?_
      apply V_iastW (Y := mX6_order) (pc := 57) dX6_order_57
      · assumption
      · exact ⟨by omega, by omega⟩
      · omega
      intro w_57 h_57 f_57
      have o57 := (f_57 99 (by omega)).trans o47
      refine V_aload_n (Y := mX6_order) (pc := 58) dX6_order_58 rfl ?_
      apply V_get (Y := mX6_order) (pc := 59) dX6_order_59 fl_X6_7
      · assumption
      · rfl
      refine V_iconst (Y := mX6_order) (pc := 62) dX6_order_62 ?_
      apply V_iald (Y := mX6_order) (pc := 63) dX6_order_63
      · assumption
      · exact ⟨by omega, by omega⟩
      · omega
      rw [va_up_self]
      refine V_iconst (Y := mX6_order) (pc := 64) dX6_order_64 ?_
      refine V_isub (Y := mX6_order) (pc := 65) dX6_order_65 ?_
      refine V_iret (Y := mX6_order) (pc := 66) dX6_order_66 rfl (Nat.le_of_ble_eq_true rfl) (Nat.le_of_ble_eq_true rfl) ?_
      rw [show fOrder (n, now, ca, po, fo, rs) g = (((rs 5).length : Int), (n, now, ca, po, fo, va_up rs 5 (rs 5 ++ [g]))) from (if_neg (by omega)).trans (if_neg (by show ¬ 6 ≤ (rs 5).length; omega))]
      refine pI_of ⟨by show ((rs 5).length : Int) + 1 - 1 = (rs 5).length; omega, MK.tq0 ⟨⟨_, _, _, _, _, _, _, _, o57⟩, ⟨_, h_57, BkOf.order hB (by rw [app_len]; omega) ?_ (fun o q1 q2 => ?_) (fun i q1 q2 => ?_)⟩, hr.keep ((f_57 _ (by omega)).trans (f_47 _ (by omega))), hq⟩ (by omega), fun j a b => (f_57 j a).trans (f_47 j a)⟩
      · rw [show (2 : Nat) = (2 : Int).toNat from rfl, va_up_self, app_len]; omega
      · rw [app_len] at q2
        rw [va_up_ne _ _ (by omega), rAt_app q1 (by omega)]
        by_cases ho : o = (rs 5).length
        · rw [if_pos ho, ho, va_up_self]
        · rw [if_neg ho, va_up_ne _ _ (by omega)]; exact hB.2.2.2.2.1 o q1 (by omega)
      · rw [va_up_ne _ _ (by omega), va_up_ne _ _ (by omega)]
    · refine V_aload_n (Y := mX6_order) (pc := 28) dX6_order_28 rfl ?_
      apply V_vI (Y := mX6_order) (pc := 29) dX6_order_29 ok_X6_full ov_X6_full ln_X6_91 (cm_full ho hr hq)
      · assumption
      · rfl
      · rfl
      · rfl
      · rfl
      · rfl
      rintro z_9 w_9 ⟨hz2, g1, f1⟩
      subst hz2
      refine V_iret (Y := mX6_order) (pc := 32) dX6_order_32 rfl (Nat.le_of_ble_eq_true rfl) (Nat.le_of_ble_eq_true rfl) ?_
      rw [show fOrder (n, now, ca, po, fo, rs) g = (-4, (n, now, ca, po, fo, rs)) from (if_neg (by omega)).trans (if_pos (by show 6 ≤ (rs 5).length; omega))]
      exact pI_of ⟨rfl, ⟨⟨_, _, _, _, _, _, _, _, (f1 _ (by omega)).trans ho⟩, ⟨f, (f1 _ (by omega)).trans hb0, hB⟩, g1, hq⟩, fun j a b => f1 j b⟩
  · refine V_aload_n (Y := mX6_order) (pc := 12) dX6_order_12 rfl ?_
    apply V_vI (Y := mX6_order) (pc := 13) dX6_order_13 ok_X6_bad ov_X6_bad ln_X6_79 (cm_bad ho hr hq)
    · assumption
    · rfl
    · rfl
    · rfl
    · rfl
    · rfl
    rintro z_9 w_9 ⟨hz2, g1, f1⟩
    subst hz2
    refine V_iret (Y := mX6_order) (pc := 16) dX6_order_16 rfl (Nat.le_of_ble_eq_true rfl) (Nat.le_of_ble_eq_true rfl) ?_
    rw [show fOrder (n, now, ca, po, fo, rs) g = (-2, (n, now, ca, po, fo, rs)) from if_pos (by omega)]
    exact pI_of ⟨rfl, ⟨⟨_, _, _, _, _, _, _, _, (f1 _ (by omega)).trans ho⟩, ⟨f, (f1 _ (by omega)).trans hb0, hB⟩, g1, hq⟩, fun j a b => f1 j b⟩
set_option maxRecDepth 100000 in
theorem cm_sight {d s : Int} (hK : MK w qt (n, now, ca, po, fo, rs) rb rn rf) (hG : vGood (n, now, ca, po, fo, rs)) (hd : inR d) (hs : inR s) : Ctr mX6_sight (rm 3) [.ref 99, vI d, vI s] nn w (pI (fun r w' => r = (fSight (n, now, ca, po, fo, rs) d s).1 ∧ MK w' qt (fSight (n, now, ca, po, fo, rs) d s).2 (tq qt (-2) r rb) (tq qt (-3) r rn) (tq qt (-4) r rf) ∧ frB w w') nn) := by
  refine Ctr_of (lv := [some (.ref 99), some (vI d), some (vI s)]) (by decide +kernel) rfl rfl ?_
  have hM := hK.ms
  obtain ⟨⟨ty, a0, sp, tk, vl, mn, fd, sv, ho⟩, ⟨f, hb0, hB⟩, hr, hq⟩ := hK
  obtain ⟨hn, hnow, hca, hpo, hfo, hgd, hcv, hor, hsg, hpast⟩ := hG.un
  have hB : BkOf f n now ca po fo rs := hB
  have e3 : f (3 : Int).toNat = (rs 6).length := hB.1.1.2.2.2
  have hl := hB.2.1
  have hl7 := hsg.1
  refine V_aload_n (Y := mX6_sight) (pc := 0) dX6_sight_0 rfl ?_
  refine V_iload_n (Y := mX6_sight) (pc := 1) dX6_sight_1 rfl ?_
  apply V_vR (Y := mX6_sight) (pc := 2) dX6_sight_2 ok_X6_isDrawer ov_X6_isDrawer ln_X6_83 (cm_isDrawer (d := d) hM hn hd)
  · assumption
  · rfl
  · rfl
  · rfl
  · rfl
  · rfl
  refine V_if_eqB (tgt := 16) (Y := mX6_sight) (pc := 5) dX6_sight_5 (by decide) (fun h_5 => ?_) (fun h_5 => ?_)
  · refine V_aload_n (Y := mX6_sight) (pc := 16) dX6_sight_16 rfl ?_
    apply V_vI (Y := mX6_sight) (pc := 17) dX6_sight_17 ok_X6_bad ov_X6_bad ln_X6_79 (cm_bad ho hr hq)
    · assumption
    · rfl
    · rfl
    · rfl
    · rfl
    · rfl
    rintro z_9 w_9 ⟨hz2, g1, f1⟩
    subst hz2
    refine V_iret (Y := mX6_sight) (pc := 20) dX6_sight_20 rfl (Nat.le_of_ble_eq_true rfl) (Nat.le_of_ble_eq_true rfl) ?_
    rw [show fSight (n, now, ca, po, fo, rs) d s = (-2, (n, now, ca, po, fo, rs)) from if_pos (fun q => by first | exact h_5 q.1 | exact h_13 q.2)]
    exact pI_of ⟨rfl, ⟨⟨_, _, _, _, _, _, _, _, (f1 _ (by omega)).trans ho⟩, ⟨f, (f1 _ (by omega)).trans hb0, hB⟩, g1, hq⟩, fun j a b => f1 j b⟩
  · refine V_aload_n (Y := mX6_sight) (pc := 8) dX6_sight_8 rfl ?_
    refine V_iload_n (Y := mX6_sight) (pc := 9) dX6_sight_9 rfl ?_
    apply V_vR (Y := mX6_sight) (pc := 10) dX6_sight_10 ok_X6_isState ov_X6_isState ln_X6_186 (cm_isState (s := s) hM hn hs)
    · assumption
    · rfl
    · rfl
    · rfl
    · rfl
    · rfl
    refine V_if_neB (tgt := 21) (Y := mX6_sight) (pc := 13) dX6_sight_13 (by decide) (fun h_13 => ?_) (fun h_13 => ?_)
    · refine V_aload_n (Y := mX6_sight) (pc := 21) dX6_sight_21 rfl ?_
      apply V_get (Y := mX6_sight) (pc := 22) dX6_sight_22 fl_X6_7
      · assumption
      · rfl
      refine V_iconst (Y := mX6_sight) (pc := 25) dX6_sight_25 ?_
      apply V_iald (Y := mX6_sight) (pc := 26) dX6_sight_26
      · assumption
      · exact ⟨by omega, by omega⟩
      · omega
      rw [e3]
      refine V_bipush (Y := mX6_sight) (pc := 27) dX6_sight_27 ⟨by decide, by decide⟩ ?_
      refine V_icmp_ne (tgt := 37) (Y := mX6_sight) (pc := 29) dX6_sight_29 (by decide) ⟨by omega, by omega⟩ ⟨by omega, by omega⟩ (fun h_29 => ?_) (fun h_29 => ?_)
      · refine V_aload_n (Y := mX6_sight) (pc := 37) dX6_sight_37 rfl ?_
        apply V_get (Y := mX6_sight) (pc := 38) dX6_sight_38 fl_X6_7
        · assumption
        · rfl
        refine V_bipush (Y := mX6_sight) (pc := 41) dX6_sight_41 ⟨by decide, by decide⟩ ?_
        refine V_iconst (Y := mX6_sight) (pc := 43) dX6_sight_43 ?_
        refine V_aload_n (Y := mX6_sight) (pc := 44) dX6_sight_44 rfl ?_
        apply V_get (Y := mX6_sight) (pc := 45) dX6_sight_45 fl_X6_7
        · assumption
        · rfl
        refine V_iconst (Y := mX6_sight) (pc := 48) dX6_sight_48 ?_
        apply V_iald (Y := mX6_sight) (pc := 49) dX6_sight_49
        · assumption
        · exact ⟨by omega, by omega⟩
        · omega
        rw [e3]
        refine V_imul (Y := mX6_sight) (pc := 50) dX6_sight_50 ?_
        refine V_iadd (Y := mX6_sight) (pc := 51) dX6_sight_51 ?_
        refine V_iload_n (Y := mX6_sight) (pc := 52) dX6_sight_52 rfl ?_
        apply V_iastW (Y := mX6_sight) (pc := 53) dX6_sight_53
        · assumption
        · exact ⟨by omega, by omega⟩
        · omega
        intro w_53 h_53 f_53
        have o53 := (f_53 99 (by omega)).trans ho
        refine V_aload_n (Y := mX6_sight) (pc := 54) dX6_sight_54 rfl ?_
        apply V_get (Y := mX6_sight) (pc := 55) dX6_sight_55 fl_X6_7
        · assumption
        · rfl
        refine V_bipush (Y := mX6_sight) (pc := 58) dX6_sight_58 ⟨by decide, by decide⟩ ?_
        refine V_iconst (Y := mX6_sight) (pc := 60) dX6_sight_60 ?_
        refine V_aload_n (Y := mX6_sight) (pc := 61) dX6_sight_61 rfl ?_
        apply V_get (Y := mX6_sight) (pc := 62) dX6_sight_62 fl_X6_7
        · assumption
        · rfl
        refine V_iconst (Y := mX6_sight) (pc := 65) dX6_sight_65 ?_
        apply V_iald (Y := mX6_sight) (pc := 66) dX6_sight_66
        · assumption
        · exact ⟨by omega, by omega⟩
        · omega
        rw [va_up_ne _ _ (by omega), e3]
        refine V_imul (Y := mX6_sight) (pc := 67) dX6_sight_67 ?_
        refine V_iadd (Y := mX6_sight) (pc := 68) dX6_sight_68 ?_
        refine V_iconst (Y := mX6_sight) (pc := 69) dX6_sight_69 ?_
        refine V_iadd (Y := mX6_sight) (pc := 70) dX6_sight_70 ?_
        refine V_iload_n (Y := mX6_sight) (pc := 71) dX6_sight_71 rfl ?_
        apply V_iastW (Y := mX6_sight) (pc := 72) dX6_sight_72
        · assumption
        · exact ⟨by omega, by omega⟩
        · omega
        intro w_72 h_72 f_72
        have o72 := (f_72 99 (by omega)).trans o53
        refine V_aload_n (Y := mX6_sight) (pc := 73) dX6_sight_73 rfl ?_
        apply V_get (Y := mX6_sight) (pc := 74) dX6_sight_74 fl_X6_7
        · assumption
        · rfl
        refine V_iconst (Y := mX6_sight) (pc := 77) dX6_sight_77 ?_
        refine V_dup2 (Y := mX6_sight) (pc := 78) dX6_sight_78 rfl rfl ?_
        apply V_iald (Y := mX6_sight) (pc := 79) dX6_sight_79
        · assumption
        · exact ⟨by omega, by omega⟩
        · omega
        rw [va_up_ne _ _ (by omega), va_up_ne _ _ (by omega), e3]
        refine V_iconst (Y := mX6_sight) (pc := 80) dX6_sight_80 ?_
        refine V_iadd (Y := mX6_sight) (pc := 81) dX6_sight_81 ?_
        apply V_iastW (Y := mX6_sight) (pc := 82) dX6_sight_82
        · assumption
        · exact ⟨by omega, by omega⟩
        · omega
        intro w_82 h_82 f_82
        have o82 := (f_82 99 (by omega)).trans o72
        refine V_aload_n (Y := mX6_sight) (pc := 83) dX6_sight_83 rfl ?_
        apply V_get (Y := mX6_sight) (pc := 84) dX6_sight_84 fl_X6_7
        · assumption
        · rfl
        refine V_iconst (Y := mX6_sight) (pc := 87) dX6_sight_87 ?_
        apply V_iald (Y := mX6_sight) (pc := 88) dX6_sight_88
        · assumption
        · exact ⟨by omega, by omega⟩
        · omega
        rw [va_up_self]
        refine V_iconst (Y := mX6_sight) (pc := 89) dX6_sight_89 ?_
        refine V_isub (Y := mX6_sight) (pc := 90) dX6_sight_90 ?_
        refine V_iret (Y := mX6_sight) (pc := 91) dX6_sight_91 rfl (Nat.le_of_ble_eq_true rfl) (Nat.le_of_ble_eq_true rfl) ?_
        rw [show fSight (n, now, ca, po, fo, rs) d s = (((rs 6).length : Int), (n, now, ca, po, fo, va_up (va_up rs 6 (rs 6 ++ [d])) 7 (rs 7 ++ [s]))) from (if_neg (fun q => q ⟨h_5, h_13⟩)).trans (if_neg (by show ¬ 8 ≤ (rs 6).length; omega))]
        refine pI_of ⟨by show ((rs 6).length : Int) + 1 - 1 = (rs 6).length; omega, MK.tq0 ⟨⟨_, _, _, _, _, _, _, _, o82⟩, ⟨_, h_82, BkOf.sight hB (by rw [app_len]; omega) ?_ (fun o q1 q2 => ?_) (fun i q1 q2 => ?_)⟩, hr.keep ((f_82 _ (by omega)).trans ((f_72 _ (by omega)).trans (f_53 _ (by omega)))), hq⟩ (by omega), fun j a b => (f_82 j a).trans ((f_72 j a).trans (f_53 j a))⟩
        · rw [show (3 : Nat) = (3 : Int).toNat from rfl, va_up_self, app_len]; omega
        · rw [app_len] at q2
          rw [rAt_app q1 (by omega), rAt_app q1 (by omega), hl7]
          by_cases ho : o = (rs 6).length
          · rw [if_pos ho, if_pos ho, ho]
            constructor
            · rw [va_up_ne _ _ (by omega), va_up_ne _ _ (by omega), va_up_self]
            · rw [va_up_ne _ _ (by omega), va_up_self]
          · rw [if_neg ho, if_neg ho]
            have q := hB.2.2.2.2.2.1 o q1 (by omega)
            constructor
            · rw [va_up_ne _ _ (by omega), va_up_ne _ _ (by omega), va_up_ne _ _ (by omega)]; exact q.1
            · rw [va_up_ne _ _ (by omega), va_up_ne _ _ (by omega), va_up_ne _ _ (by omega)]; exact q.2
        · rw [va_up_ne _ _ (by omega), va_up_ne _ _ (by omega), va_up_ne _ _ (by omega)]
      · refine V_aload_n (Y := mX6_sight) (pc := 32) dX6_sight_32 rfl ?_
        apply V_vI (Y := mX6_sight) (pc := 33) dX6_sight_33 ok_X6_full ov_X6_full ln_X6_91 (cm_full ho hr hq)
        · assumption
        · rfl
        · rfl
        · rfl
        · rfl
        · rfl
        rintro z_9 w_9 ⟨hz2, g1, f1⟩
        subst hz2
        refine V_iret (Y := mX6_sight) (pc := 36) dX6_sight_36 rfl (Nat.le_of_ble_eq_true rfl) (Nat.le_of_ble_eq_true rfl) ?_
        rw [show fSight (n, now, ca, po, fo, rs) d s = (-4, (n, now, ca, po, fo, rs)) from (if_neg (fun q => q ⟨h_5, h_13⟩)).trans (if_pos (by show 8 ≤ (rs 6).length; omega))]
        exact pI_of ⟨rfl, ⟨⟨_, _, _, _, _, _, _, _, (f1 _ (by omega)).trans ho⟩, ⟨f, (f1 _ (by omega)).trans hb0, hB⟩, g1, hq⟩, fun j a b => f1 j b⟩
    · refine V_aload_n (Y := mX6_sight) (pc := 16) dX6_sight_16 rfl ?_
      apply V_vI (Y := mX6_sight) (pc := 17) dX6_sight_17 ok_X6_bad ov_X6_bad ln_X6_79 (cm_bad ho hr hq)
      · assumption
      · rfl
      · rfl
      · rfl
      · rfl
      · rfl
      rintro z_9 w_9 ⟨hz2, g1, f1⟩
      subst hz2
      refine V_iret (Y := mX6_sight) (pc := 20) dX6_sight_20 rfl (Nat.le_of_ble_eq_true rfl) (Nat.le_of_ble_eq_true rfl) ?_
      rw [show fSight (n, now, ca, po, fo, rs) d s = (-2, (n, now, ca, po, fo, rs)) from if_pos (fun q => by first | exact h_5 q.1 | exact h_13 q.2)]
      exact pI_of ⟨rfl, ⟨⟨_, _, _, _, _, _, _, _, (f1 _ (by omega)).trans ho⟩, ⟨f, (f1 _ (by omega)).trans hb0, hB⟩, g1, hq⟩, fun j a b => f1 j b⟩
set_option maxRecDepth 100000 in
theorem cn_none {a : Int} (hK : MK w qt (n, now, ca, po, fo, rs) rb rn rf) (ha : inR a) : Ctr mX6_none (rm 2) [.ref 99, vI a] nn w (pI (fun r w' => r = (fNone (n, now, ca, po, fo, rs) a).1 ∧ MK w' qt (fNone (n, now, ca, po, fo, rs) a).2 (tq qt (-2) r rb) (tq qt (-3) r rn) (tq qt (-4) r rf) ∧ frB w w') nn) := by
  refine Ctr_of (lv := [some (.ref 99), some (vI a), none]) (by decide +kernel) rfl rfl ?_
  obtain ⟨⟨ty, a0, sp, tk, vl, mn, fd, sv, ho⟩, ⟨f, hb0, hB⟩, hr, hq⟩ := hK
  have hB : BkOf f n now ca po fo rs := hB
  refine V_iload_n (Y := mX6_none) (pc := 0) dX6_none_0 rfl ?_
  refine V_i2l (Y := mX6_none) (pc := 1) dX6_none_1 ha ?_
  refine V_lconst (Y := mX6_none) (pc := 2) dX6_none_2 ?_
  refine V_lconst (Y := mX6_none) (pc := 3) dX6_none_3 ?_
  apply V_sR (Y := mX6_none) (pc := 4) dX6_none_4 ok_X6_in os_X6_in ln_X6_56 (cm_in (a := a) (b := 0) (c := 1) ha ⟨by omega, by omega⟩ ⟨by omega, by omega⟩)
  · rfl
  · rfl
  · rfl
  refine V_if_neB (tgt := 15) (Y := mX6_none) (pc := 7) dX6_none_7 (by decide) (fun h_7 => ?_) (fun h_7 => ?_)
  · refine V_aload_n (Y := mX6_none) (pc := 15) dX6_none_15 rfl ?_
    apply V_get (Y := mX6_none) (pc := 16) dX6_none_16 fl_X6_7
    · assumption
    · rfl
    refine V_iconst (Y := mX6_none) (pc := 19) dX6_none_19 ?_
    refine V_iload_n (Y := mX6_none) (pc := 20) dX6_none_20 rfl ?_
    refine V_iadd (Y := mX6_none) (pc := 21) dX6_none_21 ?_
    apply V_iald (Y := mX6_none) (pc := 22) dX6_none_22
    · assumption
    · exact ⟨by omega, by omega⟩
    · omega
    refine V_istore_n (Y := mX6_none) (pc := 23) dX6_none_23 rfl ?_
    refine V_aload_n (Y := mX6_none) (pc := 24) dX6_none_24 rfl ?_
    apply V_get (Y := mX6_none) (pc := 25) dX6_none_25 fl_X6_7
    · assumption
    · rfl
    refine V_iconst (Y := mX6_none) (pc := 28) dX6_none_28 ?_
    refine V_iload_n (Y := mX6_none) (pc := 29) dX6_none_29 rfl ?_
    refine V_iadd (Y := mX6_none) (pc := 30) dX6_none_30 ?_
    refine V_iconst (Y := mX6_none) (pc := 31) dX6_none_31 ?_
    apply V_iastW (Y := mX6_none) (pc := 32) dX6_none_32
    · assumption
    · exact ⟨by omega, by omega⟩
    · omega
    intro w_32 h_32 f_32
    refine V_iload_n (Y := mX6_none) (pc := 33) dX6_none_33 rfl ?_
    refine V_iret (Y := mX6_none) (pc := 34) dX6_none_34 rfl (Nat.le_of_ble_eq_true rfl) (Nat.le_of_ble_eq_true rfl) ?_
    rcases (show a = 0 ∨ a = 1 by omega) with rfl | rfl
    · rw [show fNone (n, now, ca, po, fo, rs) 0 = (((rs 5).length : Int), (n, now, ca, po, fo, va_up rs 5 [])) from (if_neg (by omega)).trans (if_pos rfl)]
      have e5 : f (2 + 0 : Int).toNat = (rs 5).length := hB.1.1.2.2.1
      rw [e5]
      refine pI_of ⟨rfl, MK.tq0 ⟨⟨_, _, _, _, _, _, _, _, (f_32 _ (by omega)).trans ho⟩, ⟨_, h_32, BkOf.order hB (by simp) ?_ (fun o q1 q2 => ?_) (fun i q1 q2 => ?_)⟩, hr.keep (f_32 _ (by omega)), hq⟩ (by omega), fun j a b => f_32 j a⟩
      · rw [show (2 : Nat) = (2 + 0 : Int).toNat from rfl, va_up_self]; rfl
      · have q2 : o < (0 : Nat) := q2
        omega
      · rw [va_up_ne _ _ (by omega)]
    · rw [show fNone (n, now, ca, po, fo, rs) 1 = (((rs 6).length : Int), (n, now, ca, po, fo, va_up (va_up rs 6 []) 7 [])) from (if_neg (by omega)).trans (if_neg (by omega))]
      have e5 : f (2 + 1 : Int).toNat = (rs 6).length := hB.1.1.2.2.2
      rw [e5]
      refine pI_of ⟨rfl, MK.tq0 ⟨⟨_, _, _, _, _, _, _, _, (f_32 _ (by omega)).trans ho⟩, ⟨_, h_32, BkOf.sight hB (by simp) ?_ (fun o q1 q2 => ?_) (fun i q1 q2 => ?_)⟩, hr.keep (f_32 _ (by omega)), hq⟩ (by omega), fun j a b => f_32 j a⟩
      · rw [show (3 : Nat) = (2 + 1 : Int).toNat from rfl, va_up_self]; rfl
      · have q2 : o < (0 : Nat) := q2
        omega
      · rw [va_up_ne _ _ (by omega)]
  · refine V_aload_n (Y := mX6_none) (pc := 10) dX6_none_10 rfl ?_
    apply V_vI (Y := mX6_none) (pc := 11) dX6_none_11 ok_X6_bad ov_X6_bad ln_X6_79 (cm_bad ho hr hq)
    · assumption
    · rfl
    · rfl
    · rfl
    · rfl
    · rfl
    rintro z_9 w_9 ⟨hz2, g1, f1⟩
    subst hz2
    refine V_iret (Y := mX6_none) (pc := 14) dX6_none_14 rfl (Nat.le_of_ble_eq_true rfl) (Nat.le_of_ble_eq_true rfl) ?_
    rw [show fNone (n, now, ca, po, fo, rs) a = (-2, (n, now, ca, po, fo, rs)) from if_pos (by omega)]
    exact pI_of ⟨rfl, ⟨⟨_, _, _, _, _, _, _, _, (f1 _ (by omega)).trans ho⟩, ⟨f, (f1 _ (by omega)).trans hb0, hB⟩, g1, hq⟩, fun j a b => f1 j b⟩
end MOD
