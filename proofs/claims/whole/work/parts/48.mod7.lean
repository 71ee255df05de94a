/-! ===== DrawerWallModel: the digest, images, the text ===== -/
theorem sgn32 (x : BitVec 64) : x.signExtend 32 = x.setWidth 32 := BitVec.signExtend_eq_setWidth_of_le x (by decide)
theorem shM1 : ∀ k, k < 8 → (((iI (8 * ((k : Nat) : Int))).toInt64 &&& 63).toBitVec.smod 64).toNat = 8 * k := by decide +kernel
theorem shM2 : ∀ k, k < 8 → (((iI (8 * ((k : Nat) : Int))).toInt64.toUInt64 &&& Int64.toUInt64 63).toBitVec % 64).toNat = 8 * k := by decide +kernel
theorem b255a : ∀ i, i < 64 → (lI 255).toBitVec.getLsbD i = decide (i < 8) := by decide +kernel
theorem b255b : ∀ i, i < 32 → (iI 255).toBitVec.getLsbD i = decide (i < 8) := by decide +kernel
theorem byM (v : Int64) (k : Nat) (hk : k < 8) : ((v >>> ((iI (8 * (k : Int))).toInt64 &&& 63)) &&& lI 255).toInt32 = byC v k := by
  rw [← Int32.toBitVec_inj]
  apply BitVec.eq_of_getLsbD_eq
  intro i hi
  show (((v.toBitVec.sshiftRight' (((iI (8 * (k : Int))).toInt64 &&& 63).toBitVec.smod 64)) &&& (lI 255).toBitVec).signExtend 32).getLsbD i = (((v.toBitVec >>> (((iI (8 * (k : Int))).toInt64.toUInt64 &&& Int64.toUInt64 63).toBitVec % 64)).signExtend 32) &&& (iI 255).toBitVec).getLsbD i
  rw [sgn32, sgn32, BitVec.sshiftRight', shM1 k hk, BitVec.getLsbD_setWidth, BitVec.getLsbD_and, BitVec.getLsbD_and, BitVec.getLsbD_setWidth, b255a i (by omega), b255b i hi, BitVec.getLsbD_sshiftRight]
  rw [show v.toBitVec >>> (((iI (8 * (k : Int))).toInt64.toUInt64 &&& Int64.toUInt64 63).toBitVec % 64) = v.toBitVec >>> ((((iI (8 * (k : Int))).toInt64.toUInt64 &&& Int64.toUInt64 63).toBitVec % 64).toNat) from rfl, shM2 k hk, BitVec.getLsbD_ushiftRight]
  by_cases h8 : i < 8
  · rw [if_pos (by omega)]
    simp [hi, h8]
    intro _
    omega
  · simp [h8]
theorem hMx_shift2 (f : Nat → Int) (h : Int) : hMx f h 2 = 31 * (31 * h + f 0) + f 1 := rfl
section MOD
variable {nn : Nat} {w : vWd} {n now : Int} {ca po fo : Nat} {rs : Nat → List Int} {qt : Int} {rb rn rf k0 k1 : Int} {S0 S1 : vSt} {tx : List Int}
theorem dgC_at {f : Nat → Int} (hB : BkOf f n now ca po fo rs) (hG : vGood (n, now, ca, po, fo, rs)) {k : Int} (h0 : 0 ≤ k) (h : k < 4 * (rs 1).length) : f (16 + k).toNat = dgC rs k.toNat ∧ inR (f (16 + k).toNat) := by
  obtain ⟨hn, hnow, hca, hpo, hfo, hgd, hcv, hor, hsg, hpast⟩ := hG.un
  obtain ⟨b1, b2, b3, b4⟩ := hB.2.2.2.1 (k / 4) (by omega) (by omega)
  have hc := hcv.2 (k / 4) (by omega) (by omega)
  have ek : ((k.toNat / 4 : Nat) : Int) = k / 4 := by omega
  have key : f (16 + k).toNat = dgC rs k.toNat := by
    unfold dgC fl4
    dsimp only
    rw [ek]
    split
    · rw [← b1]; congr 1; omega
    · split
      · rw [← b2]; congr 1; omega
      · split
        · rw [← b3]; congr 1; omega
        · rw [← b4]; congr 1; omega
  refine ⟨key, ?_⟩
  rw [key]
  unfold dgC fl4
  dsimp only
  rw [ek]
  split
  · exact ⟨by omega, by omega⟩
  · split
    · exact ⟨by omega, by omega⟩
    · split
      · exact ⟨by omega, by omega⟩
      · exact ⟨by omega, by omega⟩
theorem dgO_at {f : Nat → Int} (hB : BkOf f n now ca po fo rs) (hG : vGood (n, now, ca, po, fo, rs)) {k : Int} (h0 : 0 ≤ k) (h : k < (rs 5).length) : f (56 + k).toNat = dgO rs k.toNat ∧ inR (f (56 + k).toNat) := by
  obtain ⟨hn, hnow, hca, hpo, hfo, hgd, hcv, hor, hsg, hpast⟩ := hG.un
  have b := hB.2.2.2.2.1 k h0 h
  have c := hor k h0 h
  refine ⟨by rw [b, dgO, show ((k.toNat : Nat) : Int) = k by omega], ?_⟩
  rw [b]; exact ⟨by omega, by omega⟩
theorem dgS_at {f : Nat → Int} (hB : BkOf f n now ca po fo rs) (hG : vGood (n, now, ca, po, fo, rs)) {k : Int} (h0 : 0 ≤ k) (h : k < 2 * (rs 6).length) : f (62 + k).toNat = dgS rs k.toNat ∧ inR (f (62 + k).toNat) := by
  obtain ⟨hn, hnow, hca, hpo, hfo, hgd, hcv, hor, hsg, hpast⟩ := hG.un
  obtain ⟨b1, b2⟩ := hB.2.2.2.2.2.1 (k / 2) (by omega) (by omega)
  have c := hsg.2 (k / 2) (by omega) (by omega)
  have hp := p3_le n.toNat (by omega)
  have ek : ((k.toNat / 2 : Nat) : Int) = k / 2 := by omega
  have key : f (62 + k).toNat = dgS rs k.toNat := by
    unfold dgS fl2
    dsimp only
    rw [ek]
    split
    · rw [← b1]; congr 1; omega
    · rw [← b2]; congr 1; omega
  refine ⟨key, ?_⟩
  rw [key]
  unfold dgS fl2
  dsimp only
  rw [ek]
  split
  · exact ⟨by omega, by omega⟩
  · exact ⟨by omega, by omega⟩
set_option maxRecDepth 100000 in
theorem lpm_dig2 {h0 : Int} (hK : MK w 0 (n, now, ca, po, fo, rs) rb rn rf) (hG : vGood (n, now, ca, po, fo, rs)) : ∀ (m : Nat) (i : Int), 0 ≤ i → i + m = n →
    V mX6_digest (rm 1) (pR (vJ (dg2 n ca po fo rs h0)) nn w) 33 [some (.ref 99), some (vJ (hMx (dgD ca rs) h0 (2 * i.toNat))), none, some (vI i)] [] nn w 0 0 := by
  obtain ⟨hn, hnow, hca, hpo, hfo, hgd, hcv, hor, hsg, hpast⟩ := hG.un
  obtain ⟨⟨ty, a0, sp, tk, vl, mn, fd, sv, ho⟩, ⟨f, hb, hB⟩, -⟩ := hK
  have hB : BkOf f n now ca po fo rs := hB
  have e0 : f (0 : Int).toNat = n := hB.1.1.1
  have e1 : f (1 : Int).toNat = (rs 1).length := hB.1.1.2.1
  have e2 : f (2 : Int).toNat = (rs 5).length := hB.1.1.2.2.1
  have e3 : f (3 : Int).toNat = (rs 6).length := hB.1.1.2.2.2
  have e4 : f (4 : Int).toNat = (ca : Int) := hB.1.2.1
  have hl := hB.2.1
  have hob : ∃ qt ty a0 sp tk vl mn fd sv : Int, w 99 = some (mO qt ty a0 sp tk vl mn fd sv) := ⟨_, _, _, _, _, _, _, _, _, ho⟩
  intro m
  induction m with
  | zero =>
    intro i hi him
    have hin : i = n := by omega
    rw [hin]
    have q1 : ∀ h : Int, hMx (fun k => f (16 + (k : Int)).toNat) h (4 * ((rs 1).length : Int)).toNat = hMx (dgC rs) h (4 * (rs 1).length) := fun h => by
      rw [show (4 * ((rs 1).length : Int)).toNat = 4 * (rs 1).length by omega]
      exact hMx_congr _ (fun k hk => (dgC_at hB hG (k := (k : Int)) (by omega) (by omega)).1)
    have q2 : ∀ h : Int, hMx (fun k => f (5 + (k : Int)).toNat) h (2 : Int).toNat = 31 * (31 * h + (po : Int)) + (fo : Int) := fun h => by
      have p5 : f (5 + ((0 : Nat) : Int)).toNat = (po : Int) := hB.1.2.2.1
      have p6 : f (5 + ((1 : Nat) : Int)).toNat = (fo : Int) := hB.1.2.2.2.1
      rw [show (2 : Int).toNat = 2 from rfl, hMx_shift2, p5, p6]
    have q3 : ∀ h : Int, hMx (fun k => f (56 + (k : Int)).toNat) h ((rs 5).length : Int).toNat = hMx (dgO rs) h (rs 5).length := fun h => by
      rw [show ((rs 5).length : Int).toNat = (rs 5).length by omega]
      exact hMx_congr _ (fun k hk => (dgO_at hB hG (k := (k : Int)) (by omega) (by omega)).1)
    have q4 : ∀ h : Int, hMx (fun k => f (62 + (k : Int)).toNat) h (2 * ((rs 6).length : Int)).toNat = hMx (dgS rs) h (2 * (rs 6).length) := fun h => by
      rw [show (2 * ((rs 6).length : Int)).toNat = 2 * (rs 6).length by omega]
      exact hMx_congr _ (fun k hk => (dgS_at hB hG (k := (k : Int)) (by omega) (by omega)).1)
    refine V_iload_n (Y := mX6_digest) (pc := 33) dX6_digest_33 rfl ?_
    refine V_aload_n (Y := mX6_digest) (pc := 34) dX6_digest_34 rfl ?_
    apply V_get (Y := mX6_digest) (pc := 35) dX6_digest_35 fl_X6_7
    · assumption
    · rfl
    refine V_iconst (Y := mX6_digest) (pc := 38) dX6_digest_38 ?_
    apply V_iald (Y := mX6_digest) (pc := 39) dX6_digest_39
    · assumption
    · exact ⟨by omega, by omega⟩
    · omega
    rw [e0]
    refine V_icmp_ge (tgt := 82) (Y := mX6_digest) (pc := 40) dX6_digest_40 (by decide) ⟨by omega, by omega⟩ ⟨by omega, by omega⟩ (fun h_40 => ?_) (fun h_40 => absurd h_40 (by omega))
    refine V_aload_n (Y := mX6_digest) (pc := 82) dX6_digest_82 rfl ?_
    refine V_lload_n (Y := mX6_digest) (pc := 83) dX6_digest_83 rfl ?_
    refine V_bipush (Y := mX6_digest) (pc := 84) dX6_digest_84 ⟨by decide, by decide⟩ ?_
    refine V_iconst (Y := mX6_digest) (pc := 86) dX6_digest_86 ?_
    refine V_aload_n (Y := mX6_digest) (pc := 87) dX6_digest_87 rfl ?_
    apply V_get (Y := mX6_digest) (pc := 88) dX6_digest_88 fl_X6_7
    · assumption
    · rfl
    refine V_iconst (Y := mX6_digest) (pc := 91) dX6_digest_91 ?_
    apply V_iald (Y := mX6_digest) (pc := 92) dX6_digest_92
    · assumption
    · exact ⟨by omega, by omega⟩
    · omega
    rw [e1]
    refine V_imul (Y := mX6_digest) (pc := 93) dX6_digest_93 ?_
    apply V_vR (Y := mX6_digest) (pc := 94) dX6_digest_94 ok_X6_mixed ov_X6_mixed ln_X6_239 (cm_mixed (h0 := hMx (dgD ca rs) h0 (2 * n.toNat)) (at0 := 16) (N := 4 * ((rs 1).length : Int)) hob hb (by omega) ⟨by omega, by omega⟩ (fun k a b => (dgC_at hB hG a b).2))
    · assumption
    · rfl
    · rfl
    · rfl
    · rfl
    · rfl
    rw [q1]
    refine V_lstore_n (Y := mX6_digest) (pc := 97) dX6_digest_97 rfl (by decide) ?_
    refine V_aload_n (Y := mX6_digest) (pc := 98) dX6_digest_98 rfl ?_
    refine V_lload_n (Y := mX6_digest) (pc := 99) dX6_digest_99 rfl ?_
    refine V_iconst (Y := mX6_digest) (pc := 100) dX6_digest_100 ?_
    refine V_iconst (Y := mX6_digest) (pc := 101) dX6_digest_101 ?_
    apply V_vR (Y := mX6_digest) (pc := 102) dX6_digest_102 ok_X6_mixed ov_X6_mixed ln_X6_239 (cm_mixed (h0 := hMx (dgC rs) (hMx (dgD ca rs) h0 (2 * n.toNat)) (4 * (rs 1).length)) (at0 := 5) (N := 2) hob hb (by omega) ⟨by omega, by omega⟩ (fun k a b => by rcases (show k = 0 ∨ k = 1 by omega) with rfl | rfl; (have p5 : f (5 + 0 : Int).toNat = (po : Int) := hB.1.2.2.1); (rw [p5]; exact ⟨by omega, by omega⟩); (have p6 : f (5 + 1 : Int).toNat = (fo : Int) := hB.1.2.2.2.1); (rw [p6]; exact ⟨by omega, by omega⟩)))
    · assumption
    · rfl
    · rfl
    · rfl
    · rfl
    · rfl
    rw [q2]
    refine V_lstore_n (Y := mX6_digest) (pc := 105) dX6_digest_105 rfl (by decide) ?_
    refine V_aload_n (Y := mX6_digest) (pc := 106) dX6_digest_106 rfl ?_
    refine V_lload_n (Y := mX6_digest) (pc := 107) dX6_digest_107 rfl ?_
    refine V_bipush (Y := mX6_digest) (pc := 108) dX6_digest_108 ⟨by decide, by decide⟩ ?_
    refine V_aload_n (Y := mX6_digest) (pc := 110) dX6_digest_110 rfl ?_
    apply V_get (Y := mX6_digest) (pc := 111) dX6_digest_111 fl_X6_7
    · assumption
    · rfl
    refine V_iconst (Y := mX6_digest) (pc := 114) dX6_digest_114 ?_
    apply V_iald (Y := mX6_digest) (pc := 115) dX6_digest_115
    · assumption
    · exact ⟨by omega, by omega⟩
    · omega
    rw [e2]
    apply V_vR (Y := mX6_digest) (pc := 116) dX6_digest_116 ok_X6_mixed ov_X6_mixed ln_X6_239 (cm_mixed (h0 := 31 * (31 * hMx (dgC rs) (hMx (dgD ca rs) h0 (2 * n.toNat)) (4 * (rs 1).length) + (po : Int)) + (fo : Int)) (at0 := 56) (N := ((rs 5).length : Int)) hob hb (by omega) ⟨by omega, by omega⟩ (fun k a b => (dgO_at hB hG a b).2))
    · assumption
    · rfl
    · rfl
    · rfl
    · rfl
    · rfl
    rw [q3]
    refine V_lstore_n (Y := mX6_digest) (pc := 119) dX6_digest_119 rfl (by decide) ?_
    refine V_aload_n (Y := mX6_digest) (pc := 120) dX6_digest_120 rfl ?_
    refine V_lload_n (Y := mX6_digest) (pc := 121) dX6_digest_121 rfl ?_
    refine V_bipush (Y := mX6_digest) (pc := 122) dX6_digest_122 ⟨by decide, by decide⟩ ?_
    refine V_iconst (Y := mX6_digest) (pc := 124) dX6_digest_124 ?_
    refine V_aload_n (Y := mX6_digest) (pc := 125) dX6_digest_125 rfl ?_
    apply V_get (Y := mX6_digest) (pc := 126) dX6_digest_126 fl_X6_7
    · assumption
    · rfl
    refine V_iconst (Y := mX6_digest) (pc := 129) dX6_digest_129 ?_
    apply V_iald (Y := mX6_digest) (pc := 130) dX6_digest_130
    · assumption
    · exact ⟨by omega, by omega⟩
    · omega
    rw [e3]
    refine V_imul (Y := mX6_digest) (pc := 131) dX6_digest_131 ?_
    apply V_vR (Y := mX6_digest) (pc := 132) dX6_digest_132 ok_X6_mixed ov_X6_mixed ln_X6_239 (cm_mixed (h0 := hMx (dgO rs) (31 * (31 * hMx (dgC rs) (hMx (dgD ca rs) h0 (2 * n.toNat)) (4 * (rs 1).length) + (po : Int)) + (fo : Int)) (rs 5).length) (at0 := 62) (N := 2 * ((rs 6).length : Int)) hob hb (by omega) ⟨by omega, by omega⟩ (fun k a b => (dgS_at hB hG a b).2))
    · assumption
    · rfl
    · rfl
    · rfl
    · rfl
    · rfl
    rw [q4]
    refine V_lret (Y := mX6_digest) (pc := 135) dX6_digest_135 rfl (Nat.le_of_ble_eq_true rfl) (Nat.le_of_ble_eq_true rfl) ?_
    exact ⟨rfl, rfl, rfl⟩
  | succ m ih =>
    intro i hi him
    have k := ih (i + 1) (by omega) (by omega)
    rw [show (i + 1).toNat = i.toNat + 1 by omega, dgD, hMx_2, show ((i.toNat : Nat) : Int) = i by omega] at k
    have hg1 := hgd.1
    have b1 := hB.2.2.1 i hi (by omega)
    have b2 := hgd.2 i hi (by omega)
    refine V_iload_n (Y := mX6_digest) (pc := 33) dX6_digest_33 rfl ?_
    refine V_aload_n (Y := mX6_digest) (pc := 34) dX6_digest_34 rfl ?_
    apply V_get (Y := mX6_digest) (pc := 35) dX6_digest_35 fl_X6_7
    · assumption
    · rfl
    refine V_iconst (Y := mX6_digest) (pc := 38) dX6_digest_38 ?_
    apply V_iald (Y := mX6_digest) (pc := 39) dX6_digest_39
    · assumption
    · exact ⟨by omega, by omega⟩
    · omega
    rw [e0]
    refine V_icmp_ge (tgt := 82) (Y := mX6_digest) (pc := 40) dX6_digest_40 (by decide) ⟨by omega, by omega⟩ ⟨by omega, by omega⟩ (fun h_40 => absurd h_40 (by omega)) (fun h_40 => ?_)
    refine V_ldc2 (z := (31 : Int)) (Y := mX6_digest) (pc := 43) dX6_digest_43 cl_X6_235 (by decide) ?_
    refine V_ldc2 (z := (31 : Int)) (Y := mX6_digest) (pc := 46) dX6_digest_46 cl_X6_235 (by decide) ?_
    refine V_lload_n (Y := mX6_digest) (pc := 49) dX6_digest_49 rfl ?_
    refine V_lmul (Y := mX6_digest) (pc := 50) dX6_digest_50 ?_
    refine V_aload_n (Y := mX6_digest) (pc := 51) dX6_digest_51 rfl ?_
    apply V_get (Y := mX6_digest) (pc := 52) dX6_digest_52 fl_X6_7
    · assumption
    · rfl
    refine V_iconst (Y := mX6_digest) (pc := 55) dX6_digest_55 ?_
    apply V_iald (Y := mX6_digest) (pc := 56) dX6_digest_56
    · assumption
    · exact ⟨by omega, by omega⟩
    · omega
    rw [e4]
    refine V_iload_n (Y := mX6_digest) (pc := 57) dX6_digest_57 rfl ?_
    refine V_ishr (Y := mX6_digest) (pc := 58) dX6_digest_58 (rfl) ?_
    refine V_iconst (Y := mX6_digest) (pc := 59) dX6_digest_59 ?_
    refine V_iand (Y := mX6_digest) (pc := 60) dX6_digest_60 (bitB (by omega) (by omega) (by omega)) ?_
    refine V_i2l (Y := mX6_digest) (pc := 61) dX6_digest_61 (bI_R _) ?_
    refine V_ladd (Y := mX6_digest) (pc := 62) dX6_digest_62 ?_
    refine V_lmul (Y := mX6_digest) (pc := 63) dX6_digest_63 ?_
    refine V_aload_n (Y := mX6_digest) (pc := 64) dX6_digest_64 rfl ?_
    apply V_get (Y := mX6_digest) (pc := 65) dX6_digest_65 fl_X6_7
    · assumption
    · rfl
    refine V_bipush (Y := mX6_digest) (pc := 68) dX6_digest_68 ⟨by decide, by decide⟩ ?_
    refine V_iload_n (Y := mX6_digest) (pc := 70) dX6_digest_70 rfl ?_
    refine V_iadd (Y := mX6_digest) (pc := 71) dX6_digest_71 ?_
    apply V_iald (Y := mX6_digest) (pc := 72) dX6_digest_72
    · assumption
    · exact ⟨by omega, by omega⟩
    · omega
    rw [b1]
    refine V_i2l (Y := mX6_digest) (pc := 73) dX6_digest_73 ⟨by omega, by omega⟩ ?_
    refine V_ladd (Y := mX6_digest) (pc := 74) dX6_digest_74 ?_
    refine V_lstore_n (Y := mX6_digest) (pc := 75) dX6_digest_75 rfl (by decide) ?_
    refine V_iinc (Y := mX6_digest) (pc := 76) dX6_digest_76 rfl rfl ?_
    refine V_goto (tgt := 33) (Y := mX6_digest) (pc := 79) dX6_digest_79 (by decide) ?_
    exact k
set_option maxRecDepth 100000 in
theorem lpm_dig1 (hK : MK w 0 (n, now, ca, po, fo, rs) rb rn rf) (hG : vGood (n, now, ca, po, fo, rs)) (hO : MObj w tx.length) (hT : TxM w tx) : ∀ (m : Nat) (i : Int), 0 ≤ i → i + m = 7 →
    V mX6_digest (rm 1) (pR (vJ (fDigest (n, now, ca, po, fo, rs) tx)) nn w) 6 [some (.ref 99), some (vJ (hMx (fun i => cntOf (n, now, ca, po, fo, rs) tx i) 761 i.toNat)), none, some (vI i)] [] nn w 0 0 := by
  have hK0 := hK
  have hO0 := hO
  obtain ⟨a0, sp, tk, vl, mn, fd, sv, ho⟩ := hO
  obtain ⟨-, ⟨f, hb0, hB⟩, hr, hq⟩ := hK
  have hB : BkOf f n now ca po fo rs := hB
  have hl := hB.2.1
  obtain ⟨t, ht1, ht2, -⟩ := hT
  intro m
  induction m with
  | zero =>
    intro i hi him
    have hi7 : i = 7 := by omega
    subst hi7
    have k := lpm_dig2 (nn := nn) (h0 := hMx (fun i => cntOf (n, now, ca, po, fo, rs) tx i) 761 7) hK0 hG n.toNat 0 (by omega) (by have := hG.un.1; omega)
    refine V_iload_n (Y := mX6_digest) (pc := 6) dX6_digest_6 rfl ?_
    refine V_bipush (Y := mX6_digest) (pc := 7) dX6_digest_7 ⟨by decide, by decide⟩ ?_
    refine V_icmp_ge (tgt := 31) (Y := mX6_digest) (pc := 9) dX6_digest_9 (by decide) ⟨by omega, by omega⟩ ⟨by omega, by omega⟩ (fun h_9 => ?_) (fun h_9 => absurd h_9 (by omega))
    refine V_iconst (Y := mX6_digest) (pc := 31) dX6_digest_31 ?_
    refine V_istore_n (Y := mX6_digest) (pc := 32) dX6_digest_32 rfl ?_
    exact k
  | succ m ih =>
    intro i hi him
    have k := ih (i + 1) (by omega) (by omega)
    have hrg := cntM_rng (tx := tx) hG ⟨hl.1, hl.2.1, hl.2.2.1, hl.2.2.2.1, ht2⟩ i
    rw [show (i + 1).toNat = i.toNat + 1 by omega, hMx, show ((i.toNat : Nat) : Int) = i by omega] at k
    refine V_iload_n (Y := mX6_digest) (pc := 6) dX6_digest_6 rfl ?_
    refine V_bipush (Y := mX6_digest) (pc := 7) dX6_digest_7 ⟨by decide, by decide⟩ ?_
    refine V_icmp_ge (tgt := 31) (Y := mX6_digest) (pc := 9) dX6_digest_9 (by decide) ⟨by omega, by omega⟩ ⟨by omega, by omega⟩ (fun h_9 => absurd h_9 (by omega)) (fun h_9 => ?_)
    refine V_ldc2 (z := (31 : Int)) (Y := mX6_digest) (pc := 12) dX6_digest_12 cl_X6_235 (by decide) ?_
    refine V_lload_n (Y := mX6_digest) (pc := 15) dX6_digest_15 rfl ?_
    refine V_lmul (Y := mX6_digest) (pc := 16) dX6_digest_16 ?_
    refine V_aload_n (Y := mX6_digest) (pc := 17) dX6_digest_17 rfl ?_
    refine V_iload_n (Y := mX6_digest) (pc := 18) dX6_digest_18 rfl ?_
    apply V_vR (Y := mX6_digest) (pc := 19) dX6_digest_19 ok_X6_countOf ov_X6_countOf ln_X6_232 (cm_countOf (a := i) (tx := tx) hK0 hO0 ⟨by omega, by omega⟩)
    · assumption
    · rfl
    · rfl
    · rfl
    · rfl
    · rfl
    refine V_i2l (Y := mX6_digest) (pc := 22) dX6_digest_22 ⟨by omega, by omega⟩ ?_
    refine V_ladd (Y := mX6_digest) (pc := 23) dX6_digest_23 ?_
    refine V_lstore_n (Y := mX6_digest) (pc := 24) dX6_digest_24 rfl (by decide) ?_
    refine V_iinc (Y := mX6_digest) (pc := 25) dX6_digest_25 rfl rfl ?_
    refine V_goto (tgt := 6) (Y := mX6_digest) (pc := 28) dX6_digest_28 (by decide) ?_
    exact k
set_option maxRecDepth 100000 in
theorem mx_digest (h : MInv w (n, now, ca, po, fo, rs) S0 S1 k0 k1 tx rb rn rf) (hG : vGood (n, now, ca, po, fo, rs)) : Ctr mX6_digest (rm 1) [.ref 99] nn w (pR (vJ (fDigest (n, now, ca, po, fo, rs) tx)) nn w) := by
  refine Ctr_of (lv := [some (.ref 99), none, none, none]) (by decide +kernel) rfl rfl ?_
  have k := lpm_dig1 (nn := nn) h.1 hG h.2.1 h.2.2.1 7 0 (by omega) (by omega)
  refine V_ldc2 (z := (761 : Int)) (Y := mX6_digest) (pc := 0) dX6_digest_0 cl_X6_237 (by decide) ?_
  refine V_lstore_n (Y := mX6_digest) (pc := 3) dX6_digest_3 rfl (by decide) ?_
  refine V_iconst (Y := mX6_digest) (pc := 4) dX6_digest_4 ?_
  refine V_istore_n (Y := mX6_digest) (pc := 5) dX6_digest_5 rfl ?_
  exact k
end MOD
