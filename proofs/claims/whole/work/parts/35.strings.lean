/-! ===== the five words: String's own members over them ===== -/
theorem hl_J0_9 : Cond.fieldLink RJ0 9 "java/lang/String" "value" "[B" ∈ vU := vU_mem 1150 (by decide +kernel) rfl
theorem hl_J0_15 : Cond.fieldLink RJ0 15 "java/lang/String" "coder" "B" ∈ vU := vU_mem 1151 (by decide +kernel) rfl
theorem hl_J0_38 : Cond.fieldLink RJ0 38 "java/lang/String" "COMPACT_STRINGS" "Z" ∈ vU := vU_mem 431 (by decide +kernel) rfl
theorem hl_J0_1053 : Cond.fieldLink RJ0 1053 "jdk/internal/util/Preconditions" "SIOOBE_FORMATTER" "Ljava/util/function/BiFunction;" ∈ vU := vU_mem 447 (by decide +kernel) rfl
/-- the codes of a word's letters -/
def txC : List (List Int) := [[100, 114, 97, 119, 101, 114, 115], [99, 111, 114, 100], [99, 97, 116, 99, 104], [103, 111, 111, 100], [111, 114, 100, 101, 114]]
def chS (i : Nat) (k : Int) : Int := rAt (txC.getD i []) k
def lnS (i : Nat) : Int := ((txC.getD i []).length : Int)
theorem lnS_eq : ∀ i, i < 5 → ((lenS.getD i 0 : Nat) : Int) = lnS i := by decide +kernel
theorem lnS_rng : ∀ i, i < 5 → 4 ≤ lnS i ∧ lnS i ≤ 7 := by decide +kernel
theorem ch_key : ∀ i, i < 5 → ∀ k : Nat, k < lenS.getD i 0 → ((((bytS.getD i []).getD k 0) &&& iI 255).toUInt32 % 65536).toInt32 = iI (chS i (k : Int)) ∧ narrow .char (vI (chS i (k : Int))) = vI (chS i (k : Int)) ∧ inR (chS i (k : Int)) := by decide +kernel
section STR
variable {Y : vMeth} {R : Room} {Q : vPost} {pc : Nat} {lv : vLs} {st : List Value} {n : Nat} {w : vWd} {kc ks idx i : Nat}
theorem V_ldcS (hd : decode Y.2.1 pc = .ok (.ldc idx, 2)) (hY : Y.1.cls = RX1) (hi : i < 5) (hix : cpS i = idx) (k : V Y R Q (pc + 2) lv (.retAddr i :: st) n w kc ks) : V Y R Q pc lv st n w kc ks := by
  intro p l e s m args below meth c b sa cA D H locs ls E hw hS hb hl
  have h2 := E.2.2.2.2.2.2.2.2.2.1.2.1 i hi
  rw [hix] at h2
  exact va_ldcS E.1 E.2.1 (own := RX1) (by rw [← hY]; exact E.2.2.2.2.1) h2 hd (k p l e s m args below meth c b sa cA D H locs ls E hw hS hb hl)
theorem V_sVal (hd : decode Y.2.1 pc = .ok (.getfield idx, 3)) (hlk : Cond.fieldLink Y.1.cls idx "java/lang/String" "value" "[B" ∈ vU) (hi : i < 5) (k : V Y R Q (pc + 3) lv (.retAddr (5 + i) :: st) n w kc ks) : V Y R Q pc lv (.retAddr i :: st) n w kc ks := by
  intro p l e s m args below meth c b sa cA D H locs ls E hw hS hb hl
  exact vk_getf E.1 E.2.1 (E.2.2.2.2.2.2.2.2.2.1.1.1 i hi).2.2.1 hS E.2.2.2.2.1 (E.2.2.2.2.2.1 _ hlk) (fun x h => h) hd (k p l e s m args below meth c b sa cA D H locs ls E hw hS hb hl)
theorem V_sCod (hd : decode Y.2.1 pc = .ok (.getfield idx, 3)) (hlk : Cond.fieldLink Y.1.cls idx "java/lang/String" "coder" "B" ∈ vU) (hi : i < 5) (k : V Y R Q (pc + 3) lv (vI 0 :: st) n w kc ks) : V Y R Q pc lv (.retAddr i :: st) n w kc ks := by
  intro p l e s m args below meth c b sa cA D H locs ls E hw hS hb hl
  exact vk_getf E.1 E.2.1 (E.2.2.2.2.2.2.2.2.2.1.1.1 i hi).2.1 hS E.2.2.2.2.1 (E.2.2.2.2.2.1 _ hlk) (fun x h => h) hd (k p l e s m args below meth c b sa cA D H locs ls E hw hS hb hl)
theorem V_sLen (hd : decode Y.2.1 pc = .ok (.arraylength, 1)) (hi : i < 5) (k : V Y R Q (pc + 1) lv (vI (lnS i) :: st) n w kc ks) : V Y R Q pc lv (.retAddr (5 + i) :: st) n w kc ks := by
  intro p l e s m args below meth c b sa cA D H locs ls E hw hS hb hl
  exact va_tlen E.1 E.2.1 (E.2.2.2.2.2.2.2.2.2.1.1.1 i hi).2.2.2 hS (v := iI (lnS i)) (by rw [← lnS_eq i hi]; exact nI_iI _) hd (k p l e s m args below meth c b sa cA D H locs ls E hw hS hb hl)
theorem V_sByt {j : Int} (hd : decode Y.2.1 pc = .ok (.baload, 1)) (hi : i < 5) (hj : 0 ≤ j ∧ j < lnS i) (k : V Y R Q (pc + 1) lv (.int ((bytS.getD i []).getD j.toNat 0) :: st) n w kc ks) : V Y R Q pc lv (vI j :: .retAddr (5 + i) :: st) n w kc ks := by
  intro p l e s m args below meth c b sa cA D H locs ls E hw hS hb hl
  have h1 := lnS_rng i hi
  have h2 := lnS_eq i hi
  refine va_tb E.1 E.2.1 (E.2.2.2.2.2.2.2.2.2.1.1.1 i hi).2.2.2 hS (i := iI j) (iI_in hj.1 (by omega) (by omega)) rfl hd ?_
  rw [iI_clamp ⟨by omega, by omega⟩]
  exact k p l e s m args below meth c b sa cA D H locs ls E hw hS hb hl
theorem V_stC (hd : decode Y.2.1 pc = .ok (.getstatic idx, 3)) (hlk : Cond.fieldLink Y.1.cls idx "java/lang/String" "COMPACT_STRINGS" "Z" ∈ vU) (k : V Y R Q (pc + 3) lv (vI 1 :: st) n w kc ks) : V Y R Q pc lv st n w kc ks := by
  intro p l e s m args below meth c b sa cA D H locs ls E hw hS hb hl
  exact va_gets E.1 E.2.1 E.2.2.2.2.2.2.2.2.2.1.2.2.1 hS E.2.2.2.2.1 (E.2.2.2.2.2.1 _ hlk) (fun x h => h) hd (k p l e s m args below meth c b sa cA D H locs ls E hw hS hb hl)
theorem V_stF (hd : decode Y.2.1 pc = .ok (.getstatic idx, 3)) (hlk : Cond.fieldLink Y.1.cls idx "jdk/internal/util/Preconditions" "SIOOBE_FORMATTER" "Ljava/util/function/BiFunction;" ∈ vU) (k : V Y R Q (pc + 3) lv (.null :: st) n w kc ks) (k2 : V Y R Q (pc + 3) lv (.retAddr 10 :: st) n w kc ks) : V Y R Q pc lv st n w kc ks := by
  intro p l e s m args below meth c b sa cA D H locs ls E hw hS hb hl
  rcases E.2.2.2.2.2.2.2.2.2.1.2.2.2 with h | h
  · exact va_gets E.1 E.2.1 h hS E.2.2.2.2.1 (E.2.2.2.2.2.1 _ hlk) (fun x h => h) hd (k p l e s m args below meth c b sa cA D H locs ls E hw hS hb hl)
  · exact va_gets E.1 E.2.1 h hS E.2.2.2.2.1 (E.2.2.2.2.2.1 _ hlk) (fun x h => h) hd (k2 p l e s m args below meth c b sa cA D H locs ls E hw hS hb hl)
theorem V_vRS {Y2 : vMeth} {As rest : List Value} {N a d : Nat} {v : Value} (hd : decode Y.2.1 pc = .ok (.invokevirtual idx, 3)) (hM : okM Y2 N) (hV : okV Y2) (hL : okL Y.1.cls idx Y2) (hC : Ctr Y2 (rm d) (.retAddr a :: As) n w (pR v n w)) (ha : a < 5) (hq1 : "java/lang/String" = Y2.1.cls) (hn : As.length = N) (hst : As.reverse ++ .retAddr a :: rest = st) (hR : rmOK R Y2 (rm d) kc ks rest = true)
    (kk : V Y R Q (pc + 3) lv (v :: rest) n w kc ks) : V Y R Q pc lv st n w kc ks := by
  intro p l e s m args below meth c b sa cA D H locs ls E hw hS hb hl
  have hts := E.2.2.2.2.2.1
  obtain ⟨r1, r2, r3⟩ := rmOK_spec hR
  have hstk : st.map (cvV b sa) = (As.map (cvV b sa)).reverse ++ .ref (sa a) :: rest.map (cvV b sa) := by
    rw [← hst, List.map_append, List.map_reverse, List.map_cons]; rfl
  have hpre : PreV s H Y2.1.cls (sa a) (va_Pc ((Value.retAddr a :: As).map (cvV b sa)) (vPre b sa cA D n w)) (As.map (cvV b sa)) := by
    refine ⟨vPre_blind _ b sa cA D n w, ?_, fun U hU hW => vPre_at (Y2 := Y2) E hw hS U hU hW⟩
    rw [← hq1]
    exact vk_recv E.2.2.2.2.2.2.2.2.2.1.1 ha hS
  have hfix : CallFix p m c Y.2.1 Y.2.2.1 s args vU Y.1.cls := ⟨E.1, E.2.1, E.2.2.2.1, E.2.2.2.2.1, hts⟩
  refine V_back (Y2 := Y2) (R2 := rm d) (rest := rest) (av := .retAddr a :: As) (Q2 := pR v n w) (a := (Value.ref (sa a) :: As.map (cvV b sa)).toArray) ?_ E hw hS hb hl (fun r n' w' h => by obtain ⟨rfl, rfl, rfl⟩ := h; exact kk)
  rw [hstk]
  have hroom : 2 * (F0 m pc ls ((As.map (cvV b sa)).reverse ++ .ref (sa a) :: rest.map (cvV b sa))).monitorRoom + ((rest.map (cvV b sa)).map fun v => v.category).sum ≤ 8 := by
    rw [cat_rest]; show 2 * 0 + _ ≤ 8; omega
  rcases hL with hL | ⟨host, hL⟩
  · refine va_runV hfix (hC l b sa cA D) (cwV N hts (fun w0 h0 => vU_good _ ?_) rfl rfl rfl ⟨rfl, hM.2.2⟩ r1) hpre rfl (by rw [List.length_map]; exact hn) hl.1 rfl hroom hd r2
    rcases List.mem_append.mp h0 with h1 | h1
    · simp only [List.mem_cons, List.not_mem_nil, or_false] at h1
      rcases h1 with rfl | rfl | rfl | rfl
      · exact hL
      · exact hV.1
      · exact hV.2
      · exact hM.2.1
    · exact (vU_cons hM.1 w0 h1).1
  · refine va_runVN hfix (hC l b sa cA D) ⟨va_cnB (host := host) N hts (vU_cons hM.1) rfl rfl rfl (E.2.2.2.2.2.2.2.2.2.2 _ hL rfl) (hts _ hM.2.1) hM.2.2 r1, hts _ hV.1, hts _ hV.2⟩ hpre rfl (by rw [List.length_map]; exact hn) hl.1 rfl hroom hd r2
theorem V_sV {Y2 : vMeth} {As rest : List Value} {N d : Nat} {P : vWd → Prop} (hd : decode Y.2.1 pc = .ok (.invokestatic idx, 3)) (hM : okM Y2 N) (hV : Cond.static Y2.1 ∈ vU) (hL : okL Y.1.cls idx Y2) (hC : Ctr Y2 (rm d) As n w (pV P n)) (hn : As.length = N) (hst : As.reverse ++ rest = st) (hR : rmOK R Y2 (rm d) kc ks rest = true)
    (kk : ∀ (w' : vWd), P w' → V Y R Q (pc + 3) lv rest n w' kc ks) : V Y R Q pc lv st n w kc ks :=
  V_callS hd hM hV hL hC hn hst hR (fun r n' w' h => by obtain ⟨rfl, rfl, h⟩ := h; exact kk w' h)
end STR
section STRC
variable {n : Nat} {w : vWd} {i : Nat}
set_option maxRecDepth 100000 in
theorem c_sCoder (hi : i < 5) : Ctr mJ0_coder_7d493 (rm 0) [.retAddr i] n w (pR (vI 0) n w) := by
  refine Ctr_ofF (lv := [some (.retAddr i)]) (by decide +kernel) rfl rfl ?_
  refine V_stC (Y := mJ0_coder_7d493) (pc := 0) dJ0_coder_7d493_0 hl_J0_38 ?_
  refine V_if_eq (tgt := 13) (Y := mJ0_coder_7d493) (pc := 3) dJ0_coder_7d493_3 (by decide) ⟨by omega, by omega⟩ (fun h_3 => absurd h_3 (by omega)) (fun h_3 => ?_)
  refine V_aload_nS (Y := mJ0_coder_7d493) (pc := 6) dJ0_coder_7d493_6 rfl ?_
  refine V_sCod (Y := mJ0_coder_7d493) (pc := 7) dJ0_coder_7d493_7 hl_J0_15 (by omega) ?_
  refine V_goto (tgt := 14) (Y := mJ0_coder_7d493) (pc := 10) dJ0_coder_7d493_10 (by decide) ?_
  refine V_zret (ty := .byte) (Y := mJ0_coder_7d493) (pc := 14) dJ0_coder_7d493_14 rfl rfl (Nat.le_of_ble_eq_true rfl) (Nat.le_of_ble_eq_true rfl) ?_
  exact pR_of rfl
set_option maxRecDepth 100000 in
theorem c_sLatin (hi : i < 5) : Ctr mJ0_isLatin1_aae02 (rm 0) [.retAddr i] n w (pR (vI 1) n w) := by
  refine Ctr_ofF (lv := [some (.retAddr i)]) (by decide +kernel) rfl rfl ?_
  refine V_stC (Y := mJ0_isLatin1_aae02) (pc := 0) dJ0_isLatin1_aae02_0 hl_J0_38 ?_
  refine V_if_eq (tgt := 17) (Y := mJ0_isLatin1_aae02) (pc := 3) dJ0_isLatin1_aae02_3 (by decide) ⟨by omega, by omega⟩ (fun h_3 => absurd h_3 (by omega)) (fun h_3 => ?_)
  refine V_aload_nS (Y := mJ0_isLatin1_aae02) (pc := 6) dJ0_isLatin1_aae02_6 rfl ?_
  refine V_sCod (Y := mJ0_isLatin1_aae02) (pc := 7) dJ0_isLatin1_aae02_7 hl_J0_15 (by omega) ?_
  refine V_if_ne (tgt := 17) (Y := mJ0_isLatin1_aae02) (pc := 10) dJ0_isLatin1_aae02_10 (by decide) ⟨by omega, by omega⟩ (fun h_10 => absurd h_10 (by omega)) (fun h_10 => ?_)
  refine V_iconst (Y := mJ0_isLatin1_aae02) (pc := 13) dJ0_isLatin1_aae02_13 ?_
  refine V_goto (tgt := 18) (Y := mJ0_isLatin1_aae02) (pc := 14) dJ0_isLatin1_aae02_14 (by decide) ?_
  refine V_zret (ty := .boolean) (Y := mJ0_isLatin1_aae02) (pc := 18) dJ0_isLatin1_aae02_18 rfl rfl (Nat.le_of_ble_eq_true rfl) (Nat.le_of_ble_eq_true rfl) ?_
  exact pR_of rfl
set_option maxRecDepth 100000 in
theorem c_sLength (hi : i < 5) : Ctr mJ0_length_8abf5 (rm 1) [.retAddr i] n w (pR (vI (lnS i)) n w) := by
  refine Ctr_ofF (lv := [some (.retAddr i)]) (by decide +kernel) rfl rfl ?_
  have h1 := lnS_rng i hi
  refine V_aload_nS (Y := mJ0_length_8abf5) (pc := 0) dJ0_length_8abf5_0 rfl ?_
  refine V_sVal (Y := mJ0_length_8abf5) (pc := 1) dJ0_length_8abf5_1 hl_J0_9 (by omega) ?_
  refine V_sLen (i := i) (Y := mJ0_length_8abf5) (pc := 4) dJ0_length_8abf5_4 (by omega) ?_
  refine V_aload_nS (Y := mJ0_length_8abf5) (pc := 5) dJ0_length_8abf5_5 rfl ?_
  apply V_vRS (Y := mJ0_length_8abf5) (pc := 6) dJ0_length_8abf5_6 ok_J0_coder_7d493 ov_J0_coder_7d493 ln_J0_335 (c_sCoder hi) (by omega) rfl
  · rfl
  · rfl
  · rfl
  refine V_ishr (Y := mJ0_length_8abf5) (pc := 9) dJ0_length_8abf5_9 ((show iI (lnS i) >>> (iI 0 &&& 31) = iI (lnS i) from by have q := iI_shr (a := (lnS i).toNat) (d := 0) (by omega) (by omega) (by omega); rw [show (((lnS i).toNat : Nat) : Int) = lnS i by omega] at q; rw [q, show (0 : Int).toNat = 0 from rfl, Nat.pow_zero, Nat.div_one, show (((lnS i).toNat : Nat) : Int) = lnS i by omega])) ?_
  refine V_iret (Y := mJ0_length_8abf5) (pc := 10) dJ0_length_8abf5_10 rfl (Nat.le_of_ble_eq_true rfl) (Nat.le_of_ble_eq_true rfl) ?_
  exact pR_of rfl
set_option maxRecDepth 100000 in
theorem c_chk3 {k N : Int} {v : Value} (hv : v = .null ∨ v = .retAddr 10) (hk : 0 ≤ k ∧ k < N) (hN : N ≤ 100000) : Ctr mJ3_checkIndex_8e157 (rm 0) [vI k, vI N, v] n w (pR (vI k) n w) := by
  rcases hv with rfl | rfl
  · refine Ctr_ofF (lv := [some (vI k), some (vI N), some (.null)]) (by decide +kernel) rfl rfl ?_
    refine V_iload_n (Y := mJ3_checkIndex_8e157) (pc := 0) dJ3_checkIndex_8e157_0 rfl ?_
    refine V_if_lt (tgt := 9) (Y := mJ3_checkIndex_8e157) (pc := 1) dJ3_checkIndex_8e157_1 (by decide) ⟨by omega, by omega⟩ (fun h_1 => absurd h_1 (by omega)) (fun h_1 => ?_)
    refine V_iload_n (Y := mJ3_checkIndex_8e157) (pc := 4) dJ3_checkIndex_8e157_4 rfl ?_
    refine V_iload_n (Y := mJ3_checkIndex_8e157) (pc := 5) dJ3_checkIndex_8e157_5 rfl ?_
    refine V_icmp_lt (tgt := 16) (Y := mJ3_checkIndex_8e157) (pc := 6) dJ3_checkIndex_8e157_6 (by decide) ⟨by omega, by omega⟩ ⟨by omega, by omega⟩ (fun h_6 => ?_) (fun h_6 => absurd h_6 (by omega))
    refine V_iload_n (Y := mJ3_checkIndex_8e157) (pc := 16) dJ3_checkIndex_8e157_16 rfl ?_
    refine V_iret (Y := mJ3_checkIndex_8e157) (pc := 17) dJ3_checkIndex_8e157_17 rfl (Nat.le_of_ble_eq_true rfl) (Nat.le_of_ble_eq_true rfl) ?_
    exact pR_of rfl
  · refine Ctr_ofF (lv := [some (vI k), some (vI N), some (.retAddr 10)]) (by decide +kernel) rfl rfl ?_
    refine V_iload_n (Y := mJ3_checkIndex_8e157) (pc := 0) dJ3_checkIndex_8e157_0 rfl ?_
    refine V_if_lt (tgt := 9) (Y := mJ3_checkIndex_8e157) (pc := 1) dJ3_checkIndex_8e157_1 (by decide) ⟨by omega, by omega⟩ (fun h_1 => absurd h_1 (by omega)) (fun h_1 => ?_)
    refine V_iload_n (Y := mJ3_checkIndex_8e157) (pc := 4) dJ3_checkIndex_8e157_4 rfl ?_
    refine V_iload_n (Y := mJ3_checkIndex_8e157) (pc := 5) dJ3_checkIndex_8e157_5 rfl ?_
    refine V_icmp_lt (tgt := 16) (Y := mJ3_checkIndex_8e157) (pc := 6) dJ3_checkIndex_8e157_6 (by decide) ⟨by omega, by omega⟩ ⟨by omega, by omega⟩ (fun h_6 => ?_) (fun h_6 => absurd h_6 (by omega))
    refine V_iload_n (Y := mJ3_checkIndex_8e157) (pc := 16) dJ3_checkIndex_8e157_16 rfl ?_
    refine V_iret (Y := mJ3_checkIndex_8e157) (pc := 17) dJ3_checkIndex_8e157_17 rfl (Nat.le_of_ble_eq_true rfl) (Nat.le_of_ble_eq_true rfl) ?_
    exact pR_of rfl
set_option maxRecDepth 100000 in
theorem c_chk {k N : Int} (hk : 0 ≤ k ∧ k < N) (hN : N ≤ 100000) : Ctr mJ0_checkIndex_df160 (rm 1) [vI k, vI N] n w (pV (fun w' => w' = w) n) := by
  refine Ctr_ofF (lv := [some (vI k), some (vI N)]) (by decide +kernel) rfl rfl ?_
  refine V_iload_n (Y := mJ0_checkIndex_df160) (pc := 0) dJ0_checkIndex_df160_0 rfl ?_
  refine V_iload_n (Y := mJ0_checkIndex_df160) (pc := 1) dJ0_checkIndex_df160_1 rfl ?_
  refine V_stF (Y := mJ0_checkIndex_df160) (pc := 2) dJ0_checkIndex_df160_2 hl_J0_1053 ?_ ?_
  · skip
    apply V_sR (Y := mJ0_checkIndex_df160) (pc := 5) dJ0_checkIndex_df160_5 ok_J3_checkIndex_8e157 os_J3_checkIndex_8e157 ln_J0_1059 (c_chk3 (v := .null) (Or.inl rfl) hk hN)
    · rfl
    · rfl
    · rfl
    refine V_pop (Y := mJ0_checkIndex_df160) (pc := 8) dJ0_checkIndex_df160_8 rfl ?_
    refine V_vret (Y := mJ0_checkIndex_df160) (pc := 9) dJ0_checkIndex_df160_9 rfl (Nat.le_of_ble_eq_true rfl) (Nat.le_of_ble_eq_true rfl) ?_
    exact pV_of rfl
  · skip
    apply V_sR (Y := mJ0_checkIndex_df160) (pc := 5) dJ0_checkIndex_df160_5 ok_J3_checkIndex_8e157 os_J3_checkIndex_8e157 ln_J0_1059 (c_chk3 (v := .retAddr 10) (Or.inr rfl) hk hN)
    · rfl
    · rfl
    · rfl
    refine V_pop (Y := mJ0_checkIndex_df160) (pc := 8) dJ0_checkIndex_df160_8 rfl ?_
    refine V_vret (Y := mJ0_checkIndex_df160) (pc := 9) dJ0_checkIndex_df160_9 rfl (Nat.le_of_ble_eq_true rfl) (Nat.le_of_ble_eq_true rfl) ?_
    exact pV_of rfl
set_option maxRecDepth 100000 in
theorem c_lChar {k : Int} (hi : i < 5) (hk : 0 ≤ k ∧ k < lnS i) : Ctr mJ1_charAt_3b067 (rm 2) [.retAddr (5 + i), vI k] n w (pR (vI (chS i k)) n w) := by
  refine Ctr_ofF (lv := [some (.retAddr (5 + i)), some (vI k)]) (by decide +kernel) rfl rfl ?_
  have h1 := lnS_rng i hi
  have h2 := lnS_eq i hi
  have hk2 := ch_key i hi k.toNat (by omega)
  rw [show ((k.toNat : Nat) : Int) = k by omega] at hk2
  refine V_iload_n (Y := mJ1_charAt_3b067) (pc := 0) dJ1_charAt_3b067_0 rfl ?_
  refine V_aload_nS (Y := mJ1_charAt_3b067) (pc := 1) dJ1_charAt_3b067_1 rfl ?_
  refine V_sLen (i := i) (Y := mJ1_charAt_3b067) (pc := 2) dJ1_charAt_3b067_2 (by omega) ?_
  apply V_sV (Y := mJ1_charAt_3b067) (pc := 3) dJ1_charAt_3b067_3 ok_J0_checkIndex_df160 os_J0_checkIndex_df160 ln_J1_9 (c_chk (k := k) (N := lnS i) hk (by omega))
  · rfl
  · rfl
  · rfl
  rintro w_3 hw3
  subst hw3
  refine V_aload_nS (Y := mJ1_charAt_3b067) (pc := 6) dJ1_charAt_3b067_6 rfl ?_
  refine V_iload_n (Y := mJ1_charAt_3b067) (pc := 7) dJ1_charAt_3b067_7 rfl ?_
  refine V_sByt (i := i) (Y := mJ1_charAt_3b067) (pc := 8) dJ1_charAt_3b067_8 (by omega) hk ?_
  refine V_sipush (Y := mJ1_charAt_3b067) (pc := 9) dJ1_charAt_3b067_9 ⟨by decide, by decide⟩ ?_
  refine V_iand (Y := mJ1_charAt_3b067) (pc := 12) dJ1_charAt_3b067_12 (rfl) ?_
  refine V_i2c (Y := mJ1_charAt_3b067) (pc := 13) dJ1_charAt_3b067_13 (hk2.1) ?_
  refine V_zret (ty := .char) (Y := mJ1_charAt_3b067) (pc := 14) dJ1_charAt_3b067_14 rfl hk2.2.1 (Nat.le_of_ble_eq_true rfl) (Nat.le_of_ble_eq_true rfl) ?_
  exact pR_of rfl
set_option maxRecDepth 100000 in
theorem c_sChar {k : Int} (hi : i < 5) (hk : 0 ≤ k ∧ k < lnS i) : Ctr mJ0_charAt_5068e (rm 3) [.retAddr i, vI k] n w (pR (vI (chS i k)) n w) := by
  refine Ctr_ofF (lv := [some (.retAddr i), some (vI k)]) (by decide +kernel) rfl rfl ?_
  have h1 := lnS_rng i hi
  have h2 := lnS_eq i hi
  have hk2 := ch_key i hi k.toNat (by omega)
  rw [show ((k.toNat : Nat) : Int) = k by omega] at hk2
  refine V_aload_nS (Y := mJ0_charAt_5068e) (pc := 0) dJ0_charAt_5068e_0 rfl ?_
  apply V_vRS (Y := mJ0_charAt_5068e) (pc := 1) dJ0_charAt_5068e_1 ok_J0_isLatin1_aae02 ov_J0_isLatin1_aae02 ln_J0_492 (c_sLatin hi) (by omega) rfl
  · rfl
  · rfl
  · rfl
  refine V_if_eq (tgt := 16) (Y := mJ0_charAt_5068e) (pc := 4) dJ0_charAt_5068e_4 (by decide) ⟨by omega, by omega⟩ (fun h_4 => absurd h_4 (by omega)) (fun h_4 => ?_)
  refine V_aload_nS (Y := mJ0_charAt_5068e) (pc := 7) dJ0_charAt_5068e_7 rfl ?_
  refine V_sVal (Y := mJ0_charAt_5068e) (pc := 8) dJ0_charAt_5068e_8 hl_J0_9 (by omega) ?_
  refine V_iload_n (Y := mJ0_charAt_5068e) (pc := 11) dJ0_charAt_5068e_11 rfl ?_
  apply V_sR (Y := mJ0_charAt_5068e) (pc := 12) dJ0_charAt_5068e_12 ok_J1_charAt_3b067 os_J1_charAt_3b067 ln_J0_495 (c_lChar (i := i) (k := k) hi hk)
  · rfl
  · rfl
  · rfl
  refine V_zret (ty := .char) (Y := mJ0_charAt_5068e) (pc := 15) dJ0_charAt_5068e_15 rfl hk2.2.1 (Nat.le_of_ble_eq_true rfl) (Nat.le_of_ble_eq_true rfl) ?_
  exact pR_of rfl
end STRC
