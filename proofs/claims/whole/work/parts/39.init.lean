/-! ===== what is made: rows, walls, the walk, the reader, days, the whole ===== -/
theorem pC_of {P : Nat → vWd → Prop} {n : Nat} {w : vWd} (h : P n w) : pC P none n w := ⟨rfl, h⟩
section MAKE
variable {Y : vMeth} {R : Room} {Q : vPost} {pc : Nat} {lv : vLs} {st : List Value} {n : Nat} {w : vWd} {kc ks idx : Nat}
theorem V_newIW {z : Int} {N : Nat} (hd : decode Y.2.1 pc = .ok (.newarray .int, 2)) (harr : Cond.arrayClass .int ∈ vU) (hz : z = N) (hN : N ≤ 100000) (hc : kc + 1 ≤ R.cells) (hs : ks + N ≤ R.slots) (kk : ∀ w' : vWd, w' n = some (arI N (fun _ => 0)) → (∀ j, j ≠ n → w' j = w j) → V Y R Q (pc + 2) lv (.ref n :: st) (n + 1) w' (kc + 1) (ks + N)) : V Y R Q pc lv (vI z :: st) n w kc ks :=
  V_newI hd harr hz hN hc hs (kk _ (va_up_self _ _ _) (fun _ h => va_up_ne _ _ h))
theorem V_newZW {z : Int} {N : Nat} (hd : decode Y.2.1 pc = .ok (.newarray .boolean, 2)) (harr : Cond.arrayClass .boolean ∈ vU) (hz : z = N) (hN : N ≤ 100000) (hc : kc + 1 ≤ R.cells) (hs : ks + N ≤ R.slots) (kk : ∀ w' : vWd, w' n = some (arZ N (fun _ => 0)) → (∀ j, j ≠ n → w' j = w j) → V Y R Q (pc + 2) lv (.ref n :: st) (n + 1) w' (kc + 1) (ks + N)) : V Y R Q pc lv (vI z :: st) n w kc ks :=
  V_newZ hd harr hz hN hc hs (kk _ (va_up_self _ _ _) (fun _ h => va_up_ne _ _ h))
def nwX0 : List Value := [vI 0, vI 0]
theorem V_newX0 (hd : decode Y.2.1 pc = .ok (.new idx, 3)) (hcl : Cond.classLink Y.1.cls idx RX0 ∈ vU) (hc : kc + 1 ≤ R.cells) (hs : ks + 2 ≤ R.slots) (kk : ∀ w' : vWd, w' n = some (.inr (0, nwX0)) → (∀ j, j ≠ n → w' j = w j) → V Y R Q (pc + 3) lv (.ref n :: st) (n + 1) w' (kc + 1) (ks + 2)) : V Y R Q pc lv st n w kc ks := by
  refine V_new (ci := 0) (C := RX0) (T := TX0) (N := 2) (ty0 := tyX0) (fs := nwX0) hd rfl inU_X0 tyX0_ok hcl ki_X0 kn_X0 ?_ hc hs (kk _ (va_up_self _ _ _) (fun _ h => va_up_ne _ _ h))
  intro b sa j hj
  rcases (show j = 0 ∨ j = 1 by omega) with rfl | rfl <;> rfl
def nwX1 : List Value := [.null, .null, vI 0, vI 0, vI 0]
theorem V_newX1 (hd : decode Y.2.1 pc = .ok (.new idx, 3)) (hcl : Cond.classLink Y.1.cls idx RX1 ∈ vU) (hc : kc + 1 ≤ R.cells) (hs : ks + 5 ≤ R.slots) (kk : ∀ w' : vWd, w' n = some (.inr (1, nwX1)) → (∀ j, j ≠ n → w' j = w j) → V Y R Q (pc + 3) lv (.ref n :: st) (n + 1) w' (kc + 1) (ks + 5)) : V Y R Q pc lv st n w kc ks := by
  refine V_new (ci := 1) (C := RX1) (T := TX1) (N := 5) (ty0 := tyX1) (fs := nwX1) hd rfl inU_X1 tyX1_ok hcl ki_X1 kn_X1 ?_ hc hs (kk _ (va_up_self _ _ _) (fun _ h => va_up_ne _ _ h))
  intro b sa j hj
  rcases (show j = 0 ∨ j = 1 ∨ j = 2 ∨ j = 3 ∨ j = 4 by omega) with rfl | rfl | rfl | rfl | rfl <;> rfl
def nwX2 : List Value := [.null, vI 0]
theorem V_newX2 (hd : decode Y.2.1 pc = .ok (.new idx, 3)) (hcl : Cond.classLink Y.1.cls idx RX2 ∈ vU) (hc : kc + 1 ≤ R.cells) (hs : ks + 2 ≤ R.slots) (kk : ∀ w' : vWd, w' n = some (.inr (2, nwX2)) → (∀ j, j ≠ n → w' j = w j) → V Y R Q (pc + 3) lv (.ref n :: st) (n + 1) w' (kc + 1) (ks + 2)) : V Y R Q pc lv st n w kc ks := by
  refine V_new (ci := 2) (C := RX2) (T := TX2) (N := 2) (ty0 := tyX2) (fs := nwX2) hd rfl inU_X2 tyX2_ok hcl ki_X2 kn_X2 ?_ hc hs (kk _ (va_up_self _ _ _) (fun _ h => va_up_ne _ _ h))
  intro b sa j hj
  rcases (show j = 0 ∨ j = 1 by omega) with rfl | rfl <;> rfl
def nwX3 : List Value := [.null, .null, .null, .null, .null, vI 0, vI 0, vI 0, vI 0, vI 0, vI 0]
theorem V_newX3 (hd : decode Y.2.1 pc = .ok (.new idx, 3)) (hcl : Cond.classLink Y.1.cls idx RX3 ∈ vU) (hc : kc + 1 ≤ R.cells) (hs : ks + 11 ≤ R.slots) (kk : ∀ w' : vWd, w' n = some (.inr (3, nwX3)) → (∀ j, j ≠ n → w' j = w j) → V Y R Q (pc + 3) lv (.ref n :: st) (n + 1) w' (kc + 1) (ks + 11)) : V Y R Q pc lv st n w kc ks := by
  refine V_new (ci := 3) (C := RX3) (T := TX3) (N := 11) (ty0 := tyX3) (fs := nwX3) hd rfl inU_X3 tyX3_ok hcl ki_X3 kn_X3 ?_ hc hs (kk _ (va_up_self _ _ _) (fun _ h => va_up_ne _ _ h))
  intro b sa j hj
  rcases (show j = 0 ∨ j = 1 ∨ j = 2 ∨ j = 3 ∨ j = 4 ∨ j = 5 ∨ j = 6 ∨ j = 7 ∨ j = 8 ∨ j = 9 ∨ j = 10 by omega) with rfl | rfl | rfl | rfl | rfl | rfl | rfl | rfl | rfl | rfl | rfl <;> rfl
def nwX4 : List Value := [vI 0, vI 0, vI 0, vI 0, vI 0, .null, .null, .null, .null, .null, .null, .null, .null, .null]
theorem V_newX4 (hd : decode Y.2.1 pc = .ok (.new idx, 3)) (hcl : Cond.classLink Y.1.cls idx RX4 ∈ vU) (hc : kc + 1 ≤ R.cells) (hs : ks + 14 ≤ R.slots) (kk : ∀ w' : vWd, w' n = some (.inr (4, nwX4)) → (∀ j, j ≠ n → w' j = w j) → V Y R Q (pc + 3) lv (.ref n :: st) (n + 1) w' (kc + 1) (ks + 14)) : V Y R Q pc lv st n w kc ks := by
  refine V_new (ci := 4) (C := RX4) (T := TX4) (N := 14) (ty0 := tyX4) (fs := nwX4) hd rfl inU_X4 tyX4_ok hcl ki_X4 kn_X4 ?_ hc hs (kk _ (va_up_self _ _ _) (fun _ h => va_up_ne _ _ h))
  intro b sa j hj
  rcases (show j = 0 ∨ j = 1 ∨ j = 2 ∨ j = 3 ∨ j = 4 ∨ j = 5 ∨ j = 6 ∨ j = 7 ∨ j = 8 ∨ j = 9 ∨ j = 10 ∨ j = 11 ∨ j = 12 ∨ j = 13 by omega) with rfl | rfl | rfl | rfl | rfl | rfl | rfl | rfl | rfl | rfl | rfl | rfl | rfl | rfl <;> rfl
def nwX5 : List Value := [.null, .null, .null, .null, vI 0, vI 0, .null, .null, .null, .null, .null, .null, vI 0, vI 0, vI 0]
theorem V_newX5 (hd : decode Y.2.1 pc = .ok (.new idx, 3)) (hcl : Cond.classLink Y.1.cls idx RX5 ∈ vU) (hc : kc + 1 ≤ R.cells) (hs : ks + 15 ≤ R.slots) (kk : ∀ w' : vWd, w' n = some (.inr (5, nwX5)) → (∀ j, j ≠ n → w' j = w j) → V Y R Q (pc + 3) lv (.ref n :: st) (n + 1) w' (kc + 1) (ks + 15)) : V Y R Q pc lv st n w kc ks := by
  refine V_new (ci := 5) (C := RX5) (T := TX5) (N := 15) (ty0 := tyX5) (fs := nwX5) hd rfl inU_X5 tyX5_ok hcl ki_X5 kn_X5 ?_ hc hs (kk _ (va_up_self _ _ _) (fun _ h => va_up_ne _ _ h))
  intro b sa j hj
  rcases (show j = 0 ∨ j = 1 ∨ j = 2 ∨ j = 3 ∨ j = 4 ∨ j = 5 ∨ j = 6 ∨ j = 7 ∨ j = 8 ∨ j = 9 ∨ j = 10 ∨ j = 11 ∨ j = 12 ∨ j = 13 ∨ j = 14 by omega) with rfl | rfl | rfl | rfl | rfl | rfl | rfl | rfl | rfl | rfl | rfl | rfl | rfl | rfl | rfl <;> rfl
def nwX6 : List Value := [.null, .null, .null, .null, .null, vI 0, .null, vI 0, vI 0, vI 0, vI 0, vI 0, .null, vI 0, .null, .null, .null, .null, vI 0, vI 0]
theorem V_newX6 (hd : decode Y.2.1 pc = .ok (.new idx, 3)) (hcl : Cond.classLink Y.1.cls idx RX6 ∈ vU) (hc : kc + 1 ≤ R.cells) (hs : ks + 20 ≤ R.slots) (kk : ∀ w' : vWd, w' n = some (.inr (6, nwX6)) → (∀ j, j ≠ n → w' j = w j) → V Y R Q (pc + 3) lv (.ref n :: st) (n + 1) w' (kc + 1) (ks + 20)) : V Y R Q pc lv st n w kc ks := by
  refine V_new (ci := 6) (C := RX6) (T := TX6) (N := 20) (ty0 := tyX6) (fs := nwX6) hd rfl inU_X6 tyX6_ok hcl ki_X6 kn_X6 ?_ hc hs (kk _ (va_up_self _ _ _) (fun _ h => va_up_ne _ _ h))
  intro b sa j hj
  rcases (show j = 0 ∨ j = 1 ∨ j = 2 ∨ j = 3 ∨ j = 4 ∨ j = 5 ∨ j = 6 ∨ j = 7 ∨ j = 8 ∨ j = 9 ∨ j = 10 ∨ j = 11 ∨ j = 12 ∨ j = 13 ∨ j = 14 ∨ j = 15 ∨ j = 16 ∨ j = 17 ∨ j = 18 ∨ j = 19 by omega) with rfl | rfl | rfl | rfl | rfl | rfl | rfl | rfl | rfl | rfl | rfl | rfl | rfl | rfl | rfl | rfl | rfl | rfl | rfl | rfl <;> rfl
end MAKE
theorem rAll0 {k cap : Nat} {w : vWd} (h1 : w k = some (.inr (2, [.ref (k + 1), vI 0]))) (h2 : w (k + 1) = some (arI cap (fun _ => 0))) (hc : cap ≤ 20000) : RowAt w k cap [] :=
  ⟨fun _ => 0, h1, h2, Nat.zero_le _, hc, fun i hi => absurd hi (Nat.not_lt_zero i)⟩
abbrev rmR (cap : Nat) : Room := { frames := 1, cells := 1, slots := cap, locals := 32 }
set_option maxRecDepth 100000 in
theorem c_RowInit {w : vWd} {k cap : Nat} (h : w k = some (.inr (2, nwX2))) (hcap : cap ≤ 20000) : Ctr mX2_init (rmR cap) [.ref k, vI (cap : Int)] (k + 1) w (pC (fun n' w' => n' = k + 2 ∧ RowAt w' k cap [] ∧ ∀ j, j ≠ k → j ≠ k + 1 → w' j = w j)) := by
  refine Ctr_of (lv := [some (.ref k), some (vI (cap : Int))]) (by decide +kernel) rfl rfl ?_
  have h : w k = some (.inr (2, [.null, vI 0])) := h
  refine V_aload_n (Y := mX2_init) (pc := 0) dX2_init_0 rfl ?_
  refine V_objInit (Y := mX2_init) (pc := 1) dX2_init_1 lo_X2_1 lo_inst lo_code (Nat.le_of_ble_eq_true rfl) (Nat.le_of_ble_eq_true rfl) ?_
  refine V_aload_n (Y := mX2_init) (pc := 4) dX2_init_4 rfl ?_
  refine V_iconst (Y := mX2_init) (pc := 5) dX2_init_5 ?_
  apply V_putiW (Y := mX2_init) (pc := 6) dX2_init_6 fl_X2_7
  · assumption
  · exact Nat.le_of_ble_eq_true rfl
  intro w_6 h_6 f_6
  simp only [List.set_cons_zero, List.set_cons_succ] at h_6
  refine V_aload_n (Y := mX2_init) (pc := 9) dX2_init_9 rfl ?_
  refine V_iconst (Y := mX2_init) (pc := 10) dX2_init_10 ?_
  refine V_iload_n (Y := mX2_init) (pc := 11) dX2_init_11 rfl ?_
  refine V_max (Y := mX2_init) (pc := 12) dX2_init_12 ln_X2_13 ⟨by omega, by omega⟩ ⟨by omega, by omega⟩ rfl ?_
  apply V_newIW (N := cap) (Y := mX2_init) (pc := 15) dX2_init_15 ka_int
  · omega
  · omega
  · exact Nat.le_of_ble_eq_true rfl
  · show 0 + cap ≤ cap; omega
  intro w_15 h_15 f_15
  have h15 := (f_15 k (by omega)).trans h_6
  apply V_putFW (Y := mX2_init) (pc := 17) dX2_init_17 fl_X2_19
  · exact h15
  · rfl
  · exact ⟨_, rfl, rfl⟩
  · exact ff_X2_19
  · exact fun _ => ⟨rfl, rfl⟩
  · exact Nat.le_of_ble_eq_true rfl
  intro w_17 h_17 f_17
  simp only [List.set_cons_zero, List.set_cons_succ] at h_17
  refine V_vret (Y := mX2_init) (pc := 20) dX2_init_20 rfl (Nat.le_of_ble_eq_true rfl) (by show 0 + cap ≤ cap; omega) ?_
  exact pC_of ⟨rfl, rAll0 h_17 ((f_17 (k + 1) (by omega)).trans h_15) hcap, fun j a b => (f_17 j a).trans ((f_15 j b).trans (f_6 j a))⟩
set_option maxRecDepth 100000 in
theorem c_DayInit {w : vWd} {q n : Nat} (h : w q = some (.inr (0, nwX0))) : Ctr mX0_init (rm 1) [.ref q] n w (pC (fun n' w' => n' = n ∧ DayAt w' q 0 0 ∧ ∀ j, j ≠ q → w' j = w j)) := by
  refine Ctr_of (lv := [some (.ref q)]) (by decide +kernel) rfl rfl ?_
  have h : w q = some (.inr (0, [vI 0, vI 0])) := h
  refine V_aload_n (Y := mX0_init) (pc := 0) dX0_init_0 rfl ?_
  refine V_objInit (Y := mX0_init) (pc := 1) dX0_init_1 lo_X0_3 lo_inst lo_code (Nat.le_of_ble_eq_true rfl) (Nat.le_of_ble_eq_true rfl) ?_
  refine V_aload_n (Y := mX0_init) (pc := 4) dX0_init_4 rfl ?_
  refine V_iconst (Y := mX0_init) (pc := 5) dX0_init_5 ?_
  apply V_putiW (Y := mX0_init) (pc := 6) dX0_init_6 fl_X0_9
  · assumption
  · exact Nat.le_of_ble_eq_true rfl
  intro w_6 h_6 f_6
  simp only [List.set_cons_zero, List.set_cons_succ] at h_6
  refine V_aload_n (Y := mX0_init) (pc := 9) dX0_init_9 rfl ?_
  refine V_iconst (Y := mX0_init) (pc := 10) dX0_init_10 ?_
  apply V_putiW (Y := mX0_init) (pc := 11) dX0_init_11 fl_X0_15
  · assumption
  · exact Nat.le_of_ble_eq_true rfl
  intro w_11 h_11 f_11
  simp only [List.set_cons_zero, List.set_cons_succ] at h_11
  refine V_vret (Y := mX0_init) (pc := 14) dX0_init_14 rfl (Nat.le_of_ble_eq_true rfl) (Nat.le_of_ble_eq_true rfl) ?_
  exact pC_of ⟨rfl, h_11, fun j a => (f_11 j a).trans (f_6 j a)⟩
theorem p19 (p : Nat) : p + 1 + 2 * 9 = p + 19 := by omega
set_option maxRecDepth 100000 in
theorem c_WallInit {w : vWd} {p : Nat} (h : w p = some (.inr (4, nwX4))) : Ctr mX4_init { frames := 2, cells := 18, slots := 107, locals := 64 } [.ref p] (p + 1) w (pC (fun n' w' => n' = p + 19 ∧ WallAt w' p (5, 0, 0, 0, 0, rsNew 5) ∧ ∀ j, j < p → w' j = w j)) := by
  refine Ctr_of (lv := [some (.ref p)]) (by decide +kernel) rfl rfl ?_
  have h : w p = some (.inr (4, [vI 0, vI 0, vI 0, vI 0, vI 0, .null, .null, .null, .null, .null, .null, .null, .null, .null])) := h
  refine V_aload_n (Y := mX4_init) (pc := 0) dX4_init_0 rfl ?_
  refine V_objInit (Y := mX4_init) (pc := 1) dX4_init_1 lo_X4_3 lo_inst lo_code (Nat.le_of_ble_eq_true rfl) (Nat.le_of_ble_eq_true rfl) ?_
  refine V_aload_n (Y := mX4_init) (pc := 4) dX4_init_4 rfl ?_
  refine V_iconst (Y := mX4_init) (pc := 5) dX4_init_5 ?_
  apply V_putiW (Y := mX4_init) (pc := 6) dX4_init_6 fl_X4_9
  · assumption
  · exact Nat.le_of_ble_eq_true rfl
  intro w_6 h_6 f_6
  simp only [List.set_cons_zero, List.set_cons_succ] at h_6
  refine V_aload_n (Y := mX4_init) (pc := 9) dX4_init_9 rfl ?_
  refine V_iconst (Y := mX4_init) (pc := 10) dX4_init_10 ?_
  apply V_putiW (Y := mX4_init) (pc := 11) dX4_init_11 fl_X4_15
  · assumption
  · exact Nat.le_of_ble_eq_true rfl
  intro w_11 h_11 f_11
  simp only [List.set_cons_zero, List.set_cons_succ] at h_11
  refine V_aload_n (Y := mX4_init) (pc := 14) dX4_init_14 rfl ?_
  refine V_iconst (Y := mX4_init) (pc := 15) dX4_init_15 ?_
  apply V_putiW (Y := mX4_init) (pc := 16) dX4_init_16 fl_X4_18
  · assumption
  · exact Nat.le_of_ble_eq_true rfl
  intro w_16 h_16 f_16
  simp only [List.set_cons_zero, List.set_cons_succ] at h_16
  refine V_aload_n (Y := mX4_init) (pc := 19) dX4_init_19 rfl ?_
  refine V_iconst (Y := mX4_init) (pc := 20) dX4_init_20 ?_
  apply V_putiW (Y := mX4_init) (pc := 21) dX4_init_21 fl_X4_21
  · assumption
  · exact Nat.le_of_ble_eq_true rfl
  intro w_21 h_21 f_21
  simp only [List.set_cons_zero, List.set_cons_succ] at h_21
  refine V_aload_n (Y := mX4_init) (pc := 24) dX4_init_24 rfl ?_
  refine V_iconst (Y := mX4_init) (pc := 25) dX4_init_25 ?_
  apply V_putiW (Y := mX4_init) (pc := 26) dX4_init_26 fl_X4_24
  · assumption
  · exact Nat.le_of_ble_eq_true rfl
  intro w_26 h_26 f_26
  simp only [List.set_cons_zero, List.set_cons_succ] at h_26
  have fa : ∀ j, j ≠ p → w_26 j = w j := fun j a => (f_26 j a).trans ((f_21 j a).trans ((f_16 j a).trans ((f_11 j a).trans (f_6 j a))))
  have e0 := h_26
  clear h_6 h_11 h_16 h_21 h_26
  refine V_aload_n (Y := mX4_init) (pc := 29) dX4_init_29 rfl ?_
  apply V_newX2 (Y := mX4_init) (pc := 30) dX4_init_30 kl_X4_27
  · exact Nat.le_of_ble_eq_true rfl
  · exact Nat.le_of_ble_eq_true rfl
  intro w_30 h_30 f_30
  skip
  have e0a := (f_30 p (by omega)).trans e0
  refine V_dup (Y := mX4_init) (pc := 33) dX4_init_33 rfl ?_
  refine V_bipush (Y := mX4_init) (pc := 34) dX4_init_34 ⟨by decide, by decide⟩ ?_
  apply V_cV (Y := mX4_init) (pc := 36) dX4_init_36 ok_X2_init oi_X2_init rfl rfl ln_X4_29 (c_RowInit (k := p + 1) (cap := 7) h_30 (by omega))
  · rfl
  · rfl
  · rfl
  rintro n_36 w_36 ⟨rfl, r00, q0⟩
  have e0b := (q0 p (by omega) (by omega)).trans e0a
  apply V_putFW (Y := mX4_init) (pc := 39) dX4_init_39 fl_X4_32
  · exact e0b
  · rfl
  · exact ⟨_, rfl, rfl⟩
  · exact ff_X4_32
  · exact fun _ => ⟨rfl, rfl⟩
  · exact Nat.le_of_ble_eq_true rfl
  intro w_39 h_39 f_39
  simp only [List.set_cons_zero, List.set_cons_succ] at h_39
  have e1 := h_39
  have r0 := r00.keep (w' := w_39) (f_39 _ (by omega)) (f_39 _ (by omega))
  have fz0 : ∀ j, j < p → w_39 j = w j := fun j a => (f_39 j (by omega)).trans ((q0 j (by omega) (by omega)).trans ((f_30 j (by omega)).trans (fa j (by omega))))
  refine V_aload_n (Y := mX4_init) (pc := 42) dX4_init_42 rfl ?_
  apply V_newX2 (Y := mX4_init) (pc := 43) dX4_init_43 kl_X4_27
  · exact Nat.le_of_ble_eq_true rfl
  · exact Nat.le_of_ble_eq_true rfl
  intro w_43 h_43 f_43
  skip
  have e1a := (f_43 p (by omega)).trans e1
  have r0_43 := r0.keep (w' := w_43) (f_43 _ (by omega)) (f_43 _ (by omega))
  refine V_dup (Y := mX4_init) (pc := 46) dX4_init_46 rfl ?_
  refine V_bipush (Y := mX4_init) (pc := 47) dX4_init_47 ⟨by decide, by decide⟩ ?_
  apply V_cV (Y := mX4_init) (pc := 49) dX4_init_49 ok_X2_init oi_X2_init rfl rfl ln_X4_29 (c_RowInit (k := p + 3) (cap := 10) h_43 (by omega))
  · rfl
  · rfl
  · rfl
  rintro n_49 w_49 ⟨rfl, r10, q1⟩
  have e1b := (q1 p (by omega) (by omega)).trans e1a
  have r0_49 := r0_43.keep (w' := w_49) (q1 _ (by omega) (by omega)) (q1 _ (by omega) (by omega))
  apply V_putFW (Y := mX4_init) (pc := 52) dX4_init_52 fl_X4_36
  · exact e1b
  · rfl
  · exact ⟨_, rfl, rfl⟩
  · exact ff_X4_36
  · exact fun _ => ⟨rfl, rfl⟩
  · exact Nat.le_of_ble_eq_true rfl
  intro w_52 h_52 f_52
  simp only [List.set_cons_zero, List.set_cons_succ] at h_52
  have e2 := h_52
  have r1 := r10.keep (w' := w_52) (f_52 _ (by omega)) (f_52 _ (by omega))
  have r0 := r0_49.keep (w' := w_52) (f_52 _ (by omega)) (f_52 _ (by omega))
  have fz1 : ∀ j, j < p → w_52 j = w j := fun j a => (f_52 j (by omega)).trans ((q1 j (by omega) (by omega)).trans ((f_43 j (by omega)).trans (fz0 j a)))
  refine V_aload_n (Y := mX4_init) (pc := 55) dX4_init_55 rfl ?_
  apply V_newX2 (Y := mX4_init) (pc := 56) dX4_init_56 kl_X4_27
  · exact Nat.le_of_ble_eq_true rfl
  · exact Nat.le_of_ble_eq_true rfl
  intro w_56 h_56 f_56
  skip
  have e2a := (f_56 p (by omega)).trans e2
  have r0_56 := r0.keep (w' := w_56) (f_56 _ (by omega)) (f_56 _ (by omega))
  have r1_56 := r1.keep (w' := w_56) (f_56 _ (by omega)) (f_56 _ (by omega))
  refine V_dup (Y := mX4_init) (pc := 59) dX4_init_59 rfl ?_
  refine V_bipush (Y := mX4_init) (pc := 60) dX4_init_60 ⟨by decide, by decide⟩ ?_
  apply V_cV (Y := mX4_init) (pc := 62) dX4_init_62 ok_X2_init oi_X2_init rfl rfl ln_X4_29 (c_RowInit (k := p + 5) (cap := 10) h_56 (by omega))
  · rfl
  · rfl
  · rfl
  rintro n_62 w_62 ⟨rfl, r20, q2⟩
  have e2b := (q2 p (by omega) (by omega)).trans e2a
  have r0_62 := r0_56.keep (w' := w_62) (q2 _ (by omega) (by omega)) (q2 _ (by omega) (by omega))
  have r1_62 := r1_56.keep (w' := w_62) (q2 _ (by omega) (by omega)) (q2 _ (by omega) (by omega))
  apply V_putFW (Y := mX4_init) (pc := 65) dX4_init_65 fl_X4_39
  · exact e2b
  · rfl
  · exact ⟨_, rfl, rfl⟩
  · exact ff_X4_39
  · exact fun _ => ⟨rfl, rfl⟩
  · exact Nat.le_of_ble_eq_true rfl
  intro w_65 h_65 f_65
  simp only [List.set_cons_zero, List.set_cons_succ] at h_65
  have e3 := h_65
  have r2 := r20.keep (w' := w_65) (f_65 _ (by omega)) (f_65 _ (by omega))
  have r0 := r0_62.keep (w' := w_65) (f_65 _ (by omega)) (f_65 _ (by omega))
  have r1 := r1_62.keep (w' := w_65) (f_65 _ (by omega)) (f_65 _ (by omega))
  have fz2 : ∀ j, j < p → w_65 j = w j := fun j a => (f_65 j (by omega)).trans ((q2 j (by omega) (by omega)).trans ((f_56 j (by omega)).trans (fz1 j a)))
  refine V_aload_n (Y := mX4_init) (pc := 68) dX4_init_68 rfl ?_
  apply V_newX2 (Y := mX4_init) (pc := 69) dX4_init_69 kl_X4_27
  · exact Nat.le_of_ble_eq_true rfl
  · exact Nat.le_of_ble_eq_true rfl
  intro w_69 h_69 f_69
  skip
  have e3a := (f_69 p (by omega)).trans e3
  have r0_69 := r0.keep (w' := w_69) (f_69 _ (by omega)) (f_69 _ (by omega))
  have r1_69 := r1.keep (w' := w_69) (f_69 _ (by omega)) (f_69 _ (by omega))
  have r2_69 := r2.keep (w' := w_69) (f_69 _ (by omega)) (f_69 _ (by omega))
  refine V_dup (Y := mX4_init) (pc := 72) dX4_init_72 rfl ?_
  refine V_bipush (Y := mX4_init) (pc := 73) dX4_init_73 ⟨by decide, by decide⟩ ?_
  apply V_cV (Y := mX4_init) (pc := 75) dX4_init_75 ok_X2_init oi_X2_init rfl rfl ln_X4_29 (c_RowInit (k := p + 7) (cap := 10) h_69 (by omega))
  · rfl
  · rfl
  · rfl
  rintro n_75 w_75 ⟨rfl, r30, q3⟩
  have e3b := (q3 p (by omega) (by omega)).trans e3a
  have r0_75 := r0_69.keep (w' := w_75) (q3 _ (by omega) (by omega)) (q3 _ (by omega) (by omega))
  have r1_75 := r1_69.keep (w' := w_75) (q3 _ (by omega) (by omega)) (q3 _ (by omega) (by omega))
  have r2_75 := r2_69.keep (w' := w_75) (q3 _ (by omega) (by omega)) (q3 _ (by omega) (by omega))
  apply V_putFW (Y := mX4_init) (pc := 78) dX4_init_78 fl_X4_42
  · exact e3b
  · rfl
  · exact ⟨_, rfl, rfl⟩
  · exact ff_X4_42
  · exact fun _ => ⟨rfl, rfl⟩
  · exact Nat.le_of_ble_eq_true rfl
  intro w_78 h_78 f_78
  simp only [List.set_cons_zero, List.set_cons_succ] at h_78
  have e4 := h_78
  have r3 := r30.keep (w' := w_78) (f_78 _ (by omega)) (f_78 _ (by omega))
  have r0 := r0_75.keep (w' := w_78) (f_78 _ (by omega)) (f_78 _ (by omega))
  have r1 := r1_75.keep (w' := w_78) (f_78 _ (by omega)) (f_78 _ (by omega))
  have r2 := r2_75.keep (w' := w_78) (f_78 _ (by omega)) (f_78 _ (by omega))
  have fz3 : ∀ j, j < p → w_78 j = w j := fun j a => (f_78 j (by omega)).trans ((q3 j (by omega) (by omega)).trans ((f_69 j (by omega)).trans (fz2 j a)))
  refine V_aload_n (Y := mX4_init) (pc := 81) dX4_init_81 rfl ?_
  apply V_newX2 (Y := mX4_init) (pc := 82) dX4_init_82 kl_X4_27
  · exact Nat.le_of_ble_eq_true rfl
  · exact Nat.le_of_ble_eq_true rfl
  intro w_82 h_82 f_82
  skip
  have e4a := (f_82 p (by omega)).trans e4
  have r0_82 := r0.keep (w' := w_82) (f_82 _ (by omega)) (f_82 _ (by omega))
  have r1_82 := r1.keep (w' := w_82) (f_82 _ (by omega)) (f_82 _ (by omega))
  have r2_82 := r2.keep (w' := w_82) (f_82 _ (by omega)) (f_82 _ (by omega))
  have r3_82 := r3.keep (w' := w_82) (f_82 _ (by omega)) (f_82 _ (by omega))
  refine V_dup (Y := mX4_init) (pc := 85) dX4_init_85 rfl ?_
  refine V_bipush (Y := mX4_init) (pc := 86) dX4_init_86 ⟨by decide, by decide⟩ ?_
  apply V_cV (Y := mX4_init) (pc := 88) dX4_init_88 ok_X2_init oi_X2_init rfl rfl ln_X4_29 (c_RowInit (k := p + 9) (cap := 10) h_82 (by omega))
  · rfl
  · rfl
  · rfl
  rintro n_88 w_88 ⟨rfl, r40, q4⟩
  have e4b := (q4 p (by omega) (by omega)).trans e4a
  have r0_88 := r0_82.keep (w' := w_88) (q4 _ (by omega) (by omega)) (q4 _ (by omega) (by omega))
  have r1_88 := r1_82.keep (w' := w_88) (q4 _ (by omega) (by omega)) (q4 _ (by omega) (by omega))
  have r2_88 := r2_82.keep (w' := w_88) (q4 _ (by omega) (by omega)) (q4 _ (by omega) (by omega))
  have r3_88 := r3_82.keep (w' := w_88) (q4 _ (by omega) (by omega)) (q4 _ (by omega) (by omega))
  apply V_putFW (Y := mX4_init) (pc := 91) dX4_init_91 fl_X4_45
  · exact e4b
  · rfl
  · exact ⟨_, rfl, rfl⟩
  · exact ff_X4_45
  · exact fun _ => ⟨rfl, rfl⟩
  · exact Nat.le_of_ble_eq_true rfl
  intro w_91 h_91 f_91
  simp only [List.set_cons_zero, List.set_cons_succ] at h_91
  have e5 := h_91
  have r4 := r40.keep (w' := w_91) (f_91 _ (by omega)) (f_91 _ (by omega))
  have r0 := r0_88.keep (w' := w_91) (f_91 _ (by omega)) (f_91 _ (by omega))
  have r1 := r1_88.keep (w' := w_91) (f_91 _ (by omega)) (f_91 _ (by omega))
  have r2 := r2_88.keep (w' := w_91) (f_91 _ (by omega)) (f_91 _ (by omega))
  have r3 := r3_88.keep (w' := w_91) (f_91 _ (by omega)) (f_91 _ (by omega))
  have fz4 : ∀ j, j < p → w_91 j = w j := fun j a => (f_91 j (by omega)).trans ((q4 j (by omega) (by omega)).trans ((f_82 j (by omega)).trans (fz3 j a)))
  refine V_aload_n (Y := mX4_init) (pc := 94) dX4_init_94 rfl ?_
  apply V_newX2 (Y := mX4_init) (pc := 95) dX4_init_95 kl_X4_27
  · exact Nat.le_of_ble_eq_true rfl
  · exact Nat.le_of_ble_eq_true rfl
  intro w_95 h_95 f_95
  skip
  have e5a := (f_95 p (by omega)).trans e5
  have r0_95 := r0.keep (w' := w_95) (f_95 _ (by omega)) (f_95 _ (by omega))
  have r1_95 := r1.keep (w' := w_95) (f_95 _ (by omega)) (f_95 _ (by omega))
  have r2_95 := r2.keep (w' := w_95) (f_95 _ (by omega)) (f_95 _ (by omega))
  have r3_95 := r3.keep (w' := w_95) (f_95 _ (by omega)) (f_95 _ (by omega))
  have r4_95 := r4.keep (w' := w_95) (f_95 _ (by omega)) (f_95 _ (by omega))
  refine V_dup (Y := mX4_init) (pc := 98) dX4_init_98 rfl ?_
  refine V_bipush (Y := mX4_init) (pc := 99) dX4_init_99 ⟨by decide, by decide⟩ ?_
  apply V_cV (Y := mX4_init) (pc := 101) dX4_init_101 ok_X2_init oi_X2_init rfl rfl ln_X4_29 (c_RowInit (k := p + 11) (cap := 6) h_95 (by omega))
  · rfl
  · rfl
  · rfl
  rintro n_101 w_101 ⟨rfl, r50, q5⟩
  have e5b := (q5 p (by omega) (by omega)).trans e5a
  have r0_101 := r0_95.keep (w' := w_101) (q5 _ (by omega) (by omega)) (q5 _ (by omega) (by omega))
  have r1_101 := r1_95.keep (w' := w_101) (q5 _ (by omega) (by omega)) (q5 _ (by omega) (by omega))
  have r2_101 := r2_95.keep (w' := w_101) (q5 _ (by omega) (by omega)) (q5 _ (by omega) (by omega))
  have r3_101 := r3_95.keep (w' := w_101) (q5 _ (by omega) (by omega)) (q5 _ (by omega) (by omega))
  have r4_101 := r4_95.keep (w' := w_101) (q5 _ (by omega) (by omega)) (q5 _ (by omega) (by omega))
  apply V_putFW (Y := mX4_init) (pc := 104) dX4_init_104 fl_X4_48
  · exact e5b
  · rfl
  · exact ⟨_, rfl, rfl⟩
  · exact ff_X4_48
  · exact fun _ => ⟨rfl, rfl⟩
  · exact Nat.le_of_ble_eq_true rfl
  intro w_104 h_104 f_104
  simp only [List.set_cons_zero, List.set_cons_succ] at h_104
  have e6 := h_104
  have r5 := r50.keep (w' := w_104) (f_104 _ (by omega)) (f_104 _ (by omega))
  have r0 := r0_101.keep (w' := w_104) (f_104 _ (by omega)) (f_104 _ (by omega))
  have r1 := r1_101.keep (w' := w_104) (f_104 _ (by omega)) (f_104 _ (by omega))
  have r2 := r2_101.keep (w' := w_104) (f_104 _ (by omega)) (f_104 _ (by omega))
  have r3 := r3_101.keep (w' := w_104) (f_104 _ (by omega)) (f_104 _ (by omega))
  have r4 := r4_101.keep (w' := w_104) (f_104 _ (by omega)) (f_104 _ (by omega))
  have fz5 : ∀ j, j < p → w_104 j = w j := fun j a => (f_104 j (by omega)).trans ((q5 j (by omega) (by omega)).trans ((f_95 j (by omega)).trans (fz4 j a)))
  refine V_aload_n (Y := mX4_init) (pc := 107) dX4_init_107 rfl ?_
  apply V_newX2 (Y := mX4_init) (pc := 108) dX4_init_108 kl_X4_27
  · exact Nat.le_of_ble_eq_true rfl
  · exact Nat.le_of_ble_eq_true rfl
  intro w_108 h_108 f_108
  skip
  have e6a := (f_108 p (by omega)).trans e6
  have r0_108 := r0.keep (w' := w_108) (f_108 _ (by omega)) (f_108 _ (by omega))
  have r1_108 := r1.keep (w' := w_108) (f_108 _ (by omega)) (f_108 _ (by omega))
  have r2_108 := r2.keep (w' := w_108) (f_108 _ (by omega)) (f_108 _ (by omega))
  have r3_108 := r3.keep (w' := w_108) (f_108 _ (by omega)) (f_108 _ (by omega))
  have r4_108 := r4.keep (w' := w_108) (f_108 _ (by omega)) (f_108 _ (by omega))
  have r5_108 := r5.keep (w' := w_108) (f_108 _ (by omega)) (f_108 _ (by omega))
  refine V_dup (Y := mX4_init) (pc := 111) dX4_init_111 rfl ?_
  refine V_bipush (Y := mX4_init) (pc := 112) dX4_init_112 ⟨by decide, by decide⟩ ?_
  apply V_cV (Y := mX4_init) (pc := 114) dX4_init_114 ok_X2_init oi_X2_init rfl rfl ln_X4_29 (c_RowInit (k := p + 13) (cap := 8) h_108 (by omega))
  · rfl
  · rfl
  · rfl
  rintro n_114 w_114 ⟨rfl, r60, q6⟩
  have e6b := (q6 p (by omega) (by omega)).trans e6a
  have r0_114 := r0_108.keep (w' := w_114) (q6 _ (by omega) (by omega)) (q6 _ (by omega) (by omega))
  have r1_114 := r1_108.keep (w' := w_114) (q6 _ (by omega) (by omega)) (q6 _ (by omega) (by omega))
  have r2_114 := r2_108.keep (w' := w_114) (q6 _ (by omega) (by omega)) (q6 _ (by omega) (by omega))
  have r3_114 := r3_108.keep (w' := w_114) (q6 _ (by omega) (by omega)) (q6 _ (by omega) (by omega))
  have r4_114 := r4_108.keep (w' := w_114) (q6 _ (by omega) (by omega)) (q6 _ (by omega) (by omega))
  have r5_114 := r5_108.keep (w' := w_114) (q6 _ (by omega) (by omega)) (q6 _ (by omega) (by omega))
  apply V_putFW (Y := mX4_init) (pc := 117) dX4_init_117 fl_X4_51
  · exact e6b
  · rfl
  · exact ⟨_, rfl, rfl⟩
  · exact ff_X4_51
  · exact fun _ => ⟨rfl, rfl⟩
  · exact Nat.le_of_ble_eq_true rfl
  intro w_117 h_117 f_117
  simp only [List.set_cons_zero, List.set_cons_succ] at h_117
  have e7 := h_117
  have r6 := r60.keep (w' := w_117) (f_117 _ (by omega)) (f_117 _ (by omega))
  have r0 := r0_114.keep (w' := w_117) (f_117 _ (by omega)) (f_117 _ (by omega))
  have r1 := r1_114.keep (w' := w_117) (f_117 _ (by omega)) (f_117 _ (by omega))
  have r2 := r2_114.keep (w' := w_117) (f_117 _ (by omega)) (f_117 _ (by omega))
  have r3 := r3_114.keep (w' := w_117) (f_117 _ (by omega)) (f_117 _ (by omega))
  have r4 := r4_114.keep (w' := w_117) (f_117 _ (by omega)) (f_117 _ (by omega))
  have r5 := r5_114.keep (w' := w_117) (f_117 _ (by omega)) (f_117 _ (by omega))
  have fz6 : ∀ j, j < p → w_117 j = w j := fun j a => (f_117 j (by omega)).trans ((q6 j (by omega) (by omega)).trans ((f_108 j (by omega)).trans (fz5 j a)))
  refine V_aload_n (Y := mX4_init) (pc := 120) dX4_init_120 rfl ?_
  apply V_newX2 (Y := mX4_init) (pc := 121) dX4_init_121 kl_X4_27
  · exact Nat.le_of_ble_eq_true rfl
  · exact Nat.le_of_ble_eq_true rfl
  intro w_121 h_121 f_121
  skip
  have e7a := (f_121 p (by omega)).trans e7
  have r0_121 := r0.keep (w' := w_121) (f_121 _ (by omega)) (f_121 _ (by omega))
  have r1_121 := r1.keep (w' := w_121) (f_121 _ (by omega)) (f_121 _ (by omega))
  have r2_121 := r2.keep (w' := w_121) (f_121 _ (by omega)) (f_121 _ (by omega))
  have r3_121 := r3.keep (w' := w_121) (f_121 _ (by omega)) (f_121 _ (by omega))
  have r4_121 := r4.keep (w' := w_121) (f_121 _ (by omega)) (f_121 _ (by omega))
  have r5_121 := r5.keep (w' := w_121) (f_121 _ (by omega)) (f_121 _ (by omega))
  have r6_121 := r6.keep (w' := w_121) (f_121 _ (by omega)) (f_121 _ (by omega))
  refine V_dup (Y := mX4_init) (pc := 124) dX4_init_124 rfl ?_
  refine V_bipush (Y := mX4_init) (pc := 125) dX4_init_125 ⟨by decide, by decide⟩ ?_
  apply V_cV (Y := mX4_init) (pc := 127) dX4_init_127 ok_X2_init oi_X2_init rfl rfl ln_X4_29 (c_RowInit (k := p + 15) (cap := 8) h_121 (by omega))
  · rfl
  · rfl
  · rfl
  rintro n_127 w_127 ⟨rfl, r70, q7⟩
  have e7b := (q7 p (by omega) (by omega)).trans e7a
  have r0_127 := r0_121.keep (w' := w_127) (q7 _ (by omega) (by omega)) (q7 _ (by omega) (by omega))
  have r1_127 := r1_121.keep (w' := w_127) (q7 _ (by omega) (by omega)) (q7 _ (by omega) (by omega))
  have r2_127 := r2_121.keep (w' := w_127) (q7 _ (by omega) (by omega)) (q7 _ (by omega) (by omega))
  have r3_127 := r3_121.keep (w' := w_127) (q7 _ (by omega) (by omega)) (q7 _ (by omega) (by omega))
  have r4_127 := r4_121.keep (w' := w_127) (q7 _ (by omega) (by omega)) (q7 _ (by omega) (by omega))
  have r5_127 := r5_121.keep (w' := w_127) (q7 _ (by omega) (by omega)) (q7 _ (by omega) (by omega))
  have r6_127 := r6_121.keep (w' := w_127) (q7 _ (by omega) (by omega)) (q7 _ (by omega) (by omega))
  apply V_putFW (Y := mX4_init) (pc := 130) dX4_init_130 fl_X4_54
  · exact e7b
  · rfl
  · exact ⟨_, rfl, rfl⟩
  · exact ff_X4_54
  · exact fun _ => ⟨rfl, rfl⟩
  · exact Nat.le_of_ble_eq_true rfl
  intro w_130 h_130 f_130
  simp only [List.set_cons_zero, List.set_cons_succ] at h_130
  have e8 := h_130
  have r7 := r70.keep (w' := w_130) (f_130 _ (by omega)) (f_130 _ (by omega))
  have r0 := r0_127.keep (w' := w_130) (f_130 _ (by omega)) (f_130 _ (by omega))
  have r1 := r1_127.keep (w' := w_130) (f_130 _ (by omega)) (f_130 _ (by omega))
  have r2 := r2_127.keep (w' := w_130) (f_130 _ (by omega)) (f_130 _ (by omega))
  have r3 := r3_127.keep (w' := w_130) (f_130 _ (by omega)) (f_130 _ (by omega))
  have r4 := r4_127.keep (w' := w_130) (f_130 _ (by omega)) (f_130 _ (by omega))
  have r5 := r5_127.keep (w' := w_130) (f_130 _ (by omega)) (f_130 _ (by omega))
  have r6 := r6_127.keep (w' := w_130) (f_130 _ (by omega)) (f_130 _ (by omega))
  have fz7 : ∀ j, j < p → w_130 j = w j := fun j a => (f_130 j (by omega)).trans ((q7 j (by omega) (by omega)).trans ((f_121 j (by omega)).trans (fz6 j a)))
  refine V_aload_n (Y := mX4_init) (pc := 133) dX4_init_133 rfl ?_
  apply V_newX2 (Y := mX4_init) (pc := 134) dX4_init_134 kl_X4_27
  · exact Nat.le_of_ble_eq_true rfl
  · exact Nat.le_of_ble_eq_true rfl
  intro w_134 h_134 f_134
  skip
  have e8a := (f_134 p (by omega)).trans e8
  have r0_134 := r0.keep (w' := w_134) (f_134 _ (by omega)) (f_134 _ (by omega))
  have r1_134 := r1.keep (w' := w_134) (f_134 _ (by omega)) (f_134 _ (by omega))
  have r2_134 := r2.keep (w' := w_134) (f_134 _ (by omega)) (f_134 _ (by omega))
  have r3_134 := r3.keep (w' := w_134) (f_134 _ (by omega)) (f_134 _ (by omega))
  have r4_134 := r4.keep (w' := w_134) (f_134 _ (by omega)) (f_134 _ (by omega))
  have r5_134 := r5.keep (w' := w_134) (f_134 _ (by omega)) (f_134 _ (by omega))
  have r6_134 := r6.keep (w' := w_134) (f_134 _ (by omega)) (f_134 _ (by omega))
  have r7_134 := r7.keep (w' := w_134) (f_134 _ (by omega)) (f_134 _ (by omega))
  refine V_dup (Y := mX4_init) (pc := 137) dX4_init_137 rfl ?_
  refine V_bipush (Y := mX4_init) (pc := 138) dX4_init_138 ⟨by decide, by decide⟩ ?_
  apply V_cV (Y := mX4_init) (pc := 140) dX4_init_140 ok_X2_init oi_X2_init rfl rfl ln_X4_29 (c_RowInit (k := p + 17) (cap := 20) h_134 (by omega))
  · rfl
  · rfl
  · rfl
  rintro n_140 w_140 ⟨rfl, r80, q8⟩
  have e8b := (q8 p (by omega) (by omega)).trans e8a
  have r0_140 := r0_134.keep (w' := w_140) (q8 _ (by omega) (by omega)) (q8 _ (by omega) (by omega))
  have r1_140 := r1_134.keep (w' := w_140) (q8 _ (by omega) (by omega)) (q8 _ (by omega) (by omega))
  have r2_140 := r2_134.keep (w' := w_140) (q8 _ (by omega) (by omega)) (q8 _ (by omega) (by omega))
  have r3_140 := r3_134.keep (w' := w_140) (q8 _ (by omega) (by omega)) (q8 _ (by omega) (by omega))
  have r4_140 := r4_134.keep (w' := w_140) (q8 _ (by omega) (by omega)) (q8 _ (by omega) (by omega))
  have r5_140 := r5_134.keep (w' := w_140) (q8 _ (by omega) (by omega)) (q8 _ (by omega) (by omega))
  have r6_140 := r6_134.keep (w' := w_140) (q8 _ (by omega) (by omega)) (q8 _ (by omega) (by omega))
  have r7_140 := r7_134.keep (w' := w_140) (q8 _ (by omega) (by omega)) (q8 _ (by omega) (by omega))
  apply V_putFW (Y := mX4_init) (pc := 143) dX4_init_143 fl_X4_57
  · exact e8b
  · rfl
  · exact ⟨_, rfl, rfl⟩
  · exact ff_X4_57
  · exact fun _ => ⟨rfl, rfl⟩
  · exact Nat.le_of_ble_eq_true rfl
  intro w_143 h_143 f_143
  simp only [List.set_cons_zero, List.set_cons_succ] at h_143
  have e9 := h_143
  have r8 := r80.keep (w' := w_143) (f_143 _ (by omega)) (f_143 _ (by omega))
  have r0 := r0_140.keep (w' := w_143) (f_143 _ (by omega)) (f_143 _ (by omega))
  have r1 := r1_140.keep (w' := w_143) (f_143 _ (by omega)) (f_143 _ (by omega))
  have r2 := r2_140.keep (w' := w_143) (f_143 _ (by omega)) (f_143 _ (by omega))
  have r3 := r3_140.keep (w' := w_143) (f_143 _ (by omega)) (f_143 _ (by omega))
  have r4 := r4_140.keep (w' := w_143) (f_143 _ (by omega)) (f_143 _ (by omega))
  have r5 := r5_140.keep (w' := w_143) (f_143 _ (by omega)) (f_143 _ (by omega))
  have r6 := r6_140.keep (w' := w_143) (f_143 _ (by omega)) (f_143 _ (by omega))
  have r7 := r7_140.keep (w' := w_143) (f_143 _ (by omega)) (f_143 _ (by omega))
  have fz8 : ∀ j, j < p → w_143 j = w j := fun j a => (f_143 j (by omega)).trans ((q8 j (by omega) (by omega)).trans ((f_134 j (by omega)).trans (fz7 j a)))
  have W0 : WallAt w_143 p (0, 0, 0, 0, 0, fun _ => []) := ⟨e9, fun i hi => by rcases (show i = 0 ∨ i = 1 ∨ i = 2 ∨ i = 3 ∨ i = 4 ∨ i = 5 ∨ i = 6 ∨ i = 7 ∨ i = 8 by omega) with rfl | rfl | rfl | rfl | rfl | rfl | rfl | rfl | rfl; exact r0; exact r1; exact r2; exact r3; exact r4; exact r5; exact r6; exact r7; exact r8⟩
  refine V_aload_n (Y := mX4_init) (pc := 146) dX4_init_146 rfl ?_
  refine V_iconst (Y := mX4_init) (pc := 147) dX4_init_147 ?_
  apply V_vI (Y := mX4_init) (pc := 148) dX4_init_148 ok_X4_tellDrawers ov_X4_tellDrawers ln_X4_60 (c_tellDrawers (k := 5) W0 ⟨by omega, by omega⟩)
  · exact W0.obj
  · rfl
  · rfl
  · rfl
  · rfl
  · rfl
  rintro z_148 w_148 ⟨hz, g1, f1⟩
  refine V_pop (Y := mX4_init) (pc := 151) dX4_init_151 rfl ?_
  refine V_vret (Y := mX4_init) (pc := 152) dX4_init_152 rfl (Nat.le_of_ble_eq_true rfl) (Nat.le_of_ble_eq_true rfl) ?_
  exact pC_of ⟨rfl, g1, fun j a => (f1 j (by omega)).trans (fz8 j a)⟩
set_option maxRecDepth 100000 in
theorem c_RdInit {w : vWd} (h : w 79 = some (.inr (1, nwX1))) : Ctr mX1_init { frames := 2, cells := 4, slots := 1204, locals := 64 } [.ref 79] 80 w (pC (fun n' w' => n' = 84 ∧ (w' 79 = some (rO 0 0 0) ∧ RowAt w' 80 200 [] ∧ RowAt w' 82 1000 []) ∧ ∀ j, j < 79 → w' j = w j)) := by
  refine Ctr_of (lv := [some (.ref 79)]) (by decide +kernel) rfl rfl ?_
  have h : w 79 = some (.inr (1, [.null, .null, vI 0, vI 0, vI 0])) := h
  refine V_aload_n (Y := mX1_init) (pc := 0) dX1_init_0 rfl ?_
  refine V_objInit (Y := mX1_init) (pc := 1) dX1_init_1 lo_X1_3 lo_inst lo_code (Nat.le_of_ble_eq_true rfl) (Nat.le_of_ble_eq_true rfl) ?_
  refine V_aload_n (Y := mX1_init) (pc := 4) dX1_init_4 rfl ?_
  apply V_newX2 (Y := mX1_init) (pc := 5) dX1_init_5 kl_X1_9
  · exact Nat.le_of_ble_eq_true rfl
  · exact Nat.le_of_ble_eq_true rfl
  intro w_5 h_5 f_5
  skip
  have e1 := (f_5 79 (by omega)).trans h
  refine V_dup (Y := mX1_init) (pc := 8) dX1_init_8 rfl ?_
  refine V_sipush (Y := mX1_init) (pc := 9) dX1_init_9 ⟨by decide, by decide⟩ ?_
  apply V_cV (Y := mX1_init) (pc := 12) dX1_init_12 ok_X2_init oi_X2_init rfl rfl ln_X1_11 (c_RowInit (k := 80) (cap := 200) h_5 (by omega))
  · rfl
  · rfl
  · rfl
  rintro n_12 w_12 ⟨rfl, r1, q1⟩
  have e2 := (q1 79 (by omega) (by omega)).trans e1
  apply V_putFW (Y := mX1_init) (pc := 15) dX1_init_15 fl_X1_14
  · exact e2
  · rfl
  · exact ⟨_, rfl, rfl⟩
  · exact ff_X1_14
  · exact fun _ => ⟨rfl, rfl⟩
  · exact Nat.le_of_ble_eq_true rfl
  intro w_15 h_15 f_15
  simp only [List.set_cons_zero, List.set_cons_succ] at h_15
  have r2 := r1.keep (w' := w_15) (f_15 _ (by omega)) (f_15 _ (by omega))
  refine V_aload_n (Y := mX1_init) (pc := 18) dX1_init_18 rfl ?_
  apply V_newX2 (Y := mX1_init) (pc := 19) dX1_init_19 kl_X1_9
  · exact Nat.le_of_ble_eq_true rfl
  · exact Nat.le_of_ble_eq_true rfl
  intro w_19 h_19 f_19
  skip
  have e3 := (f_19 79 (by omega)).trans h_15
  have r3 := r2.keep (w' := w_19) (f_19 _ (by omega)) (f_19 _ (by omega))
  refine V_dup (Y := mX1_init) (pc := 22) dX1_init_22 rfl ?_
  refine V_sipush (Y := mX1_init) (pc := 23) dX1_init_23 ⟨by decide, by decide⟩ ?_
  apply V_cV (Y := mX1_init) (pc := 26) dX1_init_26 ok_X2_init oi_X2_init rfl rfl ln_X1_11 (c_RowInit (k := 82) (cap := 1000) h_19 (by omega))
  · rfl
  · rfl
  · rfl
  rintro n_26 w_26 ⟨rfl, s1, q2⟩
  have e4 := (q2 79 (by omega) (by omega)).trans e3
  have r4 := r3.keep (w' := w_26) (q2 _ (by omega) (by omega)) (q2 _ (by omega) (by omega))
  apply V_putFW (Y := mX1_init) (pc := 29) dX1_init_29 fl_X1_20
  · exact e4
  · rfl
  · exact ⟨_, rfl, rfl⟩
  · exact ff_X1_20
  · exact fun _ => ⟨rfl, rfl⟩
  · exact Nat.le_of_ble_eq_true rfl
  intro w_29 h_29 f_29
  simp only [List.set_cons_zero, List.set_cons_succ] at h_29
  refine V_aload_n (Y := mX1_init) (pc := 32) dX1_init_32 rfl ?_
  refine V_iconst (Y := mX1_init) (pc := 33) dX1_init_33 ?_
  apply V_putiW (Y := mX1_init) (pc := 34) dX1_init_34 fl_X1_23
  · assumption
  · exact Nat.le_of_ble_eq_true rfl
  intro w_34 h_34 f_34
  simp only [List.set_cons_zero, List.set_cons_succ] at h_34
  refine V_aload_n (Y := mX1_init) (pc := 37) dX1_init_37 rfl ?_
  refine V_iconst (Y := mX1_init) (pc := 38) dX1_init_38 ?_
  apply V_putiW (Y := mX1_init) (pc := 39) dX1_init_39 fl_X1_27
  · assumption
  · exact Nat.le_of_ble_eq_true rfl
  intro w_39 h_39 f_39
  simp only [List.set_cons_zero, List.set_cons_succ] at h_39
  refine V_aload_n (Y := mX1_init) (pc := 42) dX1_init_42 rfl ?_
  refine V_iconst (Y := mX1_init) (pc := 43) dX1_init_43 ?_
  apply V_putiW (Y := mX1_init) (pc := 44) dX1_init_44 fl_X1_30
  · assumption
  · exact Nat.le_of_ble_eq_true rfl
  intro w_44 h_44 f_44
  simp only [List.set_cons_zero, List.set_cons_succ] at h_44
  have ff : ∀ j, j ≠ 79 → w_44 j = w_26 j := fun j a => (f_44 j a).trans ((f_39 j a).trans ((f_34 j a).trans (f_29 j a)))
  refine V_vret (Y := mX1_init) (pc := 47) dX1_init_47 rfl (Nat.le_of_ble_eq_true rfl) (Nat.le_of_ble_eq_true rfl) ?_
  exact pC_of ⟨rfl, ⟨h_44, r4.keep (ff _ (by omega)) (ff _ (by omega)), s1.keep (ff _ (by omega)) (ff _ (by omega))⟩, fun j a => (ff j (by omega)).trans ((q2 j (by omega) (by omega)).trans ((f_19 j (by omega)).trans ((f_15 j (by omega)).trans ((q1 j (by omega) (by omega)).trans (f_5 j (by omega))))))⟩
set_option maxRecDepth 100000 in
theorem c_WkInit {w : vWd} (h : w 84 = some (.inr (3, nwX3))) : Ctr mX3_init { frames := 2, cells := 10, slots := 24067, locals := 64 } [.ref 84] 85 w (pC (fun n' w' => n' = 95 ∧ WalkAt w' 84 0 0 0 (-1) (-1) 0 (List.replicate 15309 0) ([], List.replicate 2187 0, List.replicate 2187 0, []) ∧ ∀ j, j < 84 → w' j = w j)) := by
  refine Ctr_of (lv := [some (.ref 84)]) (by decide +kernel) rfl rfl ?_
  have h : w 84 = some (.inr (3, [.null, .null, .null, .null, .null, vI 0, vI 0, vI 0, vI 0, vI 0, vI 0])) := h
  have e0 := h
  refine V_aload_n (Y := mX3_init) (pc := 0) dX3_init_0 rfl ?_
  refine V_objInit (Y := mX3_init) (pc := 1) dX3_init_1 lo_X3_3 lo_inst lo_code (Nat.le_of_ble_eq_true rfl) (Nat.le_of_ble_eq_true rfl) ?_
  refine V_aload_n (Y := mX3_init) (pc := 4) dX3_init_4 rfl ?_
  apply V_newX2 (Y := mX3_init) (pc := 5) dX3_init_5 kl_X3_9
  · exact Nat.le_of_ble_eq_true rfl
  · exact Nat.le_of_ble_eq_true rfl
  intro w_5 h_5 f_5
  skip
  have e0a := (f_5 84 (by omega)).trans e0
  refine V_dup (Y := mX3_init) (pc := 8) dX3_init_8 rfl ?_
  refine V_sipush (Y := mX3_init) (pc := 9) dX3_init_9 ⟨by decide, by decide⟩ ?_
  apply V_cV (Y := mX3_init) (pc := 12) dX3_init_12 ok_X2_init oi_X2_init rfl rfl ln_X3_11 (c_RowInit (k := 85) (cap := 15309) h_5 (by omega))
  · rfl
  · rfl
  · rfl
  rintro n_12 w_12 ⟨rfl, r00, q0⟩
  have e0b := (q0 84 (by omega) (by omega)).trans e0a
  apply V_putFW (Y := mX3_init) (pc := 15) dX3_init_15 fl_X3_14
  · exact e0b
  · rfl
  · exact ⟨_, rfl, rfl⟩
  · exact ff_X3_14
  · exact fun _ => ⟨rfl, rfl⟩
  · exact Nat.le_of_ble_eq_true rfl
  intro w_15 h_15 f_15
  simp only [List.set_cons_zero, List.set_cons_succ] at h_15
  have e1 := h_15
  have r0 := r00.keep (w' := w_15) (f_15 _ (by omega)) (f_15 _ (by omega))
  have fz0 : ∀ j, j < 84 → w_15 j = w j := fun j a => (f_15 j (by omega)).trans ((q0 j (by omega) (by omega)).trans (f_5 j (by omega)))
  refine V_aload_n (Y := mX3_init) (pc := 18) dX3_init_18 rfl ?_
  apply V_newX2 (Y := mX3_init) (pc := 19) dX3_init_19 kl_X3_9
  · exact Nat.le_of_ble_eq_true rfl
  · exact Nat.le_of_ble_eq_true rfl
  intro w_19 h_19 f_19
  skip
  have e1a := (f_19 84 (by omega)).trans e1
  have r0_19 := r0.keep (w' := w_19) (f_19 _ (by omega)) (f_19 _ (by omega))
  refine V_dup (Y := mX3_init) (pc := 22) dX3_init_22 rfl ?_
  refine V_sipush (Y := mX3_init) (pc := 23) dX3_init_23 ⟨by decide, by decide⟩ ?_
  apply V_cV (Y := mX3_init) (pc := 26) dX3_init_26 ok_X2_init oi_X2_init rfl rfl ln_X3_11 (c_RowInit (k := 87) (cap := 2187) h_19 (by omega))
  · rfl
  · rfl
  · rfl
  rintro n_26 w_26 ⟨rfl, r10, q1⟩
  have e1b := (q1 84 (by omega) (by omega)).trans e1a
  have r0_26 := r0_19.keep (w' := w_26) (q1 _ (by omega) (by omega)) (q1 _ (by omega) (by omega))
  apply V_putFW (Y := mX3_init) (pc := 29) dX3_init_29 fl_X3_20
  · exact e1b
  · rfl
  · exact ⟨_, rfl, rfl⟩
  · exact ff_X3_20
  · exact fun _ => ⟨rfl, rfl⟩
  · exact Nat.le_of_ble_eq_true rfl
  intro w_29 h_29 f_29
  simp only [List.set_cons_zero, List.set_cons_succ] at h_29
  have e2 := h_29
  have r1 := r10.keep (w' := w_29) (f_29 _ (by omega)) (f_29 _ (by omega))
  have r0 := r0_26.keep (w' := w_29) (f_29 _ (by omega)) (f_29 _ (by omega))
  have fz1 : ∀ j, j < 84 → w_29 j = w j := fun j a => (f_29 j (by omega)).trans ((q1 j (by omega) (by omega)).trans ((f_19 j (by omega)).trans (fz0 j a)))
  refine V_aload_n (Y := mX3_init) (pc := 32) dX3_init_32 rfl ?_
  apply V_newX2 (Y := mX3_init) (pc := 33) dX3_init_33 kl_X3_9
  · exact Nat.le_of_ble_eq_true rfl
  · exact Nat.le_of_ble_eq_true rfl
  intro w_33 h_33 f_33
  skip
  have e2a := (f_33 84 (by omega)).trans e2
  have r0_33 := r0.keep (w' := w_33) (f_33 _ (by omega)) (f_33 _ (by omega))
  have r1_33 := r1.keep (w' := w_33) (f_33 _ (by omega)) (f_33 _ (by omega))
  refine V_dup (Y := mX3_init) (pc := 36) dX3_init_36 rfl ?_
  refine V_sipush (Y := mX3_init) (pc := 37) dX3_init_37 ⟨by decide, by decide⟩ ?_
  apply V_cV (Y := mX3_init) (pc := 40) dX3_init_40 ok_X2_init oi_X2_init rfl rfl ln_X3_11 (c_RowInit (k := 89) (cap := 2187) h_33 (by omega))
  · rfl
  · rfl
  · rfl
  rintro n_40 w_40 ⟨rfl, r20, q2⟩
  have e2b := (q2 84 (by omega) (by omega)).trans e2a
  have r0_40 := r0_33.keep (w' := w_40) (q2 _ (by omega) (by omega)) (q2 _ (by omega) (by omega))
  have r1_40 := r1_33.keep (w' := w_40) (q2 _ (by omega) (by omega)) (q2 _ (by omega) (by omega))
  apply V_putFW (Y := mX3_init) (pc := 43) dX3_init_43 fl_X3_23
  · exact e2b
  · rfl
  · exact ⟨_, rfl, rfl⟩
  · exact ff_X3_23
  · exact fun _ => ⟨rfl, rfl⟩
  · exact Nat.le_of_ble_eq_true rfl
  intro w_43 h_43 f_43
  simp only [List.set_cons_zero, List.set_cons_succ] at h_43
  have e3 := h_43
  have r2 := r20.keep (w' := w_43) (f_43 _ (by omega)) (f_43 _ (by omega))
  have r0 := r0_40.keep (w' := w_43) (f_43 _ (by omega)) (f_43 _ (by omega))
  have r1 := r1_40.keep (w' := w_43) (f_43 _ (by omega)) (f_43 _ (by omega))
  have fz2 : ∀ j, j < 84 → w_43 j = w j := fun j a => (f_43 j (by omega)).trans ((q2 j (by omega) (by omega)).trans ((f_33 j (by omega)).trans (fz1 j a)))
  refine V_aload_n (Y := mX3_init) (pc := 46) dX3_init_46 rfl ?_
  apply V_newX2 (Y := mX3_init) (pc := 47) dX3_init_47 kl_X3_9
  · exact Nat.le_of_ble_eq_true rfl
  · exact Nat.le_of_ble_eq_true rfl
  intro w_47 h_47 f_47
  skip
  have e3a := (f_47 84 (by omega)).trans e3
  have r0_47 := r0.keep (w' := w_47) (f_47 _ (by omega)) (f_47 _ (by omega))
  have r1_47 := r1.keep (w' := w_47) (f_47 _ (by omega)) (f_47 _ (by omega))
  have r2_47 := r2.keep (w' := w_47) (f_47 _ (by omega)) (f_47 _ (by omega))
  refine V_dup (Y := mX3_init) (pc := 50) dX3_init_50 rfl ?_
  refine V_sipush (Y := mX3_init) (pc := 51) dX3_init_51 ⟨by decide, by decide⟩ ?_
  apply V_cV (Y := mX3_init) (pc := 54) dX3_init_54 ok_X2_init oi_X2_init rfl rfl ln_X3_11 (c_RowInit (k := 91) (cap := 2187) h_47 (by omega))
  · rfl
  · rfl
  · rfl
  rintro n_54 w_54 ⟨rfl, r30, q3⟩
  have e3b := (q3 84 (by omega) (by omega)).trans e3a
  have r0_54 := r0_47.keep (w' := w_54) (q3 _ (by omega) (by omega)) (q3 _ (by omega) (by omega))
  have r1_54 := r1_47.keep (w' := w_54) (q3 _ (by omega) (by omega)) (q3 _ (by omega) (by omega))
  have r2_54 := r2_47.keep (w' := w_54) (q3 _ (by omega) (by omega)) (q3 _ (by omega) (by omega))
  apply V_putFW (Y := mX3_init) (pc := 57) dX3_init_57 fl_X3_26
  · exact e3b
  · rfl
  · exact ⟨_, rfl, rfl⟩
  · exact ff_X3_26
  · exact fun _ => ⟨rfl, rfl⟩
  · exact Nat.le_of_ble_eq_true rfl
  intro w_57 h_57 f_57
  simp only [List.set_cons_zero, List.set_cons_succ] at h_57
  have e4 := h_57
  have r3 := r30.keep (w' := w_57) (f_57 _ (by omega)) (f_57 _ (by omega))
  have r0 := r0_54.keep (w' := w_57) (f_57 _ (by omega)) (f_57 _ (by omega))
  have r1 := r1_54.keep (w' := w_57) (f_57 _ (by omega)) (f_57 _ (by omega))
  have r2 := r2_54.keep (w' := w_57) (f_57 _ (by omega)) (f_57 _ (by omega))
  have fz3 : ∀ j, j < 84 → w_57 j = w j := fun j a => (f_57 j (by omega)).trans ((q3 j (by omega) (by omega)).trans ((f_47 j (by omega)).trans (fz2 j a)))
  refine V_aload_n (Y := mX3_init) (pc := 60) dX3_init_60 rfl ?_
  apply V_newX2 (Y := mX3_init) (pc := 61) dX3_init_61 kl_X3_9
  · exact Nat.le_of_ble_eq_true rfl
  · exact Nat.le_of_ble_eq_true rfl
  intro w_61 h_61 f_61
  skip
  have e4a := (f_61 84 (by omega)).trans e4
  have r0_61 := r0.keep (w' := w_61) (f_61 _ (by omega)) (f_61 _ (by omega))
  have r1_61 := r1.keep (w' := w_61) (f_61 _ (by omega)) (f_61 _ (by omega))
  have r2_61 := r2.keep (w' := w_61) (f_61 _ (by omega)) (f_61 _ (by omega))
  have r3_61 := r3.keep (w' := w_61) (f_61 _ (by omega)) (f_61 _ (by omega))
  refine V_dup (Y := mX3_init) (pc := 64) dX3_init_64 rfl ?_
  refine V_sipush (Y := mX3_init) (pc := 65) dX3_init_65 ⟨by decide, by decide⟩ ?_
  apply V_cV (Y := mX3_init) (pc := 68) dX3_init_68 ok_X2_init oi_X2_init rfl rfl ln_X3_11 (c_RowInit (k := 93) (cap := 2187) h_61 (by omega))
  · rfl
  · rfl
  · rfl
  rintro n_68 w_68 ⟨rfl, r40, q4⟩
  have e4b := (q4 84 (by omega) (by omega)).trans e4a
  have r0_68 := r0_61.keep (w' := w_68) (q4 _ (by omega) (by omega)) (q4 _ (by omega) (by omega))
  have r1_68 := r1_61.keep (w' := w_68) (q4 _ (by omega) (by omega)) (q4 _ (by omega) (by omega))
  have r2_68 := r2_61.keep (w' := w_68) (q4 _ (by omega) (by omega)) (q4 _ (by omega) (by omega))
  have r3_68 := r3_61.keep (w' := w_68) (q4 _ (by omega) (by omega)) (q4 _ (by omega) (by omega))
  apply V_putFW (Y := mX3_init) (pc := 71) dX3_init_71 fl_X3_29
  · exact e4b
  · rfl
  · exact ⟨_, rfl, rfl⟩
  · exact ff_X3_29
  · exact fun _ => ⟨rfl, rfl⟩
  · exact Nat.le_of_ble_eq_true rfl
  intro w_71 h_71 f_71
  simp only [List.set_cons_zero, List.set_cons_succ] at h_71
  have e5 := h_71
  have r4 := r40.keep (w' := w_71) (f_71 _ (by omega)) (f_71 _ (by omega))
  have r0 := r0_68.keep (w' := w_71) (f_71 _ (by omega)) (f_71 _ (by omega))
  have r1 := r1_68.keep (w' := w_71) (f_71 _ (by omega)) (f_71 _ (by omega))
  have r2 := r2_68.keep (w' := w_71) (f_71 _ (by omega)) (f_71 _ (by omega))
  have r3 := r3_68.keep (w' := w_71) (f_71 _ (by omega)) (f_71 _ (by omega))
  have fz4 : ∀ j, j < 84 → w_71 j = w j := fun j a => (f_71 j (by omega)).trans ((q4 j (by omega) (by omega)).trans ((f_61 j (by omega)).trans (fz3 j a)))
  refine V_aload_n (Y := mX3_init) (pc := 74) dX3_init_74 rfl ?_
  refine V_iconst (Y := mX3_init) (pc := 75) dX3_init_75 ?_
  apply V_putzW (Y := mX3_init) (pc := 76) dX3_init_76 fl_X3_32
  · assumption
  · first | exact Or.inl rfl | exact Or.inr rfl
  · exact Nat.le_of_ble_eq_true rfl
  intro w_76 h_76 f_76
  simp only [List.set_cons_zero, List.set_cons_succ] at h_76
  refine V_aload_n (Y := mX3_init) (pc := 79) dX3_init_79 rfl ?_
  refine V_iconst (Y := mX3_init) (pc := 80) dX3_init_80 ?_
  apply V_putiW (Y := mX3_init) (pc := 81) dX3_init_81 fl_X3_36
  · assumption
  · exact Nat.le_of_ble_eq_true rfl
  intro w_81 h_81 f_81
  simp only [List.set_cons_zero, List.set_cons_succ] at h_81
  refine V_aload_n (Y := mX3_init) (pc := 84) dX3_init_84 rfl ?_
  refine V_iconst (Y := mX3_init) (pc := 85) dX3_init_85 ?_
  apply V_putiW (Y := mX3_init) (pc := 86) dX3_init_86 fl_X3_40
  · assumption
  · exact Nat.le_of_ble_eq_true rfl
  intro w_86 h_86 f_86
  simp only [List.set_cons_zero, List.set_cons_succ] at h_86
  refine V_aload_n (Y := mX3_init) (pc := 89) dX3_init_89 rfl ?_
  refine V_iconst (Y := mX3_init) (pc := 90) dX3_init_90 ?_
  apply V_putiW (Y := mX3_init) (pc := 91) dX3_init_91 fl_X3_43
  · assumption
  · exact Nat.le_of_ble_eq_true rfl
  intro w_91 h_91 f_91
  simp only [List.set_cons_zero, List.set_cons_succ] at h_91
  refine V_aload_n (Y := mX3_init) (pc := 94) dX3_init_94 rfl ?_
  refine V_iconst (Y := mX3_init) (pc := 95) dX3_init_95 ?_
  apply V_putiW (Y := mX3_init) (pc := 96) dX3_init_96 fl_X3_46
  · assumption
  · exact Nat.le_of_ble_eq_true rfl
  intro w_96 h_96 f_96
  simp only [List.set_cons_zero, List.set_cons_succ] at h_96
  refine V_aload_n (Y := mX3_init) (pc := 99) dX3_init_99 rfl ?_
  refine V_iconst (Y := mX3_init) (pc := 100) dX3_init_100 ?_
  apply V_putiW (Y := mX3_init) (pc := 101) dX3_init_101 fl_X3_49
  · assumption
  · exact Nat.le_of_ble_eq_true rfl
  intro w_101 h_101 f_101
  simp only [List.set_cons_zero, List.set_cons_succ] at h_101
  have ff : ∀ j, j ≠ 84 → w_101 j = w_71 j := fun j a => (f_101 j a).trans ((f_96 j a).trans ((f_91 j a).trans ((f_86 j a).trans ((f_81 j a).trans (f_76 j a)))))
  have K0 : WalkAt w_101 84 0 0 0 (-1) (-1) 0 [] ([], [], [], []) := WalkAt.mk' h_101 (r0.keep (ff _ (by omega)) (ff _ (by omega))) (r1.keep (ff _ (by omega)) (ff _ (by omega))) (r2.keep (ff _ (by omega)) (ff _ (by omega))) (r3.keep (ff _ (by omega)) (ff _ (by omega))) (r4.keep (ff _ (by omega)) (ff _ (by omega)))
  have o0 := K0.obj
  refine V_aload_n (Y := mX3_init) (pc := 104) dX3_init_104 rfl ?_
  apply V_get (Y := mX3_init) (pc := 105) dX3_init_105 fl_X3_14
  · assumption
  · rfl
  refine V_sipush (Y := mX3_init) (pc := 108) dX3_init_108 ⟨by decide, by decide⟩ ?_
  refine V_iconst (Y := mX3_init) (pc := 111) dX3_init_111 ?_
  apply V_vV (Y := mX3_init) (pc := 112) dX3_init_112 ok_X2_fill ov_X2_fill ln_X3_52 (c_Row_fill (v := 0) (mny := 15309) K0.r0 ⟨by omega, by omega⟩)
  · exact K0.r0.obj
  · rfl
  · rfl
  · rfl
  · rfl
  · rfl
  rintro w_112 ⟨g1, k1⟩
  have g1 : RowAt w_112 85 15309 (List.replicate 15309 0) := g1
  have K1 := K0.row (F' := ([], [], [], [])) (st' := List.replicate 15309 0) 0 (by decide) rfl g1 (fun j hj hne => by rcases (show j = 1 ∨ j = 2 ∨ j = 3 ∨ j = 4 by omega) with rfl | rfl | rfl | rfl <;> rfl) k1
  have o1 := K1.obj
  refine V_aload_n (Y := mX3_init) (pc := 115) dX3_init_115 rfl ?_
  apply V_get (Y := mX3_init) (pc := 116) dX3_init_116 fl_X3_23
  · assumption
  · rfl
  refine V_sipush (Y := mX3_init) (pc := 119) dX3_init_119 ⟨by decide, by decide⟩ ?_
  refine V_iconst (Y := mX3_init) (pc := 122) dX3_init_122 ?_
  apply V_vV (Y := mX3_init) (pc := 123) dX3_init_123 ok_X2_fill ov_X2_fill ln_X3_52 (c_Row_fill (v := 0) (mny := 2187) K1.r2 ⟨by omega, by omega⟩)
  · exact K1.r2.obj
  · rfl
  · rfl
  · rfl
  · rfl
  · rfl
  rintro w_123 ⟨g2, k2⟩
  have g2 : RowAt w_123 89 2187 (List.replicate 2187 0) := g2
  have K2 := K1.row (F' := ([], List.replicate 2187 0, [], [])) (st' := List.replicate 15309 0) 2 (by decide) rfl g2 (fun j hj hne => by rcases (show j = 0 ∨ j = 1 ∨ j = 3 ∨ j = 4 by omega) with rfl | rfl | rfl | rfl <;> rfl) k2
  have o2 := K2.obj
  refine V_aload_n (Y := mX3_init) (pc := 126) dX3_init_126 rfl ?_
  apply V_get (Y := mX3_init) (pc := 127) dX3_init_127 fl_X3_26
  · assumption
  · rfl
  refine V_sipush (Y := mX3_init) (pc := 130) dX3_init_130 ⟨by decide, by decide⟩ ?_
  refine V_iconst (Y := mX3_init) (pc := 133) dX3_init_133 ?_
  apply V_vV (Y := mX3_init) (pc := 134) dX3_init_134 ok_X2_fill ov_X2_fill ln_X3_52 (c_Row_fill (v := 0) (mny := 2187) K2.r3 ⟨by omega, by omega⟩)
  · exact K2.r3.obj
  · rfl
  · rfl
  · rfl
  · rfl
  · rfl
  rintro w_134 ⟨g3, k3⟩
  have g3 : RowAt w_134 91 2187 (List.replicate 2187 0) := g3
  have K3 := K2.row (F' := ([], List.replicate 2187 0, List.replicate 2187 0, [])) (st' := List.replicate 15309 0) 3 (by decide) rfl g3 (fun j hj hne => by rcases (show j = 0 ∨ j = 1 ∨ j = 2 ∨ j = 4 by omega) with rfl | rfl | rfl | rfl <;> rfl) k3
  refine V_vret (Y := mX3_init) (pc := 137) dX3_init_137 rfl (Nat.le_of_ble_eq_true rfl) (Nat.le_of_ble_eq_true rfl) ?_
  exact pC_of ⟨rfl, K3, fun j a => (k3 j (by omega) (by omega)).trans ((k2 j (by omega) (by omega)).trans ((k1 j (by omega) (by omega)).trans ((ff j (by omega)).trans (fz4 j a))))⟩
