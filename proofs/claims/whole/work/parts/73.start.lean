/-! ===== the law, from its entry ===== -/
theorem vU_tbl {w : Cond} (h : w ∈ vU) : w ∈ lw_tbl := (List.mem_filter.mp h).1
theorem cls_K {s : State} {args : Array Value} (hts : ∀ w ∈ lw_tbl, w.before args s = true) : ∃ (dC : Nat → ClassId) (dI : Nat → Nat → Nat), ∀ (k : Nat) (q : vw_C), vwCl[k]? = some q → u_Kn s q.1 q.2.1 q.2.2 (dC k) (dI k) := by
  obtain ⟨cX0, iX0, kX0⟩ := u_known (C := RX0) (T := TX0) (N := 2) (n := 2) hts (fun w h => vU_tbl (inU_X0 w h)) (hts _ (vU_tbl ki_X0))
  obtain ⟨cX1, iX1, kX1⟩ := u_known (C := RX1) (T := TX1) (N := 5) (n := 5) hts (fun w h => vU_tbl (inU_X1 w h)) (hts _ (vU_tbl ki_X1))
  obtain ⟨cX2, iX2, kX2⟩ := u_known (C := RX2) (T := TX2) (N := 2) (n := 2) hts (fun w h => vU_tbl (inU_X2 w h)) (hts _ (vU_tbl ki_X2))
  obtain ⟨cX3, iX3, kX3⟩ := u_known (C := RX3) (T := TX3) (N := 11) (n := 11) hts (fun w h => vU_tbl (inU_X3 w h)) (hts _ (vU_tbl ki_X3))
  obtain ⟨cX4, iX4, kX4⟩ := u_known (C := RX4) (T := TX4) (N := 14) (n := 14) hts (fun w h => vU_tbl (inU_X4 w h)) (hts _ (vU_tbl ki_X4))
  obtain ⟨cX5, iX5, kX5⟩ := u_known (C := RX5) (T := TX5) (N := 15) (n := 15) hts (fun w h => vU_tbl (inU_X5 w h)) (hts _ (vU_tbl ki_X5))
  obtain ⟨cX6, iX6, kX6⟩ := u_known (C := RX6) (T := TX6) (N := 20) (n := 20) hts (fun w h => vU_tbl (inU_X6 w h)) (hts _ (vU_tbl ki_X6))
  refine ⟨fun k => if k = 0 then cX0 else if k = 1 then cX1 else if k = 2 then cX2 else if k = 3 then cX3 else if k = 4 then cX4 else if k = 5 then cX5 else cX6, fun k => if k = 0 then iX0 else if k = 1 then iX1 else if k = 2 then iX2 else if k = 3 then iX3 else if k = 4 then iX4 else if k = 5 then iX5 else iX6, ?_⟩
  intro k q hq
  match k, hq with
  | 0, hq => cases hq; exact kX0
  | 1, hq => cases hq; exact kX1
  | 2, hq => cases hq; exact kX2
  | 3, hq => cases hq; exact kX3
  | 4, hq => cases hq; exact kX4
  | 5, hq => cases hq; exact kX5
  | 6, hq => cases hq; exact kX6
  | k + 7, hq => simp [vwCl] at hq
theorem arr_K {s : State} {args : Array Value} {ty : FieldType} (h : (Cond.arrayClass ty).before args s = true) : ∃ cA : ClassId, ArrOfT s cA ty ∧ s.vm.findClass ("[" ++ ty.toString) = some cA := by
  obtain ⟨cA, kA, comp, h1, h2, h3⟩ := Cond.arrayClass_spec h
  exact ⟨cA, fun n z => ⟨fun k q => (by cases q), kA, h2, comp, h3⟩, h1⟩
abbrev tmS (i : Nat) : Term := Term.string RX1 (cpS i)
theorem gv_ex : ∀ i, i < 5 → Cond.exactly (tmS i) "java/lang/String" ∈ flatC (Jvm.Cond.and given_1 narrow_1) := by decide +kernel
theorem gv_co : ∀ i, i < 5 → Cond.eq (.field (tmS i) "java/lang/String" "coder" "B") (.int 0) ∈ flatC (Jvm.Cond.and given_1 narrow_1) := by decide +kernel
theorem gv_ar : ∀ i, i < 5 → Cond.arrayOf (.field (tmS i) "java/lang/String" "value" "[B") .byte ∈ flatC (Jvm.Cond.and given_1 narrow_1) := by decide +kernel
theorem gv_le : ∀ i, i < 5 → Cond.eq (.length (.field (tmS i) "java/lang/String" "value" "[B")) (.int (Int32.ofNat (lenS.getD i 0))) ∈ flatC (Jvm.Cond.and given_1 narrow_1) := by decide +kernel
theorem gv_el : ∀ i, i < 5 → ∀ j, j < lenS.getD i 0 → Cond.eq (.elem (.field (tmS i) "java/lang/String" "value" "[B") (.int (Int32.ofNat j))) (.int ((bytS.getD i []).getD j 0)) ∈ flatC (Jvm.Cond.and given_1 narrow_1) := by decide +kernel
theorem gv_ne : ∀ i, i < 5 → ∀ j, j < 5 → i ≠ j → (Cond.not (Cond.eq (tmS i) (tmS j)) ∈ flatC (Jvm.Cond.and given_1 narrow_1) ∨ Cond.not (Cond.eq (tmS j) (tmS i)) ∈ flatC (Jvm.Cond.and given_1 narrow_1)) := by decide +kernel
theorem gv_cs : Cond.eq (.static "java/lang/String" "COMPACT_STRINGS" "Z") (.int 1) ∈ flatC (Jvm.Cond.and given_1 narrow_1) := by decide +kernel
theorem gv_fm : Cond.isRef (.static "jdk/internal/util/Preconditions" "SIOOBE_FORMATTER" "Ljava/util/function/BiFunction;") ∈ flatC (Jvm.Cond.and given_1 narrow_1) := by decide +kernel
theorem tb_sr : ∀ i, i < 5 → Cond.stringRef RX1 (cpS i) (txS i) ∈ lw_tbl := by decide +kernel
theorem tb_l1 : Cond.laysStatic "java/lang/String" "COMPACT_STRINGS" "Z" ∈ lw_tbl := by decide +kernel
theorem tb_l2 : Cond.laysStatic "jdk/internal/util/Preconditions" "SIOOBE_FORMATTER" "Ljava/util/function/BiFunction;" ∈ lw_tbl := by decide +kernel
theorem tb_i1 : Cond.initialized "java/lang/String" ∈ lw_tbl := by decide +kernel
theorem tb_i2 : Cond.initialized "jdk/internal/util/Preconditions" ∈ lw_tbl := by decide +kernel
theorem len_S : ∀ i, i < 5 → lenS.getD i 0 < 2 ^ 31 := by decide +kernel
/-- the texts, at the start; the script at sa 11 -/
theorem str_K {s : State} {b : Nat} (hts : ∀ w ∈ lw_tbl, w.before #[Value.ref b] s = true) (hgv : (Jvm.Cond.and given_1 narrow_1).before #[Value.ref b] s = true) : ∃ sa : Nat → Nat, sa 11 = b ∧ vStr s.heap.size sa s := by
  have hG := flat_of_before _ hgv
  have hA : ∀ a : Nat, a < s.heap.size → ¬ fB s.heap.size a := fun a ha => Nat.not_le.mpr ha
  obtain ⟨adK, adV, hvk, hev⟩ := vk_Sof (args := #[Value.ref b]) (s := s) (N := 5) (tm := tmS) (len := lenS) (byt := bytS) (A := fB s.heap.size) len_S (fun i hi => hG _ (gv_ex i hi)) (fun i hi => hG _ (gv_co i hi)) (fun i hi => hG _ (gv_ar i hi)) (fun i hi => hG _ (gv_le i hi)) (fun i hi j hj => hG _ (gv_el i hi j hj)) (fun i j hi hj hij => (gv_ne i hi j hj hij).imp (fun q => hG _ q) (fun q => hG _ q)) hA
  have hZ : va_Z "java/lang/String" "COMPACT_STRINGS" "Z" (.int 1) (fB s.heap.size) s s.heap := va_Zof (hts _ tb_l1) (hts _ tb_i1) (va_eqt (hG _ gv_cs)) hA
  have hF := va_Zqof (A := fB s.heap.size) (hts _ tb_l2) (hts _ tb_i2) (hG _ gv_fm) hA
  have mk : ∀ t : Nat, ∃ sa : Nat → Nat, sa 11 = b ∧ sa 10 = t ∧ (∀ i, i < 5 → sa i = adK i) ∧ ∀ i, i < 5 → sa (5 + i) = adV i := fun t => by
    refine ⟨fun k => if k < 5 then adK k else if k < 10 then adV (k - 5) else if k = 10 then t else b, rfl, rfl, fun i hi => if_pos hi, fun i hi => ?_⟩
    show (if 5 + i < 5 then adK (5 + i) else if 5 + i < 10 then adV (5 + i - 5) else if 5 + i = 10 then t else b) = adV i
    rw [if_neg (by omega), if_pos (by omega), show 5 + i - 5 = i by omega]
  have done : ∀ t : Nat, (va_Z "jdk/internal/util/Preconditions" "SIOOBE_FORMATTER" "Ljava/util/function/BiFunction;" .null (fB s.heap.size) s s.heap ∨ va_Z "jdk/internal/util/Preconditions" "SIOOBE_FORMATTER" "Ljava/util/function/BiFunction;" (.ref t) (fB s.heap.size) s s.heap) → ∃ sa : Nat → Nat, sa 11 = b ∧ vStr s.heap.size sa s := fun t ht => by
    obtain ⟨sa, h11, h10, hk, hv⟩ := mk t
    refine ⟨sa, h11, ⟨fun i hi => ?_, fun i j hi hj e => hvk.2 i j hi hj (by rw [← hk i hi, ← hk j hj]; exact e)⟩, fun i hi => ?_, hZ, by rw [h10]; exact ht⟩
    · have q := hvk.1 i hi
      rw [← hk i hi, ← hv i hi] at q
      exact q
    · have q := hev i hi
      rw [← hk i hi] at q
      exact vk_R.of (hts _ (tb_sr i hi)) q
  rcases hF with h | ⟨t, h⟩
  · exact done 0 (Or.inl h)
  · exact done t (Or.inr h)
theorem nst_K {s : State} {b : Nat} (hts : ∀ w ∈ lw_tbl, w.before #[Value.ref b] s = true) : vNst s := by
  intro w hw hn
  have h := hts w hw
  cases w <;> first | exact va_Nw.of rfl h | cases hn
theorem whole_start {p : Program} {e : Env} {s : State} {m : MethodId} {below : List Frame} {meth : Method} {c : Code} (l : Launch) (hflags : l.flags = flags0) {b L : Nat} {xs : Nat → Int32} (hL : L ≤ 2560) (C0 : lw_At p s m meth c b L xs) : W p l e room_1 s m #[Value.ref b] below meth c s.heap [] 0 0 (lw_Z below #[Value.ref b] s) (entryFrame m ([Value.ref b] : List Value).toArray 4) := by
  obtain ⟨hx, hb, hr, hml, hown, hts, hX, hbl, hlocks, hgv⟩ := C0
  obtain ⟨dC, dI, hKc⟩ := cls_K hts
  obtain ⟨cI, a1, a2⟩ := arr_K (hts _ (vU_tbl ka_int))
  obtain ⟨cB, b1, b2⟩ := arr_K (hts _ (vU_tbl ka_boolean))
  obtain ⟨sa, h11, hStr⟩ := str_K hts hgv
  have hK : va_K (dC, dI) vwCl (vTy (fun k => if k = 0 then cI else cB)) s := ⟨hKc, fun k q hq => by
    match k, hq with
    | 0, hq => cases hq; exact ⟨a1, a2⟩
    | 1, hq => cases hq; exact ⟨b1, b2⟩
    | k + 2, hq => simp at hq⟩
  have hl := lv_entry ([.ref b]) (n := 4) (Nat.le_of_ble_eq_true rfl)
  rw [lg_entry_eq]
  refine lw_main (L := L) (xs := xs) hL p l e s m b below meth c s.heap.size sa (fun k => if k = 0 then cI else cB) (dC, dI) s.heap [] _ ⟨h11, hX, hbl, rfl⟩ ⟨hx, hb, hr, hml, hown, fun w hw => hts w (vU_tbl hw), trivial, hlocks, hK, hStr, nst_K hts⟩ ⟨rfl, fun _ _ => rfl, fun k e h => by cases h⟩ va_S.rf (Nat.le_refl _) ⟨hl.1, hl.2.1, fun i v hi => ?_⟩
  match i, hi with
  | 0, hi =>
    cases hi
    have q := hl.2.2 (0, .ref b) List.mem_cons_self
    show _ = some (Slot.val (Value.ref (sa 11)))
    rw [h11]
    exact q
  | 1, hi => cases hi
  | 2, hi => cases hi
  | 3, hi => cases hi
  | k + 4, hi => simp at hi
