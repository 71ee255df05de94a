/-! ===== calls ===== -/
def vCode (Y : vMeth) : Cond := Cond.code Y.1 Y.2.1 Y.2.2.1 Y.2.2.2
def okDesc (Y : vMeth) (N : Nat) : Prop := Y.1.cls ≠ "java/lang/invoke/MethodHandle" ∧ Y.1.cls ≠ "java/lang/invoke/VarHandle" ∧ (parseMethodDescriptor Y.1.desc).map (fun d => d.parameters.length) = some N
/-- a method that the tables tell of: its code, its class begun, how many arguments -/
def okM (Y : vMeth) (N : Nat) : Prop := vCode Y ∈ vU ∧ Cond.initialized Y.1.cls ∈ vU ∧ okDesc Y N
def okV (Y : vMeth) : Prop := Cond.instanceMethod Y.1 ∈ vU ∧ Cond.selects Y.1.cls Y.1 Y.1 ∈ vU
/-- a call's link: plain, or of a nest mate -/
def okL (own : String) (idx : Nat) (Y : vMeth) : Prop := Cond.methodLink own idx Y.1 ∈ vU ∨ ∃ host, Cond.methodLinkNest own idx Y.1 host ∈ lw_tbl
theorem vU_cons {Y : vMeth} (h : vCode Y ∈ vU) : GoodIn vU (Cond.code Y.1 Y.2.1 Y.2.2.1 Y.2.2.2 :: vU) := fun w hw => (List.mem_cons.mp hw).elim (fun e => by rw [e]; exact vU_good _ h) (fun h => vU_good w h)
def rmOK (R : Room) (Y2 : vMeth) (R2 : Room) (kc ks : Nat) (rest : List Value) : Bool :=
  Nat.ble (R2.frames + 1) R.frames && (Nat.ble (8 + (Y2.2.2.1 + 11) + R2.locals) R.locals && (Nat.ble (kc + R2.cells) R.cells && (Nat.ble (ks + R2.slots) R.slots && Nat.ble (rest.map fun v => v.category).sum 8)))
theorem rmOK_spec {R : Room} {Y2 : vMeth} {R2 : Room} {kc ks : Nat} {rest : List Value} (h : rmOK R Y2 R2 kc ks rest = true) : (R2.frames + 1 ≤ R.frames ∧ 8 + (Y2.2.2.1 + 11) + R2.locals ≤ R.locals) ∧ (kc + R2.cells ≤ R.cells ∧ ks + R2.slots ≤ R.slots) ∧ (rest.map fun v => v.category).sum ≤ 8 := by
  simp only [rmOK, Bool.and_eq_true] at h
  exact ⟨⟨Nat.le_of_ble_eq_true h.1, Nat.le_of_ble_eq_true h.2.1⟩, ⟨Nat.le_of_ble_eq_true h.2.2.1, Nat.le_of_ble_eq_true h.2.2.2.1⟩, Nat.le_of_ble_eq_true h.2.2.2.2⟩
theorem cat_rest (b : Nat) (sa : Nat → Nat) (rest : List Value) : ((rest.map (cvV b sa)).map fun v => v.category) = rest.map fun v => v.category := by
  rw [List.map_map]; exact List.map_congr_left (fun v _ => cvV_cat b sa v)
theorem vPre_blind (av : List Value) (b : Nat) (sa cA : Nat → Nat) (D : va_G) (n : Nat) (w : vWd) : FrameBlind (va_Pc av (vPre b sa cA D n w)) := by
  rintro a U g mk ⟨q0, q1, q2, q3, q4⟩
  exact ⟨q0, q1, va_K.moved (u := U) (U := U.calling g mk a) (Vm.Alike.refl U.vm) q2, vStr.same (s := U) (U := U.calling g mk a) rfl rfl q3, vNst.same (s := U) (U := U.calling g mk a) rfl q4⟩
section VCALL
variable {p : Program} {l : Launch} {e : Env} {R : Room} {s : State} {m : MethodId} {args : Array Value} {below : List Frame} {meth : Method} {c : Code} {H : Heap} {locs : List Loc}
variable {Y : vMeth} {Q : vPost} {pc : Nat} {lv : vLs} {st : List Value} {n : Nat} {w : vWd} {kc ks : Nat} {b : Nat} {sa cA : Nat → Nat} {D : va_G} {ls : Array Slot}
theorem vPre_at {Y2 : vMeth} {av : List Value} (E : vEnv Y p s m args meth c b sa cA D) (hw : wOK b sa cA D n w H) (hS : va_S (fB b) s.heap H locs) (U : State) (hU : U.heap = H) (hW : s.WarmedH U.vm) : va_Pc av (vPre b sa cA D n w) av.toArray U := by
  refine ⟨rfl, by rw [hU]; exact hw, E.2.2.2.2.2.2.2.2.1.moved hW.alike, E.2.2.2.2.2.2.2.2.2.1.warm hW (fun a ha hna => by rw [hU]; exact hS.2.1 a ha hna), E.2.2.2.2.2.2.2.2.2.2.warm hW⟩
/-- behind a call -/
theorem V_back {Y2 : vMeth} {R2 : Room} {rest : List Value} {av : List Value} {Q2 : vPost} {a : Array Value} {st0 : List Value} (hr : va_Run p l e R s m args below meth c H locs kc ks R2.cells R2.slots (F0 m pc ls st0) (rest.map (cvV b sa)) (vZ b sa cA D Q2 a) (fB b))
    (E : vEnv Y p s m args meth c b sa cA D) (hw : wOK b sa cA D n w H) (hS : va_S (fB b) s.heap H locs) (hb : b ≤ s.heap.size) (hl : lvOK b sa ls Y.2.2.1 lv)
    (kk : ∀ (r : Option Value) (n' : Nat) (w' : vWd), Q2 r n' w' → V Y R Q (pc + 3) lv (r.toList ++ rest) n' w' (kc + R2.cells) (ks + R2.slots)) : W p l e R s m args below meth c H locs kc ks (MQ below (vZ b sa cA D Q) args s R.cells R.slots (fB b)) (F0 m pc ls st0) := by
  intro T hT X
  obtain ⟨v, st₀, t, T', L, h0, X', hL, e1, e2, ⟨⟨r, n', w', hv, hQ, hO⟩, hz, hk⟩, stp⟩ := hr T hT X
  have hv' : v = r.map (cvV b sa) := Outcome.returned.inj hv
  subst hv'
  rw [h0] at hz hk
  have hs : (r.map (cvV b sa)).toList ++ rest.map (cvV b sa) = (r.toList ++ rest).map (cvV b sa) := by cases r <;> simp
  have K := kk r n' w' hQ p l e s m args below meth c b sa cA D T'.heap (locs ++ L) ls E (by rw [e1]; exact hO)
    ⟨Nat.le_trans hS.1 (by rw [e1]; exact hz), fun q h1 h2 => by rw [e1, hk q (Nat.lt_of_lt_of_le h1 hS.1) h2]; exact hS.2.1 q h1 h2, fun q hq => by
      rcases List.mem_append.mp hq with h | h
      · exact hS.2.2 q h
      · exact hL q h⟩ hb hl
  rw [← hs] at K
  obtain ⟨t2, a1, b1⟩ := K T' rfl X'
  exact ⟨t2, stp t2 a1, b1⟩
end VCALL
section VCALLS
variable {Y : vMeth} {R : Room} {Q : vPost} {pc : Nat} {lv : vLs} {st : List Value} {n : Nat} {w : vWd} {kc ks : Nat} {Y2 : vMeth} {R2 : Room} {As rest : List Value} {Q2 : vPost} {N idx a : Nat}
theorem V_callV {ci : Nat} {fs : List Value} {q : vw_C} (hd : decode Y.2.1 pc = .ok (.invokevirtual idx, 3)) (hM : okM Y2 N) (hV : okV Y2) (hL : okL Y.1.cls idx Y2) (hC : Ctr Y2 R2 (.ref a :: As) n w Q2) (hw0 : w a = some (.inr (ci, fs))) (hq : vwCl[ci]? = some q) (hq1 : q.1 = Y2.1.cls) (hn : As.length = N) (hst : As.reverse ++ .ref a :: rest = st) (hR : rmOK R Y2 R2 kc ks rest = true)
    (kk : ∀ (r : Option Value) (n' : Nat) (w' : vWd), Q2 r n' w' → V Y R Q (pc + 3) lv (r.toList ++ rest) n' w' (kc + R2.cells) (ks + R2.slots)) : V Y R Q pc lv st n w kc ks := by
  intro p l e s m args below meth c b sa cA D H locs ls E hw hS hb hl
  have hts := E.2.2.2.2.2.1
  obtain ⟨r1, r2, r3⟩ := rmOK_spec hR
  have hstk : st.map (cvV b sa) = (As.map (cvV b sa)).reverse ++ .ref (b + a) :: rest.map (cvV b sa) := by
    rw [← hst, List.map_append, List.map_reverse, List.map_cons]; rfl
  have hpre : PreV s H Y2.1.cls (b + a) (va_Pc ((Value.ref a :: As).map (cvV b sa)) (vPre b sa cA D n w)) (As.map (cvV b sa)) := by
    refine ⟨vPre_blind _ b sa cA D n w, ?_, fun U hU hW => vPre_at (Y2 := Y2) E hw hS U hU hW⟩
    rw [← hq1]
    exact va_recv E.2.2.2.2.2.2.2.2.1 (hw.P hw0) hq (q0 := 0) rfl
  have hfix : CallFix p m c Y.2.1 Y.2.2.1 s args vU Y.1.cls := ⟨E.1, E.2.1, E.2.2.2.1, E.2.2.2.2.1, hts⟩
  refine V_back (Y2 := Y2) (R2 := R2) (av := .ref a :: As) (a := (Value.ref (b + a) :: As.map (cvV b sa)).toArray) ?_ E hw hS hb hl kk
  rw [hstk]
  have hroom : 2 * (F0 m pc ls ((As.map (cvV b sa)).reverse ++ .ref (b + a) :: rest.map (cvV b sa))).monitorRoom + ((rest.map (cvV b sa)).map fun v => v.category).sum ≤ 8 := by
    rw [cat_rest]; show 2 * 0 + _ ≤ 8; omega
  rcases hL with hL | ⟨host, hL⟩
  · refine va_runV hfix (hC l b sa cA D) (cwV N hts (fun w0 h0 => vU_good _ ?_) rfl rfl rfl ⟨rfl, hM.2.2⟩ r1) hpre rfl (by rw [List.length_map]; exact hn) hl.1 rfl hroom hd r2
    rcases List.mem_append.mp h0 with h1 | h1
    · simp only [List.mem_cons, List.not_mem_nil, or_false] at h1
      rcases h1 with rfl | rfl | rfl | rfl
      · exact hL
      · exact hV.1
      · exact hV.2
      · exact hM.2.1
    · exact (vU_cons hM.1 w0 h1).1
  · refine va_runVN hfix (hC l b sa cA D) ⟨va_cnB (host := host) N hts (vU_cons hM.1) rfl rfl rfl (E.2.2.2.2.2.2.2.2.2.2 _ hL rfl) (hts _ hM.2.1) hM.2.2 r1, hts _ hV.1, hts _ hV.2⟩ hpre rfl (by rw [List.length_map]; exact hn) hl.1 rfl hroom hd r2
theorem V_callS (hd : decode Y.2.1 pc = .ok (.invokestatic idx, 3)) (hM : okM Y2 N) (hV : Cond.static Y2.1 ∈ vU) (hL : okL Y.1.cls idx Y2) (hC : Ctr Y2 R2 As n w Q2) (hn : As.length = N) (hst : As.reverse ++ rest = st) (hR : rmOK R Y2 R2 kc ks rest = true)
    (kk : ∀ (r : Option Value) (n' : Nat) (w' : vWd), Q2 r n' w' → V Y R Q (pc + 3) lv (r.toList ++ rest) n' w' (kc + R2.cells) (ks + R2.slots)) : V Y R Q pc lv st n w kc ks := by
  intro p l e s m args below meth c b sa cA D H locs ls E hw hS hb hl
  have hts := E.2.2.2.2.2.1
  obtain ⟨r1, r2, r3⟩ := rmOK_spec hR
  have hstk : st.map (cvV b sa) = (As.map (cvV b sa)).reverse ++ rest.map (cvV b sa) := by
    rw [← hst, List.map_append, List.map_reverse]
  have hpre : PreS s H (va_Pc (As.map (cvV b sa)) (vPre b sa cA D n w)) (As.map (cvV b sa)) := ⟨vPre_blind _ b sa cA D n w, fun U hU hW => vPre_at (Y2 := Y2) E hw hS U hU hW⟩
  have hfix : CallFix p m c Y.2.1 Y.2.2.1 s args vU Y.1.cls := ⟨E.1, E.2.1, E.2.2.2.1, E.2.2.2.2.1, hts⟩
  refine V_back (Y2 := Y2) (R2 := R2) (av := As) (a := (As.map (cvV b sa)).toArray) ?_ E hw hS hb hl kk
  rw [hstk]
  have hroom : 2 * (F0 m pc ls ((As.map (cvV b sa)).reverse ++ rest.map (cvV b sa))).monitorRoom + ((rest.map (cvV b sa)).map fun v => v.category).sum ≤ 8 := by
    rw [cat_rest]; show 2 * 0 + _ ≤ 8; omega
  rcases hL with hL | ⟨host, hL⟩
  · refine va_runS hfix (hC l b sa cA D) (va_cwS N hts (fun w0 h0 => vU_good _ ?_) rfl rfl rfl hM.2.2 r1) hpre rfl (by rw [List.length_map]; exact hn) hl.1 rfl hroom hd r2
    rcases List.mem_append.mp h0 with h1 | h1
    · simp only [List.mem_cons, List.not_mem_nil, or_false] at h1
      rcases h1 with rfl | rfl | rfl
      · exact hL
      · exact hV
      · exact hM.2.1
    · exact (vU_cons hM.1 w0 h1).1
  · refine va_runSN hfix (hC l b sa cA D) ⟨va_cnB (host := host) N hts (vU_cons hM.1) rfl rfl rfl (E.2.2.2.2.2.2.2.2.2.2 _ hL rfl) (hts _ hM.2.1) hM.2.2 r1, hts _ hV, trivial⟩ hpre rfl (by rw [List.length_map]; exact hn) hl.1 rfl hroom hd r2
theorem V_callI (hd : decode Y.2.1 pc = .ok (.invokespecial idx, 3)) (hM : okM Y2 N) (hV : Cond.instanceMethod Y2.1 ∈ vU) (hret : Y2.2.2.2 = none) (hnm : Y2.1.name = "<init>") (hL : okL Y.1.cls idx Y2) (hC : Ctr Y2 R2 (.ref a :: As) n w Q2) (hn : As.length = N) (hst : As.reverse ++ .ref a :: rest = st) (hR : rmOK R Y2 R2 kc ks rest = true)
    (kk : ∀ (r : Option Value) (n' : Nat) (w' : vWd), Q2 r n' w' → V Y R Q (pc + 3) lv (r.toList ++ rest) n' w' (kc + R2.cells) (ks + R2.slots)) : V Y R Q pc lv st n w kc ks := by
  intro p l e s m args below meth c b sa cA D H locs ls E hw hS hb hl
  obtain ⟨y2, c2, m2, t2⟩ := Y2
  have ht2 : t2 = none := hret
  subst ht2
  have hts := E.2.2.2.2.2.1
  obtain ⟨r1, r2, r3⟩ := rmOK_spec hR
  have hstk : st.map (cvV b sa) = (As.map (cvV b sa)).reverse ++ .ref (b + a) :: rest.map (cvV b sa) := by
    rw [← hst, List.map_append, List.map_reverse, List.map_cons]; rfl
  have hpre : PreS s H (va_Pc ((Value.ref a :: As).map (cvV b sa)) (vPre b sa cA D n w)) ((Value.ref a :: As).map (cvV b sa)) := ⟨vPre_blind _ b sa cA D n w, fun U hU hW => vPre_at (Y2 := (y2, c2, m2, none)) E hw hS U hU hW⟩
  have hfix : CallFix p m c Y.2.1 Y.2.2.1 s args vU Y.1.cls := ⟨E.1, E.2.1, E.2.2.2.1, E.2.2.2.2.1, hts⟩
  refine V_back (Y2 := (y2, c2, m2, none)) (R2 := R2) (av := .ref a :: As) (a := (Value.ref (b + a) :: As.map (cvV b sa)).toArray) ?_ E hw hS hb hl kk
  rw [hstk]
  have hroom : 2 * (F0 m pc ls ((As.map (cvV b sa)).reverse ++ .ref (b + a) :: rest.map (cvV b sa))).monitorRoom + ((rest.map (cvV b sa)).map fun v => v.category).sum ≤ 8 := by
    rw [cat_rest]; show 2 * 0 + _ ≤ 8; omega
  rcases hL with hL | ⟨host, hL⟩
  · exact va_runI (b := b + a) (As := As.map (cvV b sa)) hfix (hC l b sa cA D) (cwI N hts (vU_cons hM.1) rfl rfl rfl (hts _ hM.2.1) (hts _ hL) (hts _ hV) hnm hM.2.2 r1) hpre rfl (by rw [List.length_map]; exact hn) hl.1 rfl hroom hd r2
  · exact va_runIN (b := b + a) (As := As.map (cvV b sa)) hfix (hC l b sa cA D) ⟨va_cnB (host := host) N hts (vU_cons hM.1) rfl rfl rfl (E.2.2.2.2.2.2.2.2.2.2 _ hL rfl) (hts _ hM.2.1) hM.2.2 r1, hnm, hts _ hV⟩ hpre rfl (by rw [List.length_map]; exact hn) hl.1 rfl hroom hd r2
end VCALLS
