/-! ===== rules in the shapes that the walks use ===== -/
abbrev rm (d : Nat) : Room := { frames := d, cells := 0, slots := 0, locals := 32 * d }
def pR (v : Value) (n : Nat) (w : vWd) : vPost := fun r n' w' => r = some v ∧ n' = n ∧ w' = w
def pI (P : Int → vWd → Prop) (n : Nat) : vPost := fun r n' w' => ∃ z : Int, r = some (vI z) ∧ n' = n ∧ P z w'
def pV (P : vWd → Prop) (n : Nat) : vPost := fun r n' w' => r = none ∧ n' = n ∧ P w'
def pC (P : Nat → vWd → Prop) : vPost := fun r n' w' => r = none ∧ P n' w'
def bI (p : Prop) [Decidable p] : Int := if p then 1 else 0
theorem bI_t {p : Prop} [Decidable p] (h : p) : bI p = 1 := if_pos h
theorem bI_f {p : Prop} [Decidable p] (h : ¬ p) : bI p = 0 := if_neg h
theorem bI_R (p : Prop) [Decidable p] : inR (bI p) := by unfold bI; split <;> exact ⟨by decide, by decide⟩
theorem bI_01 (p : Prop) [Decidable p] : bI p = 0 ∨ bI p = 1 := by unfold bI; split <;> simp
theorem bI_eq {p q : Prop} [Decidable p] [Decidable q] (h : p ↔ q) : bI p = bI q := by unfold bI; simp [h]
theorem pR_of {v v' : Value} {n : Nat} {w : vWd} (h : v' = v) : pR v n w (some v') n w := ⟨by rw [h], rfl, rfl⟩
theorem pR_I {z z' : Int} {n : Nat} {w : vWd} (h : z' = z) : pR (vI z) n w (some (vI z')) n w := ⟨by rw [h], rfl, rfl⟩
theorem pI_of {P : Int → vWd → Prop} {z : Int} {n : Nat} {w : vWd} (h : P z w) : pI P n (some (vI z)) n w := ⟨z, rfl, rfl, h⟩
theorem pV_of {P : vWd → Prop} {n : Nat} {w : vWd} (h : P w) : pV P n none n w := ⟨rfl, rfl, h⟩
theorem Ctr.mono {Y : vMeth} {R : Room} {av : List Value} {n : Nat} {w : vWd} {Q Q' : vPost} (h : Ctr Y R av n w Q) (hq : ∀ r n' w', Q r n' w' → Q' r n' w') : Ctr Y R av n w Q' := by
  intro l b sa cA D
  have h1 := h l b sa cA D
  intro p e ha hc hk s m args below hf happ hpre htriv
  obtain ⟨t, o, a1, b1, b2, ⟨⟨r, n', w', e1, e2, e3⟩, hF⟩, b4⟩ := h1 p e ha hc hk s m args below hf happ hpre htriv
  exact ⟨t, o, a1, b1, b2, ⟨⟨r, n', w', e1, hq r n' w' e2, e3⟩, hF⟩, b4⟩
section VD
variable {Y : vMeth} {R : Room} {Q : vPost} {pc : Nat} {lv : vLs} {st : List Value} {n : Nat} {w : vWd} {kc ks : Nat} {Y2 : vMeth} {As rest : List Value} {N idx a d : Nat}
theorem V_vR {ci : Nat} {fs : List Value} {q : vw_C} {v : Value} (hd : decode Y.2.1 pc = .ok (.invokevirtual idx, 3)) (hM : okM Y2 N) (hV : okV Y2) (hL : okL Y.1.cls idx Y2) (hC : Ctr Y2 (rm d) (.ref a :: As) n w (pR v n w)) (hw0 : w a = some (.inr (ci, fs))) (hq : vwCl[ci]? = some q) (hq1 : q.1 = Y2.1.cls) (hn : As.length = N) (hst : As.reverse ++ .ref a :: rest = st) (hR : rmOK R Y2 (rm d) kc ks rest = true)
    (kk : V Y R Q (pc + 3) lv (v :: rest) n w kc ks) : V Y R Q pc lv st n w kc ks :=
  V_callV hd hM hV hL hC hw0 hq hq1 hn hst hR (fun r n' w' h => by obtain ⟨rfl, rfl, rfl⟩ := h; exact kk)
theorem V_vI {ci : Nat} {fs : List Value} {q : vw_C} {P : Int → vWd → Prop} (hd : decode Y.2.1 pc = .ok (.invokevirtual idx, 3)) (hM : okM Y2 N) (hV : okV Y2) (hL : okL Y.1.cls idx Y2) (hC : Ctr Y2 (rm d) (.ref a :: As) n w (pI P n)) (hw0 : w a = some (.inr (ci, fs))) (hq : vwCl[ci]? = some q) (hq1 : q.1 = Y2.1.cls) (hn : As.length = N) (hst : As.reverse ++ .ref a :: rest = st) (hR : rmOK R Y2 (rm d) kc ks rest = true)
    (kk : ∀ (z : Int) (w' : vWd), P z w' → V Y R Q (pc + 3) lv (vI z :: rest) n w' kc ks) : V Y R Q pc lv st n w kc ks :=
  V_callV hd hM hV hL hC hw0 hq hq1 hn hst hR (fun r n' w' h => by obtain ⟨z, rfl, rfl, h⟩ := h; exact kk z w' h)
theorem V_vV {ci : Nat} {fs : List Value} {q : vw_C} {P : vWd → Prop} (hd : decode Y.2.1 pc = .ok (.invokevirtual idx, 3)) (hM : okM Y2 N) (hV : okV Y2) (hL : okL Y.1.cls idx Y2) (hC : Ctr Y2 (rm d) (.ref a :: As) n w (pV P n)) (hw0 : w a = some (.inr (ci, fs))) (hq : vwCl[ci]? = some q) (hq1 : q.1 = Y2.1.cls) (hn : As.length = N) (hst : As.reverse ++ .ref a :: rest = st) (hR : rmOK R Y2 (rm d) kc ks rest = true)
    (kk : ∀ (w' : vWd), P w' → V Y R Q (pc + 3) lv rest n w' kc ks) : V Y R Q pc lv st n w kc ks :=
  V_callV hd hM hV hL hC hw0 hq hq1 hn hst hR (fun r n' w' h => by obtain ⟨rfl, rfl, h⟩ := h; exact kk w' h)
theorem V_sR {v : Value} (hd : decode Y.2.1 pc = .ok (.invokestatic idx, 3)) (hM : okM Y2 N) (hV : Cond.static Y2.1 ∈ vU) (hL : okL Y.1.cls idx Y2) (hC : Ctr Y2 (rm d) As n w (pR v n w)) (hn : As.length = N) (hst : As.reverse ++ rest = st) (hR : rmOK R Y2 (rm d) kc ks rest = true)
    (kk : V Y R Q (pc + 3) lv (v :: rest) n w kc ks) : V Y R Q pc lv st n w kc ks :=
  V_callS hd hM hV hL hC hn hst hR (fun r n' w' h => by obtain ⟨rfl, rfl, rfl⟩ := h; exact kk)
theorem V_cV {R2 : Room} {P : Nat → vWd → Prop} (hd : decode Y.2.1 pc = .ok (.invokespecial idx, 3)) (hM : okM Y2 N) (hV : Cond.instanceMethod Y2.1 ∈ vU) (hret : Y2.2.2.2 = none) (hnm : Y2.1.name = "<init>") (hL : okL Y.1.cls idx Y2) (hC : Ctr Y2 R2 (.ref a :: As) n w (pC P)) (hn : As.length = N) (hst : As.reverse ++ .ref a :: rest = st) (hR : rmOK R Y2 R2 kc ks rest = true)
    (kk : ∀ (n' : Nat) (w' : vWd), P n' w' → V Y R Q (pc + 3) lv rest n' w' (kc + R2.cells) (ks + R2.slots)) : V Y R Q pc lv st n w kc ks :=
  V_callI hd hM hV hret hnm hL hC hn hst hR (fun r n' w' h => by obtain ⟨rfl, h⟩ := h; exact kk n' w' h)
theorem V_putiW {ci k : Nat} {fs : List Value} {x : Int32} (hd : decode Y.2.1 pc = .ok (.putfield idx, 3)) (hf : FL Y.1.cls idx ci k .int false) (hw0 : w a = some (.inr (ci, fs))) (hlen : k < fs.length) (kk : ∀ w' : vWd, w' a = some (.inr (ci, fs.set k (.int x))) → (∀ j, j ≠ a → w' j = w j) → V Y R Q (pc + 3) lv st n w' kc ks) : V Y R Q pc lv (.int x :: .ref a :: st) n w kc ks :=
  V_puti hd hf hw0 hlen (kk _ (va_up_self _ _ _) (fun _ h => va_up_ne _ _ h))
theorem V_putzW {ci k : Nat} {fs : List Value} {x : Int32} (hd : decode Y.2.1 pc = .ok (.putfield idx, 3)) (hf : FL Y.1.cls idx ci k .boolean false) (hw0 : w a = some (.inr (ci, fs))) (hx : x = 0 ∨ x = 1) (hlen : k < fs.length) (kk : ∀ w' : vWd, w' a = some (.inr (ci, fs.set k (.int x))) → (∀ j, j ≠ a → w' j = w j) → V Y R Q (pc + 3) lv st n w' kc ks) : V Y R Q pc lv (.int x :: .ref a :: st) n w kc ks :=
  V_putz hd hf hw0 hx hlen (kk _ (va_up_self _ _ _) (fun _ h => va_up_ne _ _ h))
theorem V_putFW {ci k a' : Nat} {ty : FieldType} {fs : List Value} (hd : decode Y.2.1 pc = .ok (.putfield idx, 3)) (hf : FL Y.1.cls idx ci k ty true) (hw0 : w a = some (.inr (ci, fs))) (hini : Y.1.name = "<init>") (hcls : ∃ q, vwCl[ci]? = some q ∧ q.1 = Y.1.cls) (hlk0 : ∀ C T N, vwCl[ci]? = some (C, T, N) → Cond.fieldLink Y.1.cls idx C (T k).2.1 (T k).2.2.1 ∈ vU) (hn : ∀ q : Nat, narrow ty (.ref q) = .ref q ∧ fits ty (.ref q) = true) (hlen : k < fs.length) (kk : ∀ w' : vWd, w' a = some (.inr (ci, fs.set k (.ref a'))) → (∀ j, j ≠ a → w' j = w j) → V Y R Q (pc + 3) lv st n w' kc ks) : V Y R Q pc lv (.ref a' :: .ref a :: st) n w kc ks :=
  V_putF hd hf hw0 hini hcls hlk0 hn hlen (kk _ (va_up_self _ _ _) (fun _ h => va_up_ne _ _ h))
theorem V_iastW {N : Nat} {f : Nat → Int} {j z : Int} (hd : decode Y.2.1 pc = .ok (.iastore, 1)) (hw0 : w a = some (arI N f)) (hj : 0 ≤ j ∧ j < N) (hN : N < 2147483648) (kk : ∀ w' : vWd, w' a = some (arI N (va_up f j.toNat z)) → (∀ i, i ≠ a → w' i = w i) → V Y R Q (pc + 1) lv st n w' kc ks) : V Y R Q pc lv (vI z :: vI j :: .ref a :: st) n w kc ks :=
  V_iast hd hw0 hj hN (kk _ (va_up_self _ _ _) (fun _ h => va_up_ne _ _ h))
theorem V_zastW {N : Nat} {f : Nat → Int} {j z : Int} (hd : decode Y.2.1 pc = .ok (.bastore, 1)) (hw0 : w a = some (arZ N f)) (hj : 0 ≤ j ∧ j < N) (hN : N < 2147483648) (hz : z = 0 ∨ z = 1) (kk : ∀ w' : vWd, w' a = some (arZ N (va_up f j.toNat z)) → (∀ i, i ≠ a → w' i = w i) → V Y R Q (pc + 1) lv st n w' kc ks) : V Y R Q pc lv (vI z :: vI j :: .ref a :: st) n w kc ks :=
  V_zast hd hw0 hj hN hz (kk _ (va_up_self _ _ _) (fun _ h => va_up_ne _ _ h))
theorem V_if_eqB {p : Prop} [Decidable p] {off : Int} {tgt : Nat} (hd : decode Y.2.1 pc = .ok (.ifCond .eq off, 3)) (ht : (pc : Int) + off = (tgt : Int)) (kt : ¬ p → V Y R Q tgt lv st n w kc ks) (kf : p → V Y R Q (pc + 3) lv st n w kc ks) : V Y R Q pc lv (vI (bI p) :: st) n w kc ks :=
  V_if_eq hd ht (bI_R p) (fun h => kt (fun hp => by rw [bI_t hp] at h; cases h)) (fun h => kf (Decidable.byContradiction fun hp => h (bI_f hp)))
theorem V_if_neB {p : Prop} [Decidable p] {off : Int} {tgt : Nat} (hd : decode Y.2.1 pc = .ok (.ifCond .ne off, 3)) (ht : (pc : Int) + off = (tgt : Int)) (kt : p → V Y R Q tgt lv st n w kc ks) (kf : ¬ p → V Y R Q (pc + 3) lv st n w kc ks) : V Y R Q pc lv (vI (bI p) :: st) n w kc ks :=
  V_if_ne hd ht (bI_R p) (fun h => kt (Decidable.byContradiction fun hp => h (bI_f hp))) (fun h => kf (fun hp => by rw [bI_t hp] at h; cases h))
end VD
/-- a contract of a member of a class of the JDK that the machine itself has no entry for -/
theorem Ctr_ofF {Y : vMeth} {R : Room} {av : List Value} {n : Nat} {w : vWd} {Q : vPost} {lv : vLs} (hy : plainFor Y.1 = true) (hlv : avL av ++ List.replicate (Y.2.2.1 - (avL av).length) none = lv) (hle : Nat.ble (avL av).length Y.2.2.1 = true) (k : V Y R Q 0 lv [] n w 0 0) : Ctr Y R av n w Q := by
  intro l b sa cA D
  refine va_MetF (cc := Y.2.1) (maxL := Y.2.2.1) (ret := Y.2.2.2) hy rfl ?_
  intro p e s m args below meth c s₁ B hml hv
  obtain ⟨rfl, hO, hK, hSt, hN⟩ := hv
  have hts := atoms_spec (ws := Cond.code Y.1 Y.2.1 Y.2.2.1 Y.2.2.2 :: vU) B.pre
  rw [lg_entry_eq]
  refine k p l e s m _ below meth c b sa cA D s.heap [] _ ⟨B.exec, B.bytes, B.returns, hml, findClass_of_methodNamed B.named, fun w hw => hts w (List.mem_cons_of_mem _ hw), (name_of_methodNamed B.named B.method).1, B.notSynchronized, hK, hSt, hN⟩ hO va_S.rf (by rw [hO.1]; omega) ?_
  have hl := lv_entry (av.map (cvV b sa)) (n := Y.2.2.1) (by rw [lgsl_len]; exact Nat.le_of_ble_eq_true hle)
  refine ⟨hl.1, hl.2.1, fun i v hi => ?_⟩
  rw [← hlv] at hi
  by_cases hlt : i < (avL av).length
  · rw [List.getElem?_append_left hlt] at hi
    have := avL_args (b := b) (sa := sa) av 0 i v hi
    rw [Nat.zero_add] at this
    exact hl.2.2 _ this
  · rw [List.getElem?_append_right (by omega)] at hi
    have := List.eq_of_mem_replicate (List.mem_of_getElem? hi)
    cases this
