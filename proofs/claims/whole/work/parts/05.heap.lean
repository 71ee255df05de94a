/-! ===== the rules of the heap, of returns and of calls ===== -/
/-- a field by a constant of a pool: the class's number, the slot, its type, is it final -/
def FL (own : String) (idx ci k : Nat) (ty : FieldType) (fin : Bool) : Prop :=
  ∃ (C : String) (T : u_T) (N : Nat) (ty0 : Nat → FieldType), vwCl[ci]? = some (C, T, N) ∧ k < N ∧ (∀ w ∈ u_ws C T N, w ∈ vU) ∧ (∀ j, j < N → parseFieldDescriptor (T j).2.2.1 = some (ty0 j)) ∧ (∀ a, a < N → ∀ b, b < N → a ≠ b → (T a).2.1 ≠ (T b).2.1) ∧ (T k).1 = C ∧ ty0 k = ty ∧ (T k).2.2.2 = fin ∧
    (Cond.fieldLink own idx C (T k).2.1 (T k).2.2.1 ∈ vU ∨ ∃ host, Cond.fieldLinkNest own idx C (T k).2.1 (T k).2.2.1 host ∈ lw_tbl)
theorem cvE_o {b : Nat} {sa cA : Nat → Nat} {ci : Nat} {fs : List Value} : cvE b sa cA (.inr (ci, fs)) = .inr (ci, fs.map (cvV b sa)) := rfl
section VHEAP
variable {Y : vMeth} {R : Room} {Q : vPost} {pc : Nat} {lv : vLs} {st : List Value} {n : Nat} {w : vWd} {kc ks : Nat}
theorem V_get {a ci k idx : Nat} {ty : FieldType} {fin : Bool} {fs : List Value} {v : Value} (hd : decode Y.2.1 pc = .ok (.getfield idx, 3)) (hf : FL Y.1.cls idx ci k ty fin) (hw0 : w a = some (.inr (ci, fs))) (hv : fs[k]? = some v) (kk : V Y R Q (pc + 3) lv (v :: st) n w kc ks) : V Y R Q pc lv (.ref a :: st) n w kc ks := by
  intro p l e s m args below meth c b sa cA D H locs ls E hw hS hb hl
  obtain ⟨C, T, N, ty0, hc, hk, hin, hty, hnm, hC, -, -, hlk⟩ := hf
  have hv' : (fs.map (cvV b sa))[k]? = some (cvV b sa v) := by rw [List.getElem?_map, hv]; rfl
  have hts := E.2.2.2.2.2.1
  have K := kk p l e s m args below meth c b sa cA D H locs ls E hw hS hb hl
  rcases hlk with hlk | ⟨host, hlk⟩
  · exact va_get (D := D) E.1 E.2.1 hts hin E.2.2.2.2.1 E.2.2.2.2.2.2.2.2.1 (hw.P hw0) 0 rfl hc k hk (hts _ hlk) (fun x h => by rw [hC] at h; exact h) hv' hd K
  · exact va_getN (D := D) E.1 E.2.1 hts hin E.2.2.2.2.1 E.2.2.2.2.2.2.2.2.1 (hw.P hw0) 0 rfl hc k hk (va_Nw.use rfl (E.2.2.2.2.2.2.2.2.2.2 _ hlk rfl)) (fun x h => by rw [hC] at h; exact h) hv' hd K
theorem vS_put {A : Nat → Prop} {H0 H H1 : Heap} {locs : List Loc} {a k : Nat} (h : va_S A H0 H locs) (z : H1.size = H.size) (oq : ∀ q : Nat, q ≠ a → H1[q]? = H[q]?) (ha : A a) : va_S A H0 H1 (locs ++ [⟨a, k⟩]) := h.put z oq ha
theorem V_put {a ci k idx : Nat} {ty : FieldType} {fs : List Value} {v : Value} (hd : decode Y.2.1 pc = .ok (.putfield idx, 3)) (hf : FL Y.1.cls idx ci k ty false) (hw0 : w a = some (.inr (ci, fs))) (hn : ∀ (b : Nat) (sa : Nat → Nat), narrow ty (cvV b sa v) = cvV b sa v ∧ fits ty (cvV b sa v) = true) (hlen : k < fs.length) (kk : V Y R Q (pc + 3) lv st n (va_up w a (some (.inr (ci, fs.set k v)))) kc ks) : V Y R Q pc lv (v :: .ref a :: st) n w kc ks := by
  intro p l e s m args below meth c b sa cA D H locs ls E hw hS hb hl
  obtain ⟨C, T, N, ty0, hc, hk, hin, hty, hnm, hC, hty1, hfin, hlk⟩ := hf
  have hts := E.2.2.2.2.2.1
  have hK := E.2.2.2.2.2.2.2.2.1
  have hown := E.2.2.2.2.1
  have hap := va_apart (own := Y.1.cls) hts hin ty0 hty hnm hK hc
  obtain ⟨r, h1, cell, q1, q2, q3, q4⟩ := hw.P hw0 0 _ rfl
  have hr : r = (C, T, N) := Option.some.inj (h1.symm.trans hc)
  subst hr
  obtain ⟨hSl, hfc, kC, hkC, hkind⟩ := hK.1 ci _ hc
  obtain ⟨cf, kf, fi, f, hi, hsl⟩ := hSl k hk
  have hlay := hts _ (hin _ (u_in_lay hk))
  unfold u_lay at hlay
  rw [if_neg (by rw [hfin]; decide)] at hlay
  have hst := (u_facts hfc hkC (u_lays hts hin hk) hi).1
  have hd0 : parseFieldDescriptor (T k).2.2.1 = some ty := by rw [hty k hk, hty1]
  have h6 := u_store hfc hkC hkind hlay hi hd0 (hn b sa).1 (hn b sa).2
  have hsame : s.fieldFound? C (T k).2.1 (T k).2.2.1 = some (cf, kf, fi, f) := by rw [hC] at hi; exact hi
  have fin : ∀ H' : Heap, H'[b + a]? = some (cell.setSlot f.slot (cvV b sa v)) → H'.size = H.size → (∀ q, q ≠ b + a → H'[q]? = H[q]?) → W p l e R s m args below meth c H' (locs ++ [⟨b + a, f.slot⟩]) kc ks (MQ below (vZ b sa cA D Q) args s R.cells R.slots (fB b)) (F0 m (pc + 3) ls (st.map (cvV b sa))) := by
    intro H' e1 e2 e3
    rw [hsl] at e1 ⊢
    refine kk p l e s m args below meth c b sa cA D H' _ ls E (hw.set hw0 e2 ?_ e3) (hS.put e2 e3 (Nat.le_add_right b a)) hb hl
    refine ⟨_, hc, t_OB.to (V := updV (vp_V (fs.map (cvV b sa))) k (cvV b sa v)) ⟨_, e1, q2, q3, t_set q4 hap hk (cvV b sa v)⟩ (fun j _ => ?_)⟩
    rw [vp_updV_set (by rw [List.length_map]; exact hlen), List.map_set]
  rcases hlk with hlk | ⟨host, hlk⟩
  · exact W.putK E.1 E.2.1 (f := f) ⟨hown, hts _ hlk, ⟨_, _, _, hsame⟩, hst⟩ (by rw [q2]; exact h6) q1 q3 (by rw [hsl]; exact k2_hasslot (q4 k hk)) rfl rfl hd fin
  · exact va_WputK E.1 E.2.1 (f := f) hown (va_Nw.use rfl (E.2.2.2.2.2.2.2.2.2.2 _ hlk rfl)) hsame hst (by rw [q2]; exact h6) q1 q3 (by rw [hsl]; exact k2_hasslot (q4 k hk)) rfl rfl hd fin
theorem V_puti {a ci k idx : Nat} {fs : List Value} {x : Int32} (hd : decode Y.2.1 pc = .ok (.putfield idx, 3)) (hf : FL Y.1.cls idx ci k .int false) (hw0 : w a = some (.inr (ci, fs))) (hlen : k < fs.length) (kk : V Y R Q (pc + 3) lv st n (va_up w a (some (.inr (ci, fs.set k (.int x))))) kc ks) : V Y R Q pc lv (.int x :: .ref a :: st) n w kc ks :=
  V_put hd hf hw0 (fun _ _ => ⟨rfl, rfl⟩) hlen kk
theorem V_putz {a ci k idx : Nat} {fs : List Value} {x : Int32} (hd : decode Y.2.1 pc = .ok (.putfield idx, 3)) (hf : FL Y.1.cls idx ci k .boolean false) (hw0 : w a = some (.inr (ci, fs))) (hx : x = 0 ∨ x = 1) (hlen : k < fs.length) (kk : V Y R Q (pc + 3) lv st n (va_up w a (some (.inr (ci, fs.set k (.int x))))) kc ks) : V Y R Q pc lv (.int x :: .ref a :: st) n w kc ks :=
  V_put hd hf hw0 (fun _ _ => by rcases hx with rfl | rfl <;> exact ⟨rfl, rfl⟩) hlen kk
/-- a final field, in its class's constructor -/
theorem V_putF {a ci k idx a' : Nat} {ty : FieldType} {fs : List Value} (hd : decode Y.2.1 pc = .ok (.putfield idx, 3)) (hf : FL Y.1.cls idx ci k ty true) (hw0 : w a = some (.inr (ci, fs))) (hini : Y.1.name = "<init>") (hcls : ∃ q, vwCl[ci]? = some q ∧ q.1 = Y.1.cls) (hlk0 : ∀ C T N, vwCl[ci]? = some (C, T, N) → Cond.fieldLink Y.1.cls idx C (T k).2.1 (T k).2.2.1 ∈ vU) (hn : ∀ q : Nat, narrow ty (.ref q) = .ref q ∧ fits ty (.ref q) = true) (hlen : k < fs.length) (kk : V Y R Q (pc + 3) lv st n (va_up w a (some (.inr (ci, fs.set k (.ref a'))))) kc ks) : V Y R Q pc lv (.ref a' :: .ref a :: st) n w kc ks := by
  intro p l e s m args below meth c b sa cA D H locs ls E hw hS hb hl
  obtain ⟨C, T, N, ty0, hc, hk, hin, hty, hnm, hC, hty1, hfin, -⟩ := hf
  have hlk := hlk0 C T N hc
  have hts := E.2.2.2.2.2.1
  have hK := E.2.2.2.2.2.2.2.2.1
  have hown := E.2.2.2.2.1
  have hap := va_apart (own := Y.1.cls) hts hin ty0 hty hnm hK hc
  obtain ⟨r, h1, cell, q1, q2, q3, q4⟩ := hw.P hw0 0 _ rfl
  have hr : r = (C, T, N) := Option.some.inj (h1.symm.trans hc)
  subst hr
  obtain ⟨hSl, hfc, kC, hkC, hkind⟩ := hK.1 ci _ hc
  obtain ⟨cf, kf, fi, f, hi, hsl⟩ := hSl k hk
  have hlay := hts _ (hin _ (u_in_lay hk))
  unfold u_lay at hlay
  rw [if_pos hfin] at hlay
  have hst := (u_facts hfc hkC (u_lays hts hin hk) hi).1
  have hd0 : parseFieldDescriptor (T k).2.2.1 = some ty := by rw [hty k hk, hty1]
  have hdecl : C = Y.1.cls := by
    obtain ⟨q, g1, g2⟩ := hcls
    rw [hc] at g1
    cases g1
    exact g2
  have hcf : m.cls = cf := by
    obtain ⟨_, _, c', _, _, _, -, -, hf', -, -, -, hown2, -⟩ := Cond.laysFinal_spec hlay
    have e1 : c' = cf := by have := hi.symm.trans hf'; simp at this; exact this.1.symm
    rw [hC, hdecl] at hown2
    rw [← e1]; exact Option.some.inj (hown.symm.trans hown2)
  have h6 := u_fits hfc hkC hkind (Or.inr hlay) hi hd0 (hn (b + a')).1 (hn (b + a')).2
  have hsame : s.fieldFound? C (T k).2.1 (T k).2.2.1 = some (cf, kf, fi, f) := by rw [hC] at hi; exact hi
  refine W.putFinK E.1 E.2.1 hown (hts _ hlk) hsame hst hcf (E.2.2.2.2.2.2.1.trans hini) (by rw [q2]; exact h6) q1 q3 (by rw [hsl]; exact k2_hasslot (q4 k hk)) rfl rfl hd fun H' e1 e2 e3 => ?_
  rw [hsl] at e1 ⊢
  refine kk p l e s m args below meth c b sa cA D H' _ ls E (hw.set hw0 e2 ?_ e3) (hS.put e2 e3 (Nat.le_add_right b a)) hb hl
  refine ⟨_, hc, t_OB.to (V := updV (vp_V (fs.map (cvV b sa))) k (.ref (b + a'))) ⟨_, e1, q2, q3, t_set q4 hap hk (.ref (b + a'))⟩ (fun j _ => ?_)⟩
  rw [vp_updV_set (by rw [List.length_map]; exact hlen), List.map_set]
  rfl
/-! arrays: 0 of ints, 1 of booleans -/
abbrev arI (N : Nat) (f : Nat → Int) : va_E := .inl (0, N, .inl (fun k => iI (f k)))
abbrev arZ (N : Nat) (f : Nat → Int) : va_E := .inl (1, N, .inl (fun k => iI (f k)))
theorem V_iald {a N : Nat} {f : Nat → Int} {j : Int} (hd : decode Y.2.1 pc = .ok (.iaload, 1)) (hw0 : w a = some (arI N f)) (hj : 0 ≤ j ∧ j < N) (hN : N < 2147483648) (kk : V Y R Q (pc + 1) lv (vI (f j.toNat) :: st) n w kc ks) : V Y R Q pc lv (vI j :: .ref a :: st) n w kc ks := by
  intro p l e s m args below meth c b sa cA D H locs ls E hw hS hb hl
  refine va_iald (D := D) E.1 E.2.1 E.2.2.2.2.2.2.2.2.1 (hw.P hw0) 0 0 rfl rfl (iI_in hj.1 hj.2 hN) hd ?_
  rw [iI_clamp ⟨by omega, by omega⟩]
  exact kk p l e s m args below meth c b sa cA D H locs ls E hw hS hb hl
theorem V_zald {a N : Nat} {f : Nat → Int} {j : Int} (hd : decode Y.2.1 pc = .ok (.baload, 1)) (hw0 : w a = some (arZ N f)) (hj : 0 ≤ j ∧ j < N) (hN : N < 2147483648) (kk : V Y R Q (pc + 1) lv (vI (f j.toNat) :: st) n w kc ks) : V Y R Q pc lv (vI j :: .ref a :: st) n w kc ks := by
  intro p l e s m args below meth c b sa cA D H locs ls E hw hS hb hl
  refine va_zald (D := D) E.1 E.2.1 E.2.2.2.2.2.2.2.2.1 (hw.P hw0) 0 1 rfl rfl (iI_in hj.1 hj.2 hN) hd ?_
  rw [iI_clamp ⟨by omega, by omega⟩]
  exact kk p l e s m args below meth c b sa cA D H locs ls E hw hS hb hl
theorem V_iast {a N : Nat} {f : Nat → Int} {j z : Int} (hd : decode Y.2.1 pc = .ok (.iastore, 1)) (hw0 : w a = some (arI N f)) (hj : 0 ≤ j ∧ j < N) (hN : N < 2147483648) (kk : V Y R Q (pc + 1) lv st n (va_up w a (some (arI N (va_up f j.toNat z)))) kc ks) : V Y R Q pc lv (vI z :: vI j :: .ref a :: st) n w kc ks := by
  intro p l e s m args below meth c b sa cA D H locs ls E hw hS hb hl
  have ha : va_at D vwCl (b + a, .inl (cA 0, N, .inl (fun k => iI (f k)))) H := hw.2.2 a _ hw0
  refine W.iast E.1 E.2.1 ha ((E.2.2.2.2.2.2.2.2.1.2 0 _ rfl).1 N (fun j => .int (iI (f j)))) (fun q => by cases q) (by show ¬ (iI j < 0 ∨ (arrV _ _ _).slots.size ≤ _); rw [arrV_size]; exact iI_in hj.1 hj.2 hN) rfl rfl hd fun H1 e1 z1 oq => ?_
  refine kk p l e s m args below meth c b sa cA D H1 _ ls E (hw.set hw0 z1 ?_ oq) (hS.put z1 oq (Nat.le_add_right b a)) hb hl
  show H1[b + a]? = some (vp_cell _ _)
  rw [e1, vp_cell_i, vp_cell_i, arrV_store, iI_clamp ⟨by omega, by omega⟩]
  congr 2
  funext q
  by_cases hq : q = j.toNat <;> simp [updV, va_up, hq]
theorem V_zast {a N : Nat} {f : Nat → Int} {j z : Int} (hd : decode Y.2.1 pc = .ok (.bastore, 1)) (hw0 : w a = some (arZ N f)) (hj : 0 ≤ j ∧ j < N) (hN : N < 2147483648) (hz : z = 0 ∨ z = 1) (kk : V Y R Q (pc + 1) lv st n (va_up w a (some (arZ N (va_up f j.toNat z)))) kc ks) : V Y R Q pc lv (vI z :: vI j :: .ref a :: st) n w kc ks := by
  intro p l e s m args below meth c b sa cA D H locs ls E hw hS hb hl
  have ha : va_at D vwCl (b + a, .inl (cA 1, N, .inl (fun k => iI (f k)))) H := hw.2.2 a _ hw0
  refine W.zast E.1 E.2.1 ha ((E.2.2.2.2.2.2.2.2.1.2 1 _ rfl).1 N (fun j => .int (iI (f j)))) (fun q => by cases q) (by show ¬ (iI j < 0 ∨ (arrV _ _ _).slots.size ≤ _); rw [arrV_size]; exact iI_in hj.1 hj.2 hN) rfl rfl hd fun H1 e1 z1 oq => ?_
  refine kk p l e s m args below meth c b sa cA D H1 _ ls E (hw.set hw0 z1 ?_ oq) (hS.put z1 oq (Nat.le_add_right b a)) hb hl
  show H1[b + a]? = some (vp_cell _ _)
  have hnz : narrow .boolean (.int (iI z)) = .int (iI z) := by rcases hz with rfl | rfl <;> rfl
  rw [e1, vp_cell_i, vp_cell_i, hnz, arrV_store, iI_clamp ⟨by omega, by omega⟩]
  congr 2
  funext q
  by_cases hq : q = j.toNat <;> simp [updV, va_up, hq]
theorem V_alen {a N : Nat} {f : Nat → Int} (hd : decode Y.2.1 pc = .ok (.arraylength, 1)) (hw0 : w a = some (arI N f)) (kk : V Y R Q (pc + 1) lv (vI N :: st) n w kc ks) : V Y R Q pc lv (.ref a :: st) n w kc ks := by
  intro p l e s m args below meth c b sa cA D H locs ls E hw hS hb hl
  exact va_alen (D := D) (v := iI N) E.1 E.2.1 E.2.2.2.2.2.2.2.2.1 (hw.P hw0) 0 0 rfl rfl (nI_iI N) hd (kk p l e s m args below meth c b sa cA D H locs ls E hw hS hb hl)
theorem V_newI {z : Int} {N : Nat} (hd : decode Y.2.1 pc = .ok (.newarray .int, 2)) (harr : Cond.arrayClass .int ∈ vU) (hz : z = N) (hN : N ≤ 100000) (hc : kc + 1 ≤ R.cells) (hs : ks + N ≤ R.slots) (kk : V Y R Q (pc + 2) lv (.ref n :: st) (n + 1) (va_up w n (some (arI N (fun _ => 0)))) (kc + 1) (ks + N)) : V Y R Q pc lv (vI z :: st) n w kc ks := by
  intro p l e s m args below meth c b sa cA D H locs ls E hw hS hb hl
  subst hz
  refine va_newaK (atype := .int) E.1 E.2.1 (E.2.2.2.2.2.1 _ harr) rfl hd (n := iI N) (N := N) rfl (by rw [iI_0, iI_lt ⟨by omega, by omega⟩ ⟨by omega, by omega⟩]; omega) (by rw [iI_clamp ⟨by omega, by omega⟩]; omega) (by show N * 4 ≤ _; omega) hc hs hw.1 fun H1 c1 e1 z1 o1 hAr hNm => ?_
  have hK := E.2.2.2.2.2.2.2.2.1
  have hcA : c1 = cA 0 := Option.some.inj (hNm.symm.trans (hK.2 0 _ rfl).2)
  have e2 : (Value.ref (b + n)) :: st.map (cvV b sa) = (Value.ref n :: st).map (cvV b sa) := rfl
  rw [e2]
  refine kk p l e s m args below meth c b sa cA D H1 locs ls E (hw.push (by rw [z1, hw.1]) ?_ (fun q hq => o1 q (by rw [← hw.1]; exact hq))) ⟨Nat.le_trans hS.1 (by rw [z1, hw.1]; omega), fun x h1 h2 => (o1 x (by have := hS.1; have := hw.1; omega)).trans (hS.2.1 x h1 h2), hS.2.2⟩ hb hl
  show H1[b + n]? = some (vp_cell _ _)
  rw [e1, hcA]
  rfl
theorem V_newZ {z : Int} {N : Nat} (hd : decode Y.2.1 pc = .ok (.newarray .boolean, 2)) (harr : Cond.arrayClass .boolean ∈ vU) (hz : z = N) (hN : N ≤ 100000) (hc : kc + 1 ≤ R.cells) (hs : ks + N ≤ R.slots) (kk : V Y R Q (pc + 2) lv (.ref n :: st) (n + 1) (va_up w n (some (arZ N (fun _ => 0)))) (kc + 1) (ks + N)) : V Y R Q pc lv (vI z :: st) n w kc ks := by
  intro p l e s m args below meth c b sa cA D H locs ls E hw hS hb hl
  subst hz
  refine va_newaK (atype := .boolean) E.1 E.2.1 (E.2.2.2.2.2.1 _ harr) rfl hd (n := iI N) (N := N) rfl (by rw [iI_0, iI_lt ⟨by omega, by omega⟩ ⟨by omega, by omega⟩]; omega) (by rw [iI_clamp ⟨by omega, by omega⟩]; omega) (by show N * 1 ≤ _; omega) hc hs hw.1 fun H1 c1 e1 z1 o1 hAr hNm => ?_
  have hK := E.2.2.2.2.2.2.2.2.1
  have hcA : c1 = cA 1 := Option.some.inj (hNm.symm.trans (hK.2 1 _ rfl).2)
  have e2 : (Value.ref (b + n)) :: st.map (cvV b sa) = (Value.ref n :: st).map (cvV b sa) := rfl
  rw [e2]
  refine kk p l e s m args below meth c b sa cA D H1 locs ls E (hw.push (by rw [z1, hw.1]) ?_ (fun q hq => o1 q (by rw [← hw.1]; exact hq))) ⟨Nat.le_trans hS.1 (by rw [z1, hw.1]; omega), fun x h1 h2 => (o1 x (by have := hS.1; have := hw.1; omega)).trans (hS.2.1 x h1 h2), hS.2.2⟩ hb hl
  show H1[b + n]? = some (vp_cell _ _)
  rw [e1, hcA]
  rfl
theorem V_new {idx ci : Nat} {C : String} {T : u_T} {N : Nat} {ty0 : Nat → FieldType} {fs : List Value} (hd : decode Y.2.1 pc = .ok (.new idx, 3)) (hc0 : vwCl[ci]? = some (C, T, N)) (hin : ∀ w ∈ u_ws C T N, w ∈ vU) (hty : ∀ j, j < N → parseFieldDescriptor (T j).2.2.1 = some (ty0 j)) (hcl : Cond.classLink Y.1.cls idx C ∈ vU) (hinst : Cond.instantiable C N ∈ vU) (hini : Cond.initialized C ∈ vU) (hfs : ∀ (b : Nat) (sa : Nat → Nat) (j : Nat), j < N → defaultValue (ty0 j) = vp_V (fs.map (cvV b sa)) j) (hc : kc + 1 ≤ R.cells) (hs : ks + N ≤ R.slots) (kk : V Y R Q (pc + 3) lv (.ref n :: st) (n + 1) (va_up w n (some (.inr (ci, fs)))) (kc + 1) (ks + N)) : V Y R Q pc lv st n w kc ks := by
  intro p l e s m args below meth c b sa cA D H locs ls E hw hS hb hl
  have hts := E.2.2.2.2.2.1
  have hKn := E.2.2.2.2.2.2.2.2.1.1 ci _ hc0
  refine W.newcK E.1 E.2.1 E.2.2.2.2.1 (hts _ hcl) (hts _ hinst) (hts _ hini) rfl hd hc hs hKn.2.1 hw.1 fun H1 kC hkC e1 z1 o1 => ?_
  have e2 : (Value.ref (b + n)) :: st.map (cvV b sa) = (Value.ref n :: st).map (cvV b sa) := rfl
  show W p l e R s m args below meth c H1 locs (kc + 1) (ks + N) _ (F0 m (pc + 3) ls ((Value.ref (b + n)) :: st.map (cvV b sa)))
  rw [e2]
  refine kk p l e s m args below meth c b sa cA D H1 locs ls E (hw.push (by rw [z1, hw.1]) ?_ (fun q hq => o1 q (by rw [← hw.1]; exact hq))) ⟨Nat.le_trans hS.1 (by rw [z1, hw.1]; omega), fun x h1 h2 => (o1 x (by have := hS.1; have := hw.1; omega)).trans (hS.2.1 x h1 h2), hS.2.2⟩ hb hl
  exact ⟨_, hc0, (u_born ty0 hts hin hKn hkC e1 hty).to (hfs b sa)⟩
theorem V_objInit {idx a : Nat} (hd : decode Y.2.1 pc = .ok (.invokespecial idx, 3)) (h1 : Cond.methodLink Y.1.cls idx Lib.objectInit ∈ vU) (h2 : Cond.instanceMethod Lib.objectInit ∈ vU) (h3 : Cond.code Lib.objectInit ⟨#[0xb1]⟩ 1 none ∈ vU) (hf : 1 ≤ R.frames) (hlo : (st.map fun v => v.category).sum + 12 ≤ R.locals) (kk : V Y R Q (pc + 3) lv st n w kc ks) : V Y R Q pc lv (.ref a :: st) n w kc ks := by
  intro p l e s m args below meth c b sa cA D H locs ls E hw hS hb hl
  have hts := E.2.2.2.2.2.1
  have hcat : (((st.map (cvV b sa)).map fun v => v.category)) = st.map fun v => v.category := by rw [List.map_map]; exact List.map_congr_left (fun v _ => cvV_cat b sa v)
  refine W.objInit (rest := st.map (cvV b sa)) E.1 E.2.1 E.2.2.2.2.1 (hts _ h1) (hts _ h2) (hts _ h3) rfl (hl.1.trans E.2.2.2.1.symm) rfl hd hf ?_ ?_
  · rw [hcat]
    show 2 * 0 + _ + 12 ≤ _
    omega
  · exact kk p l e s m args below meth c b sa cA D H locs ls E hw hS hb hl
/-! returns -/
theorem vF {b : Nat} {s t : State} {H : Heap} {locs : List Loc} (h : va_S (fB b) s.heap H locs) (ht : t.heap = H) : va_F (fB b) s t := h.F ht
theorem V_iret {x : Int32} (hd : decode Y.2.1 pc = .ok (.ireturn, 1)) (hr : Y.2.2.2 = some .int) (hc : kc ≤ R.cells) (hs : ks ≤ R.slots) (hq : Q (some (.int x)) n w) : V Y R Q pc lv [.int x] n w kc ks := by
  intro p l e s m args below meth c b sa cA D H locs ls E hw hS hb hl
  refine W.widen hc hs ?_
  exact W.iret (v := x) E.1 E.2.1 (E.2.2.1.trans hr) (fun t ht hW => ⟨⟨some (.int x), n, w, rfl, hq, by rw [ht]; exact hw⟩, hS.F ht⟩) hS.2.2 hd E.2.2.2.2.2.2.2.1
theorem V_zret {x : Int32} {ty : FieldType} (hd : decode Y.2.1 pc = .ok (.ireturn, 1)) (hr : Y.2.2.2 = some ty) (hn : narrow ty (.int x) = .int x) (hc : kc ≤ R.cells) (hs : ks ≤ R.slots) (hq : Q (some (.int x)) n w) : V Y R Q pc lv [.int x] n w kc ks := by
  intro p l e s m args below meth c b sa cA D H locs ls E hw hS hb hl
  refine W.widen hc hs ?_
  exact W.zret (v := x) E.1 E.2.1 (E.2.2.1.trans hr) hn (fun t ht hW => ⟨⟨some (.int x), n, w, rfl, hq, by rw [ht]; exact hw⟩, hS.F ht⟩) hS.2.2 hd E.2.2.2.2.2.2.2.1
theorem V_lret {x : Int64} (hd : decode Y.2.1 pc = .ok (.lreturn, 1)) (hr : Y.2.2.2 = some .long) (hc : kc ≤ R.cells) (hs : ks ≤ R.slots) (hq : Q (some (.long x)) n w) : V Y R Q pc lv [.long x] n w kc ks := by
  intro p l e s m args below meth c b sa cA D H locs ls E hw hS hb hl
  refine W.widen hc hs ?_
  exact W.lret (v := x) E.1 E.2.1 (E.2.2.1.trans hr) (fun t ht hW => ⟨⟨some (.long x), n, w, rfl, hq, by rw [ht]; exact hw⟩, hS.F ht⟩) hS.2.2 hd E.2.2.2.2.2.2.2.1
theorem V_vret (hd : decode Y.2.1 pc = .ok (.return_, 1)) (hr : Y.2.2.2 = none) (hc : kc ≤ R.cells) (hs : ks ≤ R.slots) (hq : Q none n w) : V Y R Q pc lv [] n w kc ks := by
  intro p l e s m args below meth c b sa cA D H locs ls E hw hS hb hl
  refine W.widen hc hs ?_
  exact W.vret E.1 E.2.1 (E.2.2.1.trans hr) (fun t ht hW => ⟨⟨none, n, w, rfl, hq, by rw [ht]; exact hw⟩, hS.F ht⟩) hS.2.2 hd E.2.2.2.2.2.2.2.1
theorem V_aret {a : Nat} {rt : FieldType} (hd : decode Y.2.1 pc = .ok (.areturn, 1)) (hr : Y.2.2.2 = some rt) (hrt : (∃ n, rt = .object n) ∨ ∃ t, rt = .array t) (hc : kc ≤ R.cells) (hs : ks ≤ R.slots) (hq : Q (some (.ref a)) n w) : V Y R Q pc lv [.ref a] n w kc ks := by
  intro p l e s m args below meth c b sa cA D H locs ls E hw hS hb hl
  refine W.widen hc hs ?_
  exact W.aret (v := .ref (b + a)) E.1 E.2.1 (E.2.2.1.trans hr) hrt (Or.inr ⟨_, rfl⟩) (fun t ht hW => ⟨⟨some (.ref a), n, w, rfl, hq, by rw [ht]; exact hw⟩, hS.F ht⟩) hS.2.2 hd E.2.2.2.2.2.2.2.1
end VHEAP
