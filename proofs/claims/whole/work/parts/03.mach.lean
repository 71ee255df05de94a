/-! ===== the abstract machine: worlds by places, one judgement a frame ===== -/
def vU : List Cond := lw_tbl.filter goodWord
theorem vU_mem (i : Nat) {w : Cond} (h : lw_tbl[i]? = some w) (g : goodWord w = true) : w ∈ vU := List.mem_filter.mpr ⟨List.mem_of_getElem? h, g⟩
theorem vU_good : GoodIn vU vU := fun w h => ⟨h, good_of_word (List.mem_filter.mp h).2⟩
def isNest : Cond → Bool
  | .fieldLinkNest .. => true
  | .methodLinkNest .. => true
  | _ => false
def vNst (s : State) : Prop := ∀ w ∈ lw_tbl, isNest w = true → va_Nw w s
theorem vNst.warm {s U : State} (hW : s.WarmedH U.vm) (h : vNst s) : vNst U := by
  intro w hw hn
  have h1 := h w hw hn
  cases w <;> first | exact va_Nw.warmF hW h1 | exact va_Nw.warmM hW h1 | cases hn
theorem vNst.same {s U : State} (hv : s.vm = U.vm) (h : vNst s) : vNst U := by
  intro w hw hn
  have h1 := h w hw hn
  cases w <;> first | exact va_Nw.same rfl hv h1 | cases hn
/-- an address of the world -/
def fB (b : Nat) : Nat → Prop := fun q => b ≤ q
/-- the text constants: 'drawers', 'cord', 'catch', 'good', 'order' in Reader's pool -/
def cpS : Nat → Nat
  | 0 => 79
  | 1 => 85
  | 2 => 87
  | 3 => 89
  | _ => 91
def txS : Nat → String
  | 0 => "drawers"
  | 1 => "cord"
  | 2 => "catch"
  | 3 => "good"
  | _ => "order"
def bytS : List (List Int32) := [[100, 114, 97, 119, 101, 114, 115], [99, 111, 114, 100], [99, 97, 116, 99, 104], [103, 111, 111, 100], [111, 114, 100, 101, 114]]
def lenS : List Nat := [7, 4, 5, 4, 5]
/-- the texts, their bytes at sa 5 and on, and what String's own members read: a formatter at sa 10, or none -/
def vStr (b : Nat) (sa : Nat → Nat) (s : State) : Prop := vk_S 5 lenS bytS sa (fun i => sa (5 + i)) (fB b) s s.heap ∧ (∀ i, i < 5 → vk_R RX1 (cpS i) (txS i) (sa i) s) ∧ va_Z "java/lang/String" "COMPACT_STRINGS" "Z" (.int 1) (fB b) s s.heap ∧ (va_Z "jdk/internal/util/Preconditions" "SIOOBE_FORMATTER" "Ljava/util/function/BiFunction;" .null (fB b) s s.heap ∨ va_Z "jdk/internal/util/Preconditions" "SIOOBE_FORMATTER" "Ljava/util/function/BiFunction;" (.ref (sa 10)) (fB b) s s.heap)
theorem vStr.warm {b : Nat} {sa : Nat → Nat} {s U : State} (hW : s.WarmedH U.vm) (hq : ∀ a : Nat, a < s.heap.size → ¬ fB b a → U.heap[a]? = s.heap[a]?) (h : vStr b sa s) : vStr b sa U := by
  obtain ⟨h1, h2, h3, h4⟩ := h
  exact ⟨(h1.moved hW.alike).kept hq, fun i hi => (h2 i hi).warm hW, (h3.moved hW.alike).kept hq, h4.elim (fun q => Or.inl ((q.moved hW.alike).kept hq)) (fun q => Or.inr ((q.moved hW.alike).kept hq))⟩
theorem vStr.same {b : Nat} {sa : Nat → Nat} {s U : State} (hv : U.vm = s.vm) (hh : U.heap = s.heap) (h : vStr b sa s) : vStr b sa U := by
  obtain ⟨h1, h2, h3, h4⟩ := h
  have ha : s.vm.Alike U.vm := by rw [hv]; exact Vm.Alike.refl s.vm
  rw [vStr, hh]
  exact ⟨h1.moved ha, fun i hi => (h2 i hi).same hv, h3.moved ha, h4.elim (fun q => Or.inl (q.moved ha)) (fun q => Or.inr (q.moved ha))⟩
/-! worlds -/
abbrev vWd : Type := Nat → Option va_E
def cvV (b : Nat) (sa : Nat → Nat) : Value → Value
  | .ref k => .ref (b + k)
  | .retAddr k => .ref (sa k)
  | .int x => .int x
  | .long x => .long x
  | .float x => .float x
  | .double x => .double x
  | .null => .null
theorem cvV_cat (b : Nat) (sa : Nat → Nat) (v : Value) : (cvV b sa v).category = v.category := by cases v <;> rfl
def cvE (b : Nat) (sa cA : Nat → Nat) : va_E → va_E
  | .inl (t, a) => .inl (cA t, a)
  | .inr (ci, fs) => .inr (ci, fs.map (cvV b sa))
def wOK (b : Nat) (sa cA : Nat → Nat) (D : va_G) (n : Nat) (w : vWd) (H : Heap) : Prop :=
  H.size = b + n ∧ (∀ k, n ≤ k → w k = none) ∧ ∀ (k : Nat) (e : va_E), w k = some e → va_at D vwCl (b + k, cvE b sa cA e) H
theorem wOK.lt {b : Nat} {sa cA : Nat → Nat} {D : va_G} {n : Nat} {w : vWd} {H : Heap} (h : wOK b sa cA D n w H) {k : Nat} {e : va_E} (hk : w k = some e) : k < n := by
  rcases Nat.lt_or_ge k n with q | q
  · exact q
  · rw [h.2.1 k q] at hk; cases hk
theorem wOK.P {b : Nat} {sa cA : Nat → Nat} {D : va_G} {n : Nat} {w : vWd} {H : Heap} (h : wOK b sa cA D n w H) {k : Nat} {e : va_E} (hk : w k = some e) : va_P D vwCl [(b + k, cvE b sa cA e)] H := by
  intro i q hq
  have hz : i < 1 := (List.getElem?_eq_some_iff.mp hq).1
  rw [show i = 0 by omega] at hq
  cases hq
  exact h.2.2 k e hk
/-- one cell anew -/
theorem wOK.set {b : Nat} {sa cA : Nat → Nat} {D : va_G} {n : Nat} {w : vWd} {H H' : Heap} (h : wOK b sa cA D n w H) {k : Nat} {e e' : va_E} (hk : w k = some e) (hz : H'.size = H.size) (hn : va_at D vwCl (b + k, cvE b sa cA e') H') (ho : ∀ q, q ≠ b + k → H'[q]? = H[q]?) : wOK b sa cA D n (va_up w k (some e')) H' := by
  have hl := h.lt hk
  refine ⟨hz.trans h.1, fun j hj => ?_, fun j x hx => ?_⟩
  · rw [va_up_ne _ _ (by omega)]; exact h.2.1 j hj
  · by_cases hj : j = k
    · subst hj
      rw [va_up_self] at hx
      cases hx
      exact hn
    · rw [va_up_ne _ _ hj] at hx
      exact (h.2.2 j x hx).kept (ho (b + j) (by omega))
/-- one cell more -/
theorem wOK.push {b : Nat} {sa cA : Nat → Nat} {D : va_G} {n : Nat} {w : vWd} {H H' : Heap} (h : wOK b sa cA D n w H) {e' : va_E} (hz : H'.size = H.size + 1) (hn : va_at D vwCl (b + n, cvE b sa cA e') H') (ho : ∀ q, q < H.size → H'[q]? = H[q]?) : wOK b sa cA D (n + 1) (va_up w n (some e')) H' := by
  refine ⟨by rw [hz, h.1]; omega, fun j hj => ?_, fun j x hx => ?_⟩
  · rw [va_up_ne _ _ (by omega)]; exact h.2.1 j (by omega)
  · by_cases hj : j = n
    · subst hj
      rw [va_up_self] at hx
      cases hx
      exact hn
    · rw [va_up_ne _ _ hj] at hx
      have hl := h.lt hx
      exact (h.2.2 j x hx).kept (ho (b + j) (by rw [h.1]; omega))
/-! the judgement -/
abbrev vMeth : Type := MethodName × ByteArray × Nat × Option FieldType
abbrev vTy (cA : Nat → Nat) : List (ClassId × FieldType) := [(cA 0, .int), (cA 1, .boolean)]
def vEnv (Y : vMeth) (p : Program) (s : State) (m : MethodId) (args : Array Value) (meth : Method) (c : Code) (b : Nat) (sa cA : Nat → Nat) (D : va_G) : Prop :=
  p.tables.exec = Jvm.exec ∧ c.code = Y.2.1 ∧ meth.sig.returnType = Y.2.2.2 ∧ c.maxLocals = Y.2.2.1 ∧ s.vm.findClass Y.1.cls = some m.cls ∧ (∀ w ∈ vU, w.before args s = true) ∧ meth.name = Y.1.name ∧ meth.locks = false ∧ va_K D vwCl (vTy cA) s ∧ vStr b sa s ∧ vNst s
def vPre (b : Nat) (sa cA : Nat → Nat) (D : va_G) (n : Nat) (w : vWd) (U : State) : Prop := wOK b sa cA D n w U.heap ∧ va_K D vwCl (vTy cA) U ∧ vStr b sa U ∧ vNst U
def vPost : Type := Option Value → Nat → vWd → Prop
def vZ (b : Nat) (sa cA : Nat → Nat) (D : va_G) (Q : vPost) : Array Value → State → Outcome → State → Prop := fun _ st oc t =>
  (∃ (r : Option Value) (n' : Nat) (w' : vWd), oc = .returned (r.map (cvV b sa)) ∧ Q r n' w' ∧ wOK b sa cA D n' w' t.heap) ∧ va_F (fB b) st t
abbrev vLs : Type := List (Option Value)
def lvOK (b : Nat) (sa : Nat → Nat) (ls : Array Slot) (nL : Nat) (lv : vLs) : Prop := ls.size = nL ∧ lv_wf ls ∧ ∀ (i : Nat) (v : Value), lv[i]? = some (some v) → ls[i]? = some (.val (cvV b sa v))
def V (Y : vMeth) (R : Room) (Q : vPost) (pc : Nat) (lv : vLs) (st : List Value) (n : Nat) (w : vWd) (kc ks : Nat) : Prop :=
  ∀ (p : Program) (l : Launch) (e : Env) (s : State) (m : MethodId) (args : Array Value) (below : List Frame) (meth : Method) (c : Code) (b : Nat) (sa cA : Nat → Nat) (D : va_G) (H : Heap) (locs : List Loc) (ls : Array Slot),
    vEnv Y p s m args meth c b sa cA D → wOK b sa cA D n w H → va_S (fB b) s.heap H locs → b ≤ s.heap.size → lvOK b sa ls Y.2.2.1 lv →
    W p l e R s m args below meth c H locs kc ks (MQ below (vZ b sa cA D Q) args s R.cells R.slots (fB b)) (F0 m pc ls (st.map (cvV b sa)))
def Ctr (Y : vMeth) (R : Room) (av : List Value) (n : Nat) (w : vWd) (Q : vPost) : Prop :=
  ∀ (l : Launch) (b : Nat) (sa cA : Nat → Nat) (D : va_G), Met l Y.1 (Cond.code Y.1 Y.2.1 Y.2.2.1 Y.2.2.2 :: vU) R (va_Pc (av.map (cvV b sa)) (vPre b sa cA D n w)) (vZ b sa cA D Q) R.cells R.slots (fB b)
/-! locals -/
def prL (b : Nat) (sa : Nat → Nat) (lv : vLs) : List (Nat × Value) := (List.range lv.length).filterMap (fun j => match lv[j]? with
  | some (some v) => some (j, cvV b sa v)
  | _ => none)
theorem prL_mem {b : Nat} {sa : Nat → Nat} {lv : vLs} {q : Nat × Value} : q ∈ prL b sa lv ↔ ∃ v, lv[q.1]? = some (some v) ∧ q.2 = cvV b sa v := by
  rw [prL, List.mem_filterMap]
  constructor
  · rintro ⟨j, hj, h⟩
    split at h
    next v hv => cases h; exact ⟨v, hv, rfl⟩
    next => cases h
  · rintro ⟨v, hv, h2⟩
    refine ⟨q.1, List.mem_range.mpr (List.getElem?_eq_some_iff.mp hv).1, ?_⟩
    rw [hv]
    show some (q.1, cvV b sa v) = some q
    rw [← h2]
theorem lvOK.has {b : Nat} {sa : Nat → Nat} {ls : Array Slot} {nL : Nat} {lv : vLs} (h : lvOK b sa ls nL lv) : lv_has ls nL (prL b sa lv) := by
  refine ⟨h.1, h.2.1, fun q hq => ?_⟩
  obtain ⟨v, h1, h2⟩ := prL_mem.mp hq
  rw [h2]
  exact h.2.2 _ _ h1
/-- may a value of one slot be stored at i: the slot before is no long's -/
def stOK (Y : vMeth) (lv : vLs) (i : Nat) : Bool := (match i with
  | 0 => true
  | j + 1 => match lv[j]? with
    | some (some v) => v.category == 1
    | _ => true) && decide (i < Y.2.2.1)
theorem stOK.lt {Y : vMeth} {lv : vLs} {i : Nat} (h : stOK Y lv i = true) : i < Y.2.2.1 := by
  simp only [stOK, Bool.and_eq_true, decide_eq_true_eq] at h
  exact h.2
theorem stOK.cat {Y : vMeth} {lv : vLs} {i : Nat} (h : stOK Y lv i = true) {j : Nat} {v : Value} (hj : j + 1 = i) (hv : lv[j]? = some (some v)) : v.category = 1 := by
  subst hj
  simp only [stOK, Bool.and_eq_true, decide_eq_true_eq, hv] at h
  simpa using h.1
theorem lvOK.set1 {Y : vMeth} {b : Nat} {sa : Nat → Nat} {ls : Array Slot} {lv : vLs} {i : Nat} {v : Value} (hi : stOK Y lv i = true) (h : lv_has ls Y.2.2.1 ((i, cvV b sa v) :: (prL b sa lv).filter (fun q => !(q.1 == i) && !(q.1 + 1 == i && q.2.category == 2)))) : lvOK b sa ls Y.2.2.1 (lv.set i (some v)) := by
  refine ⟨h.1, h.2.1, fun j x hx => ?_⟩
  by_cases hj : j = i
  · subst hj
    have hl : j < lv.length := by
      have := (List.getElem?_eq_some_iff.mp hx).1
      rwa [List.length_set] at this
    rw [List.getElem?_set_self hl] at hx
    cases hx
    exact h.2.2 (j, cvV b sa v) List.mem_cons_self
  · rw [List.getElem?_set_ne (Ne.symm hj)] at hx
    refine h.2.2 (j, cvV b sa x) (List.mem_cons_of_mem _ (List.mem_filter.mpr ⟨prL_mem.mpr ⟨x, hx, rfl⟩, ?_⟩))
    simp only [Bool.and_eq_true, Bool.not_eq_true', beq_eq_false_iff_ne, ne_eq, Bool.and_eq_false_iff, cvV_cat]
    refine ⟨hj, ?_⟩
    by_cases h1 : j + 1 = i
    · right; rw [stOK.cat hi h1 hx]; decide
    · left; exact h1
theorem lvOK.set2 {Y : vMeth} {b : Nat} {sa : Nat → Nat} {ls : Array Slot} {lv : vLs} {i : Nat} {v : Value} (hi : stOK Y lv i = true) (h : lv_has ls Y.2.2.1 ((i, cvV b sa v) :: (prL b sa lv).filter (fun q => !(q.1 == i) && (!(q.1 == i + 1) && !(q.1 + 1 == i && q.2.category == 2))))) : lvOK b sa ls Y.2.2.1 ((lv.set i (some v)).set (i + 1) none) := by
  refine ⟨h.1, h.2.1, fun j x hx => ?_⟩
  by_cases hj1 : j = i + 1
  · subst hj1
    by_cases hl : i + 1 < (lv.set i (some v)).length
    · rw [List.getElem?_set_self hl] at hx; cases hx
    · rw [List.getElem?_eq_none (by rw [List.length_set]; omega)] at hx; cases hx
  · rw [List.getElem?_set_ne (Ne.symm hj1)] at hx
    by_cases hj : j = i
    · subst hj
      have hl : j < lv.length := by
        have := (List.getElem?_eq_some_iff.mp hx).1
        rwa [List.length_set] at this
      rw [List.getElem?_set_self hl] at hx
      cases hx
      exact h.2.2 (j, cvV b sa v) List.mem_cons_self
    · rw [List.getElem?_set_ne (Ne.symm hj)] at hx
      refine h.2.2 (j, cvV b sa x) (List.mem_cons_of_mem _ (List.mem_filter.mpr ⟨prL_mem.mpr ⟨x, hx, rfl⟩, ?_⟩))
      simp only [Bool.and_eq_true, Bool.not_eq_true', beq_eq_false_iff_ne, ne_eq, Bool.and_eq_false_iff, cvV_cat]
      refine ⟨hj, hj1, ?_⟩
      by_cases h1 : j + 1 = i
      · right; rw [stOK.cat hi h1 hx]; decide
      · left; exact h1
def avL (av : List Value) : vLs := av.flatMap fun v => if v.category = 2 then [some v, none] else [some v]
theorem avL_args {b : Nat} {sa : Nat → Nat} : ∀ (av : List Value) (k i : Nat) (v : Value), (avL av)[i]? = some (some v) → (k + i, cvV b sa v) ∈ lv_args k (av.map (cvV b sa))
  | [], _, i, v, h => by simp [avL] at h
  | x :: av, k, i, v, h => by
    rw [List.map_cons, lv_args, cvV_cat]
    by_cases hc : x.category = 2
    · rw [if_pos hc]
      simp only [avL, List.flatMap_cons, if_pos hc] at h
      match i, h with
      | 0, h =>
        simp at h
        subst h
        exact List.mem_cons_self
      | 1, h => simp at h
      | i + 2, h =>
        simp at h
        have := avL_args (b := b) (sa := sa) av (k + 2) i v (by simpa [avL] using h)
        rw [show k + (i + 2) = k + 2 + i by omega]
        exact List.mem_cons_of_mem _ this
    · rw [if_neg hc]
      simp only [avL, List.flatMap_cons, if_neg hc] at h
      match i, h with
      | 0, h =>
        simp at h
        subst h
        exact List.mem_cons_self
      | i + 1, h =>
        simp at h
        have := avL_args (b := b) (sa := sa) av (k + 1) i v (by simpa [avL] using h)
        rw [show k + (i + 1) = k + 1 + i by omega]
        exact List.mem_cons_of_mem _ this
theorem lgsl_len (b : Nat) (sa : Nat → Nat) (av : List Value) : (lg_sl (av.map (cvV b sa))).length = (avL av).length := by
  induction av with
  | nil => rfl
  | cons x av ih =>
    simp only [lg_sl, avL, List.map_cons, List.flatMap_cons, List.length_append] at ih ⊢
    rw [ih, cvV_cat]
    by_cases hc : x.category = 2 <;> simp [hc]
/-- a contract out of the judgement at the entry -/
theorem Ctr_of {Y : vMeth} {R : Room} {av : List Value} {n : Nat} {w : vWd} {Q : vPost} {lv : vLs} (hy : plainName Y.1.cls = true) (hlv : avL av ++ List.replicate (Y.2.2.1 - (avL av).length) none = lv) (hle : Nat.ble (avL av).length Y.2.2.1 = true) (k : V Y R Q 0 lv [] n w 0 0) : Ctr Y R av n w Q := by
  intro l b sa cA D
  refine Met.ofW (cc := Y.2.1) (maxL := Y.2.2.1) (ret := Y.2.2.2) hy rfl ?_
  intro p e s m args below meth c s₁ B hml hv
  obtain ⟨rfl, hO, hK, hSt, hN⟩ := hv
  have hts := atoms_spec (ws := Cond.code Y.1 Y.2.1 Y.2.2.1 Y.2.2.2 :: vU) B.pre
  rw [lg_entry_eq]
  refine k p l e s m _ below meth c b sa cA D s.heap [] _ ⟨B.exec, B.bytes, B.returns, hml, findClass_of_methodNamed B.named, fun w hw => hts w (List.mem_cons_of_mem _ hw), (name_of_methodNamed B.named B.method).1, B.notSynchronized, hK, hSt, hN⟩ hO va_S.rf (by rw [hO.1]; omega) ?_
  have hl := lv_entry (av.map (cvV b sa)) (n := Y.2.2.1) (by rw [lgsl_len]; exact Nat.le_of_ble_eq_true hle)
  refine ⟨hl.1, hl.2.1, fun i v hi => ?_⟩
  rw [← hlv] at hi
  by_cases hlt : i < (avL av).length
  · rw [List.getElem?_append_left hlt] at hi
    have := avL_args (b := b) (sa := sa) av 0 i v hi
    rw [Nat.zero_add] at this
    exact hl.2.2 _ this
  · rw [List.getElem?_append_right (by omega)] at hi
    have := List.eq_of_mem_replicate (List.mem_of_getElem? hi)
    cases this
