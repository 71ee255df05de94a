/-! THE CLAIM OUT OF ONE WALK OF THE LAW'S BODY. Your part is whole_start (and what it stands on); all else here is the same for every law, but numbers. -/
def R_law : String := "DrawerWallLaw"
def lw_P (b : Addr) (xs : List Int32) (args : Array Value) (s : State) : Prop := args = #[.ref b] ∧ s.IntsAt b xs ∧ xs.length ≤ 2560 ∧ (Jvm.Cond.and given_1 narrow_1).before args s = true
def lw_Q (_ : Array Value) (s : State) (o : Outcome) (t : State) : Prop := o = .returned (some (.int 1)) ∧ Framed s o t [] 600000 7302250
def lw_Z (below : List Frame) (a : Array Value) (s : State) : State → Prop := fun t => ∃ o, t.status = .running ∧ Ended t below o ∧ lw_Q a s o t
/-- the law's own end, with 1 on the stack, nothing written that was there before, its room as the claim has it -/
theorem lw_ret {p : Program} {l : Launch} {e : Env} {s : State} {m : MethodId} {below : List Frame} {meth : Method} {c : Code} {b : Nat} (hx : p.tables.exec = Jvm.exec) (hb : c.code = code) (hr : meth.sig.returnType = ret) (hlocks : meth.locks = false) {pc : Nat} {H : Heap} {ls : Array Slot} (hdg : decode code pc = .ok (.ireturn, 1)) : W p l e room_1 s m #[Value.ref b] below meth c H [] 600000 7302250 (lw_Z below #[Value.ref b] s) (F0 m pc ls [.int 1]) := by
  intro T hT X
  obtain ⟨fs, hret, hrun, hended, hW, hframe⟩ := X.leave (v := some (.int 1)) (hlocks := hlocks) (fun h => by rw [hr] at h; cases h)
  have hmeth' : T.vm.method? m = some meth := X.method'
  refine ⟨T.setFrames fs, ?_, .returned (some (.int 1)), hrun, hended, rfl, ⟨_, rfl⟩, hW, hframe⟩
  jvm_step X.here [X.here.top, hx, hb, hdg, hmeth', hr, ret, narrow_b1]
  (try refine ⟨rfl, ?_⟩); (try refine ⟨rfl, ?_⟩)
  first | (intro acts; rw [hret _ acts rfl rfl rfl]) | rw [hret _ _ rfl rfl rfl]
  exact Steps.refl _
/-- what holds at the law's entry: the machine, the code, the tables' words (any of lw_tbl by 'hts w (by decide +kernel)'), the script of L ints xs at the cell b, what the Statement gives of the start (any of its parts by flat_of_before) -/
def lw_At (p : Program) (s : State) (m : MethodId) (meth : Method) (c : Code) (b L : Nat) (xs : Nat → Int32) : Prop :=
  p.tables.exec = Jvm.exec ∧ c.code = code ∧ meth.sig.returnType = ret ∧ c.maxLocals = 4 ∧ s.vm.findClass R_law = some m.cls ∧ (∀ w ∈ lw_tbl, w.before #[Value.ref b] s = true) ∧ va_X b L xs s s.heap ∧ b < s.heap.size ∧ meth.locks = false ∧ (Jvm.Cond.and given_1 narrow_1).before #[Value.ref b] s = true
/-! ===== the law's own frame ===== -/
abbrev mL_law : vMeth := (yL_law, cL_law, 4, some .boolean)
def sc (xs : Nat → Int32) (j : Int) : Int := (xs j.toNat).toInt
def vEnvX (p : Program) (s : State) (m : MethodId) (b0 : Nat) (meth : Method) (c : Code) (b : Nat) (sa cA : Nat → Nat) (D : va_G) : Prop :=
  p.tables.exec = Jvm.exec ∧ c.code = mL_law.2.1 ∧ meth.sig.returnType = mL_law.2.2.2 ∧ c.maxLocals = mL_law.2.2.1 ∧ s.vm.findClass mL_law.1.cls = some m.cls ∧ (∀ w ∈ vU, w.before #[Value.ref b0] s = true) ∧ True ∧ meth.locks = false ∧ va_K D vwCl (vTy cA) s ∧ vStr b sa s ∧ vNst s
def scOK (L : Nat) (xs : Nat → Int32) (s : State) (b0 b : Nat) (sa : Nat → Nat) : Prop := sa 11 = b0 ∧ va_X b0 L xs s s.heap ∧ b0 < s.heap.size ∧ s.heap.size = b
def VX (L : Nat) (xs : Nat → Int32) (pc : Nat) (lv : vLs) (st : List Value) (n : Nat) (w : vWd) (kc ks : Nat) : Prop :=
  ∀ (p : Program) (l : Launch) (e : Env) (s : State) (m : MethodId) (b0 : Nat) (below : List Frame) (meth : Method) (c : Code) (b : Nat) (sa cA : Nat → Nat) (D : va_G) (H : Heap) (locs : List Loc) (ls : Array Slot),
    scOK L xs s b0 b sa → vEnvX p s m b0 meth c b sa cA D → wOK b sa cA D n w H → va_S (fB b) s.heap H locs → b ≤ s.heap.size → lvOK b sa ls mL_law.2.2.1 lv →
    W p l e room_1 s m #[Value.ref b0] below meth c H locs kc ks (lw_Z below #[Value.ref b0] s) (F0 m pc ls (st.map (cvV b sa)))
section VXR
variable {L : Nat} {xs : Nat → Int32} {pc : Nat} {lv : vLs} {st : List Value} {n : Nat} {w : vWd} {kc ks : Nat}
theorem VX_iconst {z : Int} (hd : decode mL_law.2.1 pc = .ok (.iconst z, 1)) (k : VX L xs (pc + 1) lv (vI z :: st) n w kc ks) : VX L xs pc lv st n w kc ks := by
  intro p l e s m b0 below meth c b sa cA D H locs ls X E hw hS hb hl
  exact lv_iconst E.1 E.2.1 hd rfl (k p l e s m b0 below meth c b sa cA D H locs ls X E hw hS hb hl)
theorem VX_bipush {z : Int} (hd : decode mL_law.2.1 pc = .ok (.bipush z, 2)) (hz : -128 ≤ z ∧ z ≤ 127) (k : VX L xs (pc + 2) lv (vI z :: st) n w kc ks) : VX L xs pc lv st n w kc ks := by
  intro p l e s m b0 below meth c b sa cA D H locs ls X E hw hS hb hl
  exact lv_bipush E.1 E.2.1 hd (iI_8 hz) (k p l e s m b0 below meth c b sa cA D H locs ls X E hw hS hb hl)
theorem VX_ldc2 {ix : Nat} {v : Int64} {z : Int} (hd : decode mL_law.2.1 pc = .ok (.ldc2_w ix, 3)) (hw0 : Cond.constantLong mL_law.1.cls ix v ∈ vU) (hz : v = lI z) (k : VX L xs (pc + 3) lv (vJ z :: st) n w kc ks) : VX L xs pc lv st n w kc ks := by
  intro p l e s m b0 below meth c b sa cA D H locs ls X E hw hS hb hl
  subst hz
  exact lv_ldc2 E.1 E.2.1 E.2.2.2.2.1 (E.2.2.2.2.2.1 _ hw0) hd (k p l e s m b0 below meth c b sa cA D H locs ls X E hw hS hb hl)
theorem VX_iload_n {i : Fin 4} {x : Int32} (hd : decode mL_law.2.1 pc = .ok (.iload_n i, 1)) (hi : lv[(i : Nat)]? = some (some (.int x))) (k : VX L xs (pc + 1) lv (.int x :: st) n w kc ks) : VX L xs pc lv st n w kc ks := by
  intro p l e s m b0 below meth c b sa cA D H locs ls X E hw hS hb hl
  exact lv_iload_n E.1 E.2.1 hd rfl (hl.2.2 _ _ hi) (k p l e s m b0 below meth c b sa cA D H locs ls X E hw hS hb hl)
theorem VX_aload_n {i : Fin 4} {x : Nat} (hd : decode mL_law.2.1 pc = .ok (.aload_n i, 1)) (hi : lv[(i : Nat)]? = some (some (.ref x))) (k : VX L xs (pc + 1) lv (.ref x :: st) n w kc ks) : VX L xs pc lv st n w kc ks := by
  intro p l e s m b0 below meth c b sa cA D H locs ls X E hw hS hb hl
  exact lv_aload_n E.1 E.2.1 hd rfl (hl.2.2 _ _ hi) (k p l e s m b0 below meth c b sa cA D H locs ls X E hw hS hb hl)
theorem VX_aload_nS {i : Fin 4} {x : Nat} (hd : decode mL_law.2.1 pc = .ok (.aload_n i, 1)) (hi : lv[(i : Nat)]? = some (some (.retAddr x))) (k : VX L xs (pc + 1) lv (.retAddr x :: st) n w kc ks) : VX L xs pc lv st n w kc ks := by
  intro p l e s m b0 below meth c b sa cA D H locs ls X E hw hS hb hl
  exact lv_aload_n E.1 E.2.1 hd rfl (hl.2.2 _ _ hi) (k p l e s m b0 below meth c b sa cA D H locs ls X E hw hS hb hl)
theorem VX_istore_n {i : Fin 4} {x : Int32} (hd : decode mL_law.2.1 pc = .ok (.istore_n i, 1)) (hi : stOK mL_law lv (i : Nat) = true) (k : VX L xs (pc + 1) (lv.set (i : Nat) (some (.int x))) st n w kc ks) : VX L xs pc lv (.int x :: st) n w kc ks := by
  intro p l e s m b0 below meth c b sa cA D H locs ls X E hw hS hb hl
  exact lv_istore_n E.1 E.2.1 hd rfl hl.has (stOK.lt hi) rfl (fun ls' h' => k p l e s m b0 below meth c b sa cA D H locs ls' X E hw hS hb (lvOK.set1 hi h'))
theorem VX_astore_n {i : Fin 4} {x : Nat} (hd : decode mL_law.2.1 pc = .ok (.astore_n i, 1)) (hi : stOK mL_law lv (i : Nat) = true) (k : VX L xs (pc + 1) (lv.set (i : Nat) (some (.ref x))) st n w kc ks) : VX L xs pc lv (.ref x :: st) n w kc ks := by
  intro p l e s m b0 below meth c b sa cA D H locs ls X E hw hS hb hl
  exact lv_astore_n E.1 E.2.1 hd rfl hl.has (stOK.lt hi) rfl (fun ls' h' => k p l e s m b0 below meth c b sa cA D H locs ls' X E hw hS hb (lvOK.set1 hi h'))
theorem VX_iinc {i : Nat} {z a : Int} (hd : decode mL_law.2.1 pc = .ok (.iinc i z, 3)) (hi : lv[i]? = some (some (vI a))) (ho : stOK mL_law lv i = true) (k : VX L xs (pc + 3) (lv.set i (some (vI (a + z)))) st n w kc ks) : VX L xs pc lv st n w kc ks := by
  intro p l e s m b0 below meth c b sa cA D H locs ls X E hw hS hb hl
  obtain ⟨kk, hkk⟩ := prL_get (b := b) (sa := sa) hi
  exact lv_iinc (k := kk) (v := iI (a + z)) E.1 E.2.1 hd hl.has hkk (iI_add a z) (stOK.lt ho) rfl (fun ls' h' => k p l e s m b0 below meth c b sa cA D H locs ls' X E hw hS hb (lvOK.set1 (v := vI (a + z)) ho h'))
theorem VX_iadd {x y : Int} (hd : decode mL_law.2.1 pc = .ok (.iadd, 1)) (k : VX L xs (pc + 1) lv (vI (x + y) :: st) n w kc ks) : VX L xs pc lv (vI y :: vI x :: st) n w kc ks := by
  intro p l e s m b0 below meth c b sa cA D H locs ls X E hw hS hb hl
  refine lv_iadd E.1 E.2.1 hd ?_
  rw [iI_add]
  exact k p l e s m b0 below meth c b sa cA D H locs ls X E hw hS hb hl
theorem VX_isub {x y : Int} (hd : decode mL_law.2.1 pc = .ok (.isub, 1)) (k : VX L xs (pc + 1) lv (vI (x - y) :: st) n w kc ks) : VX L xs pc lv (vI y :: vI x :: st) n w kc ks := by
  intro p l e s m b0 below meth c b sa cA D H locs ls X E hw hS hb hl
  refine lv_isub E.1 E.2.1 hd ?_
  rw [iI_sub]
  exact k p l e s m b0 below meth c b sa cA D H locs ls X E hw hS hb hl
theorem VX_iand {x y v : Int32} (hd : decode mL_law.2.1 pc = .ok (.iand, 1)) (hv : x &&& y = v) (k : VX L xs (pc + 1) lv (.int v :: st) n w kc ks) : VX L xs pc lv (.int y :: .int x :: st) n w kc ks := by
  intro p l e s m b0 below meth c b sa cA D H locs ls X E hw hS hb hl
  subst hv
  exact lv_iand E.1 E.2.1 hd (k p l e s m b0 below meth c b sa cA D H locs ls X E hw hS hb hl)
theorem VX_land {x y v : Int64} (hd : decode mL_law.2.1 pc = .ok (.land, 1)) (hv : x &&& y = v) (k : VX L xs (pc + 1) lv (.long v :: st) n w kc ks) : VX L xs pc lv (.long y :: .long x :: st) n w kc ks := by
  intro p l e s m b0 below meth c b sa cA D H locs ls X E hw hS hb hl
  subst hv
  exact lv_land E.1 E.2.1 hd (k p l e s m b0 below meth c b sa cA D H locs ls X E hw hS hb hl)
theorem VX_lor {x y v : Int64} (hd : decode mL_law.2.1 pc = .ok (.lor, 1)) (hv : x ||| y = v) (k : VX L xs (pc + 1) lv (.long v :: st) n w kc ks) : VX L xs pc lv (.long y :: .long x :: st) n w kc ks := by
  intro p l e s m b0 below meth c b sa cA D H locs ls X E hw hS hb hl
  subst hv
  exact lv_lor E.1 E.2.1 hd (k p l e s m b0 below meth c b sa cA D H locs ls X E hw hS hb hl)
theorem VX_lshl {x v : Int64} {y : Int32} (hd : decode mL_law.2.1 pc = .ok (.lshl, 1)) (hv : x <<< (y.toInt64 &&& 63) = v) (k : VX L xs (pc + 1) lv (.long v :: st) n w kc ks) : VX L xs pc lv (.int y :: .long x :: st) n w kc ks := by
  intro p l e s m b0 below meth c b sa cA D H locs ls X E hw hS hb hl
  exact lv_lshl E.1 E.2.1 hd hv (k p l e s m b0 below meth c b sa cA D H locs ls X E hw hS hb hl)
theorem VX_i2l {x : Int} (hd : decode mL_law.2.1 pc = .ok (.i2l, 1)) (hx : inR x) (k : VX L xs (pc + 1) lv (vJ x :: st) n w kc ks) : VX L xs pc lv (vI x :: st) n w kc ks := by
  intro p l e s m b0 below meth c b sa cA D H locs ls X E hw hS hb hl
  exact lv_i2l E.1 E.2.1 hd (iI_long hx) (k p l e s m b0 below meth c b sa cA D H locs ls X E hw hS hb hl)
theorem VX_lcmp {x y : Int64} (hd : decode mL_law.2.1 pc = .ok (.lcmp, 1)) (k : VX L xs (pc + 1) lv (.int (lg_cmp x y) :: st) n w kc ks) : VX L xs pc lv (.long y :: .long x :: st) n w kc ks := by
  intro p l e s m b0 below meth c b sa cA D H locs ls X E hw hS hb hl
  exact W.lcmp E.1 E.2.1 hd (k p l e s m b0 below meth c b sa cA D H locs ls X E hw hS hb hl)
theorem VX_dup {v : Value} (hd : decode mL_law.2.1 pc = .ok (.dup, 1)) (hv : v.category = 1) (k : VX L xs (pc + 1) lv (v :: v :: st) n w kc ks) : VX L xs pc lv (v :: st) n w kc ks := by
  intro p l e s m b0 below meth c b sa cA D H locs ls X E hw hS hb hl
  exact lv_dup E.1 E.2.1 hd (by rw [cvV_cat]; exact hv) (k p l e s m b0 below meth c b sa cA D H locs ls X E hw hS hb hl)
theorem VX_goto {off : Int} {tgt : Nat} (hd : decode mL_law.2.1 pc = .ok (.goto off, 3)) (ht : (pc : Int) + off = (tgt : Int)) (k : VX L xs tgt lv st n w kc ks) : VX L xs pc lv st n w kc ks := by
  intro p l e s m b0 below meth c b sa cA D H locs ls X E hw hS hb hl
  exact lv_goto E.1 E.2.1 hd ht (k p l e s m b0 below meth c b sa cA D H locs ls X E hw hS hb hl)
theorem VX_if_eq {x : Int} {off : Int} {tgt : Nat} (hd : decode mL_law.2.1 pc = .ok (.ifCond .eq off, 3)) (ht : (pc : Int) + off = (tgt : Int)) (hx : inR x) (kt : x = 0 → VX L xs tgt lv st n w kc ks) (kf : ¬ x = 0 → VX L xs (pc + 3) lv st n w kc ks) : VX L xs pc lv (vI x :: st) n w kc ks := by
  intro p l e s m b0 below meth c b sa cA D H locs ls X E hw hS hb hl
  exact lv_if_eq E.1 E.2.1 hd ht (fun h => kt ((iI_ne0 hx).mp h) p l e s m b0 below meth c b sa cA D H locs ls X E hw hS hb hl) (fun h => kf (fun z => h ((iI_ne0 hx).mpr z)) p l e s m b0 below meth c b sa cA D H locs ls X E hw hS hb hl)
theorem VX_icmp_eq {x y : Int} {off : Int} {tgt : Nat} (hd : decode mL_law.2.1 pc = .ok (.if_icmp .eq off, 3)) (ht : (pc : Int) + off = (tgt : Int)) (hx : inR x) (hy : inR y) (kt : x = y → VX L xs tgt lv st n w kc ks) (kf : ¬ x = y → VX L xs (pc + 3) lv st n w kc ks) : VX L xs pc lv (vI y :: vI x :: st) n w kc ks := by
  intro p l e s m b0 below meth c b sa cA D H locs ls X E hw hS hb hl
  exact lv_icmp_eq E.1 E.2.1 hd ht (fun h => kt ((iI_eq hx hy).mp h) p l e s m b0 below meth c b sa cA D H locs ls X E hw hS hb hl) (fun h => kf (fun z => h ((iI_eq hx hy).mpr z)) p l e s m b0 below meth c b sa cA D H locs ls X E hw hS hb hl)
theorem VX_icmp_gt {x y : Int} {off : Int} {tgt : Nat} (hd : decode mL_law.2.1 pc = .ok (.if_icmp .gt off, 3)) (ht : (pc : Int) + off = (tgt : Int)) (hx : inR x) (hy : inR y) (kt : y < x → VX L xs tgt lv st n w kc ks) (kf : x ≤ y → VX L xs (pc + 3) lv st n w kc ks) : VX L xs pc lv (vI y :: vI x :: st) n w kc ks := by
  intro p l e s m b0 below meth c b sa cA D H locs ls X E hw hS hb hl
  have hz := iI_lt hy hx
  exact lv_icmp_gt E.1 E.2.1 hd ht (fun h => kt (hz.mp h) p l e s m b0 below meth c b sa cA D H locs ls X E hw hS hb hl) (fun h => kf (Int.not_lt.mp fun z => h (hz.mpr z)) p l e s m b0 below meth c b sa cA D H locs ls X E hw hS hb hl)
theorem VX_tableIn {dflt lo hi : Int} {offs : Array Int} {len : Nat} {x : Int} {off : Int} {tgt : Nat} (hd : decode mL_law.2.1 pc = .ok (.tableswitch dflt lo hi offs, len)) (hx : inR x) (h1 : lo ≤ x) (h2 : x ≤ hi) (ho : offs[(x - lo).toNat]? = some off) (ht : (pc : Int) + off = (tgt : Int)) (k : VX L xs tgt lv st n w kc ks) : VX L xs pc lv (vI x :: st) n w kc ks := by
  intro p l e s m b0 below meth c b sa cA D H locs ls X E hw hS hb hl
  exact lv_tableIn E.1 E.2.1 hd (by rw [iI_toInt hx]; omega) (by rw [iI_toInt hx]; omega) (by rw [iI_toInt hx]; exact ho) ht (k p l e s m b0 below meth c b sa cA D H locs ls X E hw hS hb hl)
theorem VX_tableOut {dflt lo hi : Int} {offs : Array Int} {len : Nat} {x : Int} {tgt : Nat} (hd : decode mL_law.2.1 pc = .ok (.tableswitch dflt lo hi offs, len)) (hx : inR x) (h : x < lo ∨ hi < x) (ht : (pc : Int) + dflt = (tgt : Int)) (k : VX L xs tgt lv st n w kc ks) : VX L xs pc lv (vI x :: st) n w kc ks := by
  intro p l e s m b0 below meth c b sa cA D H locs ls X E hw hS hb hl
  exact lv_tableOut E.1 E.2.1 hd (by rw [iI_toInt hx]; exact h) ht (k p l e s m b0 below meth c b sa cA D H locs ls X E hw hS hb hl)
theorem VX_new {idx ci : Nat} {C : String} {T : u_T} {N : Nat} {ty0 : Nat → FieldType} {fs : List Value} (hd : decode mL_law.2.1 pc = .ok (.new idx, 3)) (hc0 : vwCl[ci]? = some (C, T, N)) (hin : ∀ w ∈ u_ws C T N, w ∈ vU) (hty : ∀ j, j < N → parseFieldDescriptor (T j).2.2.1 = some (ty0 j)) (hcl : Cond.classLink mL_law.1.cls idx C ∈ vU) (hinst : Cond.instantiable C N ∈ vU) (hini : Cond.initialized C ∈ vU) (hfs : ∀ (b : Nat) (sa : Nat → Nat) (j : Nat), j < N → defaultValue (ty0 j) = vp_V (fs.map (cvV b sa)) j) (hc : kc + 1 ≤ room_1.cells) (hs : ks + N ≤ room_1.slots) (kk : VX L xs (pc + 3) lv (.ref n :: st) (n + 1) (va_up w n (some (.inr (ci, fs)))) (kc + 1) (ks + N)) : VX L xs pc lv st n w kc ks := by
  intro p l e s m b0 below meth c b sa cA D H locs ls X E hw hS hb hl
  have hts := E.2.2.2.2.2.1
  have hKn := E.2.2.2.2.2.2.2.2.1.1 ci _ hc0
  refine W.newcK E.1 E.2.1 E.2.2.2.2.1 (hts _ hcl) (hts _ hinst) (hts _ hini) rfl hd hc hs hKn.2.1 hw.1 fun H1 kC hkC e1 z1 o1 => ?_
  have e2 : (Value.ref (b + n)) :: st.map (cvV b sa) = (Value.ref n :: st).map (cvV b sa) := rfl
  show W p l e room_1 s m #[Value.ref b0] below meth c H1 locs (kc + 1) (ks + N) _ (F0 m (pc + 3) ls ((Value.ref (b + n)) :: st.map (cvV b sa)))
  rw [e2]
  refine kk p l e s m b0 below meth c b sa cA D H1 locs ls X E (hw.push (by rw [z1, hw.1]) ?_ (fun q hq => o1 q (by rw [← hw.1]; exact hq))) ⟨Nat.le_trans hS.1 (by rw [z1, hw.1]; omega), fun x h1 h2 => (o1 x (by have := hS.1; have := hw.1; omega)).trans (hS.2.1 x h1 h2), hS.2.2⟩ hb hl
  exact ⟨_, hc0, (u_born ty0 hts hin hKn hkC e1 hty).to (hfs b sa)⟩
theorem VX_same {z : Int} {off : Int} {tgt : Nat} (hd : decode mL_law.2.1 pc = .ok (.if_icmp .eq off, 3)) (ht : (pc : Int) + off = (tgt : Int)) (k : VX L xs tgt lv st n w kc ks) : VX L xs pc lv (vI z :: vI z :: st) n w kc ks := by
  intro p l e s m b0 below meth c b sa cA D H locs ls X E hw hS hb hl
  exact lv_icmp_eq E.1 E.2.1 hd ht (fun h => k p l e s m b0 below meth c b sa cA D H locs ls X E hw hS hb hl) (fun h => absurd rfl h)
theorem lg_self (x : Int64) : lg_cmp x x = iI 0 := by
  unfold lg_cmp
  rw [if_neg (Int64.lt_irrefl), if_pos rfl]; rfl
theorem VX_slen {b1 : Nat} (hL : L ≤ 2560) (hd : decode mL_law.2.1 pc = .ok (.arraylength, 1)) (k : VX L xs (pc + 1) lv (vI L :: st) n w kc ks) : VX L xs pc lv (.retAddr 11 :: st) n w kc ks := by
  intro p l e s m b0 below meth c b sa cA D H locs ls X E hw hS hb hl
  have K := k p l e s m b0 below meth c b sa cA D H locs ls X E hw hS hb hl
  obtain ⟨x1, x2, x3, x4⟩ := X
  have hz : (Value.retAddr 11 :: st).map (cvV b sa) = .ref b0 :: st.map (cvV b sa) := by rw [← x1]; rfl
  rw [hz]
  refine va_slen E.1 E.2.1 x2 x3 (by show ¬ b ≤ b0; omega) hS hd ?_
  have hn : Int32.ofNat L = iI L := nI_iI L
  rw [hn]
  exact K
theorem iI_back (x : Int32) : iI x.toInt = x := Int32.ofInt_toInt x
theorem sc_R (xs : Nat → Int32) (j : Int) : inR (sc xs j) := by
  have h1 := Int32.le_toInt (xs j.toNat)
  have h2 := Int32.toInt_lt (xs j.toNat)
  unfold sc
  omega
theorem VX_sld {j : Int} (hL : L ≤ 2560) (hj : 0 ≤ j ∧ j < L) (hd : decode mL_law.2.1 pc = .ok (.iaload, 1)) (k : VX L xs (pc + 1) lv (vI (sc xs j) :: st) n w kc ks) : VX L xs pc lv (vI j :: .retAddr 11 :: st) n w kc ks := by
  intro p l e s m b0 below meth c b sa cA D H locs ls X E hw hS hb hl
  have K := k p l e s m b0 below meth c b sa cA D H locs ls X E hw hS hb hl
  obtain ⟨x1, x2, x3, x4⟩ := X
  have hz : (vI j :: Value.retAddr 11 :: st).map (cvV b sa) = vI j :: .ref b0 :: st.map (cvV b sa) := by rw [← x1]; rfl
  rw [hz]
  refine va_sld E.1 E.2.1 x2 x3 (by show ¬ b ≤ b0; omega) hS (iI_in hj.1 hj.2 (by omega)) hd ?_
  rw [iI_clamp ⟨by omega, by omega⟩]
  have hn : vI (sc xs j) = .int (xs j.toNat) := congrArg Value.int (iI_back _)
  rw [List.map_cons, hn] at K
  exact K
theorem VX_ret (hd : decode mL_law.2.1 pc = .ok (.ireturn, 1)) (hc : kc ≤ 600000) (hs : ks ≤ 7302250) : VX L xs pc lv [vI 1] n w kc ks := by
  intro p l e s m b0 below meth c b sa cA D H locs ls X E hw hS hb hl
  obtain ⟨x1, x2, x3, x4⟩ := X
  refine va_forget (fun q hq => by rw [x4]; exact hS.2.2 q hq) ?_
  refine W.widen hc hs ?_
  exact lw_ret E.1 E.2.1 E.2.2.1 E.2.2.2.2.2.2.2.1 hd
end VXR
section VXCALL
variable {p : Program} {l : Launch} {e : Env} {s : State} {m : MethodId} {b0 : Nat} {below : List Frame} {meth : Method} {c : Code} {H : Heap} {locs : List Loc}
variable {L : Nat} {xs : Nat → Int32} {pc : Nat} {lv : vLs} {st : List Value} {n : Nat} {w : vWd} {kc ks : Nat} {b : Nat} {sa cA : Nat → Nat} {D : va_G} {ls : Array Slot}
theorem vPreX_at {Y2 : vMeth} {av : List Value} (E : vEnvX p s m b0 meth c b sa cA D) (hw : wOK b sa cA D n w H) (hS : va_S (fB b) s.heap H locs) (U : State) (hU : U.heap = H) (hW : s.WarmedH U.vm) : va_Pc av (vPre b sa cA D n w) av.toArray U := by
  refine ⟨rfl, by rw [hU]; exact hw, E.2.2.2.2.2.2.2.2.1.moved hW.alike, E.2.2.2.2.2.2.2.2.2.1.warm hW (fun a ha hna => by rw [hU]; exact hS.2.1 a ha hna), E.2.2.2.2.2.2.2.2.2.2.warm hW⟩
theorem VX_back {Y2 : vMeth} {R2 : Room} {rest : List Value} {av : List Value} {Q2 : vPost} {a : Array Value} {st0 : List Value} (hr : va_Run p l e room_1 s m #[Value.ref b0] below meth c H locs kc ks R2.cells R2.slots (F0 m pc ls st0) (rest.map (cvV b sa)) (vZ b sa cA D Q2 a) (fB b))
    (X : scOK L xs s b0 b sa) (E : vEnvX p s m b0 meth c b sa cA D) (hw : wOK b sa cA D n w H) (hS : va_S (fB b) s.heap H locs) (hb : b ≤ s.heap.size) (hl : lvOK b sa ls mL_law.2.2.1 lv)
    (kk : ∀ (r : Option Value) (n' : Nat) (w' : vWd), Q2 r n' w' → VX L xs (pc + 3) lv (r.toList ++ rest) n' w' (kc + R2.cells) (ks + R2.slots)) : W p l e room_1 s m #[Value.ref b0] below meth c H locs kc ks (lw_Z below #[Value.ref b0] s) (F0 m pc ls st0) := by
  intro T hT XT
  obtain ⟨v, st₀, t, T', L9, h0, X', hL, e1, e2, ⟨⟨r, n', w', hv, hQ, hO⟩, hz, hk⟩, stp⟩ := hr T hT XT
  have hv' : v = r.map (cvV b sa) := Outcome.returned.inj hv
  subst hv'
  rw [h0] at hz hk
  have hs : (r.map (cvV b sa)).toList ++ rest.map (cvV b sa) = (r.toList ++ rest).map (cvV b sa) := by cases r <;> simp
  have K := kk r n' w' hQ p l e s m b0 below meth c b sa cA D T'.heap (locs ++ L9) ls X E (by rw [e1]; exact hO)
    ⟨Nat.le_trans hS.1 (by rw [e1]; exact hz), fun q h1 h2 => by rw [e1, hk q (Nat.lt_of_lt_of_le h1 hS.1) h2]; exact hS.2.1 q h1 h2, fun q hq => by
      rcases List.mem_append.mp hq with h | h
      · exact hS.2.2 q h
      · exact hL q h⟩ hb hl
  rw [← hs] at K
  obtain ⟨t2, a1, b1⟩ := K T' rfl X'
  exact ⟨t2, stp t2 a1, b1⟩
end VXCALL
section VXCALLS
variable {L : Nat} {xs : Nat → Int32} {pc : Nat} {lv : vLs} {st : List Value} {n : Nat} {w : vWd} {kc ks : Nat} {Y2 : vMeth} {R2 : Room} {As rest : List Value} {Q2 : vPost} {N idx a d : Nat}
theorem VX_callV {ci : Nat} {fs : List Value} {q : vw_C} (hd : decode mL_law.2.1 pc = .ok (.invokevirtual idx, 3)) (hM : okM Y2 N) (hV : okV Y2) (hL : okL mL_law.1.cls idx Y2) (hC : Ctr Y2 R2 (.ref a :: As) n w Q2) (hw0 : w a = some (.inr (ci, fs))) (hq : vwCl[ci]? = some q) (hq1 : q.1 = Y2.1.cls) (hn : As.length = N) (hst : As.reverse ++ .ref a :: rest = st) (hR : rmOK room_1 Y2 R2 kc ks rest = true)
    (kk : ∀ (r : Option Value) (n' : Nat) (w' : vWd), Q2 r n' w' → VX L xs (pc + 3) lv (r.toList ++ rest) n' w' (kc + R2.cells) (ks + R2.slots)) : VX L xs pc lv st n w kc ks := by
  intro p l e s m b0 below meth c b sa cA D H locs ls X E hw hS hb hl
  have hts := E.2.2.2.2.2.1
  obtain ⟨r1, r2, r3⟩ := rmOK_spec hR
  have hstk : st.map (cvV b sa) = (As.map (cvV b sa)).reverse ++ .ref (b + a) :: rest.map (cvV b sa) := by
    rw [← hst, List.map_append, List.map_reverse, List.map_cons]; rfl
  have hpre : PreV s H Y2.1.cls (b + a) (va_Pc ((Value.ref a :: As).map (cvV b sa)) (vPre b sa cA D n w)) (As.map (cvV b sa)) := by
    refine ⟨vPre_blind _ b sa cA D n w, ?_, fun U hU hW => vPreX_at (Y2 := Y2) E hw hS U hU hW⟩
    rw [← hq1]
    exact va_recv E.2.2.2.2.2.2.2.2.1 (hw.P hw0) hq (q0 := 0) rfl
  have hfix : CallFix p m c mL_law.2.1 mL_law.2.2.1 s #[Value.ref b0] vU mL_law.1.cls := ⟨E.1, E.2.1, E.2.2.2.1, E.2.2.2.2.1, hts⟩
  refine VX_back (Y2 := Y2) (R2 := R2) (av := .ref a :: As) (a := (Value.ref (b + a) :: As.map (cvV b sa)).toArray) ?_ X E hw hS hb hl kk
  rw [hstk]
  have hroom : 2 * (F0 m pc ls ((As.map (cvV b sa)).reverse ++ .ref (b + a) :: rest.map (cvV b sa))).monitorRoom + ((rest.map (cvV b sa)).map fun v => v.category).sum ≤ 8 := by
    rw [cat_rest]; show 2 * 0 + _ ≤ 8; omega
  rcases hL with hL | ⟨host, hL⟩
  · refine va_runV hfix (hC l b sa cA D) (cwV N hts (fun w0 h0 => vU_good _ ?_) rfl rfl rfl ⟨rfl, hM.2.2⟩ r1) hpre rfl (by rw [List.length_map]; exact hn) hl.1 rfl hroom hd r2
    rcases List.mem_append.mp h0 with h1 | h1
    · simp only [List.mem_cons, List.not_mem_nil, or_false] at h1
      rcases h1 with rfl | rfl | rfl | rfl
      · exact hL
      · exact hV.1
      · exact hV.2
      · exact hM.2.1
    · exact (vU_cons hM.1 w0 h1).1
  · refine va_runVN hfix (hC l b sa cA D) ⟨va_cnB (host := host) N hts (vU_cons hM.1) rfl rfl rfl (E.2.2.2.2.2.2.2.2.2.2 _ hL rfl) (hts _ hM.2.1) hM.2.2 r1, hts _ hV.1, hts _ hV.2⟩ hpre rfl (by rw [List.length_map]; exact hn) hl.1 rfl hroom hd r2
theorem VX_callI (hd : decode mL_law.2.1 pc = .ok (.invokespecial idx, 3)) (hM : okM Y2 N) (hV : Cond.instanceMethod Y2.1 ∈ vU) (hret : Y2.2.2.2 = none) (hnm : Y2.1.name = "<init>") (hL : okL mL_law.1.cls idx Y2) (hC : Ctr Y2 R2 (.ref a :: As) n w Q2) (hn : As.length = N) (hst : As.reverse ++ .ref a :: rest = st) (hR : rmOK room_1 Y2 R2 kc ks rest = true)
    (kk : ∀ (r : Option Value) (n' : Nat) (w' : vWd), Q2 r n' w' → VX L xs (pc + 3) lv (r.toList ++ rest) n' w' (kc + R2.cells) (ks + R2.slots)) : VX L xs pc lv st n w kc ks := by
  intro p l e s m b0 below meth c b sa cA D H locs ls X E hw hS hb hl
  obtain ⟨y2, c2, m2, t2⟩ := Y2
  have ht2 : t2 = none := hret
  subst ht2
  have hts := E.2.2.2.2.2.1
  obtain ⟨r1, r2, r3⟩ := rmOK_spec hR
  have hstk : st.map (cvV b sa) = (As.map (cvV b sa)).reverse ++ .ref (b + a) :: rest.map (cvV b sa) := by
    rw [← hst, List.map_append, List.map_reverse, List.map_cons]; rfl
  have hpre : PreS s H (va_Pc ((Value.ref a :: As).map (cvV b sa)) (vPre b sa cA D n w)) ((Value.ref a :: As).map (cvV b sa)) := ⟨vPre_blind _ b sa cA D n w, fun U hU hW => vPreX_at (Y2 := (y2, c2, m2, none)) E hw hS U hU hW⟩
  have hfix : CallFix p m c mL_law.2.1 mL_law.2.2.1 s #[Value.ref b0] vU mL_law.1.cls := ⟨E.1, E.2.1, E.2.2.2.1, E.2.2.2.2.1, hts⟩
  refine VX_back (Y2 := (y2, c2, m2, none)) (R2 := R2) (av := .ref a :: As) (a := (Value.ref (b + a) :: As.map (cvV b sa)).toArray) ?_ X E hw hS hb hl kk
  rw [hstk]
  have hroom : 2 * (F0 m pc ls ((As.map (cvV b sa)).reverse ++ .ref (b + a) :: rest.map (cvV b sa))).monitorRoom + ((rest.map (cvV b sa)).map fun v => v.category).sum ≤ 8 := by
    rw [cat_rest]; show 2 * 0 + _ ≤ 8; omega
  rcases hL with hL | ⟨host, hL⟩
  · exact va_runI (b := b + a) (As := As.map (cvV b sa)) hfix (hC l b sa cA D) (cwI N hts (vU_cons hM.1) rfl rfl rfl (hts _ hM.2.1) (hts _ hL) (hts _ hV) hnm hM.2.2 r1) hpre rfl (by rw [List.length_map]; exact hn) hl.1 rfl hroom hd r2
  · exact va_runIN (b := b + a) (As := As.map (cvV b sa)) hfix (hC l b sa cA D) ⟨va_cnB (host := host) N hts (vU_cons hM.1) rfl rfl rfl (E.2.2.2.2.2.2.2.2.2.2 _ hL rfl) (hts _ hM.2.1) hM.2.2 r1, hnm, hts _ hV⟩ hpre rfl (by rw [List.length_map]; exact hn) hl.1 rfl hroom hd r2
theorem VX_cV {R2 : Room} {P : Nat → vWd → Prop} (hd : decode mL_law.2.1 pc = .ok (.invokespecial idx, 3)) (hM : okM Y2 N) (hV : Cond.instanceMethod Y2.1 ∈ vU) (hret : Y2.2.2.2 = none) (hnm : Y2.1.name = "<init>") (hL : okL mL_law.1.cls idx Y2) (hC : Ctr Y2 R2 (.ref a :: As) n w (pC P)) (hn : As.length = N) (hst : As.reverse ++ .ref a :: rest = st) (hR : rmOK room_1 Y2 R2 kc ks rest = true)
    (kk : ∀ (n' : Nat) (w' : vWd), P n' w' → VX L xs (pc + 3) lv rest n' w' (kc + R2.cells) (ks + R2.slots)) : VX L xs pc lv st n w kc ks :=
  VX_callI hd hM hV hret hnm hL hC hn hst hR (fun r n' w' h => by obtain ⟨rfl, h⟩ := h; exact kk n' w' h)
theorem VX_vI {ci : Nat} {fs : List Value} {q : vw_C} {P : Int → vWd → Prop} (hd : decode mL_law.2.1 pc = .ok (.invokevirtual idx, 3)) (hM : okM Y2 N) (hV : okV Y2) (hL : okL mL_law.1.cls idx Y2) (hC : Ctr Y2 (rm d) (.ref a :: As) n w (pI P n)) (hw0 : w a = some (.inr (ci, fs))) (hq : vwCl[ci]? = some q) (hq1 : q.1 = Y2.1.cls) (hn : As.length = N) (hst : As.reverse ++ .ref a :: rest = st) (hR : rmOK room_1 Y2 (rm d) kc ks rest = true)
    (kk : ∀ (z : Int) (w' : vWd), P z w' → VX L xs (pc + 3) lv (vI z :: rest) n w' kc ks) : VX L xs pc lv st n w kc ks :=
  VX_callV hd hM hV hL hC hw0 hq hq1 hn hst hR (fun r n' w' h => by obtain ⟨z, rfl, rfl, h⟩ := h; exact kk z w' h)
theorem VX_vR {ci : Nat} {fs : List Value} {q : vw_C} {v : Value} (hd : decode mL_law.2.1 pc = .ok (.invokevirtual idx, 3)) (hM : okM Y2 N) (hV : okV Y2) (hL : okL mL_law.1.cls idx Y2) (hC : Ctr Y2 (rm d) (.ref a :: As) n w (pR v n w)) (hw0 : w a = some (.inr (ci, fs))) (hq : vwCl[ci]? = some q) (hq1 : q.1 = Y2.1.cls) (hn : As.length = N) (hst : As.reverse ++ .ref a :: rest = st) (hR : rmOK room_1 Y2 (rm d) kc ks rest = true)
    (kk : VX L xs (pc + 3) lv (v :: rest) n w kc ks) : VX L xs pc lv st n w kc ks :=
  VX_callV hd hM hV hL hC hw0 hq hq1 hn hst hR (fun r n' w' h => by obtain ⟨rfl, rfl, rfl⟩ := h; exact kk)
theorem VX_newX5 (hd : decode mL_law.2.1 pc = .ok (.new idx, 3)) (hcl : Cond.classLink mL_law.1.cls idx RX5 ∈ vU) (hc : kc + 1 ≤ room_1.cells) (hs : ks + 15 ≤ room_1.slots) (kk : ∀ w' : vWd, w' n = some (.inr (5, nwX5)) → (∀ j, j ≠ n → w' j = w j) → VX L xs (pc + 3) lv (.ref n :: st) (n + 1) w' (kc + 1) (ks + 15)) : VX L xs pc lv st n w kc ks := by
  refine VX_new (ci := 5) (C := RX5) (T := TX5) (N := 15) (ty0 := tyX5) (fs := nwX5) hd rfl inU_X5 tyX5_ok hcl ki_X5 kn_X5 ?_ hc hs (kk _ (va_up_self _ _ _) (fun _ h => va_up_ne _ _ h))
  intro b sa j hj
  rcases (show j = 0 ∨ j = 1 ∨ j = 2 ∨ j = 3 ∨ j = 4 ∨ j = 5 ∨ j = 6 ∨ j = 7 ∨ j = 8 ∨ j = 9 ∨ j = 10 ∨ j = 11 ∨ j = 12 ∨ j = 13 ∨ j = 14 by omega) with rfl | rfl | rfl | rfl | rfl | rfl | rfl | rfl | rfl | rfl | rfl | rfl | rfl | rfl | rfl <;> rfl
theorem VX_newX6 (hd : decode mL_law.2.1 pc = .ok (.new idx, 3)) (hcl : Cond.classLink mL_law.1.cls idx RX6 ∈ vU) (hc : kc + 1 ≤ room_1.cells) (hs : ks + 20 ≤ room_1.slots) (kk : ∀ w' : vWd, w' n = some (.inr (6, nwX6)) → (∀ j, j ≠ n → w' j = w j) → VX L xs (pc + 3) lv (.ref n :: st) (n + 1) w' (kc + 1) (ks + 20)) : VX L xs pc lv st n w kc ks := by
  refine VX_new (ci := 6) (C := RX6) (T := TX6) (N := 20) (ty0 := tyX6) (fs := nwX6) hd rfl inU_X6 tyX6_ok hcl ki_X6 kn_X6 ?_ hc hs (kk _ (va_up_self _ _ _) (fun _ h => va_up_ne _ _ h))
  intro b sa j hj
  rcases (show j = 0 ∨ j = 1 ∨ j = 2 ∨ j = 3 ∨ j = 4 ∨ j = 5 ∨ j = 6 ∨ j = 7 ∨ j = 8 ∨ j = 9 ∨ j = 10 ∨ j = 11 ∨ j = 12 ∨ j = 13 ∨ j = 14 ∨ j = 15 ∨ j = 16 ∨ j = 17 ∨ j = 18 ∨ j = 19 by omega) with rfl | rfl | rfl | rfl | rfl | rfl | rfl | rfl | rfl | rfl | rfl | rfl | rfl | rfl | rfl | rfl | rfl | rfl | rfl | rfl <;> rfl
end VXCALLS
