/-! ===== the rules, an instruction each ===== -/
section VRULES
variable {Y : vMeth} {R : Room} {Q : vPost} {pc : Nat} {lv : vLs} {st : List Value} {n : Nat} {w : vWd} {kc ks : Nat}
theorem V_iconst {z : Int} (hd : decode Y.2.1 pc = .ok (.iconst z, 1)) (k : V Y R Q (pc + 1) lv (vI z :: st) n w kc ks) : V Y R Q pc lv st n w kc ks := by
  intro p l e s m args below meth c b sa cA D H locs ls E hw hS hb hl
  exact lv_iconst E.1 E.2.1 hd rfl (k p l e s m args below meth c b sa cA D H locs ls E hw hS hb hl)
theorem V_bipush {z : Int} (hd : decode Y.2.1 pc = .ok (.bipush z, 2)) (hz : -128 ≤ z ∧ z ≤ 127) (k : V Y R Q (pc + 2) lv (vI z :: st) n w kc ks) : V Y R Q pc lv st n w kc ks := by
  intro p l e s m args below meth c b sa cA D H locs ls E hw hS hb hl
  exact lv_bipush E.1 E.2.1 hd (iI_8 hz) (k p l e s m args below meth c b sa cA D H locs ls E hw hS hb hl)
theorem V_sipush {z : Int} (hd : decode Y.2.1 pc = .ok (.sipush z, 3)) (hz : -32768 ≤ z ∧ z ≤ 32767) (k : V Y R Q (pc + 3) lv (vI z :: st) n w kc ks) : V Y R Q pc lv st n w kc ks := by
  intro p l e s m args below meth c b sa cA D H locs ls E hw hS hb hl
  exact lv_sipush E.1 E.2.1 hd (iI_16 hz) (k p l e s m args below meth c b sa cA D H locs ls E hw hS hb hl)
theorem V_lconst {z : Fin 2} (hd : decode Y.2.1 pc = .ok (.lconst z, 1)) (k : V Y R Q (pc + 1) lv (vJ ((z : Nat) : Int) :: st) n w kc ks) : V Y R Q pc lv st n w kc ks := by
  intro p l e s m args below meth c b sa cA D H locs ls E hw hS hb hl
  exact lv_lconst E.1 E.2.1 hd (lI_nat _) (k p l e s m args below meth c b sa cA D H locs ls E hw hS hb hl)
theorem V_ldc2 {ix : Nat} {v : Int64} {z : Int} (hd : decode Y.2.1 pc = .ok (.ldc2_w ix, 3)) (hw0 : Cond.constantLong Y.1.cls ix v ∈ vU) (hz : v = lI z) (k : V Y R Q (pc + 3) lv (vJ z :: st) n w kc ks) : V Y R Q pc lv st n w kc ks := by
  intro p l e s m args below meth c b sa cA D H locs ls E hw hS hb hl
  subst hz
  exact lv_ldc2 E.1 E.2.1 E.2.2.2.2.1 (E.2.2.2.2.2.1 _ hw0) hd (k p l e s m args below meth c b sa cA D H locs ls E hw hS hb hl)
theorem V_ldcw {ix : Nat} {v : Int32} (hd : decode Y.2.1 pc = .ok (.ldc_w ix, 3)) (hw0 : Cond.constant Y.1.cls ix v ∈ vU) (k : V Y R Q (pc + 3) lv (.int v :: st) n w kc ks) : V Y R Q pc lv st n w kc ks := by
  intro p l e s m args below meth c b sa cA D H locs ls E hw hS hb hl
  exact lv_ldcw E.1 E.2.1 E.2.2.2.2.1 (E.2.2.2.2.2.1 _ hw0) hd (k p l e s m args below meth c b sa cA D H locs ls E hw hS hb hl)
theorem V_iload {i : Nat} {x : Int32} (hd : decode Y.2.1 pc = .ok (.iload i, 2)) (hi : lv[i]? = some (some (.int x))) (k : V Y R Q (pc + 2) lv (.int x :: st) n w kc ks) : V Y R Q pc lv st n w kc ks := by
  intro p l e s m args below meth c b sa cA D H locs ls E hw hS hb hl
  exact lv_iload E.1 E.2.1 hd (hl.2.2 _ _ hi) (k p l e s m args below meth c b sa cA D H locs ls E hw hS hb hl)
theorem V_iload_n {i : Fin 4} {x : Int32} (hd : decode Y.2.1 pc = .ok (.iload_n i, 1)) (hi : lv[(i : Nat)]? = some (some (.int x))) (k : V Y R Q (pc + 1) lv (.int x :: st) n w kc ks) : V Y R Q pc lv st n w kc ks := by
  intro p l e s m args below meth c b sa cA D H locs ls E hw hS hb hl
  exact lv_iload_n E.1 E.2.1 hd rfl (hl.2.2 _ _ hi) (k p l e s m args below meth c b sa cA D H locs ls E hw hS hb hl)
theorem V_lload {i : Nat} {x : Int64} (hd : decode Y.2.1 pc = .ok (.lload i, 2)) (hi : lv[i]? = some (some (.long x))) (k : V Y R Q (pc + 2) lv (.long x :: st) n w kc ks) : V Y R Q pc lv st n w kc ks := by
  intro p l e s m args below meth c b sa cA D H locs ls E hw hS hb hl
  exact lv_lload E.1 E.2.1 hd (hl.2.2 _ _ hi) (k p l e s m args below meth c b sa cA D H locs ls E hw hS hb hl)
theorem V_lload_n {i : Fin 4} {x : Int64} (hd : decode Y.2.1 pc = .ok (.lload_n i, 1)) (hi : lv[(i : Nat)]? = some (some (.long x))) (k : V Y R Q (pc + 1) lv (.long x :: st) n w kc ks) : V Y R Q pc lv st n w kc ks := by
  intro p l e s m args below meth c b sa cA D H locs ls E hw hS hb hl
  exact lv_lload_n E.1 E.2.1 hd rfl (hl.2.2 _ _ hi) (k p l e s m args below meth c b sa cA D H locs ls E hw hS hb hl)
theorem V_aload {i : Nat} {x : Nat} (hd : decode Y.2.1 pc = .ok (.aload i, 2)) (hi : lv[i]? = some (some (.ref x))) (k : V Y R Q (pc + 2) lv (.ref x :: st) n w kc ks) : V Y R Q pc lv st n w kc ks := by
  intro p l e s m args below meth c b sa cA D H locs ls E hw hS hb hl
  exact lv_aload E.1 E.2.1 hd (hl.2.2 _ _ hi) (k p l e s m args below meth c b sa cA D H locs ls E hw hS hb hl)
theorem V_aload_n {i : Fin 4} {x : Nat} (hd : decode Y.2.1 pc = .ok (.aload_n i, 1)) (hi : lv[(i : Nat)]? = some (some (.ref x))) (k : V Y R Q (pc + 1) lv (.ref x :: st) n w kc ks) : V Y R Q pc lv st n w kc ks := by
  intro p l e s m args below meth c b sa cA D H locs ls E hw hS hb hl
  exact lv_aload_n E.1 E.2.1 hd rfl (hl.2.2 _ _ hi) (k p l e s m args below meth c b sa cA D H locs ls E hw hS hb hl)
theorem V_aload_nS {i : Fin 4} {x : Nat} (hd : decode Y.2.1 pc = .ok (.aload_n i, 1)) (hi : lv[(i : Nat)]? = some (some (.retAddr x))) (k : V Y R Q (pc + 1) lv (.retAddr x :: st) n w kc ks) : V Y R Q pc lv st n w kc ks := by
  intro p l e s m args below meth c b sa cA D H locs ls E hw hS hb hl
  exact lv_aload_n E.1 E.2.1 hd rfl (hl.2.2 _ _ hi) (k p l e s m args below meth c b sa cA D H locs ls E hw hS hb hl)
theorem V_istore {i : Nat} {x : Int32} (hd : decode Y.2.1 pc = .ok (.istore i, 2)) (hi : stOK Y lv i = true) (k : V Y R Q (pc + 2) (lv.set i (some (.int x))) st n w kc ks) : V Y R Q pc lv (.int x :: st) n w kc ks := by
  intro p l e s m args below meth c b sa cA D H locs ls E hw hS hb hl
  exact lv_istore E.1 E.2.1 hd hl.has (stOK.lt hi) rfl (fun ls' h' => k p l e s m args below meth c b sa cA D H locs ls' E hw hS hb (lvOK.set1 hi h'))
theorem V_istore_n {i : Fin 4} {x : Int32} (hd : decode Y.2.1 pc = .ok (.istore_n i, 1)) (hi : stOK Y lv (i : Nat) = true) (k : V Y R Q (pc + 1) (lv.set (i : Nat) (some (.int x))) st n w kc ks) : V Y R Q pc lv (.int x :: st) n w kc ks := by
  intro p l e s m args below meth c b sa cA D H locs ls E hw hS hb hl
  exact lv_istore_n E.1 E.2.1 hd rfl hl.has (stOK.lt hi) rfl (fun ls' h' => k p l e s m args below meth c b sa cA D H locs ls' E hw hS hb (lvOK.set1 hi h'))
theorem V_astore_n {i : Fin 4} {x : Nat} (hd : decode Y.2.1 pc = .ok (.astore_n i, 1)) (hi : stOK Y lv (i : Nat) = true) (k : V Y R Q (pc + 1) (lv.set (i : Nat) (some (.ref x))) st n w kc ks) : V Y R Q pc lv (.ref x :: st) n w kc ks := by
  intro p l e s m args below meth c b sa cA D H locs ls E hw hS hb hl
  exact lv_astore_n E.1 E.2.1 hd rfl hl.has (stOK.lt hi) rfl (fun ls' h' => k p l e s m args below meth c b sa cA D H locs ls' E hw hS hb (lvOK.set1 hi h'))
theorem V_lstore {i : Nat} {x : Int64} (hd : decode Y.2.1 pc = .ok (.lstore i, 2)) (hi : stOK Y lv i = true) (hi2 : i + 1 < Y.2.2.1) (k : V Y R Q (pc + 2) ((lv.set i (some (.long x))).set (i + 1) none) st n w kc ks) : V Y R Q pc lv (.long x :: st) n w kc ks := by
  intro p l e s m args below meth c b sa cA D H locs ls E hw hS hb hl
  exact lv_lstore E.1 E.2.1 hd hl.has hi2 rfl (fun ls' h' => k p l e s m args below meth c b sa cA D H locs ls' E hw hS hb (lvOK.set2 hi h'))
theorem V_lstore_n {i : Fin 4} {x : Int64} (hd : decode Y.2.1 pc = .ok (.lstore_n i, 1)) (hi : stOK Y lv (i : Nat) = true) (hi2 : (i : Nat) + 1 < Y.2.2.1) (k : V Y R Q (pc + 1) ((lv.set (i : Nat) (some (.long x))).set ((i : Nat) + 1) none) st n w kc ks) : V Y R Q pc lv (.long x :: st) n w kc ks := by
  intro p l e s m args below meth c b sa cA D H locs ls E hw hS hb hl
  exact lv_lstore_n E.1 E.2.1 hd rfl hl.has hi2 rfl (fun ls' h' => k p l e s m args below meth c b sa cA D H locs ls' E hw hS hb (lvOK.set2 hi h'))
theorem prL_get {b : Nat} {sa : Nat → Nat} {i : Nat} {v : Value} (h : lv[i]? = some (some v)) : ∃ k : Nat, (prL b sa lv)[k]? = some (i, cvV b sa v) := List.getElem?_of_mem (prL_mem.mpr ⟨v, h, rfl⟩)
theorem V_iinc {i : Nat} {z a : Int} (hd : decode Y.2.1 pc = .ok (.iinc i z, 3)) (hi : lv[i]? = some (some (vI a))) (ho : stOK Y lv i = true) (k : V Y R Q (pc + 3) (lv.set i (some (vI (a + z)))) st n w kc ks) : V Y R Q pc lv st n w kc ks := by
  intro p l e s m args below meth c b sa cA D H locs ls E hw hS hb hl
  obtain ⟨kk, hkk⟩ := prL_get (b := b) (sa := sa) hi
  exact lv_iinc (k := kk) (v := iI (a + z)) E.1 E.2.1 hd hl.has hkk (iI_add a z) (stOK.lt ho) rfl (fun ls' h' => k p l e s m args below meth c b sa cA D H locs ls' E hw hS hb (lvOK.set1 (v := vI (a + z)) ho h'))
/-! arithmetic -/
theorem V_iadd {x y : Int} (hd : decode Y.2.1 pc = .ok (.iadd, 1)) (k : V Y R Q (pc + 1) lv (vI (x + y) :: st) n w kc ks) : V Y R Q pc lv (vI y :: vI x :: st) n w kc ks := by
  intro p l e s m args below meth c b sa cA D H locs ls E hw hS hb hl
  refine lv_iadd E.1 E.2.1 hd ?_
  rw [iI_add]
  exact k p l e s m args below meth c b sa cA D H locs ls E hw hS hb hl
theorem V_isub {x y : Int} (hd : decode Y.2.1 pc = .ok (.isub, 1)) (k : V Y R Q (pc + 1) lv (vI (x - y) :: st) n w kc ks) : V Y R Q pc lv (vI y :: vI x :: st) n w kc ks := by
  intro p l e s m args below meth c b sa cA D H locs ls E hw hS hb hl
  refine lv_isub E.1 E.2.1 hd ?_
  rw [iI_sub]
  exact k p l e s m args below meth c b sa cA D H locs ls E hw hS hb hl
theorem V_imul {x y : Int} (hd : decode Y.2.1 pc = .ok (.imul, 1)) (k : V Y R Q (pc + 1) lv (vI (x * y) :: st) n w kc ks) : V Y R Q pc lv (vI y :: vI x :: st) n w kc ks := by
  intro p l e s m args below meth c b sa cA D H locs ls E hw hS hb hl
  refine lv_imul E.1 E.2.1 hd ?_
  rw [iI_mul]
  exact k p l e s m args below meth c b sa cA D H locs ls E hw hS hb hl
theorem V_ineg {x : Int} (hd : decode Y.2.1 pc = .ok (.ineg, 1)) (k : V Y R Q (pc + 1) lv (vI (-x) :: st) n w kc ks) : V Y R Q pc lv (vI x :: st) n w kc ks := by
  intro p l e s m args below meth c b sa cA D H locs ls E hw hS hb hl
  refine lv_ineg E.1 E.2.1 hd ?_
  rw [iI_neg]
  exact k p l e s m args below meth c b sa cA D H locs ls E hw hS hb hl
theorem V_idiv {x y : Int} (hd : decode Y.2.1 pc = .ok (.idiv, 1)) (hx : inR x) (h0 : 0 ≤ x) (hy : inR y) (hy0 : 0 < y) (k : V Y R Q (pc + 1) lv (vI (x / y) :: st) n w kc ks) : V Y R Q pc lv (vI y :: vI x :: st) n w kc ks := by
  intro p l e s m args below meth c b sa cA D H locs ls E hw hS hb hl
  refine lv_idiv E.1 E.2.1 hd (by rw [iI_ne0 hy]; omega) ?_
  rw [iI_div hx h0 hy hy0]
  exact k p l e s m args below meth c b sa cA D H locs ls E hw hS hb hl
theorem V_irem {x y : Int} (hd : decode Y.2.1 pc = .ok (.irem, 1)) (hx : inR x) (h0 : 0 ≤ x) (hy : inR y) (hy0 : 0 < y) (k : V Y R Q (pc + 1) lv (vI (x % y) :: st) n w kc ks) : V Y R Q pc lv (vI y :: vI x :: st) n w kc ks := by
  intro p l e s m args below meth c b sa cA D H locs ls E hw hS hb hl
  refine lv_irem E.1 E.2.1 hd (by rw [iI_ne0 hy]; omega) ?_
  rw [iI_mod hx h0 hy hy0]
  exact k p l e s m args below meth c b sa cA D H locs ls E hw hS hb hl
theorem V_iand {x y v : Int32} (hd : decode Y.2.1 pc = .ok (.iand, 1)) (hv : x &&& y = v) (k : V Y R Q (pc + 1) lv (.int v :: st) n w kc ks) : V Y R Q pc lv (.int y :: .int x :: st) n w kc ks := by
  intro p l e s m args below meth c b sa cA D H locs ls E hw hS hb hl
  subst hv
  exact lv_iand E.1 E.2.1 hd (k p l e s m args below meth c b sa cA D H locs ls E hw hS hb hl)
theorem V_ior {x y v : Int32} (hd : decode Y.2.1 pc = .ok (.ior, 1)) (hv : x ||| y = v) (k : V Y R Q (pc + 1) lv (.int v :: st) n w kc ks) : V Y R Q pc lv (.int y :: .int x :: st) n w kc ks := by
  intro p l e s m args below meth c b sa cA D H locs ls E hw hS hb hl
  subst hv
  exact lv_ior E.1 E.2.1 hd (k p l e s m args below meth c b sa cA D H locs ls E hw hS hb hl)
theorem V_ixor {x y v : Int32} (hd : decode Y.2.1 pc = .ok (.ixor, 1)) (hv : x ^^^ y = v) (k : V Y R Q (pc + 1) lv (.int v :: st) n w kc ks) : V Y R Q pc lv (.int y :: .int x :: st) n w kc ks := by
  intro p l e s m args below meth c b sa cA D H locs ls E hw hS hb hl
  subst hv
  exact lv_ixor E.1 E.2.1 hd (k p l e s m args below meth c b sa cA D H locs ls E hw hS hb hl)
theorem V_ishl {x y v : Int32} (hd : decode Y.2.1 pc = .ok (.ishl, 1)) (hv : x <<< (y &&& 31) = v) (k : V Y R Q (pc + 1) lv (.int v :: st) n w kc ks) : V Y R Q pc lv (.int y :: .int x :: st) n w kc ks := by
  intro p l e s m args below meth c b sa cA D H locs ls E hw hS hb hl
  subst hv
  exact lv_ishl E.1 E.2.1 hd (k p l e s m args below meth c b sa cA D H locs ls E hw hS hb hl)
theorem V_ishr {x y v : Int32} (hd : decode Y.2.1 pc = .ok (.ishr, 1)) (hv : x >>> (y &&& 31) = v) (k : V Y R Q (pc + 1) lv (.int v :: st) n w kc ks) : V Y R Q pc lv (.int y :: .int x :: st) n w kc ks := by
  intro p l e s m args below meth c b sa cA D H locs ls E hw hS hb hl
  subst hv
  exact lv_ishr E.1 E.2.1 hd (k p l e s m args below meth c b sa cA D H locs ls E hw hS hb hl)
theorem V_iushr {x y v : Int32} (hd : decode Y.2.1 pc = .ok (.iushr, 1)) (hv : (x.toUInt32 >>> (y.toUInt32 &&& Int32.toUInt32 31)).toInt32 = v) (k : V Y R Q (pc + 1) lv (.int v :: st) n w kc ks) : V Y R Q pc lv (.int y :: .int x :: st) n w kc ks := by
  intro p l e s m args below meth c b sa cA D H locs ls E hw hS hb hl
  exact lv_iushr E.1 E.2.1 hd hv (k p l e s m args below meth c b sa cA D H locs ls E hw hS hb hl)
theorem V_ladd {x y : Int} (hd : decode Y.2.1 pc = .ok (.ladd, 1)) (k : V Y R Q (pc + 1) lv (vJ (x + y) :: st) n w kc ks) : V Y R Q pc lv (vJ y :: vJ x :: st) n w kc ks := by
  intro p l e s m args below meth c b sa cA D H locs ls E hw hS hb hl
  refine lv_ladd E.1 E.2.1 hd ?_
  rw [lI_add]
  exact k p l e s m args below meth c b sa cA D H locs ls E hw hS hb hl
theorem V_lsub {x y : Int} (hd : decode Y.2.1 pc = .ok (.lsub, 1)) (k : V Y R Q (pc + 1) lv (vJ (x - y) :: st) n w kc ks) : V Y R Q pc lv (vJ y :: vJ x :: st) n w kc ks := by
  intro p l e s m args below meth c b sa cA D H locs ls E hw hS hb hl
  refine lv_lsub E.1 E.2.1 hd ?_
  rw [lI_sub]
  exact k p l e s m args below meth c b sa cA D H locs ls E hw hS hb hl
theorem V_lmul {x y : Int} (hd : decode Y.2.1 pc = .ok (.lmul, 1)) (k : V Y R Q (pc + 1) lv (vJ (x * y) :: st) n w kc ks) : V Y R Q pc lv (vJ y :: vJ x :: st) n w kc ks := by
  intro p l e s m args below meth c b sa cA D H locs ls E hw hS hb hl
  refine lv_lmul E.1 E.2.1 hd ?_
  rw [lI_mul]
  exact k p l e s m args below meth c b sa cA D H locs ls E hw hS hb hl
theorem V_land {x y v : Int64} (hd : decode Y.2.1 pc = .ok (.land, 1)) (hv : x &&& y = v) (k : V Y R Q (pc + 1) lv (.long v :: st) n w kc ks) : V Y R Q pc lv (.long y :: .long x :: st) n w kc ks := by
  intro p l e s m args below meth c b sa cA D H locs ls E hw hS hb hl
  subst hv
  exact lv_land E.1 E.2.1 hd (k p l e s m args below meth c b sa cA D H locs ls E hw hS hb hl)
theorem V_lor {x y v : Int64} (hd : decode Y.2.1 pc = .ok (.lor, 1)) (hv : x ||| y = v) (k : V Y R Q (pc + 1) lv (.long v :: st) n w kc ks) : V Y R Q pc lv (.long y :: .long x :: st) n w kc ks := by
  intro p l e s m args below meth c b sa cA D H locs ls E hw hS hb hl
  subst hv
  exact lv_lor E.1 E.2.1 hd (k p l e s m args below meth c b sa cA D H locs ls E hw hS hb hl)
theorem V_lushr {x v : Int64} {y : Int32} (hd : decode Y.2.1 pc = .ok (.lushr, 1)) (hv : (x.toUInt64 >>> (y.toInt64.toUInt64 &&& Int64.toUInt64 63)).toInt64 = v) (k : V Y R Q (pc + 1) lv (.long v :: st) n w kc ks) : V Y R Q pc lv (.int y :: .long x :: st) n w kc ks := by
  intro p l e s m args below meth c b sa cA D H locs ls E hw hS hb hl
  exact lv_lushr E.1 E.2.1 hd hv (k p l e s m args below meth c b sa cA D H locs ls E hw hS hb hl)
theorem V_lshl {x v : Int64} {y : Int32} (hd : decode Y.2.1 pc = .ok (.lshl, 1)) (hv : x <<< (y.toInt64 &&& 63) = v) (k : V Y R Q (pc + 1) lv (.long v :: st) n w kc ks) : V Y R Q pc lv (.int y :: .long x :: st) n w kc ks := by
  intro p l e s m args below meth c b sa cA D H locs ls E hw hS hb hl
  exact lv_lshl E.1 E.2.1 hd hv (k p l e s m args below meth c b sa cA D H locs ls E hw hS hb hl)
theorem V_lshr {x v : Int64} {y : Int32} (hd : decode Y.2.1 pc = .ok (.lshr, 1)) (hv : x >>> (y.toInt64 &&& 63) = v) (k : V Y R Q (pc + 1) lv (.long v :: st) n w kc ks) : V Y R Q pc lv (.int y :: .long x :: st) n w kc ks := by
  intro p l e s m args below meth c b sa cA D H locs ls E hw hS hb hl
  exact lv_lshr E.1 E.2.1 hd hv (k p l e s m args below meth c b sa cA D H locs ls E hw hS hb hl)
theorem V_i2l {x : Int} (hd : decode Y.2.1 pc = .ok (.i2l, 1)) (hx : inR x) (k : V Y R Q (pc + 1) lv (vJ x :: st) n w kc ks) : V Y R Q pc lv (vI x :: st) n w kc ks := by
  intro p l e s m args below meth c b sa cA D H locs ls E hw hS hb hl
  exact lv_i2l E.1 E.2.1 hd (iI_long hx) (k p l e s m args below meth c b sa cA D H locs ls E hw hS hb hl)
theorem V_l2i {x : Int64} {v : Int32} (hd : decode Y.2.1 pc = .ok (.l2i, 1)) (hv : x.toInt32 = v) (k : V Y R Q (pc + 1) lv (.int v :: st) n w kc ks) : V Y R Q pc lv (.long x :: st) n w kc ks := by
  intro p l e s m args below meth c b sa cA D H locs ls E hw hS hb hl
  exact lv_l2i E.1 E.2.1 hd hv (k p l e s m args below meth c b sa cA D H locs ls E hw hS hb hl)
theorem V_i2c {x v : Int32} (hd : decode Y.2.1 pc = .ok (.i2c, 1)) (hv : (x.toUInt32 % 65536).toInt32 = v) (k : V Y R Q (pc + 1) lv (.int v :: st) n w kc ks) : V Y R Q pc lv (.int x :: st) n w kc ks := by
  intro p l e s m args below meth c b sa cA D H locs ls E hw hS hb hl
  exact lv_i2c E.1 E.2.1 hd hv (k p l e s m args below meth c b sa cA D H locs ls E hw hS hb hl)
theorem V_lcmp {x y : Int64} (hd : decode Y.2.1 pc = .ok (.lcmp, 1)) (k : V Y R Q (pc + 1) lv (.int (lg_cmp x y) :: st) n w kc ks) : V Y R Q pc lv (.long y :: .long x :: st) n w kc ks := by
  intro p l e s m args below meth c b sa cA D H locs ls E hw hS hb hl
  exact W.lcmp E.1 E.2.1 hd (k p l e s m args below meth c b sa cA D H locs ls E hw hS hb hl)
/-! the stack -/
theorem V_dup {v : Value} (hd : decode Y.2.1 pc = .ok (.dup, 1)) (hv : v.category = 1) (k : V Y R Q (pc + 1) lv (v :: v :: st) n w kc ks) : V Y R Q pc lv (v :: st) n w kc ks := by
  intro p l e s m args below meth c b sa cA D H locs ls E hw hS hb hl
  exact lv_dup E.1 E.2.1 hd (by rw [cvV_cat]; exact hv) (k p l e s m args below meth c b sa cA D H locs ls E hw hS hb hl)
theorem V_pop {v : Value} (hd : decode Y.2.1 pc = .ok (.pop, 1)) (hv : v.category = 1) (k : V Y R Q (pc + 1) lv st n w kc ks) : V Y R Q pc lv (v :: st) n w kc ks := by
  intro p l e s m args below meth c b sa cA D H locs ls E hw hS hb hl
  exact lv_pop E.1 E.2.1 hd (by rw [cvV_cat]; exact hv) (k p l e s m args below meth c b sa cA D H locs ls E hw hS hb hl)
theorem V_dup2 {v u : Value} (hd : decode Y.2.1 pc = .ok (.dup2, 1)) (hv : v.category = 1) (hu : u.category = 1) (k : V Y R Q (pc + 1) lv (v :: u :: v :: u :: st) n w kc ks) : V Y R Q pc lv (v :: u :: st) n w kc ks := by
  intro p l e s m args below meth c b sa cA D H locs ls E hw hS hb hl
  exact lv_dup2_11 E.1 E.2.1 hd (by rw [cvV_cat]; exact hv) (by rw [cvV_cat]; exact hu) (k p l e s m args below meth c b sa cA D H locs ls E hw hS hb hl)
/-! branches -/
theorem V_goto {off : Int} {tgt : Nat} (hd : decode Y.2.1 pc = .ok (.goto off, 3)) (ht : (pc : Int) + off = (tgt : Int)) (k : V Y R Q tgt lv st n w kc ks) : V Y R Q pc lv st n w kc ks := by
  intro p l e s m args below meth c b sa cA D H locs ls E hw hS hb hl
  exact lv_goto E.1 E.2.1 hd ht (k p l e s m args below meth c b sa cA D H locs ls E hw hS hb hl)
theorem V_if_eq {x : Int} {off : Int} {tgt : Nat} (hd : decode Y.2.1 pc = .ok (.ifCond .eq off, 3)) (ht : (pc : Int) + off = (tgt : Int)) (hx : inR x) (kt : x = 0 → V Y R Q tgt lv st n w kc ks) (kf : ¬ x = 0 → V Y R Q (pc + 3) lv st n w kc ks) : V Y R Q pc lv (vI x :: st) n w kc ks := by
  intro p l e s m args below meth c b sa cA D H locs ls E hw hS hb hl
  exact lv_if_eq E.1 E.2.1 hd ht (fun h => kt ((iI_ne0 hx).mp h) p l e s m args below meth c b sa cA D H locs ls E hw hS hb hl) (fun h => kf (fun z => h ((iI_ne0 hx).mpr z)) p l e s m args below meth c b sa cA D H locs ls E hw hS hb hl)
theorem V_if_ne {x : Int} {off : Int} {tgt : Nat} (hd : decode Y.2.1 pc = .ok (.ifCond .ne off, 3)) (ht : (pc : Int) + off = (tgt : Int)) (hx : inR x) (kt : ¬ x = 0 → V Y R Q tgt lv st n w kc ks) (kf : x = 0 → V Y R Q (pc + 3) lv st n w kc ks) : V Y R Q pc lv (vI x :: st) n w kc ks := by
  intro p l e s m args below meth c b sa cA D H locs ls E hw hS hb hl
  exact lv_if_ne E.1 E.2.1 hd ht (fun h => kt (fun z => h ((iI_ne0 hx).mpr z)) p l e s m args below meth c b sa cA D H locs ls E hw hS hb hl) (fun h => kf ((iI_ne0 hx).mp h) p l e s m args below meth c b sa cA D H locs ls E hw hS hb hl)
theorem V_if_lt {x : Int} {off : Int} {tgt : Nat} (hd : decode Y.2.1 pc = .ok (.ifCond .lt off, 3)) (ht : (pc : Int) + off = (tgt : Int)) (hx : inR x) (kt : x < 0 → V Y R Q tgt lv st n w kc ks) (kf : 0 ≤ x → V Y R Q (pc + 3) lv st n w kc ks) : V Y R Q pc lv (vI x :: st) n w kc ks := by
  intro p l e s m args below meth c b sa cA D H locs ls E hw hS hb hl
  have hz := iI_lt hx (b := 0) ⟨by decide, by decide⟩
  exact lv_if_lt E.1 E.2.1 hd ht (fun h => kt (hz.mp h) p l e s m args below meth c b sa cA D H locs ls E hw hS hb hl) (fun h => kf (Int.not_lt.mp fun z => h (hz.mpr z)) p l e s m args below meth c b sa cA D H locs ls E hw hS hb hl)
theorem V_if_ge {x : Int} {off : Int} {tgt : Nat} (hd : decode Y.2.1 pc = .ok (.ifCond .ge off, 3)) (ht : (pc : Int) + off = (tgt : Int)) (hx : inR x) (kt : 0 ≤ x → V Y R Q tgt lv st n w kc ks) (kf : x < 0 → V Y R Q (pc + 3) lv st n w kc ks) : V Y R Q pc lv (vI x :: st) n w kc ks := by
  intro p l e s m args below meth c b sa cA D H locs ls E hw hS hb hl
  have hz := iI_le (a := 0) ⟨by decide, by decide⟩ hx
  exact lv_if_ge E.1 E.2.1 hd ht (fun h => kt (hz.mp h) p l e s m args below meth c b sa cA D H locs ls E hw hS hb hl) (fun h => kf (Int.not_le.mp fun z => h (hz.mpr z)) p l e s m args below meth c b sa cA D H locs ls E hw hS hb hl)
theorem V_if_gt {x : Int} {off : Int} {tgt : Nat} (hd : decode Y.2.1 pc = .ok (.ifCond .gt off, 3)) (ht : (pc : Int) + off = (tgt : Int)) (hx : inR x) (kt : 0 < x → V Y R Q tgt lv st n w kc ks) (kf : x ≤ 0 → V Y R Q (pc + 3) lv st n w kc ks) : V Y R Q pc lv (vI x :: st) n w kc ks := by
  intro p l e s m args below meth c b sa cA D H locs ls E hw hS hb hl
  have hz := iI_lt (a := 0) ⟨by decide, by decide⟩ hx
  exact lv_if_gt E.1 E.2.1 hd ht (fun h => kt (hz.mp h) p l e s m args below meth c b sa cA D H locs ls E hw hS hb hl) (fun h => kf (Int.not_lt.mp fun z => h (hz.mpr z)) p l e s m args below meth c b sa cA D H locs ls E hw hS hb hl)
theorem V_if_le {x : Int} {off : Int} {tgt : Nat} (hd : decode Y.2.1 pc = .ok (.ifCond .le off, 3)) (ht : (pc : Int) + off = (tgt : Int)) (hx : inR x) (kt : x ≤ 0 → V Y R Q tgt lv st n w kc ks) (kf : 0 < x → V Y R Q (pc + 3) lv st n w kc ks) : V Y R Q pc lv (vI x :: st) n w kc ks := by
  intro p l e s m args below meth c b sa cA D H locs ls E hw hS hb hl
  have hz := iI_le hx (b := 0) ⟨by decide, by decide⟩
  exact lv_if_le E.1 E.2.1 hd ht (fun h => kt (hz.mp h) p l e s m args below meth c b sa cA D H locs ls E hw hS hb hl) (fun h => kf (Int.not_le.mp fun z => h (hz.mpr z)) p l e s m args below meth c b sa cA D H locs ls E hw hS hb hl)
theorem V_icmp_eq {x y : Int} {off : Int} {tgt : Nat} (hd : decode Y.2.1 pc = .ok (.if_icmp .eq off, 3)) (ht : (pc : Int) + off = (tgt : Int)) (hx : inR x) (hy : inR y) (kt : x = y → V Y R Q tgt lv st n w kc ks) (kf : ¬ x = y → V Y R Q (pc + 3) lv st n w kc ks) : V Y R Q pc lv (vI y :: vI x :: st) n w kc ks := by
  intro p l e s m args below meth c b sa cA D H locs ls E hw hS hb hl
  exact lv_icmp_eq E.1 E.2.1 hd ht (fun h => kt ((iI_eq hx hy).mp h) p l e s m args below meth c b sa cA D H locs ls E hw hS hb hl) (fun h => kf (fun z => h ((iI_eq hx hy).mpr z)) p l e s m args below meth c b sa cA D H locs ls E hw hS hb hl)
theorem V_icmp_ne {x y : Int} {off : Int} {tgt : Nat} (hd : decode Y.2.1 pc = .ok (.if_icmp .ne off, 3)) (ht : (pc : Int) + off = (tgt : Int)) (hx : inR x) (hy : inR y) (kt : ¬ x = y → V Y R Q tgt lv st n w kc ks) (kf : x = y → V Y R Q (pc + 3) lv st n w kc ks) : V Y R Q pc lv (vI y :: vI x :: st) n w kc ks := by
  intro p l e s m args below meth c b sa cA D H locs ls E hw hS hb hl
  exact lv_icmp_ne E.1 E.2.1 hd ht (fun h => kt (fun z => h ((iI_eq hx hy).mpr z)) p l e s m args below meth c b sa cA D H locs ls E hw hS hb hl) (fun h => kf ((iI_eq hx hy).mp h) p l e s m args below meth c b sa cA D H locs ls E hw hS hb hl)
theorem V_icmp_lt {x y : Int} {off : Int} {tgt : Nat} (hd : decode Y.2.1 pc = .ok (.if_icmp .lt off, 3)) (ht : (pc : Int) + off = (tgt : Int)) (hx : inR x) (hy : inR y) (kt : x < y → V Y R Q tgt lv st n w kc ks) (kf : y ≤ x → V Y R Q (pc + 3) lv st n w kc ks) : V Y R Q pc lv (vI y :: vI x :: st) n w kc ks := by
  intro p l e s m args below meth c b sa cA D H locs ls E hw hS hb hl
  have hz := iI_lt hx hy
  exact lv_icmp_lt E.1 E.2.1 hd ht (fun h => kt (hz.mp h) p l e s m args below meth c b sa cA D H locs ls E hw hS hb hl) (fun h => kf (Int.not_lt.mp fun z => h (hz.mpr z)) p l e s m args below meth c b sa cA D H locs ls E hw hS hb hl)
theorem V_icmp_ge {x y : Int} {off : Int} {tgt : Nat} (hd : decode Y.2.1 pc = .ok (.if_icmp .ge off, 3)) (ht : (pc : Int) + off = (tgt : Int)) (hx : inR x) (hy : inR y) (kt : y ≤ x → V Y R Q tgt lv st n w kc ks) (kf : x < y → V Y R Q (pc + 3) lv st n w kc ks) : V Y R Q pc lv (vI y :: vI x :: st) n w kc ks := by
  intro p l e s m args below meth c b sa cA D H locs ls E hw hS hb hl
  have hz := iI_le hy hx
  exact lv_icmp_ge E.1 E.2.1 hd ht (fun h => kt (hz.mp h) p l e s m args below meth c b sa cA D H locs ls E hw hS hb hl) (fun h => kf (Int.not_le.mp fun z => h (hz.mpr z)) p l e s m args below meth c b sa cA D H locs ls E hw hS hb hl)
theorem V_icmp_gt {x y : Int} {off : Int} {tgt : Nat} (hd : decode Y.2.1 pc = .ok (.if_icmp .gt off, 3)) (ht : (pc : Int) + off = (tgt : Int)) (hx : inR x) (hy : inR y) (kt : y < x → V Y R Q tgt lv st n w kc ks) (kf : x ≤ y → V Y R Q (pc + 3) lv st n w kc ks) : V Y R Q pc lv (vI y :: vI x :: st) n w kc ks := by
  intro p l e s m args below meth c b sa cA D H locs ls E hw hS hb hl
  have hz := iI_lt hy hx
  exact lv_icmp_gt E.1 E.2.1 hd ht (fun h => kt (hz.mp h) p l e s m args below meth c b sa cA D H locs ls E hw hS hb hl) (fun h => kf (Int.not_lt.mp fun z => h (hz.mpr z)) p l e s m args below meth c b sa cA D H locs ls E hw hS hb hl)
theorem V_icmp_le {x y : Int} {off : Int} {tgt : Nat} (hd : decode Y.2.1 pc = .ok (.if_icmp .le off, 3)) (ht : (pc : Int) + off = (tgt : Int)) (hx : inR x) (hy : inR y) (kt : x ≤ y → V Y R Q tgt lv st n w kc ks) (kf : y < x → V Y R Q (pc + 3) lv st n w kc ks) : V Y R Q pc lv (vI y :: vI x :: st) n w kc ks := by
  intro p l e s m args below meth c b sa cA D H locs ls E hw hS hb hl
  have hz := iI_le hx hy
  exact lv_icmp_le E.1 E.2.1 hd ht (fun h => kt (hz.mp h) p l e s m args below meth c b sa cA D H locs ls E hw hS hb hl) (fun h => kf (Int.not_le.mp fun z => h (hz.mpr z)) p l e s m args below meth c b sa cA D H locs ls E hw hS hb hl)
theorem V_tableIn {dflt lo hi : Int} {offs : Array Int} {len : Nat} {x : Int} {off : Int} {tgt : Nat} (hd : decode Y.2.1 pc = .ok (.tableswitch dflt lo hi offs, len)) (hx : inR x) (h1 : lo ≤ x) (h2 : x ≤ hi) (ho : offs[(x - lo).toNat]? = some off) (ht : (pc : Int) + off = (tgt : Int)) (k : V Y R Q tgt lv st n w kc ks) : V Y R Q pc lv (vI x :: st) n w kc ks := by
  intro p l e s m args below meth c b sa cA D H locs ls E hw hS hb hl
  exact lv_tableIn E.1 E.2.1 hd (by rw [iI_toInt hx]; omega) (by rw [iI_toInt hx]; omega) (by rw [iI_toInt hx]; exact ho) ht (k p l e s m args below meth c b sa cA D H locs ls E hw hS hb hl)
theorem V_tableOut {dflt lo hi : Int} {offs : Array Int} {len : Nat} {x : Int} {tgt : Nat} (hd : decode Y.2.1 pc = .ok (.tableswitch dflt lo hi offs, len)) (hx : inR x) (h : x < lo ∨ hi < x) (ht : (pc : Int) + dflt = (tgt : Int)) (k : V Y R Q tgt lv st n w kc ks) : V Y R Q pc lv (vI x :: st) n w kc ks := by
  intro p l e s m args below meth c b sa cA D H locs ls E hw hS hb hl
  exact lv_tableOut E.1 E.2.1 hd (by rw [iI_toInt hx]; exact h) ht (k p l e s m args below meth c b sa cA D H locs ls E hw hS hb hl)
end VRULES
