/-! ===== DrawerWallModel: its picture, and what only reads it ===== -/
abbrev mO (qt ty a0 sp tk vl mn fd sv : Int) : va_E := .inr (6, [.ref 100, .ref 101, .ref 102, .ref 103, .ref 104, vI qt, .ref 105, vI ty, vI a0, vI sp, vI tk, vI vl, .ref 106, vI mn, .ref 107, .ref 108, .ref 109, .ref 110, vI fd, vI sv])
/-- the book holds a wall -/
def BkOf (f : Nat → Int) (n now : Int) (ca po fo : Nat) (rs : Nat → List Int) : Prop :=
  ((f 0 = n ∧ f 1 = (rs 1).length ∧ f 2 = (rs 5).length ∧ f 3 = (rs 6).length) ∧ (f 4 = (ca : Int) ∧ f 5 = (po : Int) ∧ f 6 = (fo : Int) ∧ f 7 = now ∧ f 8 = (rs 8).length)) ∧
  ((rs 1).length ≤ 10 ∧ (rs 5).length ≤ 6 ∧ (rs 6).length ≤ 8 ∧ (rs 8).length ≤ 20 ∧ (rs 0).length ≤ 7) ∧
  (∀ d : Int, 0 ≤ d → d < (rs 0).length → f (9 + d).toNat = rAt (rs 0) d) ∧
  (∀ c : Int, 0 ≤ c → c < (rs 1).length → f (16 + 4 * c).toNat = rAt (rs 1) c ∧ f (16 + 4 * c + 1).toNat = rAt (rs 2) c ∧ f (16 + 4 * c + 2).toNat = rAt (rs 3) c ∧ f (16 + 4 * c + 3).toNat = rAt (rs 4) c) ∧
  (∀ o : Int, 0 ≤ o → o < (rs 5).length → f (56 + o).toNat = rAt (rs 5) o) ∧
  (∀ k : Int, 0 ≤ k → k < (rs 6).length → f (62 + 2 * k).toNat = rAt (rs 6) k ∧ f (62 + 2 * k + 1).toNat = rAt (rs 7) k) ∧
  (∀ k : Int, 0 ≤ k → k < (rs 8).length → f (78 + k).toNat = rAt (rs 8) k)
def MS (w : vWd) (n now : Int) (ca po fo : Nat) (rs : Nat → List Int) : Prop := ∃ f : Nat → Int, (∃ qt ty a0 sp tk vl mn fd sv : Int, w 99 = some (mO qt ty a0 sp tk vl mn fd sv)) ∧ w 100 = some (arI 98 f) ∧ BkOf f n now ca po fo rs
theorem MS.keep {w w' : vWd} {n now : Int} {ca po fo : Nat} {rs : Nat → List Int} (h : MS w n now ca po fo rs) (h1 : w' 99 = w 99) (h2 : w' 100 = w 100) : MS w' n now ca po fo rs := by
  obtain ⟨f, ⟨qt, ty, a0, sp, tk, vl, mn, fd, sv, ho⟩, hb, hB⟩ := h
  exact ⟨f, ⟨qt, ty, a0, sp, tk, vl, mn, fd, sv, h1.trans ho⟩, h2.trans hb, hB⟩
def cmpI (a b : Int) : Int := if b < a then 1 else if a = b then 0 else -1
theorem lcmp_I {a b : Int} (ha : inR a) (hb : inR b) : lg_cmp (lI a) (lI b) = iI (cmpI a b) := by
  have h1 := lI_lt (a := b) (b := a) ⟨by omega, by omega⟩ ⟨by omega, by omega⟩
  have h2 := lI_eq (a := a) (b := b) ⟨by omega, by omega⟩ ⟨by omega, by omega⟩
  unfold lg_cmp cmpI
  by_cases h : b < a
  · rw [if_pos (h1.mpr h), if_pos h]; rfl
  · rw [if_neg (fun q => h (h1.mp q)), if_neg h]
    by_cases e : a = b
    · rw [if_pos (h2.mpr e), if_pos e]; rfl
    · rw [if_neg (fun q => e (h2.mp q)), if_neg e]; rfl
theorem cmpI_spec (a b : Int) : (-1 ≤ cmpI a b ∧ cmpI a b ≤ 1) ∧ (cmpI a b < 0 ↔ a < b) ∧ (0 < cmpI a b ↔ b < a) ∧ (cmpI a b = 0 ↔ a = b) := by
  unfold cmpI
  split
  · omega
  · split <;> omega
theorem nrB (p : Prop) [Decidable p] : narrow .boolean (vI (bI p)) = vI (bI p) := by unfold bI; split <;> rfl
theorem nrC (p : Prop) : narrow .boolean (vI (cI p)) = vI (cI p) := @nrB p (Classical.propDecidable p)
theorem cI_t {p : Prop} (h : p) : cI p = 1 := cI_1.mpr h
theorem cI_f {p : Prop} (h : ¬ p) : cI p = 0 := cI_0.mpr h
theorem cI_bI (p : Prop) [Decidable p] : cI p = bI p := by
  by_cases h : p
  · rw [cI_t h, bI_t h]
  · rw [cI_f h, bI_f h]
theorem bitB {a : Nat} {d : Int} (h0 : 0 ≤ d) (h : d < 32) (ha : a < 2 ^ 31) : (iI a >>> (iI d &&& 31)) &&& iI 1 = iI (bI (a.testBit d.toNat = true)) := by
  have h1 := testBit_1 a d.toNat
  rw [iI_shr h0 h ha]
  have h2 := iI_and (a / 2 ^ d.toNat) 1
  rw [h1] at h2
  refine Eq.trans h2 ?_
  unfold bI
  split <;> rfl
theorem mv_c {s : Int} {d : Nat} {v c : Int} (h : max 0 (min 2 (dg s d + v)) = c) : mv s d v = s + (c - dg s d) * p3 d := by rw [← h]; rfl
set_option maxRecDepth 100000 in
theorem cm_in {n : Nat} {w : vWd} {a b c : Int} (ha : inR a) (hb : inR b) (hc : inR c) : Ctr mX6_in (rm 0) [vJ a, vJ b, vJ c] n w (pR (vI (bI (b ≤ a ∧ a ≤ c))) n w) := by
  refine Ctr_of (lv := [some (vJ a), none, some (vJ b), none, some (vJ c), none]) (by decide +kernel) rfl rfl ?_
  have q1 := cmpI_spec a b
  have q2 := cmpI_spec a c
  refine V_lload_n (Y := mX6_in) (pc := 0) dX6_in_0 rfl ?_
  refine V_lload_n (Y := mX6_in) (pc := 1) dX6_in_1 rfl ?_
  refine V_lcmp (Y := mX6_in) (pc := 2) dX6_in_2 ?_
  rw [lcmp_I ha hb]
  refine V_if_lt (tgt := 17) (Y := mX6_in) (pc := 3) dX6_in_3 (by decide) ⟨by omega, by omega⟩ (fun h_3 => ?_) (fun h_3 => ?_)
  · refine V_iconst (Y := mX6_in) (pc := 17) dX6_in_17 ?_
    refine V_zret (ty := .boolean) (Y := mX6_in) (pc := 18) dX6_in_18 rfl rfl (Nat.le_of_ble_eq_true rfl) (Nat.le_of_ble_eq_true rfl) ?_
    first | exact pR_I (bI_t (by omega)).symm | exact pR_I (bI_f (by omega)).symm
  · refine V_lload_n (Y := mX6_in) (pc := 6) dX6_in_6 rfl ?_
    refine V_lload (Y := mX6_in) (pc := 7) dX6_in_7 rfl ?_
    refine V_lcmp (Y := mX6_in) (pc := 9) dX6_in_9 ?_
    rw [lcmp_I ha hc]
    refine V_if_gt (tgt := 17) (Y := mX6_in) (pc := 10) dX6_in_10 (by decide) ⟨by omega, by omega⟩ (fun h_10 => ?_) (fun h_10 => ?_)
    · refine V_iconst (Y := mX6_in) (pc := 17) dX6_in_17 ?_
      refine V_zret (ty := .boolean) (Y := mX6_in) (pc := 18) dX6_in_18 rfl rfl (Nat.le_of_ble_eq_true rfl) (Nat.le_of_ble_eq_true rfl) ?_
      first | exact pR_I (bI_t (by omega)).symm | exact pR_I (bI_f (by omega)).symm
    · refine V_iconst (Y := mX6_in) (pc := 13) dX6_in_13 ?_
      refine V_goto (tgt := 18) (Y := mX6_in) (pc := 14) dX6_in_14 (by decide) ?_
      refine V_zret (ty := .boolean) (Y := mX6_in) (pc := 18) dX6_in_18 rfl rfl (Nat.le_of_ble_eq_true rfl) (Nat.le_of_ble_eq_true rfl) ?_
      first | exact pR_I (bI_t (by omega)).symm | exact pR_I (bI_f (by omega)).symm
set_option maxRecDepth 100000 in
theorem lpm_power {n : Nat} {w : vWd} {d : Int} (hd : 0 ≤ d ∧ d ≤ 7) : ∀ (m : Nat) (i : Int), 0 ≤ i → i ≤ d → (d - i).toNat < m →
    V mX6_power (rm 0) (pR (vI (p3 d.toNat)) n w) 4 [some (vI d), some (vI (p3 i.toNat)), some (vI i)] [] n w 0 0 := by
  intro m
  induction m with
  | zero => intro i h1 h2 h3; omega
  | succ m ih =>
    intro i hi hi2 hm
    refine V_iload_n (Y := mX6_power) (pc := 4) dX6_power_4 rfl ?_
    refine V_iload_n (Y := mX6_power) (pc := 5) dX6_power_5 rfl ?_
    refine V_icmp_ge (tgt := 19) (Y := mX6_power) (pc := 6) dX6_power_6 (by decide) ⟨by omega, by omega⟩ ⟨by omega, by omega⟩ (fun h_6 => ?_) (fun h_6 => ?_)
    · refine V_iload_n (Y := mX6_power) (pc := 19) dX6_power_19 rfl ?_
      refine V_iret (Y := mX6_power) (pc := 20) dX6_power_20 rfl (Nat.le_of_ble_eq_true rfl) (Nat.le_of_ble_eq_true rfl) ?_
      exact pR_I (by rw [show i = d by omega])
    · refine V_iload_n (Y := mX6_power) (pc := 9) dX6_power_9 rfl ?_
      refine V_iconst (Y := mX6_power) (pc := 10) dX6_power_10 ?_
      refine V_imul (Y := mX6_power) (pc := 11) dX6_power_11 ?_
      refine V_istore_n (Y := mX6_power) (pc := 12) dX6_power_12 rfl ?_
      refine V_iinc (Y := mX6_power) (pc := 13) dX6_power_13 rfl rfl ?_
      refine V_goto (tgt := 4) (Y := mX6_power) (pc := 16) dX6_power_16 (by decide) ?_
      have e : p3 (i + 1).toNat = p3 i.toNat * 3 := by rw [show (i + 1).toNat = i.toNat + 1 by omega, p3_succ]
      rw [← e]
      exact ih (i + 1) (by omega) (by omega) (by omega)
set_option maxRecDepth 100000 in
theorem cm_power {n : Nat} {w : vWd} {d : Int} (hd : 0 ≤ d ∧ d ≤ 7) : Ctr mX6_power (rm 0) [vI d] n w (pR (vI (p3 d.toNat)) n w) := by
  refine Ctr_of (lv := [some (vI d), none, none]) (by decide +kernel) rfl rfl ?_
  refine V_iconst (Y := mX6_power) (pc := 0) dX6_power_0 ?_
  refine V_istore_n (Y := mX6_power) (pc := 1) dX6_power_1 rfl ?_
  refine V_iconst (Y := mX6_power) (pc := 2) dX6_power_2 ?_
  refine V_istore_n (Y := mX6_power) (pc := 3) dX6_power_3 rfl ?_
  exact lpm_power hd (d.toNat + 1) 0 (by omega) (by omega) (by omega)
theorem p3_1 (k : Nat) : 1 ≤ p3 k := by have := p3_pos k; omega
set_option maxRecDepth 100000 in
theorem cm_outIn {n : Nat} {w : vWd} {s d : Int} (hs : 0 ≤ s) (hs2 : inR s) (hd : 0 ≤ d ∧ d ≤ 7) : Ctr mX6_outIn (rm 1) [vI s, vI d] n w (pR (vI (dg s d.toNat)) n w) := by
  refine Ctr_of (lv := [some (vI s), some (vI d)]) (by decide +kernel) rfl rfl ?_
  have hp := p3_le d.toNat (by omega)
  have hp1 := p3_1 d.toNat
  have hr := sd_rng hs d.toNat
  have e : s / p3 d.toNat = sd s d.toNat := rfl
  refine V_iload_n (Y := mX6_outIn) (pc := 0) dX6_outIn_0 rfl ?_
  refine V_iload_n (Y := mX6_outIn) (pc := 1) dX6_outIn_1 rfl ?_
  apply V_sR (Y := mX6_outIn) (pc := 2) dX6_outIn_2 ok_X6_power os_X6_power ln_X6_60 (cm_power hd)
  · rfl
  · rfl
  · rfl
  refine V_idiv (Y := mX6_outIn) (pc := 5) dX6_outIn_5 ⟨by omega, by omega⟩ (by omega) ⟨by omega, by omega⟩ (by omega) ?_
  rw [e]
  refine V_iconst (Y := mX6_outIn) (pc := 6) dX6_outIn_6 ?_
  refine V_irem (Y := mX6_outIn) (pc := 7) dX6_outIn_7 ⟨by omega, by omega⟩ (by omega) ⟨by decide, by decide⟩ (by decide) ?_
  refine V_iret (Y := mX6_outIn) (pc := 8) dX6_outIn_8 rfl (Nat.le_of_ble_eq_true rfl) (Nat.le_of_ble_eq_true rfl) ?_
  exact pR_I rfl
section MOD
variable {nn : Nat} {w : vWd} {n now : Int} {ca po fo : Nat} {rs : Nat → List Int}
set_option maxRecDepth 100000 in
theorem cm_isDrawer {d : Int} (hM : MS w n now ca po fo rs) (hn : 2 ≤ n ∧ n ≤ 7) (hd : inR d) : Ctr mX6_isDrawer (rm 1) [.ref 99, vI d] nn w (pR (vI (bI (isD n d))) nn w) := by
  refine Ctr_of (lv := [some (.ref 99), some (vI d)]) (by decide +kernel) rfl rfl ?_
  obtain ⟨f, ⟨qt, ty, a0, sp, tk, vl, mn, fd, sv, ho⟩, hb, hB⟩ := hM
  have e0 : f (0 : Int).toNat = n := hB.1.1.1
  refine V_iload_n (Y := mX6_isDrawer) (pc := 0) dX6_isDrawer_0 rfl ?_
  refine V_i2l (Y := mX6_isDrawer) (pc := 1) dX6_isDrawer_1 hd ?_
  refine V_lconst (Y := mX6_isDrawer) (pc := 2) dX6_isDrawer_2 ?_
  refine V_aload_n (Y := mX6_isDrawer) (pc := 3) dX6_isDrawer_3 rfl ?_
  apply V_get (Y := mX6_isDrawer) (pc := 4) dX6_isDrawer_4 fl_X6_7
  · assumption
  · rfl
  refine V_iconst (Y := mX6_isDrawer) (pc := 7) dX6_isDrawer_7 ?_
  apply V_iald (Y := mX6_isDrawer) (pc := 8) dX6_isDrawer_8
  · assumption
  · exact ⟨by omega, by omega⟩
  · omega
  rw [e0]
  refine V_iconst (Y := mX6_isDrawer) (pc := 9) dX6_isDrawer_9 ?_
  refine V_isub (Y := mX6_isDrawer) (pc := 10) dX6_isDrawer_10 ?_
  refine V_i2l (Y := mX6_isDrawer) (pc := 11) dX6_isDrawer_11 ⟨by omega, by omega⟩ ?_
  apply V_sR (Y := mX6_isDrawer) (pc := 12) dX6_isDrawer_12 ok_X6_in os_X6_in ln_X6_56 (cm_in (a := d) (b := 0) (c := n - 1) hd ⟨by omega, by omega⟩ ⟨by omega, by omega⟩)
  · rfl
  · rfl
  · rfl
  refine V_zret (ty := .boolean) (Y := mX6_isDrawer) (pc := 15) dX6_isDrawer_15 rfl (nrB _) (Nat.le_of_ble_eq_true rfl) (Nat.le_of_ble_eq_true rfl) ?_
  exact pR_I (bI_eq (by constructor <;> intro q <;> omega))
set_option maxRecDepth 100000 in
theorem cm_states (hM : MS w n now ca po fo rs) (hn : 2 ≤ n ∧ n ≤ 7) : Ctr mX6_states (rm 1) [.ref 99] nn w (pR (vI (p3 n.toNat)) nn w) := by
  refine Ctr_of (lv := [some (.ref 99)]) (by decide +kernel) rfl rfl ?_
  obtain ⟨f, ⟨qt, ty, a0, sp, tk, vl, mn, fd, sv, ho⟩, hb, hB⟩ := hM
  have e0 : f (0 : Int).toNat = n := hB.1.1.1
  refine V_aload_n (Y := mX6_states) (pc := 0) dX6_states_0 rfl ?_
  apply V_get (Y := mX6_states) (pc := 1) dX6_states_1 fl_X6_7
  · assumption
  · rfl
  refine V_iconst (Y := mX6_states) (pc := 4) dX6_states_4 ?_
  apply V_iald (Y := mX6_states) (pc := 5) dX6_states_5
  · assumption
  · exact ⟨by omega, by omega⟩
  · omega
  rw [e0]
  apply V_sR (Y := mX6_states) (pc := 6) dX6_states_6 ok_X6_power os_X6_power ln_X6_60 (cm_power (d := n) ⟨by omega, by omega⟩)
  · rfl
  · rfl
  · rfl
  refine V_iret (Y := mX6_states) (pc := 9) dX6_states_9 rfl (Nat.le_of_ble_eq_true rfl) (Nat.le_of_ble_eq_true rfl) ?_
  exact pR_I rfl
set_option maxRecDepth 100000 in
theorem cm_isState {s : Int} (hM : MS w n now ca po fo rs) (hn : 2 ≤ n ∧ n ≤ 7) (hs : inR s) : Ctr mX6_isState (rm 2) [.ref 99, vI s] nn w (pR (vI (bI (isS n s))) nn w) := by
  refine Ctr_of (lv := [some (.ref 99), some (vI s)]) (by decide +kernel) rfl rfl ?_
  have hM0 := hM
  obtain ⟨f, ⟨qt, ty, a0, sp, tk, vl, mn, fd, sv, ho⟩, hb, hB⟩ := hM
  have hp := p3_le n.toNat (by omega)
  have hp1 := p3_1 n.toNat
  refine V_iload_n (Y := mX6_isState) (pc := 0) dX6_isState_0 rfl ?_
  refine V_i2l (Y := mX6_isState) (pc := 1) dX6_isState_1 hs ?_
  refine V_lconst (Y := mX6_isState) (pc := 2) dX6_isState_2 ?_
  refine V_aload_n (Y := mX6_isState) (pc := 3) dX6_isState_3 rfl ?_
  apply V_vR (Y := mX6_isState) (pc := 4) dX6_isState_4 ok_X6_states ov_X6_states ln_X6_183 (cm_states hM0 hn)
  · assumption
  · rfl
  · rfl
  · rfl
  · rfl
  · rfl
  refine V_iconst (Y := mX6_isState) (pc := 7) dX6_isState_7 ?_
  refine V_isub (Y := mX6_isState) (pc := 8) dX6_isState_8 ?_
  refine V_i2l (Y := mX6_isState) (pc := 9) dX6_isState_9 ⟨by omega, by omega⟩ ?_
  apply V_sR (Y := mX6_isState) (pc := 10) dX6_isState_10 ok_X6_in os_X6_in ln_X6_56 (cm_in (a := s) (b := 0) (c := p3 n.toNat - 1) hs ⟨by omega, by omega⟩ ⟨by omega, by omega⟩)
  · rfl
  · rfl
  · rfl
  refine V_zret (ty := .boolean) (Y := mX6_isState) (pc := 13) dX6_isState_13 rfl (nrB _) (Nat.le_of_ble_eq_true rfl) (Nat.le_of_ble_eq_true rfl) ?_
  exact pR_I (bI_eq (by constructor <;> intro q <;> omega))
set_option maxRecDepth 100000 in
theorem cm_isBeside {s d : Int} (hM : MS w n now ca po fo rs) (hn : 2 ≤ n ∧ n ≤ 7) (hs : isS n s) (hd : isD n d) : Ctr mX6_isBeside (rm 2) [.ref 99, vI s, vI d] nn w (pR (vI (bI (opB s d.toNat))) nn w) := by
  refine Ctr_of (lv := [some (.ref 99), some (vI s), some (vI d)]) (by decide +kernel) rfl rfl ?_
  obtain ⟨f, ⟨qt, ty, a0, sp, tk, vl, mn, fd, sv, ho⟩, hb, hB⟩ := hM
  have e0 : f (0 : Int).toNat = n := hB.1.1.1
  have hp := p3_le n.toNat (by omega)
  have e1 : dg s (d - 1).toNat = dg s (d.toNat - 1) := by rw [show (d - 1).toNat = d.toNat - 1 by omega]
  have e2 : dg s (d + 1).toNat = dg s (d.toNat + 1) := by rw [show (d + 1).toNat = d.toNat + 1 by omega]
  have e3 : n ≤ d + 1 → dg s (d.toNat + 1) = 0 := fun q => dg_out hs.1 hs.2 (by omega)
  have r1 := dg_rng s (d.toNat - 1)
  have r2 := dg_rng s (d.toNat + 1)
  refine V_iload_n (Y := mX6_isBeside) (pc := 0) dX6_isBeside_0 rfl ?_
  refine V_if_le (tgt := 15) (Y := mX6_isBeside) (pc := 1) dX6_isBeside_1 (by decide) ⟨by omega, by omega⟩ (fun h_1 => ?_) (fun h_1 => ?_)
  · refine V_iload_n (Y := mX6_isBeside) (pc := 15) dX6_isBeside_15 rfl ?_
    refine V_iconst (Y := mX6_isBeside) (pc := 16) dX6_isBeside_16 ?_
    refine V_iadd (Y := mX6_isBeside) (pc := 17) dX6_isBeside_17 ?_
    refine V_aload_n (Y := mX6_isBeside) (pc := 18) dX6_isBeside_18 rfl ?_
    apply V_get (Y := mX6_isBeside) (pc := 19) dX6_isBeside_19 fl_X6_7
    · assumption
    · rfl
    refine V_iconst (Y := mX6_isBeside) (pc := 22) dX6_isBeside_22 ?_
    apply V_iald (Y := mX6_isBeside) (pc := 23) dX6_isBeside_23
    · assumption
    · exact ⟨by omega, by omega⟩
    · omega
    rw [e0]
    refine V_icmp_ge (tgt := 42) (Y := mX6_isBeside) (pc := 24) dX6_isBeside_24 (by decide) ⟨by omega, by omega⟩ ⟨by omega, by omega⟩ (fun h_24 => ?_) (fun h_24 => ?_)
    · refine V_iconst (Y := mX6_isBeside) (pc := 42) dX6_isBeside_42 ?_
      refine V_zret (ty := .boolean) (Y := mX6_isBeside) (pc := 43) dX6_isBeside_43 rfl rfl (Nat.le_of_ble_eq_true rfl) (Nat.le_of_ble_eq_true rfl) ?_
      first | exact pR_I (bI_t (by omega)).symm | exact pR_I (bI_f (by omega)).symm
    · refine V_iload_n (Y := mX6_isBeside) (pc := 27) dX6_isBeside_27 rfl ?_
      refine V_iload_n (Y := mX6_isBeside) (pc := 28) dX6_isBeside_28 rfl ?_
      refine V_iconst (Y := mX6_isBeside) (pc := 29) dX6_isBeside_29 ?_
      refine V_iadd (Y := mX6_isBeside) (pc := 30) dX6_isBeside_30 ?_
      apply V_sR (Y := mX6_isBeside) (pc := 31) dX6_isBeside_31 ok_X6_outIn os_X6_outIn ln_X6_64 (cm_outIn (s := s) (d := d + 1) hs.1 ⟨by omega, by omega⟩ ⟨by omega, by omega⟩)
      · rfl
      · rfl
      · rfl
      refine V_iconst (Y := mX6_isBeside) (pc := 34) dX6_isBeside_34 ?_
      refine V_icmp_ne (tgt := 42) (Y := mX6_isBeside) (pc := 35) dX6_isBeside_35 (by decide) ⟨by omega, by omega⟩ ⟨by omega, by omega⟩ (fun h_35 => ?_) (fun h_35 => ?_)
      · refine V_iconst (Y := mX6_isBeside) (pc := 42) dX6_isBeside_42 ?_
        refine V_zret (ty := .boolean) (Y := mX6_isBeside) (pc := 43) dX6_isBeside_43 rfl rfl (Nat.le_of_ble_eq_true rfl) (Nat.le_of_ble_eq_true rfl) ?_
        first | exact pR_I (bI_t (by omega)).symm | exact pR_I (bI_f (by omega)).symm
      · refine V_iconst (Y := mX6_isBeside) (pc := 38) dX6_isBeside_38 ?_
        refine V_goto (tgt := 43) (Y := mX6_isBeside) (pc := 39) dX6_isBeside_39 (by decide) ?_
        refine V_zret (ty := .boolean) (Y := mX6_isBeside) (pc := 43) dX6_isBeside_43 rfl rfl (Nat.le_of_ble_eq_true rfl) (Nat.le_of_ble_eq_true rfl) ?_
        first | exact pR_I (bI_t (by omega)).symm | exact pR_I (bI_f (by omega)).symm
  · refine V_iload_n (Y := mX6_isBeside) (pc := 4) dX6_isBeside_4 rfl ?_
    refine V_iload_n (Y := mX6_isBeside) (pc := 5) dX6_isBeside_5 rfl ?_
    refine V_iconst (Y := mX6_isBeside) (pc := 6) dX6_isBeside_6 ?_
    refine V_isub (Y := mX6_isBeside) (pc := 7) dX6_isBeside_7 ?_
    apply V_sR (Y := mX6_isBeside) (pc := 8) dX6_isBeside_8 ok_X6_outIn os_X6_outIn ln_X6_64 (cm_outIn (s := s) (d := d - 1) hs.1 ⟨by omega, by omega⟩ ⟨by omega, by omega⟩)
    · rfl
    · rfl
    · rfl
    refine V_iconst (Y := mX6_isBeside) (pc := 11) dX6_isBeside_11 ?_
    refine V_icmp_eq (tgt := 38) (Y := mX6_isBeside) (pc := 12) dX6_isBeside_12 (by decide) ⟨by omega, by omega⟩ ⟨by omega, by omega⟩ (fun h_12 => ?_) (fun h_12 => ?_)
    · refine V_iconst (Y := mX6_isBeside) (pc := 38) dX6_isBeside_38 ?_
      refine V_goto (tgt := 43) (Y := mX6_isBeside) (pc := 39) dX6_isBeside_39 (by decide) ?_
      refine V_zret (ty := .boolean) (Y := mX6_isBeside) (pc := 43) dX6_isBeside_43 rfl rfl (Nat.le_of_ble_eq_true rfl) (Nat.le_of_ble_eq_true rfl) ?_
      first | exact pR_I (bI_t (by omega)).symm | exact pR_I (bI_f (by omega)).symm
    · refine V_iload_n (Y := mX6_isBeside) (pc := 15) dX6_isBeside_15 rfl ?_
      refine V_iconst (Y := mX6_isBeside) (pc := 16) dX6_isBeside_16 ?_
      refine V_iadd (Y := mX6_isBeside) (pc := 17) dX6_isBeside_17 ?_
      refine V_aload_n (Y := mX6_isBeside) (pc := 18) dX6_isBeside_18 rfl ?_
      apply V_get (Y := mX6_isBeside) (pc := 19) dX6_isBeside_19 fl_X6_7
      · assumption
      · rfl
      refine V_iconst (Y := mX6_isBeside) (pc := 22) dX6_isBeside_22 ?_
      apply V_iald (Y := mX6_isBeside) (pc := 23) dX6_isBeside_23
      · assumption
      · exact ⟨by omega, by omega⟩
      · omega
      rw [e0]
      refine V_icmp_ge (tgt := 42) (Y := mX6_isBeside) (pc := 24) dX6_isBeside_24 (by decide) ⟨by omega, by omega⟩ ⟨by omega, by omega⟩ (fun h_24 => ?_) (fun h_24 => ?_)
      · refine V_iconst (Y := mX6_isBeside) (pc := 42) dX6_isBeside_42 ?_
        refine V_zret (ty := .boolean) (Y := mX6_isBeside) (pc := 43) dX6_isBeside_43 rfl rfl (Nat.le_of_ble_eq_true rfl) (Nat.le_of_ble_eq_true rfl) ?_
        first | exact pR_I (bI_t (by omega)).symm | exact pR_I (bI_f (by omega)).symm
      · refine V_iload_n (Y := mX6_isBeside) (pc := 27) dX6_isBeside_27 rfl ?_
        refine V_iload_n (Y := mX6_isBeside) (pc := 28) dX6_isBeside_28 rfl ?_
        refine V_iconst (Y := mX6_isBeside) (pc := 29) dX6_isBeside_29 ?_
        refine V_iadd (Y := mX6_isBeside) (pc := 30) dX6_isBeside_30 ?_
        apply V_sR (Y := mX6_isBeside) (pc := 31) dX6_isBeside_31 ok_X6_outIn os_X6_outIn ln_X6_64 (cm_outIn (s := s) (d := d + 1) hs.1 ⟨by omega, by omega⟩ ⟨by omega, by omega⟩)
        · rfl
        · rfl
        · rfl
        refine V_iconst (Y := mX6_isBeside) (pc := 34) dX6_isBeside_34 ?_
        refine V_icmp_ne (tgt := 42) (Y := mX6_isBeside) (pc := 35) dX6_isBeside_35 (by decide) ⟨by omega, by omega⟩ ⟨by omega, by omega⟩ (fun h_35 => ?_) (fun h_35 => ?_)
        · refine V_iconst (Y := mX6_isBeside) (pc := 42) dX6_isBeside_42 ?_
          refine V_zret (ty := .boolean) (Y := mX6_isBeside) (pc := 43) dX6_isBeside_43 rfl rfl (Nat.le_of_ble_eq_true rfl) (Nat.le_of_ble_eq_true rfl) ?_
          first | exact pR_I (bI_t (by omega)).symm | exact pR_I (bI_f (by omega)).symm
        · refine V_iconst (Y := mX6_isBeside) (pc := 38) dX6_isBeside_38 ?_
          refine V_goto (tgt := 43) (Y := mX6_isBeside) (pc := 39) dX6_isBeside_39 (by decide) ?_
          refine V_zret (ty := .boolean) (Y := mX6_isBeside) (pc := 43) dX6_isBeside_43 rfl rfl (Nat.le_of_ble_eq_true rfl) (Nat.le_of_ble_eq_true rfl) ?_
          first | exact pR_I (bI_t (by omega)).symm | exact pR_I (bI_f (by omega)).symm
set_option maxRecDepth 100000 in
theorem cm_amount {c s o : Int} (hM : MS w n now ca po fo rs) (hn : 2 ≤ n ∧ n ≤ 7) (hcv : cvOK n rs) (hc : 0 ≤ c ∧ c < (rs 1).length) (hs : isS n s) (ho2 : o = 0 ∨ o = 1) : Ctr mX6_amount (rm 3) [.ref 99, vI c, vI s, vI o] nn w (pR (vI (cAmt rs c s o)) nn w) := by
  refine Ctr_of (lv := [some (.ref 99), some (vI c), some (vI s), some (vI o), none, none, none, none, none]) (by decide +kernel) rfl rfl ?_
  have hM0 := hM
  obtain ⟨f, ⟨qt, ty, a0, sp, tk, vl, mn, fd, sv, ho⟩, hb, hB⟩ := hM
  have hl := hB.2.1.1
  have hp := p3_le n.toNat (by omega)
  have hk := hcv.2 c hc.1 hc.2
  have k1 := hk.2.1
  have k2 := hk.2.2.2
  obtain ⟨e1, e2, e3, e4⟩ := hB.2.2.2.1 c hc.1 hc.2
  have hg := dg_rng s (rAt (rs 2) c).toNat
  refine V_aload_n (Y := mX6_amount) (pc := 0) dX6_amount_0 rfl ?_
  apply V_get (Y := mX6_amount) (pc := 1) dX6_amount_1 fl_X6_7
  · assumption
  · rfl
  refine V_bipush (Y := mX6_amount) (pc := 4) dX6_amount_4 ⟨by decide, by decide⟩ ?_
  refine V_iconst (Y := mX6_amount) (pc := 6) dX6_amount_6 ?_
  refine V_iload_n (Y := mX6_amount) (pc := 7) dX6_amount_7 rfl ?_
  refine V_imul (Y := mX6_amount) (pc := 8) dX6_amount_8 ?_
  refine V_iadd (Y := mX6_amount) (pc := 9) dX6_amount_9 ?_
  refine V_iconst (Y := mX6_amount) (pc := 10) dX6_amount_10 ?_
  refine V_iadd (Y := mX6_amount) (pc := 11) dX6_amount_11 ?_
  apply V_iald (Y := mX6_amount) (pc := 12) dX6_amount_12
  · assumption
  · exact ⟨by omega, by omega⟩
  · omega
  rw [e3]
  refine V_istore (Y := mX6_amount) (pc := 13) dX6_amount_13 rfl ?_
  refine V_aload_n (Y := mX6_amount) (pc := 15) dX6_amount_15 rfl ?_
  apply V_get (Y := mX6_amount) (pc := 16) dX6_amount_16 fl_X6_7
  · assumption
  · rfl
  refine V_bipush (Y := mX6_amount) (pc := 19) dX6_amount_19 ⟨by decide, by decide⟩ ?_
  refine V_iconst (Y := mX6_amount) (pc := 21) dX6_amount_21 ?_
  refine V_iload_n (Y := mX6_amount) (pc := 22) dX6_amount_22 rfl ?_
  refine V_imul (Y := mX6_amount) (pc := 23) dX6_amount_23 ?_
  refine V_iadd (Y := mX6_amount) (pc := 24) dX6_amount_24 ?_
  refine V_iconst (Y := mX6_amount) (pc := 25) dX6_amount_25 ?_
  refine V_iadd (Y := mX6_amount) (pc := 26) dX6_amount_26 ?_
  apply V_iald (Y := mX6_amount) (pc := 27) dX6_amount_27
  · assumption
  · exact ⟨by omega, by omega⟩
  · omega
  rw [e4]
  refine V_istore (Y := mX6_amount) (pc := 28) dX6_amount_28 rfl ?_
  refine V_aload_n (Y := mX6_amount) (pc := 30) dX6_amount_30 rfl ?_
  apply V_get (Y := mX6_amount) (pc := 31) dX6_amount_31 fl_X6_7
  · assumption
  · rfl
  refine V_bipush (Y := mX6_amount) (pc := 34) dX6_amount_34 ⟨by decide, by decide⟩ ?_
  refine V_iconst (Y := mX6_amount) (pc := 36) dX6_amount_36 ?_
  refine V_iload_n (Y := mX6_amount) (pc := 37) dX6_amount_37 rfl ?_
  refine V_imul (Y := mX6_amount) (pc := 38) dX6_amount_38 ?_
  refine V_iadd (Y := mX6_amount) (pc := 39) dX6_amount_39 ?_
  refine V_iconst (Y := mX6_amount) (pc := 40) dX6_amount_40 ?_
  refine V_iadd (Y := mX6_amount) (pc := 41) dX6_amount_41 ?_
  apply V_iald (Y := mX6_amount) (pc := 42) dX6_amount_42
  · assumption
  · exact ⟨by omega, by omega⟩
  · omega
  rw [e2]
  refine V_istore (Y := mX6_amount) (pc := 43) dX6_amount_43 rfl ?_
  refine V_iload_n (Y := mX6_amount) (pc := 45) dX6_amount_45 rfl ?_
  refine V_if_eq (tgt := 54) (Y := mX6_amount) (pc := 46) dX6_amount_46 (by decide) ⟨by omega, by omega⟩ (fun h_46 => ?_) (fun h_46 => ?_)
  · refine V_iload (Y := mX6_amount) (pc := 54) dX6_amount_54 rfl ?_
    refine V_ineg (Y := mX6_amount) (pc := 56) dX6_amount_56 ?_
    refine V_istore (Y := mX6_amount) (pc := 57) dX6_amount_57 rfl ?_
    refine V_iload (Y := mX6_amount) (pc := 59) dX6_amount_59 rfl ?_
    refine V_iconst (Y := mX6_amount) (pc := 61) dX6_amount_61 ?_
    refine V_icmp_eq (tgt := 71) (Y := mX6_amount) (pc := 62) dX6_amount_62 (by decide) ⟨by omega, by omega⟩ ⟨by omega, by omega⟩ (fun h_62 => ?_) (fun h_62 => ?_)
    · refine V_iload (Y := mX6_amount) (pc := 71) dX6_amount_71 rfl ?_
      refine V_iconst (Y := mX6_amount) (pc := 73) dX6_amount_73 ?_
      refine V_icmp_ne (tgt := 82) (Y := mX6_amount) (pc := 74) dX6_amount_74 (by decide) ⟨by omega, by omega⟩ ⟨by omega, by omega⟩ (fun h_74 => ?_) (fun h_74 => ?_)
      · refine V_iload (Y := mX6_amount) (pc := 82) dX6_amount_82 rfl ?_
        refine V_if_le (tgt := 91) (Y := mX6_amount) (pc := 84) dX6_amount_84 (by decide) ⟨by omega, by omega⟩ (fun h_84 => ?_) (fun h_84 => ?_)
        · refine V_iconst (Y := mX6_amount) (pc := 91) dX6_amount_91 ?_
          refine V_istore (Y := mX6_amount) (pc := 92) dX6_amount_92 rfl ?_
          refine V_iload_n (Y := mX6_amount) (pc := 94) dX6_amount_94 rfl ?_
          refine V_iload (Y := mX6_amount) (pc := 95) dX6_amount_95 rfl ?_
          apply V_sR (Y := mX6_amount) (pc := 97) dX6_amount_97 ok_X6_outIn os_X6_outIn ln_X6_64 (cm_outIn (s := s) (d := rAt (rs 2) c) hs.1 ⟨by omega, by omega⟩ ⟨by omega, by omega⟩)
          · rfl
          · rfl
          · rfl
          refine V_if_ne (tgt := 108) (Y := mX6_amount) (pc := 100) dX6_amount_100 (by decide) ⟨by omega, by omega⟩ (fun h_100 => ?_) (fun h_100 => ?_)
          · refine V_iconst (Y := mX6_amount) (pc := 108) dX6_amount_108 ?_
            refine V_iret (Y := mX6_amount) (pc := 109) dX6_amount_109 rfl (Nat.le_of_ble_eq_true rfl) (Nat.le_of_ble_eq_true rfl) ?_
            refine pR_I ?_
            unfold cAmt
            (repeat' split) <;> first | omega | (exfalso; apply h_123; assumption) | (exfalso; rename_i q; exact q h_123)
          · refine V_iload (Y := mX6_amount) (pc := 103) dX6_amount_103 rfl ?_
            refine V_goto (tgt := 109) (Y := mX6_amount) (pc := 105) dX6_amount_105 (by decide) ?_
            refine V_iret (Y := mX6_amount) (pc := 109) dX6_amount_109 rfl (Nat.le_of_ble_eq_true rfl) (Nat.le_of_ble_eq_true rfl) ?_
            refine pR_I ?_
            unfold cAmt
            (repeat' split) <;> first | omega | (exfalso; apply h_123; assumption) | (exfalso; rename_i q; exact q h_123)
        · refine V_iconst (Y := mX6_amount) (pc := 87) dX6_amount_87 ?_
          refine V_goto (tgt := 92) (Y := mX6_amount) (pc := 88) dX6_amount_88 (by decide) ?_
          refine V_istore (Y := mX6_amount) (pc := 92) dX6_amount_92 rfl ?_
          refine V_iload_n (Y := mX6_amount) (pc := 94) dX6_amount_94 rfl ?_
          refine V_iload (Y := mX6_amount) (pc := 95) dX6_amount_95 rfl ?_
          apply V_sR (Y := mX6_amount) (pc := 97) dX6_amount_97 ok_X6_outIn os_X6_outIn ln_X6_64 (cm_outIn (s := s) (d := rAt (rs 2) c) hs.1 ⟨by omega, by omega⟩ ⟨by omega, by omega⟩)
          · rfl
          · rfl
          · rfl
          refine V_if_ne (tgt := 108) (Y := mX6_amount) (pc := 100) dX6_amount_100 (by decide) ⟨by omega, by omega⟩ (fun h_100 => ?_) (fun h_100 => ?_)
          · refine V_iconst (Y := mX6_amount) (pc := 108) dX6_amount_108 ?_
            refine V_iret (Y := mX6_amount) (pc := 109) dX6_amount_109 rfl (Nat.le_of_ble_eq_true rfl) (Nat.le_of_ble_eq_true rfl) ?_
            refine pR_I ?_
            unfold cAmt
            (repeat' split) <;> first | omega | (exfalso; apply h_123; assumption) | (exfalso; rename_i q; exact q h_123)
          · refine V_iload (Y := mX6_amount) (pc := 103) dX6_amount_103 rfl ?_
            refine V_goto (tgt := 109) (Y := mX6_amount) (pc := 105) dX6_amount_105 (by decide) ?_
            refine V_iret (Y := mX6_amount) (pc := 109) dX6_amount_109 rfl (Nat.le_of_ble_eq_true rfl) (Nat.le_of_ble_eq_true rfl) ?_
            refine pR_I ?_
            unfold cAmt
            (repeat' split) <;> first | omega | (exfalso; apply h_123; assumption) | (exfalso; rename_i q; exact q h_123)
      · refine V_iload (Y := mX6_amount) (pc := 77) dX6_amount_77 rfl ?_
        refine V_goto (tgt := 92) (Y := mX6_amount) (pc := 79) dX6_amount_79 (by decide) ?_
        refine V_istore (Y := mX6_amount) (pc := 92) dX6_amount_92 rfl ?_
        refine V_iload_n (Y := mX6_amount) (pc := 94) dX6_amount_94 rfl ?_
        refine V_iload (Y := mX6_amount) (pc := 95) dX6_amount_95 rfl ?_
        apply V_sR (Y := mX6_amount) (pc := 97) dX6_amount_97 ok_X6_outIn os_X6_outIn ln_X6_64 (cm_outIn (s := s) (d := rAt (rs 2) c) hs.1 ⟨by omega, by omega⟩ ⟨by omega, by omega⟩)
        · rfl
        · rfl
        · rfl
        refine V_if_ne (tgt := 108) (Y := mX6_amount) (pc := 100) dX6_amount_100 (by decide) ⟨by omega, by omega⟩ (fun h_100 => ?_) (fun h_100 => ?_)
        · refine V_iconst (Y := mX6_amount) (pc := 108) dX6_amount_108 ?_
          refine V_iret (Y := mX6_amount) (pc := 109) dX6_amount_109 rfl (Nat.le_of_ble_eq_true rfl) (Nat.le_of_ble_eq_true rfl) ?_
          refine pR_I ?_
          unfold cAmt
          (repeat' split) <;> first | omega | (exfalso; apply h_123; assumption) | (exfalso; rename_i q; exact q h_123)
        · refine V_iload (Y := mX6_amount) (pc := 103) dX6_amount_103 rfl ?_
          refine V_goto (tgt := 109) (Y := mX6_amount) (pc := 105) dX6_amount_105 (by decide) ?_
          refine V_iret (Y := mX6_amount) (pc := 109) dX6_amount_109 rfl (Nat.le_of_ble_eq_true rfl) (Nat.le_of_ble_eq_true rfl) ?_
          refine pR_I ?_
          unfold cAmt
          (repeat' split) <;> first | omega | (exfalso; apply h_123; assumption) | (exfalso; rename_i q; exact q h_123)
    · refine V_iload (Y := mX6_amount) (pc := 65) dX6_amount_65 rfl ?_
      refine V_iconst (Y := mX6_amount) (pc := 67) dX6_amount_67 ?_
      refine V_icmp_ne (tgt := 110) (Y := mX6_amount) (pc := 68) dX6_amount_68 (by decide) ⟨by omega, by omega⟩ ⟨by omega, by omega⟩ (fun h_68 => ?_) (fun h_68 => ?_)
      · refine V_iload (Y := mX6_amount) (pc := 110) dX6_amount_110 rfl ?_
        refine V_iconst (Y := mX6_amount) (pc := 112) dX6_amount_112 ?_
        refine V_icmp_ne (tgt := 133) (Y := mX6_amount) (pc := 113) dX6_amount_113 (by decide) ⟨by omega, by omega⟩ ⟨by omega, by omega⟩ (fun h_113 => ?_) (fun h_113 => ?_)
        · refine V_iload (Y := mX6_amount) (pc := 133) dX6_amount_133 rfl ?_
          refine V_iconst (Y := mX6_amount) (pc := 135) dX6_amount_135 ?_
          refine V_icmp_ne (tgt := 144) (Y := mX6_amount) (pc := 136) dX6_amount_136 (by decide) ⟨by omega, by omega⟩ ⟨by omega, by omega⟩ (fun h_136 => ?_) (fun h_136 => ?_)
          · refine V_iload (Y := mX6_amount) (pc := 144) dX6_amount_144 rfl ?_
            refine V_iconst (Y := mX6_amount) (pc := 146) dX6_amount_146 ?_
            refine V_icmp_ne (tgt := 164) (Y := mX6_amount) (pc := 147) dX6_amount_147 (by decide) ⟨by omega, by omega⟩ ⟨by omega, by omega⟩ (fun h_147 => ?_) (fun h_147 => ?_)
            · refine V_iload (Y := mX6_amount) (pc := 164) dX6_amount_164 rfl ?_
              refine V_iret (Y := mX6_amount) (pc := 166) dX6_amount_166 rfl (Nat.le_of_ble_eq_true rfl) (Nat.le_of_ble_eq_true rfl) ?_
              refine pR_I ?_
              unfold cAmt
              (repeat' split) <;> first | omega | (exfalso; apply h_123; assumption) | (exfalso; rename_i q; exact q h_123)
            · refine V_iload (Y := mX6_amount) (pc := 150) dX6_amount_150 rfl ?_
              refine V_if_le (tgt := 160) (Y := mX6_amount) (pc := 152) dX6_amount_152 (by decide) ⟨by omega, by omega⟩ (fun h_152 => ?_) (fun h_152 => ?_)
              · refine V_iconst (Y := mX6_amount) (pc := 160) dX6_amount_160 ?_
                refine V_goto (tgt := 166) (Y := mX6_amount) (pc := 161) dX6_amount_161 (by decide) ?_
                refine V_iret (Y := mX6_amount) (pc := 166) dX6_amount_166 rfl (Nat.le_of_ble_eq_true rfl) (Nat.le_of_ble_eq_true rfl) ?_
                refine pR_I ?_
                unfold cAmt
                (repeat' split) <;> first | omega | (exfalso; apply h_123; assumption) | (exfalso; rename_i q; exact q h_123)
              · refine V_iload (Y := mX6_amount) (pc := 155) dX6_amount_155 rfl ?_
                refine V_goto (tgt := 166) (Y := mX6_amount) (pc := 157) dX6_amount_157 (by decide) ?_
                refine V_iret (Y := mX6_amount) (pc := 166) dX6_amount_166 rfl (Nat.le_of_ble_eq_true rfl) (Nat.le_of_ble_eq_true rfl) ?_
                refine pR_I ?_
                unfold cAmt
                (repeat' split) <;> first | omega | (exfalso; apply h_123; assumption) | (exfalso; rename_i q; exact q h_123)
          · refine V_iload (Y := mX6_amount) (pc := 139) dX6_amount_139 rfl ?_
            refine V_goto (tgt := 166) (Y := mX6_amount) (pc := 141) dX6_amount_141 (by decide) ?_
            refine V_iret (Y := mX6_amount) (pc := 166) dX6_amount_166 rfl (Nat.le_of_ble_eq_true rfl) (Nat.le_of_ble_eq_true rfl) ?_
            refine pR_I ?_
            unfold cAmt
            (repeat' split) <;> first | omega | (exfalso; apply h_123; assumption) | (exfalso; rename_i q; exact q h_123)
        · refine V_aload_n (Y := mX6_amount) (pc := 116) dX6_amount_116 rfl ?_
          refine V_iload_n (Y := mX6_amount) (pc := 117) dX6_amount_117 rfl ?_
          refine V_iload (Y := mX6_amount) (pc := 118) dX6_amount_118 rfl ?_
          apply V_vR (Y := mX6_amount) (pc := 120) dX6_amount_120 ok_X6_isBeside ov_X6_isBeside ln_X6_67 (cm_isBeside (s := s) (d := rAt (rs 2) c) hM0 hn hs k1)
          · assumption
          · rfl
          · rfl
          · rfl
          · rfl
          · rfl
          refine V_if_eqB (tgt := 130) (Y := mX6_amount) (pc := 123) dX6_amount_123 (by decide) (fun h_123 => ?_) (fun h_123 => ?_)
          · refine V_iload (Y := mX6_amount) (pc := 130) dX6_amount_130 rfl ?_
            refine V_iret (Y := mX6_amount) (pc := 132) dX6_amount_132 rfl (Nat.le_of_ble_eq_true rfl) (Nat.le_of_ble_eq_true rfl) ?_
            refine pR_I ?_
            unfold cAmt
            (repeat' split) <;> first | omega | (exfalso; apply h_123; assumption) | (exfalso; rename_i q; exact q h_123)
          · refine V_iconst (Y := mX6_amount) (pc := 126) dX6_amount_126 ?_
            refine V_goto (tgt := 132) (Y := mX6_amount) (pc := 127) dX6_amount_127 (by decide) ?_
            refine V_iret (Y := mX6_amount) (pc := 132) dX6_amount_132 rfl (Nat.le_of_ble_eq_true rfl) (Nat.le_of_ble_eq_true rfl) ?_
            refine pR_I ?_
            unfold cAmt
            (repeat' split) <;> first | omega | (exfalso; apply h_123; assumption) | (exfalso; rename_i q; exact q h_123)
      · refine V_iload (Y := mX6_amount) (pc := 71) dX6_amount_71 rfl ?_
        refine V_iconst (Y := mX6_amount) (pc := 73) dX6_amount_73 ?_
        refine V_icmp_ne (tgt := 82) (Y := mX6_amount) (pc := 74) dX6_amount_74 (by decide) ⟨by omega, by omega⟩ ⟨by omega, by omega⟩ (fun h_74 => ?_) (fun h_74 => ?_)
        · refine V_iload (Y := mX6_amount) (pc := 82) dX6_amount_82 rfl ?_
          refine V_if_le (tgt := 91) (Y := mX6_amount) (pc := 84) dX6_amount_84 (by decide) ⟨by omega, by omega⟩ (fun h_84 => ?_) (fun h_84 => ?_)
          · refine V_iconst (Y := mX6_amount) (pc := 91) dX6_amount_91 ?_
            refine V_istore (Y := mX6_amount) (pc := 92) dX6_amount_92 rfl ?_
            refine V_iload_n (Y := mX6_amount) (pc := 94) dX6_amount_94 rfl ?_
            refine V_iload (Y := mX6_amount) (pc := 95) dX6_amount_95 rfl ?_
            apply V_sR (Y := mX6_amount) (pc := 97) dX6_amount_97 ok_X6_outIn os_X6_outIn ln_X6_64 (cm_outIn (s := s) (d := rAt (rs 2) c) hs.1 ⟨by omega, by omega⟩ ⟨by omega, by omega⟩)
            · rfl
            · rfl
            · rfl
            refine V_if_ne (tgt := 108) (Y := mX6_amount) (pc := 100) dX6_amount_100 (by decide) ⟨by omega, by omega⟩ (fun h_100 => ?_) (fun h_100 => ?_)
            · refine V_iconst (Y := mX6_amount) (pc := 108) dX6_amount_108 ?_
              refine V_iret (Y := mX6_amount) (pc := 109) dX6_amount_109 rfl (Nat.le_of_ble_eq_true rfl) (Nat.le_of_ble_eq_true rfl) ?_
              refine pR_I ?_
              unfold cAmt
              (repeat' split) <;> first | omega | (exfalso; apply h_123; assumption) | (exfalso; rename_i q; exact q h_123)
            · refine V_iload (Y := mX6_amount) (pc := 103) dX6_amount_103 rfl ?_
              refine V_goto (tgt := 109) (Y := mX6_amount) (pc := 105) dX6_amount_105 (by decide) ?_
              refine V_iret (Y := mX6_amount) (pc := 109) dX6_amount_109 rfl (Nat.le_of_ble_eq_true rfl) (Nat.le_of_ble_eq_true rfl) ?_
              refine pR_I ?_
              unfold cAmt
              (repeat' split) <;> first | omega | (exfalso; apply h_123; assumption) | (exfalso; rename_i q; exact q h_123)
          · refine V_iconst (Y := mX6_amount) (pc := 87) dX6_amount_87 ?_
            refine V_goto (tgt := 92) (Y := mX6_amount) (pc := 88) dX6_amount_88 (by decide) ?_
            refine V_istore (Y := mX6_amount) (pc := 92) dX6_amount_92 rfl ?_
            refine V_iload_n (Y := mX6_amount) (pc := 94) dX6_amount_94 rfl ?_
            refine V_iload (Y := mX6_amount) (pc := 95) dX6_amount_95 rfl ?_
            apply V_sR (Y := mX6_amount) (pc := 97) dX6_amount_97 ok_X6_outIn os_X6_outIn ln_X6_64 (cm_outIn (s := s) (d := rAt (rs 2) c) hs.1 ⟨by omega, by omega⟩ ⟨by omega, by omega⟩)
            · rfl
            · rfl
            · rfl
            refine V_if_ne (tgt := 108) (Y := mX6_amount) (pc := 100) dX6_amount_100 (by decide) ⟨by omega, by omega⟩ (fun h_100 => ?_) (fun h_100 => ?_)
            · refine V_iconst (Y := mX6_amount) (pc := 108) dX6_amount_108 ?_
              refine V_iret (Y := mX6_amount) (pc := 109) dX6_amount_109 rfl (Nat.le_of_ble_eq_true rfl) (Nat.le_of_ble_eq_true rfl) ?_
              refine pR_I ?_
              unfold cAmt
              (repeat' split) <;> first | omega | (exfalso; apply h_123; assumption) | (exfalso; rename_i q; exact q h_123)
            · refine V_iload (Y := mX6_amount) (pc := 103) dX6_amount_103 rfl ?_
              refine V_goto (tgt := 109) (Y := mX6_amount) (pc := 105) dX6_amount_105 (by decide) ?_
              refine V_iret (Y := mX6_amount) (pc := 109) dX6_amount_109 rfl (Nat.le_of_ble_eq_true rfl) (Nat.le_of_ble_eq_true rfl) ?_
              refine pR_I ?_
              unfold cAmt
              (repeat' split) <;> first | omega | (exfalso; apply h_123; assumption) | (exfalso; rename_i q; exact q h_123)
        · refine V_iload (Y := mX6_amount) (pc := 77) dX6_amount_77 rfl ?_
          refine V_goto (tgt := 92) (Y := mX6_amount) (pc := 79) dX6_amount_79 (by decide) ?_
          refine V_istore (Y := mX6_amount) (pc := 92) dX6_amount_92 rfl ?_
          refine V_iload_n (Y := mX6_amount) (pc := 94) dX6_amount_94 rfl ?_
          refine V_iload (Y := mX6_amount) (pc := 95) dX6_amount_95 rfl ?_
          apply V_sR (Y := mX6_amount) (pc := 97) dX6_amount_97 ok_X6_outIn os_X6_outIn ln_X6_64 (cm_outIn (s := s) (d := rAt (rs 2) c) hs.1 ⟨by omega, by omega⟩ ⟨by omega, by omega⟩)
          · rfl
          · rfl
          · rfl
          refine V_if_ne (tgt := 108) (Y := mX6_amount) (pc := 100) dX6_amount_100 (by decide) ⟨by omega, by omega⟩ (fun h_100 => ?_) (fun h_100 => ?_)
          · refine V_iconst (Y := mX6_amount) (pc := 108) dX6_amount_108 ?_
            refine V_iret (Y := mX6_amount) (pc := 109) dX6_amount_109 rfl (Nat.le_of_ble_eq_true rfl) (Nat.le_of_ble_eq_true rfl) ?_
            refine pR_I ?_
            unfold cAmt
            (repeat' split) <;> first | omega | (exfalso; apply h_123; assumption) | (exfalso; rename_i q; exact q h_123)
          · refine V_iload (Y := mX6_amount) (pc := 103) dX6_amount_103 rfl ?_
            refine V_goto (tgt := 109) (Y := mX6_amount) (pc := 105) dX6_amount_105 (by decide) ?_
            refine V_iret (Y := mX6_amount) (pc := 109) dX6_amount_109 rfl (Nat.le_of_ble_eq_true rfl) (Nat.le_of_ble_eq_true rfl) ?_
            refine pR_I ?_
            unfold cAmt
            (repeat' split) <;> first | omega | (exfalso; apply h_123; assumption) | (exfalso; rename_i q; exact q h_123)
  · refine V_iload (Y := mX6_amount) (pc := 49) dX6_amount_49 rfl ?_
    refine V_goto (tgt := 57) (Y := mX6_amount) (pc := 51) dX6_amount_51 (by decide) ?_
    refine V_istore (Y := mX6_amount) (pc := 57) dX6_amount_57 rfl ?_
    refine V_iload (Y := mX6_amount) (pc := 59) dX6_amount_59 rfl ?_
    refine V_iconst (Y := mX6_amount) (pc := 61) dX6_amount_61 ?_
    refine V_icmp_eq (tgt := 71) (Y := mX6_amount) (pc := 62) dX6_amount_62 (by decide) ⟨by omega, by omega⟩ ⟨by omega, by omega⟩ (fun h_62 => ?_) (fun h_62 => ?_)
    · refine V_iload (Y := mX6_amount) (pc := 71) dX6_amount_71 rfl ?_
      refine V_iconst (Y := mX6_amount) (pc := 73) dX6_amount_73 ?_
      refine V_icmp_ne (tgt := 82) (Y := mX6_amount) (pc := 74) dX6_amount_74 (by decide) ⟨by omega, by omega⟩ ⟨by omega, by omega⟩ (fun h_74 => ?_) (fun h_74 => ?_)
      · refine V_iload (Y := mX6_amount) (pc := 82) dX6_amount_82 rfl ?_
        refine V_if_le (tgt := 91) (Y := mX6_amount) (pc := 84) dX6_amount_84 (by decide) ⟨by omega, by omega⟩ (fun h_84 => ?_) (fun h_84 => ?_)
        · refine V_iconst (Y := mX6_amount) (pc := 91) dX6_amount_91 ?_
          refine V_istore (Y := mX6_amount) (pc := 92) dX6_amount_92 rfl ?_
          refine V_iload_n (Y := mX6_amount) (pc := 94) dX6_amount_94 rfl ?_
          refine V_iload (Y := mX6_amount) (pc := 95) dX6_amount_95 rfl ?_
          apply V_sR (Y := mX6_amount) (pc := 97) dX6_amount_97 ok_X6_outIn os_X6_outIn ln_X6_64 (cm_outIn (s := s) (d := rAt (rs 2) c) hs.1 ⟨by omega, by omega⟩ ⟨by omega, by omega⟩)
          · rfl
          · rfl
          · rfl
          refine V_if_ne (tgt := 108) (Y := mX6_amount) (pc := 100) dX6_amount_100 (by decide) ⟨by omega, by omega⟩ (fun h_100 => ?_) (fun h_100 => ?_)
          · refine V_iconst (Y := mX6_amount) (pc := 108) dX6_amount_108 ?_
            refine V_iret (Y := mX6_amount) (pc := 109) dX6_amount_109 rfl (Nat.le_of_ble_eq_true rfl) (Nat.le_of_ble_eq_true rfl) ?_
            refine pR_I ?_
            unfold cAmt
            (repeat' split) <;> first | omega | (exfalso; apply h_123; assumption) | (exfalso; rename_i q; exact q h_123)
          · refine V_iload (Y := mX6_amount) (pc := 103) dX6_amount_103 rfl ?_
            refine V_goto (tgt := 109) (Y := mX6_amount) (pc := 105) dX6_amount_105 (by decide) ?_
            refine V_iret (Y := mX6_amount) (pc := 109) dX6_amount_109 rfl (Nat.le_of_ble_eq_true rfl) (Nat.le_of_ble_eq_true rfl) ?_
            refine pR_I ?_
            unfold cAmt
            (repeat' split) <;> first | omega | (exfalso; apply h_123; assumption) | (exfalso; rename_i q; exact q h_123)
        · refine V_iconst (Y := mX6_amount) (pc := 87) dX6_amount_87 ?_
          refine V_goto (tgt := 92) (Y := mX6_amount) (pc := 88) dX6_amount_88 (by decide) ?_
          refine V_istore (Y := mX6_amount) (pc := 92) dX6_amount_92 rfl ?_
          refine V_iload_n (Y := mX6_amount) (pc := 94) dX6_amount_94 rfl ?_
          refine V_iload (Y := mX6_amount) (pc := 95) dX6_amount_95 rfl ?_
          apply V_sR (Y := mX6_amount) (pc := 97) dX6_amount_97 ok_X6_outIn os_X6_outIn ln_X6_64 (cm_outIn (s := s) (d := rAt (rs 2) c) hs.1 ⟨by omega, by omega⟩ ⟨by omega, by omega⟩)
          · rfl
          · rfl
          · rfl
          refine V_if_ne (tgt := 108) (Y := mX6_amount) (pc := 100) dX6_amount_100 (by decide) ⟨by omega, by omega⟩ (fun h_100 => ?_) (fun h_100 => ?_)
          · refine V_iconst (Y := mX6_amount) (pc := 108) dX6_amount_108 ?_
            refine V_iret (Y := mX6_amount) (pc := 109) dX6_amount_109 rfl (Nat.le_of_ble_eq_true rfl) (Nat.le_of_ble_eq_true rfl) ?_
            refine pR_I ?_
            unfold cAmt
            (repeat' split) <;> first | omega | (exfalso; apply h_123; assumption) | (exfalso; rename_i q; exact q h_123)
          · refine V_iload (Y := mX6_amount) (pc := 103) dX6_amount_103 rfl ?_
            refine V_goto (tgt := 109) (Y := mX6_amount) (pc := 105) dX6_amount_105 (by decide) ?_
            refine V_iret (Y := mX6_amount) (pc := 109) dX6_amount_109 rfl (Nat.le_of_ble_eq_true rfl) (Nat.le_of_ble_eq_true rfl) ?_
            refine pR_I ?_
            unfold cAmt
            (repeat' split) <;> first | omega | (exfalso; apply h_123; assumption) | (exfalso; rename_i q; exact q h_123)
      · refine V_iload (Y := mX6_amount) (pc := 77) dX6_amount_77 rfl ?_
        refine V_goto (tgt := 92) (Y := mX6_amount) (pc := 79) dX6_amount_79 (by decide) ?_
        refine V_istore (Y := mX6_amount) (pc := 92) dX6_amount_92 rfl ?_
        refine V_iload_n (Y := mX6_amount) (pc := 94) dX6_amount_94 rfl ?_
        refine V_iload (Y := mX6_amount) (pc := 95) dX6_amount_95 rfl ?_
        apply V_sR (Y := mX6_amount) (pc := 97) dX6_amount_97 ok_X6_outIn os_X6_outIn ln_X6_64 (cm_outIn (s := s) (d := rAt (rs 2) c) hs.1 ⟨by omega, by omega⟩ ⟨by omega, by omega⟩)
        · rfl
        · rfl
        · rfl
        refine V_if_ne (tgt := 108) (Y := mX6_amount) (pc := 100) dX6_amount_100 (by decide) ⟨by omega, by omega⟩ (fun h_100 => ?_) (fun h_100 => ?_)
        · refine V_iconst (Y := mX6_amount) (pc := 108) dX6_amount_108 ?_
          refine V_iret (Y := mX6_amount) (pc := 109) dX6_amount_109 rfl (Nat.le_of_ble_eq_true rfl) (Nat.le_of_ble_eq_true rfl) ?_
          refine pR_I ?_
          unfold cAmt
          (repeat' split) <;> first | omega | (exfalso; apply h_123; assumption) | (exfalso; rename_i q; exact q h_123)
        · refine V_iload (Y := mX6_amount) (pc := 103) dX6_amount_103 rfl ?_
          refine V_goto (tgt := 109) (Y := mX6_amount) (pc := 105) dX6_amount_105 (by decide) ?_
          refine V_iret (Y := mX6_amount) (pc := 109) dX6_amount_109 rfl (Nat.le_of_ble_eq_true rfl) (Nat.le_of_ble_eq_true rfl) ?_
          refine pR_I ?_
          unfold cAmt
          (repeat' split) <;> first | omega | (exfalso; apply h_123; assumption) | (exfalso; rename_i q; exact q h_123)
    · refine V_iload (Y := mX6_amount) (pc := 65) dX6_amount_65 rfl ?_
      refine V_iconst (Y := mX6_amount) (pc := 67) dX6_amount_67 ?_
      refine V_icmp_ne (tgt := 110) (Y := mX6_amount) (pc := 68) dX6_amount_68 (by decide) ⟨by omega, by omega⟩ ⟨by omega, by omega⟩ (fun h_68 => ?_) (fun h_68 => ?_)
      · refine V_iload (Y := mX6_amount) (pc := 110) dX6_amount_110 rfl ?_
        refine V_iconst (Y := mX6_amount) (pc := 112) dX6_amount_112 ?_
        refine V_icmp_ne (tgt := 133) (Y := mX6_amount) (pc := 113) dX6_amount_113 (by decide) ⟨by omega, by omega⟩ ⟨by omega, by omega⟩ (fun h_113 => ?_) (fun h_113 => ?_)
        · refine V_iload (Y := mX6_amount) (pc := 133) dX6_amount_133 rfl ?_
          refine V_iconst (Y := mX6_amount) (pc := 135) dX6_amount_135 ?_
          refine V_icmp_ne (tgt := 144) (Y := mX6_amount) (pc := 136) dX6_amount_136 (by decide) ⟨by omega, by omega⟩ ⟨by omega, by omega⟩ (fun h_136 => ?_) (fun h_136 => ?_)
          · refine V_iload (Y := mX6_amount) (pc := 144) dX6_amount_144 rfl ?_
            refine V_iconst (Y := mX6_amount) (pc := 146) dX6_amount_146 ?_
            refine V_icmp_ne (tgt := 164) (Y := mX6_amount) (pc := 147) dX6_amount_147 (by decide) ⟨by omega, by omega⟩ ⟨by omega, by omega⟩ (fun h_147 => ?_) (fun h_147 => ?_)
            · refine V_iload (Y := mX6_amount) (pc := 164) dX6_amount_164 rfl ?_
              refine V_iret (Y := mX6_amount) (pc := 166) dX6_amount_166 rfl (Nat.le_of_ble_eq_true rfl) (Nat.le_of_ble_eq_true rfl) ?_
              refine pR_I ?_
              unfold cAmt
              (repeat' split) <;> first | omega | (exfalso; apply h_123; assumption) | (exfalso; rename_i q; exact q h_123)
            · refine V_iload (Y := mX6_amount) (pc := 150) dX6_amount_150 rfl ?_
              refine V_if_le (tgt := 160) (Y := mX6_amount) (pc := 152) dX6_amount_152 (by decide) ⟨by omega, by omega⟩ (fun h_152 => ?_) (fun h_152 => ?_)
              · refine V_iconst (Y := mX6_amount) (pc := 160) dX6_amount_160 ?_
                refine V_goto (tgt := 166) (Y := mX6_amount) (pc := 161) dX6_amount_161 (by decide) ?_
                refine V_iret (Y := mX6_amount) (pc := 166) dX6_amount_166 rfl (Nat.le_of_ble_eq_true rfl) (Nat.le_of_ble_eq_true rfl) ?_
                refine pR_I ?_
                unfold cAmt
                (repeat' split) <;> first | omega | (exfalso; apply h_123; assumption) | (exfalso; rename_i q; exact q h_123)
              · refine V_iload (Y := mX6_amount) (pc := 155) dX6_amount_155 rfl ?_
                refine V_goto (tgt := 166) (Y := mX6_amount) (pc := 157) dX6_amount_157 (by decide) ?_
                refine V_iret (Y := mX6_amount) (pc := 166) dX6_amount_166 rfl (Nat.le_of_ble_eq_true rfl) (Nat.le_of_ble_eq_true rfl) ?_
                refine pR_I ?_
                unfold cAmt
                (repeat' split) <;> first | omega | (exfalso; apply h_123; assumption) | (exfalso; rename_i q; exact q h_123)
          · refine V_iload (Y := mX6_amount) (pc := 139) dX6_amount_139 rfl ?_
            refine V_goto (tgt := 166) (Y := mX6_amount) (pc := 141) dX6_amount_141 (by decide) ?_
            refine V_iret (Y := mX6_amount) (pc := 166) dX6_amount_166 rfl (Nat.le_of_ble_eq_true rfl) (Nat.le_of_ble_eq_true rfl) ?_
            refine pR_I ?_
            unfold cAmt
            (repeat' split) <;> first | omega | (exfalso; apply h_123; assumption) | (exfalso; rename_i q; exact q h_123)
        · refine V_aload_n (Y := mX6_amount) (pc := 116) dX6_amount_116 rfl ?_
          refine V_iload_n (Y := mX6_amount) (pc := 117) dX6_amount_117 rfl ?_
          refine V_iload (Y := mX6_amount) (pc := 118) dX6_amount_118 rfl ?_
          apply V_vR (Y := mX6_amount) (pc := 120) dX6_amount_120 ok_X6_isBeside ov_X6_isBeside ln_X6_67 (cm_isBeside (s := s) (d := rAt (rs 2) c) hM0 hn hs k1)
          · assumption
          · rfl
          · rfl
          · rfl
          · rfl
          · rfl
          refine V_if_eqB (tgt := 130) (Y := mX6_amount) (pc := 123) dX6_amount_123 (by decide) (fun h_123 => ?_) (fun h_123 => ?_)
          · refine V_iload (Y := mX6_amount) (pc := 130) dX6_amount_130 rfl ?_
            refine V_iret (Y := mX6_amount) (pc := 132) dX6_amount_132 rfl (Nat.le_of_ble_eq_true rfl) (Nat.le_of_ble_eq_true rfl) ?_
            refine pR_I ?_
            unfold cAmt
            (repeat' split) <;> first | omega | (exfalso; apply h_123; assumption) | (exfalso; rename_i q; exact q h_123)
          · refine V_iconst (Y := mX6_amount) (pc := 126) dX6_amount_126 ?_
            refine V_goto (tgt := 132) (Y := mX6_amount) (pc := 127) dX6_amount_127 (by decide) ?_
            refine V_iret (Y := mX6_amount) (pc := 132) dX6_amount_132 rfl (Nat.le_of_ble_eq_true rfl) (Nat.le_of_ble_eq_true rfl) ?_
            refine pR_I ?_
            unfold cAmt
            (repeat' split) <;> first | omega | (exfalso; apply h_123; assumption) | (exfalso; rename_i q; exact q h_123)
      · refine V_iload (Y := mX6_amount) (pc := 71) dX6_amount_71 rfl ?_
        refine V_iconst (Y := mX6_amount) (pc := 73) dX6_amount_73 ?_
        refine V_icmp_ne (tgt := 82) (Y := mX6_amount) (pc := 74) dX6_amount_74 (by decide) ⟨by omega, by omega⟩ ⟨by omega, by omega⟩ (fun h_74 => ?_) (fun h_74 => ?_)
        · refine V_iload (Y := mX6_amount) (pc := 82) dX6_amount_82 rfl ?_
          refine V_if_le (tgt := 91) (Y := mX6_amount) (pc := 84) dX6_amount_84 (by decide) ⟨by omega, by omega⟩ (fun h_84 => ?_) (fun h_84 => ?_)
          · refine V_iconst (Y := mX6_amount) (pc := 91) dX6_amount_91 ?_
            refine V_istore (Y := mX6_amount) (pc := 92) dX6_amount_92 rfl ?_
            refine V_iload_n (Y := mX6_amount) (pc := 94) dX6_amount_94 rfl ?_
            refine V_iload (Y := mX6_amount) (pc := 95) dX6_amount_95 rfl ?_
            apply V_sR (Y := mX6_amount) (pc := 97) dX6_amount_97 ok_X6_outIn os_X6_outIn ln_X6_64 (cm_outIn (s := s) (d := rAt (rs 2) c) hs.1 ⟨by omega, by omega⟩ ⟨by omega, by omega⟩)
            · rfl
            · rfl
            · rfl
            refine V_if_ne (tgt := 108) (Y := mX6_amount) (pc := 100) dX6_amount_100 (by decide) ⟨by omega, by omega⟩ (fun h_100 => ?_) (fun h_100 => ?_)
            · refine V_iconst (Y := mX6_amount) (pc := 108) dX6_amount_108 ?_
              refine V_iret (Y := mX6_amount) (pc := 109) dX6_amount_109 rfl (Nat.le_of_ble_eq_true rfl) (Nat.le_of_ble_eq_true rfl) ?_
              refine pR_I ?_
              unfold cAmt
              (repeat' split) <;> first | omega | (exfalso; apply h_123; assumption) | (exfalso; rename_i q; exact q h_123)
            · refine V_iload (Y := mX6_amount) (pc := 103) dX6_amount_103 rfl ?_
              refine V_goto (tgt := 109) (Y := mX6_amount) (pc := 105) dX6_amount_105 (by decide) ?_
              refine V_iret (Y := mX6_amount) (pc := 109) dX6_amount_109 rfl (Nat.le_of_ble_eq_true rfl) (Nat.le_of_ble_eq_true rfl) ?_
              refine pR_I ?_
              unfold cAmt
              (repeat' split) <;> first | omega | (exfalso; apply h_123; assumption) | (exfalso; rename_i q; exact q h_123)
          · refine V_iconst (Y := mX6_amount) (pc := 87) dX6_amount_87 ?_
            refine V_goto (tgt := 92) (Y := mX6_amount) (pc := 88) dX6_amount_88 (by decide) ?_
            refine V_istore (Y := mX6_amount) (pc := 92) dX6_amount_92 rfl ?_
            refine V_iload_n (Y := mX6_amount) (pc := 94) dX6_amount_94 rfl ?_
            refine V_iload (Y := mX6_amount) (pc := 95) dX6_amount_95 rfl ?_
            apply V_sR (Y := mX6_amount) (pc := 97) dX6_amount_97 ok_X6_outIn os_X6_outIn ln_X6_64 (cm_outIn (s := s) (d := rAt (rs 2) c) hs.1 ⟨by omega, by omega⟩ ⟨by omega, by omega⟩)
            · rfl
            · rfl
            · rfl
            refine V_if_ne (tgt := 108) (Y := mX6_amount) (pc := 100) dX6_amount_100 (by decide) ⟨by omega, by omega⟩ (fun h_100 => ?_) (fun h_100 => ?_)
            · refine V_iconst (Y := mX6_amount) (pc := 108) dX6_amount_108 ?_
              refine V_iret (Y := mX6_amount) (pc := 109) dX6_amount_109 rfl (Nat.le_of_ble_eq_true rfl) (Nat.le_of_ble_eq_true rfl) ?_
              refine pR_I ?_
              unfold cAmt
              (repeat' split) <;> first | omega | (exfalso; apply h_123; assumption) | (exfalso; rename_i q; exact q h_123)
            · refine V_iload (Y := mX6_amount) (pc := 103) dX6_amount_103 rfl ?_
              refine V_goto (tgt := 109) (Y := mX6_amount) (pc := 105) dX6_amount_105 (by decide) ?_
              refine V_iret (Y := mX6_amount) (pc := 109) dX6_amount_109 rfl (Nat.le_of_ble_eq_true rfl) (Nat.le_of_ble_eq_true rfl) ?_
              refine pR_I ?_
              unfold cAmt
              (repeat' split) <;> first | omega | (exfalso; apply h_123; assumption) | (exfalso; rename_i q; exact q h_123)
        · refine V_iload (Y := mX6_amount) (pc := 77) dX6_amount_77 rfl ?_
          refine V_goto (tgt := 92) (Y := mX6_amount) (pc := 79) dX6_amount_79 (by decide) ?_
          refine V_istore (Y := mX6_amount) (pc := 92) dX6_amount_92 rfl ?_
          refine V_iload_n (Y := mX6_amount) (pc := 94) dX6_amount_94 rfl ?_
          refine V_iload (Y := mX6_amount) (pc := 95) dX6_amount_95 rfl ?_
          apply V_sR (Y := mX6_amount) (pc := 97) dX6_amount_97 ok_X6_outIn os_X6_outIn ln_X6_64 (cm_outIn (s := s) (d := rAt (rs 2) c) hs.1 ⟨by omega, by omega⟩ ⟨by omega, by omega⟩)
          · rfl
          · rfl
          · rfl
          refine V_if_ne (tgt := 108) (Y := mX6_amount) (pc := 100) dX6_amount_100 (by decide) ⟨by omega, by omega⟩ (fun h_100 => ?_) (fun h_100 => ?_)
          · refine V_iconst (Y := mX6_amount) (pc := 108) dX6_amount_108 ?_
            refine V_iret (Y := mX6_amount) (pc := 109) dX6_amount_109 rfl (Nat.le_of_ble_eq_true rfl) (Nat.le_of_ble_eq_true rfl) ?_
            refine pR_I ?_
            unfold cAmt
            (repeat' split) <;> first | omega | (exfalso; apply h_123; assumption) | (exfalso; rename_i q; exact q h_123)
          · refine V_iload (Y := mX6_amount) (pc := 103) dX6_amount_103 rfl ?_
            refine V_goto (tgt := 109) (Y := mX6_amount) (pc := 105) dX6_amount_105 (by decide) ?_
            refine V_iret (Y := mX6_amount) (pc := 109) dX6_amount_109 rfl (Nat.le_of_ble_eq_true rfl) (Nat.le_of_ble_eq_true rfl) ?_
            refine pR_I ?_
            unfold cAmt
            (repeat' split) <;> first | omega | (exfalso; apply h_123; assumption) | (exfalso; rename_i q; exact q h_123)
set_option maxRecDepth 100000 in
theorem lpm_pulled {s d o t0 : Int} {x : Int32} (hM : MS w n now ca po fo rs) (hn : 2 ≤ n ∧ n ≤ 7) (hcv : cvOK n rs) (hd : isD n d) (ho2 : o = 0 ∨ o = 1) (ht0 : isS n t0) : ∀ (m : Nat) (i : Int), 0 ≤ i → i ≤ (rs 1).length → ((rs 1).length - i).toNat < m →
    V mX6_pulled (rm 4) (pR (vI (cRun rs x d o t0 (rs 1).length)) nn w) 67 [some (.ref 99), some (vI s), some (vI d), some (.int x), some (vI o), some (vI (cRun rs x d o t0 i.toNat)), some (vI i), none, none, none] [] nn w 0 0 := by
  intro m
  induction m with
  | zero => intro i h1 h2 h3; omega
  | succ m ih =>
    intro i hi hi2 hm
    have hM0 := hM
    obtain ⟨f, ⟨qt, ty, a0, sp, tk, vl, mn, fd, sv, ho⟩, hb, hB⟩ := hM
    have hl := hB.2.1.1
    have e1 : f (1 : Int).toNat = (rs 1).length := hB.1.1.2.1
    have hr := cRun_rng (by omega) hcv x d o ht0.1 ht0.2 i.toNat (by omega)
    have hp := p3_le n.toNat (by omega)
    have k := ih (i + 1) (by omega)
    rw [show (i + 1).toNat = i.toNat + 1 by omega, cRun, show ((i.toNat : Nat) : Int) = i by omega] at k
    generalize hT : cRun rs x d o t0 i.toNat = t at *
    have hck := hcv.2 i hi
    have hbk := hB.2.2.2.1 i hi
    have hg := dg_rng t (rAt (rs 2) i).toNat
    refine V_iload (Y := mX6_pulled) (pc := 67) dX6_pulled_67 rfl ?_
    refine V_aload_n (Y := mX6_pulled) (pc := 69) dX6_pulled_69 rfl ?_
    apply V_get (Y := mX6_pulled) (pc := 70) dX6_pulled_70 fl_X6_7
    · assumption
    · rfl
    refine V_iconst (Y := mX6_pulled) (pc := 73) dX6_pulled_73 ?_
    apply V_iald (Y := mX6_pulled) (pc := 74) dX6_pulled_74
    · assumption
    · exact ⟨by omega, by omega⟩
    · omega
    rw [e1]
    refine V_icmp_ge (tgt := 189) (Y := mX6_pulled) (pc := 75) dX6_pulled_75 (by decide) ⟨by omega, by omega⟩ ⟨by omega, by omega⟩ (fun h_75 => ?_) (fun h_75 => ?_)
    · refine V_iload (Y := mX6_pulled) (pc := 189) dX6_pulled_189 rfl ?_
      refine V_iret (Y := mX6_pulled) (pc := 191) dX6_pulled_191 rfl (Nat.le_of_ble_eq_true rfl) (Nat.le_of_ble_eq_true rfl) ?_
      exact pR_I (by rw [← hT, show i.toNat = (rs 1).length by omega])
    · refine V_iload_n (Y := mX6_pulled) (pc := 78) dX6_pulled_78 rfl ?_
      refine V_iload (Y := mX6_pulled) (pc := 79) dX6_pulled_79 rfl ?_
      refine V_ishr (Y := mX6_pulled) (pc := 81) dX6_pulled_81 (rfl) ?_
      refine V_iconst (Y := mX6_pulled) (pc := 82) dX6_pulled_82 ?_
      refine V_iand (Y := mX6_pulled) (pc := 83) dX6_pulled_83 (bit_iI x i) ?_
      refine V_iconst (Y := mX6_pulled) (pc := 84) dX6_pulled_84 ?_
      refine V_icmp_ne (tgt := 183) (Y := mX6_pulled) (pc := 85) dX6_pulled_85 (by decide) (cI_R _) ⟨by omega, by omega⟩ (fun h_85 => ?_) (fun h_85 => ?_)
      · have hlt : i < (rs 1).length := by omega
        have hc := hck hlt
        have hc1 := hc.1
        have hto := hc.2.1
        have ha := cAmt_rng hc t o
        obtain ⟨b1, b2, b3, b4⟩ := hbk hlt
        refine V_iinc (Y := mX6_pulled) (pc := 183) dX6_pulled_183 rfl rfl ?_
        refine V_goto (tgt := 67) (Y := mX6_pulled) (pc := 186) dX6_pulled_186 (by decide) ?_
        refine V_drop 7 (V_drop 8 (V_drop 9 ?_))
        first
          | (exfalso; omega)
          | (have e : cStep rs x d o i t = t + (0 - dg t (rAt (rs 2) i).toNat) * p3 (rAt (rs 2) i).toNat := (cStep_t ⟨cI_1.mp h_85, h_101⟩).trans (mv_c (by omega))
             rw [e] at k; exact k (by omega) (by omega))
          | (have e : cStep rs x d o i t = t + (2 - dg t (rAt (rs 2) i).toNat) * p3 (rAt (rs 2) i).toNat := (cStep_t ⟨cI_1.mp h_85, h_101⟩).trans (mv_c (by omega))
             rw [e] at k; exact k (by omega) (by omega))
          | (have e : cStep rs x d o i t = t + (dg t (rAt (rs 2) i).toNat + cAmt rs i t o - dg t (rAt (rs 2) i).toNat) * p3 (rAt (rs 2) i).toNat := (cStep_t ⟨cI_1.mp h_85, h_101⟩).trans (mv_c (by omega))
             rw [e] at k; exact k (by omega) (by omega))
          | (have e : cStep rs x d o i t = t := cStep_f (fun q => h_101 q.2)
             rw [e] at k; exact k (by omega) (by omega))
          | (have e : cStep rs x d o i t = t := cStep_f (fun q => h_85 (cI_1.mpr q.1))
             rw [e] at k; exact k (by omega) (by omega))
      · have hlt : i < (rs 1).length := by omega
        have hc := hck hlt
        have hc1 := hc.1
        have hto := hc.2.1
        have ha := cAmt_rng hc t o
        obtain ⟨b1, b2, b3, b4⟩ := hbk hlt
        refine V_aload_n (Y := mX6_pulled) (pc := 88) dX6_pulled_88 rfl ?_
        apply V_get (Y := mX6_pulled) (pc := 89) dX6_pulled_89 fl_X6_7
        · assumption
        · rfl
        refine V_bipush (Y := mX6_pulled) (pc := 92) dX6_pulled_92 ⟨by decide, by decide⟩ ?_
        refine V_iconst (Y := mX6_pulled) (pc := 94) dX6_pulled_94 ?_
        refine V_iload (Y := mX6_pulled) (pc := 95) dX6_pulled_95 rfl ?_
        refine V_imul (Y := mX6_pulled) (pc := 97) dX6_pulled_97 ?_
        refine V_iadd (Y := mX6_pulled) (pc := 98) dX6_pulled_98 ?_
        apply V_iald (Y := mX6_pulled) (pc := 99) dX6_pulled_99
        · assumption
        · exact ⟨by omega, by omega⟩
        · omega
        rw [b1]
        refine V_iload_n (Y := mX6_pulled) (pc := 100) dX6_pulled_100 rfl ?_
        refine V_icmp_ne (tgt := 183) (Y := mX6_pulled) (pc := 101) dX6_pulled_101 (by decide) ⟨by omega, by omega⟩ ⟨by omega, by omega⟩ (fun h_101 => ?_) (fun h_101 => ?_)
        · refine V_iinc (Y := mX6_pulled) (pc := 183) dX6_pulled_183 rfl rfl ?_
          refine V_goto (tgt := 67) (Y := mX6_pulled) (pc := 186) dX6_pulled_186 (by decide) ?_
          refine V_drop 7 (V_drop 8 (V_drop 9 ?_))
          first
            | (exfalso; omega)
            | (have e : cStep rs x d o i t = t + (0 - dg t (rAt (rs 2) i).toNat) * p3 (rAt (rs 2) i).toNat := (cStep_t ⟨cI_1.mp h_85, h_101⟩).trans (mv_c (by omega))
               rw [e] at k; exact k (by omega) (by omega))
            | (have e : cStep rs x d o i t = t + (2 - dg t (rAt (rs 2) i).toNat) * p3 (rAt (rs 2) i).toNat := (cStep_t ⟨cI_1.mp h_85, h_101⟩).trans (mv_c (by omega))
               rw [e] at k; exact k (by omega) (by omega))
            | (have e : cStep rs x d o i t = t + (dg t (rAt (rs 2) i).toNat + cAmt rs i t o - dg t (rAt (rs 2) i).toNat) * p3 (rAt (rs 2) i).toNat := (cStep_t ⟨cI_1.mp h_85, h_101⟩).trans (mv_c (by omega))
               rw [e] at k; exact k (by omega) (by omega))
            | (have e : cStep rs x d o i t = t := cStep_f (fun q => h_101 q.2)
               rw [e] at k; exact k (by omega) (by omega))
            | (have e : cStep rs x d o i t = t := cStep_f (fun q => h_85 (cI_1.mpr q.1))
               rw [e] at k; exact k (by omega) (by omega))
        · refine V_aload_n (Y := mX6_pulled) (pc := 104) dX6_pulled_104 rfl ?_
          apply V_get (Y := mX6_pulled) (pc := 105) dX6_pulled_105 fl_X6_7
          · assumption
          · rfl
          refine V_bipush (Y := mX6_pulled) (pc := 108) dX6_pulled_108 ⟨by decide, by decide⟩ ?_
          refine V_iconst (Y := mX6_pulled) (pc := 110) dX6_pulled_110 ?_
          refine V_iload (Y := mX6_pulled) (pc := 111) dX6_pulled_111 rfl ?_
          refine V_imul (Y := mX6_pulled) (pc := 113) dX6_pulled_113 ?_
          refine V_iadd (Y := mX6_pulled) (pc := 114) dX6_pulled_114 ?_
          refine V_iconst (Y := mX6_pulled) (pc := 115) dX6_pulled_115 ?_
          refine V_iadd (Y := mX6_pulled) (pc := 116) dX6_pulled_116 ?_
          apply V_iald (Y := mX6_pulled) (pc := 117) dX6_pulled_117
          · assumption
          · exact ⟨by omega, by omega⟩
          · omega
          rw [b2]
          refine V_istore (Y := mX6_pulled) (pc := 118) dX6_pulled_118 rfl ?_
          refine V_iload (Y := mX6_pulled) (pc := 120) dX6_pulled_120 rfl ?_
          refine V_iload (Y := mX6_pulled) (pc := 122) dX6_pulled_122 rfl ?_
          apply V_sR (Y := mX6_pulled) (pc := 124) dX6_pulled_124 ok_X6_outIn os_X6_outIn ln_X6_64 (cm_outIn (s := t) (d := rAt (rs 2) i) hr.1 ⟨by omega, by omega⟩ ⟨by omega, by omega⟩)
          · rfl
          · rfl
          · rfl
          refine V_istore (Y := mX6_pulled) (pc := 127) dX6_pulled_127 rfl ?_
          refine V_iload (Y := mX6_pulled) (pc := 129) dX6_pulled_129 rfl ?_
          refine V_aload_n (Y := mX6_pulled) (pc := 131) dX6_pulled_131 rfl ?_
          refine V_iload (Y := mX6_pulled) (pc := 132) dX6_pulled_132 rfl ?_
          refine V_iload (Y := mX6_pulled) (pc := 134) dX6_pulled_134 rfl ?_
          refine V_iload (Y := mX6_pulled) (pc := 136) dX6_pulled_136 rfl ?_
          apply V_vR (Y := mX6_pulled) (pc := 138) dX6_pulled_138 ok_X6_amount ov_X6_amount ln_X6_71 (cm_amount (c := i) (s := t) (o := o) hM0 hn hcv ⟨by omega, by omega⟩ hr ho2)
          · assumption
          · rfl
          · rfl
          · rfl
          · rfl
          · rfl
          refine V_iadd (Y := mX6_pulled) (pc := 141) dX6_pulled_141 ?_
          refine V_istore (Y := mX6_pulled) (pc := 142) dX6_pulled_142 rfl ?_
          refine V_iload (Y := mX6_pulled) (pc := 144) dX6_pulled_144 rfl ?_
          refine V_if_ge (tgt := 153) (Y := mX6_pulled) (pc := 146) dX6_pulled_146 (by decide) ⟨by omega, by omega⟩ (fun h_146 => ?_) (fun h_146 => ?_)
          · refine V_iload (Y := mX6_pulled) (pc := 153) dX6_pulled_153 rfl ?_
            refine V_iconst (Y := mX6_pulled) (pc := 155) dX6_pulled_155 ?_
            refine V_icmp_le (tgt := 163) (Y := mX6_pulled) (pc := 156) dX6_pulled_156 (by decide) ⟨by omega, by omega⟩ ⟨by omega, by omega⟩ (fun h_156 => ?_) (fun h_156 => ?_)
            · refine V_iload (Y := mX6_pulled) (pc := 163) dX6_pulled_163 rfl ?_
              refine V_istore (Y := mX6_pulled) (pc := 165) dX6_pulled_165 rfl ?_
              refine V_iload (Y := mX6_pulled) (pc := 167) dX6_pulled_167 rfl ?_
              refine V_iload (Y := mX6_pulled) (pc := 169) dX6_pulled_169 rfl ?_
              refine V_iload (Y := mX6_pulled) (pc := 171) dX6_pulled_171 rfl ?_
              refine V_isub (Y := mX6_pulled) (pc := 173) dX6_pulled_173 ?_
              refine V_iload (Y := mX6_pulled) (pc := 174) dX6_pulled_174 rfl ?_
              apply V_sR (Y := mX6_pulled) (pc := 176) dX6_pulled_176 ok_X6_power os_X6_power ln_X6_60 (cm_power (d := rAt (rs 2) i) ⟨by omega, by omega⟩)
              · rfl
              · rfl
              · rfl
              refine V_imul (Y := mX6_pulled) (pc := 179) dX6_pulled_179 ?_
              refine V_iadd (Y := mX6_pulled) (pc := 180) dX6_pulled_180 ?_
              refine V_istore (Y := mX6_pulled) (pc := 181) dX6_pulled_181 rfl ?_
              refine V_iinc (Y := mX6_pulled) (pc := 183) dX6_pulled_183 rfl rfl ?_
              refine V_goto (tgt := 67) (Y := mX6_pulled) (pc := 186) dX6_pulled_186 (by decide) ?_
              refine V_drop 7 (V_drop 8 (V_drop 9 ?_))
              first
                | (exfalso; omega)
                | (have e : cStep rs x d o i t = t + (0 - dg t (rAt (rs 2) i).toNat) * p3 (rAt (rs 2) i).toNat := (cStep_t ⟨cI_1.mp h_85, h_101⟩).trans (mv_c (by omega))
                   rw [e] at k; exact k (by omega) (by omega))
                | (have e : cStep rs x d o i t = t + (2 - dg t (rAt (rs 2) i).toNat) * p3 (rAt (rs 2) i).toNat := (cStep_t ⟨cI_1.mp h_85, h_101⟩).trans (mv_c (by omega))
                   rw [e] at k; exact k (by omega) (by omega))
                | (have e : cStep rs x d o i t = t + (dg t (rAt (rs 2) i).toNat + cAmt rs i t o - dg t (rAt (rs 2) i).toNat) * p3 (rAt (rs 2) i).toNat := (cStep_t ⟨cI_1.mp h_85, h_101⟩).trans (mv_c (by omega))
                   rw [e] at k; exact k (by omega) (by omega))
                | (have e : cStep rs x d o i t = t := cStep_f (fun q => h_101 q.2)
                   rw [e] at k; exact k (by omega) (by omega))
                | (have e : cStep rs x d o i t = t := cStep_f (fun q => h_85 (cI_1.mpr q.1))
                   rw [e] at k; exact k (by omega) (by omega))
            · refine V_iconst (Y := mX6_pulled) (pc := 159) dX6_pulled_159 ?_
              refine V_goto (tgt := 165) (Y := mX6_pulled) (pc := 160) dX6_pulled_160 (by decide) ?_
              refine V_istore (Y := mX6_pulled) (pc := 165) dX6_pulled_165 rfl ?_
              refine V_iload (Y := mX6_pulled) (pc := 167) dX6_pulled_167 rfl ?_
              refine V_iload (Y := mX6_pulled) (pc := 169) dX6_pulled_169 rfl ?_
              refine V_iload (Y := mX6_pulled) (pc := 171) dX6_pulled_171 rfl ?_
              refine V_isub (Y := mX6_pulled) (pc := 173) dX6_pulled_173 ?_
              refine V_iload (Y := mX6_pulled) (pc := 174) dX6_pulled_174 rfl ?_
              apply V_sR (Y := mX6_pulled) (pc := 176) dX6_pulled_176 ok_X6_power os_X6_power ln_X6_60 (cm_power (d := rAt (rs 2) i) ⟨by omega, by omega⟩)
              · rfl
              · rfl
              · rfl
              refine V_imul (Y := mX6_pulled) (pc := 179) dX6_pulled_179 ?_
              refine V_iadd (Y := mX6_pulled) (pc := 180) dX6_pulled_180 ?_
              refine V_istore (Y := mX6_pulled) (pc := 181) dX6_pulled_181 rfl ?_
              refine V_iinc (Y := mX6_pulled) (pc := 183) dX6_pulled_183 rfl rfl ?_
              refine V_goto (tgt := 67) (Y := mX6_pulled) (pc := 186) dX6_pulled_186 (by decide) ?_
              refine V_drop 7 (V_drop 8 (V_drop 9 ?_))
              first
                | (exfalso; omega)
                | (have e : cStep rs x d o i t = t + (0 - dg t (rAt (rs 2) i).toNat) * p3 (rAt (rs 2) i).toNat := (cStep_t ⟨cI_1.mp h_85, h_101⟩).trans (mv_c (by omega))
                   rw [e] at k; exact k (by omega) (by omega))
                | (have e : cStep rs x d o i t = t + (2 - dg t (rAt (rs 2) i).toNat) * p3 (rAt (rs 2) i).toNat := (cStep_t ⟨cI_1.mp h_85, h_101⟩).trans (mv_c (by omega))
                   rw [e] at k; exact k (by omega) (by omega))
                | (have e : cStep rs x d o i t = t + (dg t (rAt (rs 2) i).toNat + cAmt rs i t o - dg t (rAt (rs 2) i).toNat) * p3 (rAt (rs 2) i).toNat := (cStep_t ⟨cI_1.mp h_85, h_101⟩).trans (mv_c (by omega))
                   rw [e] at k; exact k (by omega) (by omega))
                | (have e : cStep rs x d o i t = t := cStep_f (fun q => h_101 q.2)
                   rw [e] at k; exact k (by omega) (by omega))
                | (have e : cStep rs x d o i t = t := cStep_f (fun q => h_85 (cI_1.mpr q.1))
                   rw [e] at k; exact k (by omega) (by omega))
          · refine V_iconst (Y := mX6_pulled) (pc := 149) dX6_pulled_149 ?_
            refine V_goto (tgt := 165) (Y := mX6_pulled) (pc := 150) dX6_pulled_150 (by decide) ?_
            refine V_istore (Y := mX6_pulled) (pc := 165) dX6_pulled_165 rfl ?_
            refine V_iload (Y := mX6_pulled) (pc := 167) dX6_pulled_167 rfl ?_
            refine V_iload (Y := mX6_pulled) (pc := 169) dX6_pulled_169 rfl ?_
            refine V_iload (Y := mX6_pulled) (pc := 171) dX6_pulled_171 rfl ?_
            refine V_isub (Y := mX6_pulled) (pc := 173) dX6_pulled_173 ?_
            refine V_iload (Y := mX6_pulled) (pc := 174) dX6_pulled_174 rfl ?_
            apply V_sR (Y := mX6_pulled) (pc := 176) dX6_pulled_176 ok_X6_power os_X6_power ln_X6_60 (cm_power (d := rAt (rs 2) i) ⟨by omega, by omega⟩)
            · rfl
            · rfl
            · rfl
            refine V_imul (Y := mX6_pulled) (pc := 179) dX6_pulled_179 ?_
            refine V_iadd (Y := mX6_pulled) (pc := 180) dX6_pulled_180 ?_
            refine V_istore (Y := mX6_pulled) (pc := 181) dX6_pulled_181 rfl ?_
            refine V_iinc (Y := mX6_pulled) (pc := 183) dX6_pulled_183 rfl rfl ?_
            refine V_goto (tgt := 67) (Y := mX6_pulled) (pc := 186) dX6_pulled_186 (by decide) ?_
            refine V_drop 7 (V_drop 8 (V_drop 9 ?_))
            first
              | (exfalso; omega)
              | (have e : cStep rs x d o i t = t + (0 - dg t (rAt (rs 2) i).toNat) * p3 (rAt (rs 2) i).toNat := (cStep_t ⟨cI_1.mp h_85, h_101⟩).trans (mv_c (by omega))
                 rw [e] at k; exact k (by omega) (by omega))
              | (have e : cStep rs x d o i t = t + (2 - dg t (rAt (rs 2) i).toNat) * p3 (rAt (rs 2) i).toNat := (cStep_t ⟨cI_1.mp h_85, h_101⟩).trans (mv_c (by omega))
                 rw [e] at k; exact k (by omega) (by omega))
              | (have e : cStep rs x d o i t = t + (dg t (rAt (rs 2) i).toNat + cAmt rs i t o - dg t (rAt (rs 2) i).toNat) * p3 (rAt (rs 2) i).toNat := (cStep_t ⟨cI_1.mp h_85, h_101⟩).trans (mv_c (by omega))
                 rw [e] at k; exact k (by omega) (by omega))
              | (have e : cStep rs x d o i t = t := cStep_f (fun q => h_101 q.2)
                 rw [e] at k; exact k (by omega) (by omega))
              | (have e : cStep rs x d o i t = t := cStep_f (fun q => h_85 (cI_1.mpr q.1))
                 rw [e] at k; exact k (by omega) (by omega))
set_option maxRecDepth 100000 in
theorem cm_pulled {s d : Int} {x : Int32} (hM : MS w n now ca po fo rs) (hn : 2 ≤ n ∧ n ≤ 7) (hcv : cvOK n rs) (hca : ca < 128) (hs : isS n s) (hd : isD n d) : Ctr mX6_pulled (rm 4) [.ref 99, vI s, vI d, .int x] nn w (pR (vI (aft ca rs s d x)) nn w) := by
  refine Ctr_of (lv := [some (.ref 99), some (vI s), some (vI d), some (.int x), none, none, none, none, none, none]) (by decide +kernel) rfl rfl ?_
  have hM0 := hM
  obtain ⟨f, ⟨qt, ty, a0, sp, tk, vl, mn, fd, sv, ho⟩, hb, hB⟩ := hM
  have hp := p3_le n.toNat (by omega)
  have hg := dg_rng s d.toNat
  have e4 : f (4 : Int).toNat = (ca : Int) := hB.1.2.1
  have hm1 := mv_rng 1 hs.1 hs.2 (d := d.toNat) (by omega)
  have hm2 := mv_rng (-2) hs.1 hs.2 (d := d.toNat) (by omega)
  refine V_aload_n (Y := mX6_pulled) (pc := 0) dX6_pulled_0 rfl ?_
  apply V_get (Y := mX6_pulled) (pc := 1) dX6_pulled_1 fl_X6_7
  · assumption
  · rfl
  refine V_iconst (Y := mX6_pulled) (pc := 4) dX6_pulled_4 ?_
  apply V_iald (Y := mX6_pulled) (pc := 5) dX6_pulled_5
  · assumption
  · exact ⟨by omega, by omega⟩
  · omega
  rw [e4]
  refine V_iload_n (Y := mX6_pulled) (pc := 6) dX6_pulled_6 rfl ?_
  refine V_ishr (Y := mX6_pulled) (pc := 7) dX6_pulled_7 (rfl) ?_
  refine V_iconst (Y := mX6_pulled) (pc := 8) dX6_pulled_8 ?_
  refine V_iand (Y := mX6_pulled) (pc := 9) dX6_pulled_9 (bitB (by omega) (by omega) (by omega)) ?_
  refine V_iconst (Y := mX6_pulled) (pc := 10) dX6_pulled_10 ?_
  refine V_icmp_ne (tgt := 25) (Y := mX6_pulled) (pc := 11) dX6_pulled_11 (by decide) (bI_R _) ⟨by omega, by omega⟩ (fun h_11 => ?_) (fun h_11 => ?_)
  · refine V_iload_n (Y := mX6_pulled) (pc := 25) dX6_pulled_25 rfl ?_
    refine V_iload_n (Y := mX6_pulled) (pc := 26) dX6_pulled_26 rfl ?_
    apply V_sR (Y := mX6_pulled) (pc := 27) dX6_pulled_27 ok_X6_outIn os_X6_outIn ln_X6_64 (cm_outIn (s := s) (d := d) hs.1 ⟨by omega, by omega⟩ ⟨by omega, by omega⟩)
    · rfl
    · rfl
    · rfl
    refine V_iconst (Y := mX6_pulled) (pc := 30) dX6_pulled_30 ?_
    refine V_icmp_ge (tgt := 38) (Y := mX6_pulled) (pc := 31) dX6_pulled_31 (by decide) ⟨by omega, by omega⟩ ⟨by omega, by omega⟩ (fun h_31 => ?_) (fun h_31 => ?_)
    · refine V_iconst (Y := mX6_pulled) (pc := 38) dX6_pulled_38 ?_
      refine V_istore (Y := mX6_pulled) (pc := 39) dX6_pulled_39 rfl ?_
      refine V_iload_n (Y := mX6_pulled) (pc := 41) dX6_pulled_41 rfl ?_
      refine V_iload (Y := mX6_pulled) (pc := 42) dX6_pulled_42 rfl ?_
      refine V_if_eq (tgt := 54) (Y := mX6_pulled) (pc := 44) dX6_pulled_44 (by decide) ⟨by omega, by omega⟩ (fun h_44 => ?_) (fun h_44 => ?_)
      · refine V_bipush (Y := mX6_pulled) (pc := 54) dX6_pulled_54 ⟨by decide, by decide⟩ ?_
        refine V_iload_n (Y := mX6_pulled) (pc := 56) dX6_pulled_56 rfl ?_
        apply V_sR (Y := mX6_pulled) (pc := 57) dX6_pulled_57 ok_X6_power os_X6_power ln_X6_60 (cm_power (d := d) ⟨by omega, by omega⟩)
        · rfl
        · rfl
        · rfl
        refine V_imul (Y := mX6_pulled) (pc := 60) dX6_pulled_60 ?_
        refine V_iadd (Y := mX6_pulled) (pc := 61) dX6_pulled_61 ?_
        refine V_istore (Y := mX6_pulled) (pc := 62) dX6_pulled_62 rfl ?_
        refine V_iconst (Y := mX6_pulled) (pc := 64) dX6_pulled_64 ?_
        refine V_istore (Y := mX6_pulled) (pc := 65) dX6_pulled_65 rfl ?_
        skip
        first
          | (exfalso; omega)
          | (have e : aft ca rs s d x = cRun rs x d 1 (s + p3 d.toNat) (rs 1).length := by
               rw [aft, if_neg (fun q => by first | exact h_20 q.2 | exact h_11 (bI_t q.1)), aft0, if_neg (by omega), if_neg (by omega), mv_c (c := dg s d.toNat + 1) (by omega)]
               rw [show (dg s d.toNat + 1 - dg s d.toNat) = 1 by omega, Int.one_mul]
             rw [e]
             have e2 : mv s d.toNat 1 = s + p3 d.toNat := by rw [mv_c (c := dg s d.toNat + 1) (by omega), show (dg s d.toNat + 1 - dg s d.toNat) = 1 by omega, Int.one_mul]
             rw [e2] at hm1
             exact lpm_pulled hM0 hn hcv hd (Or.inr rfl) hm1 ((rs 1).length + 1) 0 (by omega) (by omega) (by omega))
          | (have e2 : mv s d.toNat (-2) = s + -2 * p3 d.toNat := by rw [mv_c (c := 0) (by omega), show (0 - dg s d.toNat) = -2 by omega]
             have e : aft ca rs s d x = cRun rs x d 0 (s + -2 * p3 d.toNat) (rs 1).length := by
               rw [aft, if_neg (fun q => by first | exact h_20 q.2 | exact h_11 (bI_t q.1)), aft0, if_pos (by omega), if_pos (by omega), e2]
             rw [e]
             rw [e2] at hm2
             exact lpm_pulled hM0 hn hcv hd (Or.inl rfl) hm2 ((rs 1).length + 1) 0 (by omega) (by omega) (by omega))
      · refine V_iload_n (Y := mX6_pulled) (pc := 47) dX6_pulled_47 rfl ?_
        apply V_sR (Y := mX6_pulled) (pc := 48) dX6_pulled_48 ok_X6_power os_X6_power ln_X6_60 (cm_power (d := d) ⟨by omega, by omega⟩)
        · rfl
        · rfl
        · rfl
        refine V_goto (tgt := 61) (Y := mX6_pulled) (pc := 51) dX6_pulled_51 (by decide) ?_
        refine V_iadd (Y := mX6_pulled) (pc := 61) dX6_pulled_61 ?_
        refine V_istore (Y := mX6_pulled) (pc := 62) dX6_pulled_62 rfl ?_
        refine V_iconst (Y := mX6_pulled) (pc := 64) dX6_pulled_64 ?_
        refine V_istore (Y := mX6_pulled) (pc := 65) dX6_pulled_65 rfl ?_
        skip
        first
          | (exfalso; omega)
          | (have e : aft ca rs s d x = cRun rs x d 1 (s + p3 d.toNat) (rs 1).length := by
               rw [aft, if_neg (fun q => by first | exact h_20 q.2 | exact h_11 (bI_t q.1)), aft0, if_neg (by omega), if_neg (by omega), mv_c (c := dg s d.toNat + 1) (by omega)]
               rw [show (dg s d.toNat + 1 - dg s d.toNat) = 1 by omega, Int.one_mul]
             rw [e]
             have e2 : mv s d.toNat 1 = s + p3 d.toNat := by rw [mv_c (c := dg s d.toNat + 1) (by omega), show (dg s d.toNat + 1 - dg s d.toNat) = 1 by omega, Int.one_mul]
             rw [e2] at hm1
             exact lpm_pulled hM0 hn hcv hd (Or.inr rfl) hm1 ((rs 1).length + 1) 0 (by omega) (by omega) (by omega))
          | (have e2 : mv s d.toNat (-2) = s + -2 * p3 d.toNat := by rw [mv_c (c := 0) (by omega), show (0 - dg s d.toNat) = -2 by omega]
             have e : aft ca rs s d x = cRun rs x d 0 (s + -2 * p3 d.toNat) (rs 1).length := by
               rw [aft, if_neg (fun q => by first | exact h_20 q.2 | exact h_11 (bI_t q.1)), aft0, if_pos (by omega), if_pos (by omega), e2]
             rw [e]
             rw [e2] at hm2
             exact lpm_pulled hM0 hn hcv hd (Or.inl rfl) hm2 ((rs 1).length + 1) 0 (by omega) (by omega) (by omega))
    · refine V_iconst (Y := mX6_pulled) (pc := 34) dX6_pulled_34 ?_
      refine V_goto (tgt := 39) (Y := mX6_pulled) (pc := 35) dX6_pulled_35 (by decide) ?_
      refine V_istore (Y := mX6_pulled) (pc := 39) dX6_pulled_39 rfl ?_
      refine V_iload_n (Y := mX6_pulled) (pc := 41) dX6_pulled_41 rfl ?_
      refine V_iload (Y := mX6_pulled) (pc := 42) dX6_pulled_42 rfl ?_
      refine V_if_eq (tgt := 54) (Y := mX6_pulled) (pc := 44) dX6_pulled_44 (by decide) ⟨by omega, by omega⟩ (fun h_44 => ?_) (fun h_44 => ?_)
      · refine V_bipush (Y := mX6_pulled) (pc := 54) dX6_pulled_54 ⟨by decide, by decide⟩ ?_
        refine V_iload_n (Y := mX6_pulled) (pc := 56) dX6_pulled_56 rfl ?_
        apply V_sR (Y := mX6_pulled) (pc := 57) dX6_pulled_57 ok_X6_power os_X6_power ln_X6_60 (cm_power (d := d) ⟨by omega, by omega⟩)
        · rfl
        · rfl
        · rfl
        refine V_imul (Y := mX6_pulled) (pc := 60) dX6_pulled_60 ?_
        refine V_iadd (Y := mX6_pulled) (pc := 61) dX6_pulled_61 ?_
        refine V_istore (Y := mX6_pulled) (pc := 62) dX6_pulled_62 rfl ?_
        refine V_iconst (Y := mX6_pulled) (pc := 64) dX6_pulled_64 ?_
        refine V_istore (Y := mX6_pulled) (pc := 65) dX6_pulled_65 rfl ?_
        skip
        first
          | (exfalso; omega)
          | (have e : aft ca rs s d x = cRun rs x d 1 (s + p3 d.toNat) (rs 1).length := by
               rw [aft, if_neg (fun q => by first | exact h_20 q.2 | exact h_11 (bI_t q.1)), aft0, if_neg (by omega), if_neg (by omega), mv_c (c := dg s d.toNat + 1) (by omega)]
               rw [show (dg s d.toNat + 1 - dg s d.toNat) = 1 by omega, Int.one_mul]
             rw [e]
             have e2 : mv s d.toNat 1 = s + p3 d.toNat := by rw [mv_c (c := dg s d.toNat + 1) (by omega), show (dg s d.toNat + 1 - dg s d.toNat) = 1 by omega, Int.one_mul]
             rw [e2] at hm1
             exact lpm_pulled hM0 hn hcv hd (Or.inr rfl) hm1 ((rs 1).length + 1) 0 (by omega) (by omega) (by omega))
          | (have e2 : mv s d.toNat (-2) = s + -2 * p3 d.toNat := by rw [mv_c (c := 0) (by omega), show (0 - dg s d.toNat) = -2 by omega]
             have e : aft ca rs s d x = cRun rs x d 0 (s + -2 * p3 d.toNat) (rs 1).length := by
               rw [aft, if_neg (fun q => by first | exact h_20 q.2 | exact h_11 (bI_t q.1)), aft0, if_pos (by omega), if_pos (by omega), e2]
             rw [e]
             rw [e2] at hm2
             exact lpm_pulled hM0 hn hcv hd (Or.inl rfl) hm2 ((rs 1).length + 1) 0 (by omega) (by omega) (by omega))
      · refine V_iload_n (Y := mX6_pulled) (pc := 47) dX6_pulled_47 rfl ?_
        apply V_sR (Y := mX6_pulled) (pc := 48) dX6_pulled_48 ok_X6_power os_X6_power ln_X6_60 (cm_power (d := d) ⟨by omega, by omega⟩)
        · rfl
        · rfl
        · rfl
        refine V_goto (tgt := 61) (Y := mX6_pulled) (pc := 51) dX6_pulled_51 (by decide) ?_
        refine V_iadd (Y := mX6_pulled) (pc := 61) dX6_pulled_61 ?_
        refine V_istore (Y := mX6_pulled) (pc := 62) dX6_pulled_62 rfl ?_
        refine V_iconst (Y := mX6_pulled) (pc := 64) dX6_pulled_64 ?_
        refine V_istore (Y := mX6_pulled) (pc := 65) dX6_pulled_65 rfl ?_
        skip
        first
          | (exfalso; omega)
          | (have e : aft ca rs s d x = cRun rs x d 1 (s + p3 d.toNat) (rs 1).length := by
               rw [aft, if_neg (fun q => by first | exact h_20 q.2 | exact h_11 (bI_t q.1)), aft0, if_neg (by omega), if_neg (by omega), mv_c (c := dg s d.toNat + 1) (by omega)]
               rw [show (dg s d.toNat + 1 - dg s d.toNat) = 1 by omega, Int.one_mul]
             rw [e]
             have e2 : mv s d.toNat 1 = s + p3 d.toNat := by rw [mv_c (c := dg s d.toNat + 1) (by omega), show (dg s d.toNat + 1 - dg s d.toNat) = 1 by omega, Int.one_mul]
             rw [e2] at hm1
             exact lpm_pulled hM0 hn hcv hd (Or.inr rfl) hm1 ((rs 1).length + 1) 0 (by omega) (by omega) (by omega))
          | (have e2 : mv s d.toNat (-2) = s + -2 * p3 d.toNat := by rw [mv_c (c := 0) (by omega), show (0 - dg s d.toNat) = -2 by omega]
             have e : aft ca rs s d x = cRun rs x d 0 (s + -2 * p3 d.toNat) (rs 1).length := by
               rw [aft, if_neg (fun q => by first | exact h_20 q.2 | exact h_11 (bI_t q.1)), aft0, if_pos (by omega), if_pos (by omega), e2]
             rw [e]
             rw [e2] at hm2
             exact lpm_pulled hM0 hn hcv hd (Or.inl rfl) hm2 ((rs 1).length + 1) 0 (by omega) (by omega) (by omega))
  · refine V_aload_n (Y := mX6_pulled) (pc := 14) dX6_pulled_14 rfl ?_
    refine V_iload_n (Y := mX6_pulled) (pc := 15) dX6_pulled_15 rfl ?_
    refine V_iload_n (Y := mX6_pulled) (pc := 16) dX6_pulled_16 rfl ?_
    apply V_vR (Y := mX6_pulled) (pc := 17) dX6_pulled_17 ok_X6_isBeside ov_X6_isBeside ln_X6_67 (cm_isBeside (s := s) (d := d) hM0 hn hs hd)
    · assumption
    · rfl
    · rfl
    · rfl
    · rfl
    · rfl
    refine V_if_eqB (tgt := 25) (Y := mX6_pulled) (pc := 20) dX6_pulled_20 (by decide) (fun h_20 => ?_) (fun h_20 => ?_)
    · refine V_iload_n (Y := mX6_pulled) (pc := 25) dX6_pulled_25 rfl ?_
      refine V_iload_n (Y := mX6_pulled) (pc := 26) dX6_pulled_26 rfl ?_
      apply V_sR (Y := mX6_pulled) (pc := 27) dX6_pulled_27 ok_X6_outIn os_X6_outIn ln_X6_64 (cm_outIn (s := s) (d := d) hs.1 ⟨by omega, by omega⟩ ⟨by omega, by omega⟩)
      · rfl
      · rfl
      · rfl
      refine V_iconst (Y := mX6_pulled) (pc := 30) dX6_pulled_30 ?_
      refine V_icmp_ge (tgt := 38) (Y := mX6_pulled) (pc := 31) dX6_pulled_31 (by decide) ⟨by omega, by omega⟩ ⟨by omega, by omega⟩ (fun h_31 => ?_) (fun h_31 => ?_)
      · refine V_iconst (Y := mX6_pulled) (pc := 38) dX6_pulled_38 ?_
        refine V_istore (Y := mX6_pulled) (pc := 39) dX6_pulled_39 rfl ?_
        refine V_iload_n (Y := mX6_pulled) (pc := 41) dX6_pulled_41 rfl ?_
        refine V_iload (Y := mX6_pulled) (pc := 42) dX6_pulled_42 rfl ?_
        refine V_if_eq (tgt := 54) (Y := mX6_pulled) (pc := 44) dX6_pulled_44 (by decide) ⟨by omega, by omega⟩ (fun h_44 => ?_) (fun h_44 => ?_)
        · refine V_bipush (Y := mX6_pulled) (pc := 54) dX6_pulled_54 ⟨by decide, by decide⟩ ?_
          refine V_iload_n (Y := mX6_pulled) (pc := 56) dX6_pulled_56 rfl ?_
          apply V_sR (Y := mX6_pulled) (pc := 57) dX6_pulled_57 ok_X6_power os_X6_power ln_X6_60 (cm_power (d := d) ⟨by omega, by omega⟩)
          · rfl
          · rfl
          · rfl
          refine V_imul (Y := mX6_pulled) (pc := 60) dX6_pulled_60 ?_
          refine V_iadd (Y := mX6_pulled) (pc := 61) dX6_pulled_61 ?_
          refine V_istore (Y := mX6_pulled) (pc := 62) dX6_pulled_62 rfl ?_
          refine V_iconst (Y := mX6_pulled) (pc := 64) dX6_pulled_64 ?_
          refine V_istore (Y := mX6_pulled) (pc := 65) dX6_pulled_65 rfl ?_
          skip
          first
            | (exfalso; omega)
            | (have e : aft ca rs s d x = cRun rs x d 1 (s + p3 d.toNat) (rs 1).length := by
                 rw [aft, if_neg (fun q => by first | exact h_20 q.2 | exact h_11 (bI_t q.1)), aft0, if_neg (by omega), if_neg (by omega), mv_c (c := dg s d.toNat + 1) (by omega)]
                 rw [show (dg s d.toNat + 1 - dg s d.toNat) = 1 by omega, Int.one_mul]
               rw [e]
               have e2 : mv s d.toNat 1 = s + p3 d.toNat := by rw [mv_c (c := dg s d.toNat + 1) (by omega), show (dg s d.toNat + 1 - dg s d.toNat) = 1 by omega, Int.one_mul]
               rw [e2] at hm1
               exact lpm_pulled hM0 hn hcv hd (Or.inr rfl) hm1 ((rs 1).length + 1) 0 (by omega) (by omega) (by omega))
            | (have e2 : mv s d.toNat (-2) = s + -2 * p3 d.toNat := by rw [mv_c (c := 0) (by omega), show (0 - dg s d.toNat) = -2 by omega]
               have e : aft ca rs s d x = cRun rs x d 0 (s + -2 * p3 d.toNat) (rs 1).length := by
                 rw [aft, if_neg (fun q => by first | exact h_20 q.2 | exact h_11 (bI_t q.1)), aft0, if_pos (by omega), if_pos (by omega), e2]
               rw [e]
               rw [e2] at hm2
               exact lpm_pulled hM0 hn hcv hd (Or.inl rfl) hm2 ((rs 1).length + 1) 0 (by omega) (by omega) (by omega))
        · refine V_iload_n (Y := mX6_pulled) (pc := 47) dX6_pulled_47 rfl ?_
          apply V_sR (Y := mX6_pulled) (pc := 48) dX6_pulled_48 ok_X6_power os_X6_power ln_X6_60 (cm_power (d := d) ⟨by omega, by omega⟩)
          · rfl
          · rfl
          · rfl
          refine V_goto (tgt := 61) (Y := mX6_pulled) (pc := 51) dX6_pulled_51 (by decide) ?_
          refine V_iadd (Y := mX6_pulled) (pc := 61) dX6_pulled_61 ?_
          refine V_istore (Y := mX6_pulled) (pc := 62) dX6_pulled_62 rfl ?_
          refine V_iconst (Y := mX6_pulled) (pc := 64) dX6_pulled_64 ?_
          refine V_istore (Y := mX6_pulled) (pc := 65) dX6_pulled_65 rfl ?_
          skip
          first
            | (exfalso; omega)
            | (have e : aft ca rs s d x = cRun rs x d 1 (s + p3 d.toNat) (rs 1).length := by
                 rw [aft, if_neg (fun q => by first | exact h_20 q.2 | exact h_11 (bI_t q.1)), aft0, if_neg (by omega), if_neg (by omega), mv_c (c := dg s d.toNat + 1) (by omega)]
                 rw [show (dg s d.toNat + 1 - dg s d.toNat) = 1 by omega, Int.one_mul]
               rw [e]
               have e2 : mv s d.toNat 1 = s + p3 d.toNat := by rw [mv_c (c := dg s d.toNat + 1) (by omega), show (dg s d.toNat + 1 - dg s d.toNat) = 1 by omega, Int.one_mul]
               rw [e2] at hm1
               exact lpm_pulled hM0 hn hcv hd (Or.inr rfl) hm1 ((rs 1).length + 1) 0 (by omega) (by omega) (by omega))
            | (have e2 : mv s d.toNat (-2) = s + -2 * p3 d.toNat := by rw [mv_c (c := 0) (by omega), show (0 - dg s d.toNat) = -2 by omega]
               have e : aft ca rs s d x = cRun rs x d 0 (s + -2 * p3 d.toNat) (rs 1).length := by
                 rw [aft, if_neg (fun q => by first | exact h_20 q.2 | exact h_11 (bI_t q.1)), aft0, if_pos (by omega), if_pos (by omega), e2]
               rw [e]
               rw [e2] at hm2
               exact lpm_pulled hM0 hn hcv hd (Or.inl rfl) hm2 ((rs 1).length + 1) 0 (by omega) (by omega) (by omega))
      · refine V_iconst (Y := mX6_pulled) (pc := 34) dX6_pulled_34 ?_
        refine V_goto (tgt := 39) (Y := mX6_pulled) (pc := 35) dX6_pulled_35 (by decide) ?_
        refine V_istore (Y := mX6_pulled) (pc := 39) dX6_pulled_39 rfl ?_
        refine V_iload_n (Y := mX6_pulled) (pc := 41) dX6_pulled_41 rfl ?_
        refine V_iload (Y := mX6_pulled) (pc := 42) dX6_pulled_42 rfl ?_
        refine V_if_eq (tgt := 54) (Y := mX6_pulled) (pc := 44) dX6_pulled_44 (by decide) ⟨by omega, by omega⟩ (fun h_44 => ?_) (fun h_44 => ?_)
        · refine V_bipush (Y := mX6_pulled) (pc := 54) dX6_pulled_54 ⟨by decide, by decide⟩ ?_
          refine V_iload_n (Y := mX6_pulled) (pc := 56) dX6_pulled_56 rfl ?_
          apply V_sR (Y := mX6_pulled) (pc := 57) dX6_pulled_57 ok_X6_power os_X6_power ln_X6_60 (cm_power (d := d) ⟨by omega, by omega⟩)
          · rfl
          · rfl
          · rfl
          refine V_imul (Y := mX6_pulled) (pc := 60) dX6_pulled_60 ?_
          refine V_iadd (Y := mX6_pulled) (pc := 61) dX6_pulled_61 ?_
          refine V_istore (Y := mX6_pulled) (pc := 62) dX6_pulled_62 rfl ?_
          refine V_iconst (Y := mX6_pulled) (pc := 64) dX6_pulled_64 ?_
          refine V_istore (Y := mX6_pulled) (pc := 65) dX6_pulled_65 rfl ?_
          skip
          first
            | (exfalso; omega)
            | (have e : aft ca rs s d x = cRun rs x d 1 (s + p3 d.toNat) (rs 1).length := by
                 rw [aft, if_neg (fun q => by first | exact h_20 q.2 | exact h_11 (bI_t q.1)), aft0, if_neg (by omega), if_neg (by omega), mv_c (c := dg s d.toNat + 1) (by omega)]
                 rw [show (dg s d.toNat + 1 - dg s d.toNat) = 1 by omega, Int.one_mul]
               rw [e]
               have e2 : mv s d.toNat 1 = s + p3 d.toNat := by rw [mv_c (c := dg s d.toNat + 1) (by omega), show (dg s d.toNat + 1 - dg s d.toNat) = 1 by omega, Int.one_mul]
               rw [e2] at hm1
               exact lpm_pulled hM0 hn hcv hd (Or.inr rfl) hm1 ((rs 1).length + 1) 0 (by omega) (by omega) (by omega))
            | (have e2 : mv s d.toNat (-2) = s + -2 * p3 d.toNat := by rw [mv_c (c := 0) (by omega), show (0 - dg s d.toNat) = -2 by omega]
               have e : aft ca rs s d x = cRun rs x d 0 (s + -2 * p3 d.toNat) (rs 1).length := by
                 rw [aft, if_neg (fun q => by first | exact h_20 q.2 | exact h_11 (bI_t q.1)), aft0, if_pos (by omega), if_pos (by omega), e2]
               rw [e]
               rw [e2] at hm2
               exact lpm_pulled hM0 hn hcv hd (Or.inl rfl) hm2 ((rs 1).length + 1) 0 (by omega) (by omega) (by omega))
        · refine V_iload_n (Y := mX6_pulled) (pc := 47) dX6_pulled_47 rfl ?_
          apply V_sR (Y := mX6_pulled) (pc := 48) dX6_pulled_48 ok_X6_power os_X6_power ln_X6_60 (cm_power (d := d) ⟨by omega, by omega⟩)
          · rfl
          · rfl
          · rfl
          refine V_goto (tgt := 61) (Y := mX6_pulled) (pc := 51) dX6_pulled_51 (by decide) ?_
          refine V_iadd (Y := mX6_pulled) (pc := 61) dX6_pulled_61 ?_
          refine V_istore (Y := mX6_pulled) (pc := 62) dX6_pulled_62 rfl ?_
          refine V_iconst (Y := mX6_pulled) (pc := 64) dX6_pulled_64 ?_
          refine V_istore (Y := mX6_pulled) (pc := 65) dX6_pulled_65 rfl ?_
          skip
          first
            | (exfalso; omega)
            | (have e : aft ca rs s d x = cRun rs x d 1 (s + p3 d.toNat) (rs 1).length := by
                 rw [aft, if_neg (fun q => by first | exact h_20 q.2 | exact h_11 (bI_t q.1)), aft0, if_neg (by omega), if_neg (by omega), mv_c (c := dg s d.toNat + 1) (by omega)]
                 rw [show (dg s d.toNat + 1 - dg s d.toNat) = 1 by omega, Int.one_mul]
               rw [e]
               have e2 : mv s d.toNat 1 = s + p3 d.toNat := by rw [mv_c (c := dg s d.toNat + 1) (by omega), show (dg s d.toNat + 1 - dg s d.toNat) = 1 by omega, Int.one_mul]
               rw [e2] at hm1
               exact lpm_pulled hM0 hn hcv hd (Or.inr rfl) hm1 ((rs 1).length + 1) 0 (by omega) (by omega) (by omega))
            | (have e2 : mv s d.toNat (-2) = s + -2 * p3 d.toNat := by rw [mv_c (c := 0) (by omega), show (0 - dg s d.toNat) = -2 by omega]
               have e : aft ca rs s d x = cRun rs x d 0 (s + -2 * p3 d.toNat) (rs 1).length := by
                 rw [aft, if_neg (fun q => by first | exact h_20 q.2 | exact h_11 (bI_t q.1)), aft0, if_pos (by omega), if_pos (by omega), e2]
               rw [e]
               rw [e2] at hm2
               exact lpm_pulled hM0 hn hcv hd (Or.inl rfl) hm2 ((rs 1).length + 1) 0 (by omega) (by omega) (by omega))
    · refine V_iload_n (Y := mX6_pulled) (pc := 23) dX6_pulled_23 rfl ?_
      refine V_iret (Y := mX6_pulled) (pc := 24) dX6_pulled_24 rfl (Nat.le_of_ble_eq_true rfl) (Nat.le_of_ble_eq_true rfl) ?_
      exact pR_I (by rw [aft, if_pos ⟨Decidable.byContradiction (fun q => by rw [bI_f q] at h_11; omega), h_20⟩])
def alI (rs : Nat → List Int) : Int := ((p2 (rs 1).length : Nat) : Int) - 1
set_option maxRecDepth 100000 in
theorem cm_allCords (hM : MS w n now ca po fo rs) : Ctr mX6_allCords (rm 0) [.ref 99] nn w (pR (vI (alI rs)) nn w) := by
  refine Ctr_of (lv := [some (.ref 99)]) (by decide +kernel) rfl rfl ?_
  obtain ⟨f, ⟨qt, ty, a0, sp, tk, vl, mn, fd, sv, ho⟩, hb, hB⟩ := hM
  have hl := hB.2.1.1
  have e1 : f (1 : Int).toNat = (rs 1).length := hB.1.1.2.1
  refine V_iconst (Y := mX6_allCords) (pc := 0) dX6_allCords_0 ?_
  refine V_aload_n (Y := mX6_allCords) (pc := 1) dX6_allCords_1 rfl ?_
  apply V_get (Y := mX6_allCords) (pc := 2) dX6_allCords_2 fl_X6_7
  · assumption
  · rfl
  refine V_iconst (Y := mX6_allCords) (pc := 5) dX6_allCords_5 ?_
  apply V_iald (Y := mX6_allCords) (pc := 6) dX6_allCords_6
  · assumption
  · exact ⟨by omega, by omega⟩
  · omega
  rw [e1]
  refine V_ishl (Y := mX6_allCords) (pc := 7) dX6_allCords_7 (iI_shl2 (by omega) (by omega)) ?_
  refine V_iconst (Y := mX6_allCords) (pc := 8) dX6_allCords_8 ?_
  refine V_isub (Y := mX6_allCords) (pc := 9) dX6_allCords_9 ?_
  refine V_iret (Y := mX6_allCords) (pc := 10) dX6_allCords_10 rfl (Nat.le_of_ble_eq_true rfl) (Nat.le_of_ble_eq_true rfl) ?_
  exact pR_I (by rw [alI]; congr 2)
theorem bit_all : ∀ k, k ≤ 10 → ∀ c, c < k → ((iI (((p2 k : Nat) : Int) - 1)) >>> (iI ((c : Nat) : Int) &&& 31)) &&& iI 1 = iI 1 := by decide +kernel
theorem bit_neg : ∀ c, c < 10 → ((iI (-1)) >>> (iI ((c : Nat) : Int) &&& 31)) &&& iI 1 = iI 1 := by decide +kernel
theorem cRun_bits {rs : Nat → List Int} {x y : Int32} {d o t0 : Int} : ∀ m : Nat, (∀ c : Nat, c < m → rAt (rs 1) c = d → (bitOn x c ↔ bitOn y c)) → cRun rs x d o t0 m = cRun rs y d o t0 m
  | 0, _ => rfl
  | m + 1, h => by
    rw [cRun, cRun, cRun_bits m (fun c hc => h c (by omega))]
    by_cases hb : bitOn y m ∧ rAt (rs 1) m = d
    · rw [cStep_t hb, cStep_t ⟨(h m (by omega) hb.2).mpr hb.1, hb.2⟩]
    · rw [cStep_f hb, cStep_f (fun q => hb ⟨(h m (by omega) q.2).mp q.1, q.2⟩)]
theorem aft_bits {ca : Nat} {rs : Nat → List Int} {s d : Int} {x y : Int32} (h : ∀ c : Nat, c < (rs 1).length → rAt (rs 1) c = d → (bitOn x c ↔ bitOn y c)) : aft ca rs s d x = aft ca rs s d y := by
  unfold aft
  rw [cRun_bits _ h]
theorem aft_al {ca : Nat} {rs : Nat → List Int} {s d : Int} (h : (rs 1).length ≤ 10) : aft ca rs s d (iI (alI rs)) = spP ca rs s d :=
  aft_bits (fun c hc _ => ⟨fun _ => bit_neg c (by omega), fun _ => bit_all _ h c hc⟩)
set_option maxRecDepth 100000 in
theorem cm_pulledA {s d : Int} (hM : MS w n now ca po fo rs) (hn : 2 ≤ n ∧ n ≤ 7) (hcv : cvOK n rs) (hca : ca < 128) (hs : isS n s) (hd : isD n d) : Ctr mX6_pulled (rm 4) [.ref 99, vI s, vI d, vI (alI rs)] nn w (pR (vI (spP ca rs s d)) nn w) := by
  have h := cm_pulled (nn := nn) (x := iI (alI rs)) hM hn hcv hca hs hd
  obtain ⟨f, -, hb, hB⟩ := hM
  rw [aft_al hB.2.1.1] at h
  exact h
end MOD
