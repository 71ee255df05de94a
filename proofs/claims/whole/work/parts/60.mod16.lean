/-! ===== DrawerWallModel: days ===== -/
section BFS
variable {n : Int} {sp : Int → Int → Int} {P G : Int → Prop} {g g' : Int → Int} {now : Int}
theorem far_le (h : IsFar n sp P G g) (h' : IsFar n sp P G g') (hsp : spOK n (p3 n.toNat) sp) : ∀ (k : Nat) (s : Int), isS n s → g s = k → 0 ≤ g' s ∧ g' s ≤ k
  | 0, s, hs, hg => by
    have := h'.goal hs (h.free hs (by omega)) (h.zero hs (by omega))
    omega
  | k + 1, s, hs, hg => by
    rcases h s hs with ⟨-, q⟩ | ⟨-, -, q⟩ | ⟨-, -, q, -⟩ | ⟨q1, -, -, ⟨d, hd, q⟩, -⟩
    · omega
    · omega
    · omega
    · have ih := far_le h h' hsp k (sp s d) (hsp s d hs hd) (by omega)
      have := h'.step hs q1 hd ih.1
      omega
theorem far_eq (h : IsFar n sp P G g) (h' : IsFar n sp P G g') (hsp : spOK n (p3 n.toNat) sp) {s : Int} (hs : isS n s) (hg : 0 ≤ g s) : g' s = g s := by
  have h1 := far_le h h' hsp (g s).toNat s hs (by omega)
  have h2 := far_le h' h hsp (g' s).toNat s hs (by omega)
  omega
theorem far_neg (h : IsFar n sp P G g) (h' : IsFar n sp P G g') (hsp : spOK n (p3 n.toNat) sp) {s : Int} (hs : isS n s) (hg : g s < 0) : g' s < 0 := by
  rcases Int.lt_or_le (g' s) 0 with q | q
  · exact q
  · have := far_le h' h hsp (g' s).toNat s hs (by omega)
    omega
theorem goal_1 {d : Nat} (hn : 0 ≤ n ∧ n ≤ 7) (hd : (d : Int) < n) (s : Int) : goalP (p2 d) 0 s ↔ dg s d = 2 := by
  rw [goal_iff hn (show p2 d < 2 ^ n.toNat from Nat.pow_lt_pow_right (by decide) (by omega)) (Nat.two_pow_pos _)]
  unfold enC
  constructor
  · intro h
    have := (h d (by omega) hd).1 (by rw [show ((d : Int)).toNat = d by omega, p2, Nat.testBit_two_pow]; simp)
    rw [show ((d : Int)).toNat = d by omega] at this
    exact this
  · intro h e e0 e1
    refine ⟨fun q => ?_, fun q => by rw [Nat.zero_testBit] at q; cases q⟩
    rw [p2, Nat.testBit_two_pow] at q
    have q : d = e.toNat := by simpa using q
    rw [← q]; exact h
def fRunH (sp : Int → Int → Int) (n : Int) (hold : Int → Nat) : Nat → Int → Int → Int → Int → bF → Int × Int × bF
  | 0, _, _, sv, pl, F => (sv, pl, F)
  | m + 1, o, s, sv, pl, F => if (nrTo sp n (hold o) s F).1 = -1 then (sv, pl, (nrTo sp n (hold o) s F).2) else fRunH sp n hold m (o + 1) (nrTo sp n (hold o) s F).1 (sv + 1) (pl + rAt (nrTo sp n (hold o) s F).2.1 (nrTo sp n (hold o) s F).1) (nrTo sp n (hold o) s F).2
theorem fRun_H (sp : Int → Int → Int) (n : Int) (rs : Nat → List Int) (a b : Int) : ∀ (m : Nat) (o s sv pl : Int) (F : bF), fRun sp n rs a b m o s sv pl F = fRunH sp n (holdB n rs a b) m o s sv pl F
  | 0, o, s, sv, pl, F => rfl
  | m + 1, o, s, sv, pl, F => by
    rw [fRun, fRunH]
    split
    · rfl
    · exact fRun_H sp n rs a b m _ _ _ _ _
theorem fRunH_congr (sp : Int → Int → Int) (n : Int) {h1 h2 : Int → Nat} {N : Int} (h : ∀ o : Int, 0 ≤ o → o < N → h1 o = h2 o) : ∀ (m : Nat) (o s sv pl : Int) (F : bF), 0 ≤ o → o + m ≤ N → fRunH sp n h1 m o s sv pl F = fRunH sp n h2 m o s sv pl F
  | 0, o, s, sv, pl, F, _, _ => rfl
  | m + 1, o, s, sv, pl, F, h0, hm => by
    rw [fRunH, fRunH, h o h0 (by omega)]
    split
    · rfl
    · exact fRunH_congr sp n h m _ _ _ _ _ (by omega) (by omega)
theorem fRunH_rng {hold : Int → Nat} (hn : 0 ≤ n ∧ n ≤ 7) (hsp : spOK n (p3 n.toNat) sp) : ∀ (m : Nat) (o s sv pl : Int) (F : bF), isS n s → FSh F → (sv ≤ (fRunH sp n hold m o s sv pl F).1 ∧ (fRunH sp n hold m o s sv pl F).1 ≤ sv + m) ∧ pl ≤ (fRunH sp n hold m o s sv pl F).2.1 ∧ (fRunH sp n hold m o s sv pl F).2.1 ≤ pl + 2187 * m
  | 0, o, s, sv, pl, F, _, _ => ⟨⟨Int.le_refl _, by show sv ≤ sv + (0 : Nat); omega⟩, Int.le_refl _, by show pl ≤ pl + 2187 * (0 : Nat); omega⟩
  | m + 1, o, s, sv, pl, F, hs, hF => by
    have h2 := nrTo_ok hn hsp (hold o) hs hF
    rw [fRunH]
    split
    · exact ⟨⟨Int.le_refl _, by show sv ≤ sv + (m + 1 : Nat); omega⟩, Int.le_refl _, by show pl ≤ pl + 2187 * (m + 1 : Nat); omega⟩
    · rename_i hc
      have q := h2.2.resolve_left hc
      have ih := fRunH_rng (hold := hold) hn hsp m (o + 1) _ (sv + 1) (pl + rAt (nrTo sp n (hold o) s F).2.1 (nrTo sp n (hold o) s F).1) _ q.1 h2.1.sh
      refine ⟨⟨by omega, by omega⟩, by omega, by omega⟩
/-- what is known of the nearest drawer among the first -/
def DInv (n : Int) (sp : Int → Int → Int) (s : Int) (hh : Nat) (i drawer least : Int) : Prop :=
  (least = -1 ∧ drawer = -1 ∧ ∀ d : Nat, (d : Int) < i → hh.testBit d = true → ∃ gd : Int → Int, IsFar n sp (fun _ => False) (fun s => dg s d = 2) gd ∧ gd s < 0) ∨
  (∃ d0 : Nat, drawer = d0 ∧ ((d0 : Int) < i ∧ hh.testBit d0 = true) ∧ ∃ g : Int → Int, IsFar n sp (fun _ => False) (fun s => dg s d0 = 2) g ∧ (0 ≤ g s ∧ g s ≤ 2187) ∧ least = g s ∧ ∀ d : Nat, (d : Int) < i → hh.testBit d = true → ∃ gd : Int → Int, IsFar n sp (fun _ => False) (fun s => dg s d = 2) gd ∧ (0 ≤ gd s → g s ≤ gd s ∧ (gd s = g s → d0 ≤ d)))
theorem DInv.rng {s : Int} {hh : Nat} {i drawer least : Int} (h : DInv n sp s hh i drawer least) (hi : i ≤ 7) : (-1 ≤ drawer ∧ drawer < max 0 i) ∧ -1 ≤ least ∧ least ≤ 2187 ∧ (drawer = -1 ↔ least = -1) := by
  rcases h with ⟨h1, h2, -⟩ | ⟨d0, h1, ⟨h2, -⟩, g, -, h4, h5, -⟩ <;> omega
theorem DInv.skip {s : Int} {hh : Nat} {i drawer least : Int} (h : DInv n sp s hh i drawer least) (hi : 0 ≤ i) (hb : ¬ hh.testBit i.toNat = true) : DInv n sp s hh (i + 1) drawer least := by
  have e : ∀ d : Nat, (d : Int) < i + 1 → hh.testBit d = true → (d : Int) < i := fun d hd hq => by
    by_cases hdi : (d : Int) = i
    · exact absurd (by rw [show i.toNat = d by omega]; exact hq) hb
    · omega
  rcases h with ⟨h1, h2, h3⟩ | ⟨d0, h1, ⟨h2, h3⟩, g, h4, h5, h6, h7⟩
  · exact Or.inl ⟨h1, h2, fun d hd hq => h3 d (e d hd hq) hq⟩
  · exact Or.inr ⟨d0, h1, ⟨by omega, h3⟩, g, h4, h5, h6, fun d hd hq => h7 d (e d hd hq) hq⟩
theorem DInv.worse {s : Int} {hh : Nat} {i drawer least : Int} (h : DInv n sp s hh i drawer least) (hi : 0 ≤ i) (hg : IsFar n sp (fun _ => False) (fun s => dg s i.toNat = 2) g) (hw : g s < 0 ∨ (least ≠ -1 ∧ least ≤ g s)) : DInv n sp s hh (i + 1) drawer least := by
  rcases h with ⟨h1, h2, h3⟩ | ⟨d0, h1, ⟨h2, h3⟩, g0, h4, h5, h6, h7⟩
  · refine Or.inl ⟨h1, h2, fun d hd hq => ?_⟩
    by_cases hdi : (d : Int) = i
    · exact ⟨g, by rw [show d = i.toNat by omega]; exact hg, by omega⟩
    · exact h3 d (by omega) hq
  · refine Or.inr ⟨d0, h1, ⟨by omega, h3⟩, g0, h4, h5, h6, fun d hd hq => ?_⟩
    by_cases hdi : (d : Int) = i
    · exact ⟨g, by rw [show d = i.toNat by omega]; exact hg, fun q => ⟨by omega, fun _ => by omega⟩⟩
    · exact h7 d (by omega) hq
theorem DInv.better {s : Int} {hh : Nat} {i drawer least : Int} (h : DInv n sp s hh i drawer least) (hi : 0 ≤ i) (hb : hh.testBit i.toNat = true) (hg : IsFar n sp (fun _ => False) (fun s => dg s i.toNat = 2) g) (hr : 0 ≤ g s ∧ g s ≤ 2187) (hw : least = -1 ∨ g s < least) : DInv n sp s hh (i + 1) i (g s) := by
  refine Or.inr ⟨i.toNat, by omega, ⟨by omega, hb⟩, g, hg, hr, rfl, fun d hd hq => ?_⟩
  by_cases hdi : (d : Int) = i
  · exact ⟨g, by rw [show d = i.toNat by omega]; exact hg, fun q => ⟨Int.le_refl _, fun _ => by omega⟩⟩
  · rcases h with ⟨h1, h2, h3⟩ | ⟨d0, h1, ⟨h2, h3⟩, g0, h4, h5, h6, h7⟩
    · obtain ⟨gd, q1, q2⟩ := h3 d (by omega) hq
      exact ⟨gd, q1, fun q => by omega⟩
    · obtain ⟨gd, q1, q2⟩ := h7 d (by omega) hq
      exact ⟨gd, q1, fun q => by have := (q2 q).1; omega⟩
theorem DInv.no {s : Int} {hh : Nat} {F : bF} {drawer least : Int} (h : DInv n sp s hh n drawer least) (hn : 0 ≤ n ∧ n ≤ 7) (hh7 : hh < 2 ^ n.toNat) (hsp : spOK n (p3 n.toNat) sp) (hs : isS n s) (hF : FSh F) (hd : drawer = -1) : (nrTo sp n hh s F).1 = -1 := by
  rcases h with ⟨h1, h2, h3⟩ | ⟨d0, h1, -⟩
  · refine nr_no hn hsp hs hF (fun d hd hq => ?_)
    rcases Nat.lt_or_ge d n.toNat with r | r
    · exact h3 d (by omega) hq
    · rw [Nat.testBit_lt_two_pow (Nat.lt_of_lt_of_le hh7 (Nat.pow_le_pow_right (by decide) r))] at hq
      cases hq
  · omega
theorem DInv.yes {s : Int} {hh : Nat} {F : bF} {drawer least : Int} (h : DInv n sp s hh n drawer least) (hn : 0 ≤ n ∧ n ≤ 7) (hh7 : hh < 2 ^ n.toNat) (hsp : spOK n (p3 n.toNat) sp) (hs : isS n s) (hF : FSh F) (hd : drawer ≠ -1) (hg : IsFar n sp (fun _ => False) (fun s => dg s drawer.toNat = 2) g) : g s = least ∧ (nrTo sp n hh s F).1 = rwF sp n g s (g s).toNat ∧ rAt (nrTo sp n hh s F).2.1 (nrTo sp n hh s F).1 = least := by
  rcases h with ⟨h1, h2, h3⟩ | ⟨d0, h1, ⟨h2, h3⟩, g0, h4, h5, h6, h7⟩
  · exact absurd h2 hd
  · have hg' : IsFar n sp (fun _ => False) (fun s => dg s d0 = 2) g := by rw [show d0 = drawer.toNat by omega]; exact hg
    have e := far_eq h4 hg' hsp hs h5.1
    have hN : NrH n sp s hh d0 g := ⟨⟨by omega, h3⟩, hg', by omega, fun d hd hq => by
      rcases Nat.lt_or_ge d n.toNat with r | r
      · rw [e]; exact h7 d (by omega) hq
      · rw [Nat.testBit_lt_two_pow (Nat.lt_of_lt_of_le hh7 (Nat.pow_le_pow_right (by decide) r))] at hq
        cases hq⟩
    have k := nr_yes hn hsp hs hF hN
    exact ⟨by omega, k.1, by rw [k.2]; omega⟩
end BFS
def hdB (n : Int) (rs : Nat → List Int) (o : Int) : Nat := dwB (rs 0) (p2 (rAt (rs 5) o).toNat) n.toNat
theorem hdB_bit {n : Int} {rs : Nat → List Int} {o : Int} (hgd : gdOK n rs) (ho : 0 ≤ rAt (rs 5) o) {d : Int} (hd : isD n d) : (hdB n rs o).testBit d.toNat = true ↔ rAt (rs 0) d = rAt (rs 5) o := by
  have hg := hgd.2 d hd.1 hd.2
  unfold hdB
  rw [dwB_bit, decide_eq_true_eq, p2, Nat.testBit_two_pow, show ((d.toNat : Nat) : Int) = d by omega]
  simp only [decide_eq_true_eq]
  constructor
  · intro q; omega
  · intro q; exact ⟨by omega, by omega⟩
section MOD
variable {nn : Nat} {w : vWd} {n now : Int} {ca po fo : Nat} {rs : Nat → List Int} {sp : Int → Int → Int} {qt ty a0 sp0 tk vl mn fd : Int} {f : Nat → Int}
set_option maxRecDepth 100000 in
theorem lpm_days4 {s sum can drawer least sv : Int} {fr : Nat → Int} {G : Int → Prop} {Q : vPost} (ho : w 99 = some (mO qt ty a0 sp0 tk vl mn fd sv)) (hM : MS w n now ca po fo rs) (hn : 2 ≤ n ∧ n ≤ 7) (hs : isS n s) (hsp : spOK n (p3 n.toNat) sp) (hL : LdM w n sp) (h8 : w 108 = some (arI 2187 fr)) (hI : IsFar n sp (fun _ => False) G (fun s => fr s.toNat)) (hrg : ∀ s : Int, isS n s → -2 ≤ fr s.toNat ∧ fr s.toNat ≤ 2187) (h0 : 0 ≤ fr s.toNat) (K : ∀ w', w' 99 = some (mO qt ty a0 sp0 tk vl mn fd (sv + 1)) → (∀ j, j ≠ 99 → w' j = w j) → V mX6_days (rm 4) Q 11 [some (.ref 99), some (vI (rwF sp n (fun s => fr s.toNat) s (fr s.toNat).toNat)), some (vI sum), some (vI can), none, none, none] [] nn w' 0 0) : ∀ (m : Nat) (k : Int), 0 ≤ k → k + m = fr s.toNat →
    V mX6_days (rm 4) Q 158 [some (.ref 99), some (vI (rwF sp n (fun s => fr s.toNat) s k.toNat)), some (vI sum), some (vI can), some (vI drawer), some (vI least), none] [] nn w 0 0 := by
  have hM0 := hM
  have hL0 := hL
  have hp := p3_le n.toNat (by omega)
  have hr0 := hrg s hs
  obtain ⟨ld, h7, hld⟩ := hL
  intro m
  induction m with
  | zero =>
    intro k hk hkm
    have hv := v_spec hI (by omega) hsp hs k.toNat (by show ((k.toNat : Nat) : Int) ≤ fr s.toNat; omega)
    have hv2 : fr (rwF sp n (fun s => fr s.toNat) s k.toNat).toNat = fr s.toNat - (k.toNat : Nat) := hv.2
    have ek : k.toNat = (fr s.toNat).toNat := by omega
    refine V_aload_n (Y := mX6_days) (pc := 158) dX6_days_158 rfl ?_
    apply V_get (Y := mX6_days) (pc := 159) dX6_days_159 fl_X6_35
    · assumption
    · rfl
    refine V_iload_n (Y := mX6_days) (pc := 162) dX6_days_162 rfl ?_
    apply V_iald (Y := mX6_days) (pc := 163) dX6_days_163
    · assumption
    · exact ⟨by omega, by omega⟩
    · omega
    refine V_if_le (tgt := 186) (Y := mX6_days) (pc := 164) dX6_days_164 (by decide) ⟨by omega, by omega⟩ (fun h_164 => ?_) (fun h_164 => absurd h_164 (by omega))
    refine V_aload_n (Y := mX6_days) (pc := 186) dX6_days_186 rfl ?_
    refine V_dup (Y := mX6_days) (pc := 187) dX6_days_187 rfl ?_
    apply V_get (Y := mX6_days) (pc := 188) dX6_days_188 fl_X6_222
    · assumption
    · rfl
    refine V_iconst (Y := mX6_days) (pc := 191) dX6_days_191 ?_
    refine V_iadd (Y := mX6_days) (pc := 192) dX6_days_192 ?_
    apply V_putiW (Y := mX6_days) (pc := 193) dX6_days_193 fl_X6_222
    · assumption
    · exact Nat.le_of_ble_eq_true rfl
    intro w_193 h_193 f_193
    simp only [List.set_cons_zero, List.set_cons_succ] at h_193
    refine V_goto (tgt := 11) (Y := mX6_days) (pc := 196) dX6_days_196 (by decide) ?_
    refine V_drop 4 (V_drop 5 ?_)
    have k2 := K w_193 h_193 f_193
    rw [ek]
    exact k2
  | succ m ih =>
    intro k hk hkm
    have ih1 := ih (k + 1) (by omega) (by omega)
    rw [show (k + 1).toNat = k.toNat + 1 by omega, rwF] at ih1
    have hv := v_spec hI (by omega) hsp hs k.toNat (by show ((k.toNat : Nat) : Int) ≤ fr s.toNat; omega)
    have hv2 : fr (rwF sp n (fun s => fr s.toNat) s k.toNat).toNat = fr s.toNat - (k.toNat : Nat) := hv.2
    have hnx := nx_spec hI (by omega) hv.1 (by show 0 < fr (rwF sp n (fun s => fr s.toNat) s k.toNat).toNat; omega)
    have hl := hld _ _ hv.1 hnx.1
    refine V_aload_n (Y := mX6_days) (pc := 158) dX6_days_158 rfl ?_
    apply V_get (Y := mX6_days) (pc := 159) dX6_days_159 fl_X6_35
    · assumption
    · rfl
    refine V_iload_n (Y := mX6_days) (pc := 162) dX6_days_162 rfl ?_
    apply V_iald (Y := mX6_days) (pc := 163) dX6_days_163
    · assumption
    · exact ⟨by omega, by omega⟩
    · omega
    refine V_if_le (tgt := 186) (Y := mX6_days) (pc := 164) dX6_days_164 (by decide) ⟨by omega, by omega⟩ (fun h_164 => absurd h_164 (by omega)) (fun h_164 => ?_)
    refine V_aload_n (Y := mX6_days) (pc := 167) dX6_days_167 rfl ?_
    apply V_get (Y := mX6_days) (pc := 168) dX6_days_168 fl_X6_32
    · assumption
    · rfl
    refine V_bipush (Y := mX6_days) (pc := 171) dX6_days_171 ⟨by decide, by decide⟩ ?_
    refine V_iload_n (Y := mX6_days) (pc := 173) dX6_days_173 rfl ?_
    refine V_imul (Y := mX6_days) (pc := 174) dX6_days_174 ?_
    refine V_aload_n (Y := mX6_days) (pc := 175) dX6_days_175 rfl ?_
    refine V_iload_n (Y := mX6_days) (pc := 176) dX6_days_176 rfl ?_
    apply V_vR (Y := mX6_days) (pc := 177) dX6_days_177 ok_X6_next ov_X6_next ln_X6_203 (cm_next hM0 hn hsp hL0 h8 hI hrg hv.1 (by omega))
    · assumption
    · rfl
    · rfl
    · rfl
    · rfl
    · rfl
    refine V_iadd (Y := mX6_days) (pc := 180) dX6_days_180 ?_
    apply V_iald (Y := mX6_days) (pc := 181) dX6_days_181
    · assumption
    · exact ⟨by omega, by omega⟩
    · omega
    rw [hl]
    refine V_istore_n (Y := mX6_days) (pc := 182) dX6_days_182 rfl ?_
    refine V_goto (tgt := 158) (Y := mX6_days) (pc := 183) dX6_days_183 (by decide) ?_
    exact ih1
set_option maxRecDepth 100000 in
theorem lpm_days2 {s sum o : Int} {Q : vPost} (hM : MS w n now ca po fo rs) (ho : w 99 = some (mO qt ty a0 sp0 tk vl mn fd o)) (hb : w 100 = some (arI 98 f)) (hB : BkOf f n now ca po fo rs) (hG : vGood (n, now, ca, po, fo, rs)) (hs : isS n s) (hsp : spOK n (p3 n.toNat) sp) (hL : LdM w n sp) (hO : 0 ≤ o ∧ o < (rs 5).length) (K : ∀ w' fr drawer least, w' 108 = some (arI 2187 fr) → (∀ j, j ≠ 108 → w' j = w j) → DInv n sp s (hdB n rs o) n drawer least → V mX6_days (rm 4) Q 127 [some (.ref 99), some (vI s), some (vI sum), some (vI 1), some (vI drawer), some (vI least), none] [] nn w' 0 0) : ∀ (m : Nat) (i drawer least : Int) (w' : vWd) (fr : Nat → Int), 0 ≤ i → i + m = n → w' 108 = some (arI 2187 fr) → (∀ j, j ≠ 108 → w' j = w j) → DInv n sp s (hdB n rs o) i drawer least →
    V mX6_days (rm 4) Q 37 [some (.ref 99), some (vI s), some (vI sum), some (vI 1), some (vI drawer), some (vI least), some (vI i)] [] nn w' 0 0 := by
  obtain ⟨hn, hnow, hca, hpo, hfo, hgd, hcv, hor, hsg, hpast⟩ := hG.un
  have hp := p3_le n.toNat (by omega)
  have hlen := hB.2.1
  have e0 : f (0 : Int).toNat = n := hB.1.1.1
  have hor1 := hor o hO.1 hO.2
  intro m
  induction m with
  | zero =>
    intro i drawer least w' fr hi him h8 hf hD
    have ho' := (hf 99 (by omega)).trans ho
    have hb' := (hf 100 (by omega)).trans hb
    have hin : i = n := by omega
    rw [hin] at hD
    refine V_iload (Y := mX6_days) (pc := 37) dX6_days_37 rfl ?_
    refine V_aload_n (Y := mX6_days) (pc := 39) dX6_days_39 rfl ?_
    apply V_get (Y := mX6_days) (pc := 40) dX6_days_40 fl_X6_7
    · assumption
    · rfl
    refine V_iconst (Y := mX6_days) (pc := 43) dX6_days_43 ?_
    apply V_iald (Y := mX6_days) (pc := 44) dX6_days_44
    · assumption
    · exact ⟨by omega, by omega⟩
    · omega
    rw [e0]
    refine V_icmp_ge (tgt := 127) (Y := mX6_days) (pc := 45) dX6_days_45 (by decide) ⟨by omega, by omega⟩ ⟨by omega, by omega⟩ (fun h_45 => ?_) (fun h_45 => absurd h_45 (by omega))
    exact V_drop 6 (K w' fr drawer least h8 hf hD)
  | succ m ih =>
    intro i drawer least w' fr hi him h8 hf hD
    have ho' := (hf 99 (by omega)).trans ho
    have hb' := (hf 100 (by omega)).trans hb
    have hM' := hM.keep (hf 99 (by omega)) (hf 100 (by omega))
    have hL' := hL.keep (hf 107 (by omega))
    have hg1 := hgd.1
    have hgi := hgd.2 i hi (by omega)
    have eg := hB.2.2.1 i hi (by omega)
    have eo := hB.2.2.2.2.1 o hO.1 hO.2
    have hbit := hdB_bit (rs := rs) (o := o) hgd hor1.1 (d := i) ⟨hi, by omega⟩
    have hDr := hD.rng (by omega)
    have hlt2 : p2 i.toNat < 2 ^ n.toNat := Nat.pow_lt_pow_right (by decide) (by omega)
    refine V_iload (Y := mX6_days) (pc := 37) dX6_days_37 rfl ?_
    refine V_aload_n (Y := mX6_days) (pc := 39) dX6_days_39 rfl ?_
    apply V_get (Y := mX6_days) (pc := 40) dX6_days_40 fl_X6_7
    · assumption
    · rfl
    refine V_iconst (Y := mX6_days) (pc := 43) dX6_days_43 ?_
    apply V_iald (Y := mX6_days) (pc := 44) dX6_days_44
    · assumption
    · exact ⟨by omega, by omega⟩
    · omega
    rw [e0]
    refine V_icmp_ge (tgt := 127) (Y := mX6_days) (pc := 45) dX6_days_45 (by decide) ⟨by omega, by omega⟩ ⟨by omega, by omega⟩ (fun h_45 => absurd h_45 (by omega)) (fun h_45 => ?_)
    refine V_aload_n (Y := mX6_days) (pc := 48) dX6_days_48 rfl ?_
    apply V_get (Y := mX6_days) (pc := 49) dX6_days_49 fl_X6_7
    · assumption
    · rfl
    refine V_bipush (Y := mX6_days) (pc := 52) dX6_days_52 ⟨by decide, by decide⟩ ?_
    refine V_iload (Y := mX6_days) (pc := 54) dX6_days_54 rfl ?_
    refine V_iadd (Y := mX6_days) (pc := 56) dX6_days_56 ?_
    apply V_iald (Y := mX6_days) (pc := 57) dX6_days_57
    · assumption
    · exact ⟨by omega, by omega⟩
    · omega
    rw [eg]
    refine V_aload_n (Y := mX6_days) (pc := 58) dX6_days_58 rfl ?_
    apply V_get (Y := mX6_days) (pc := 59) dX6_days_59 fl_X6_7
    · assumption
    · rfl
    refine V_bipush (Y := mX6_days) (pc := 62) dX6_days_62 ⟨by decide, by decide⟩ ?_
    refine V_aload_n (Y := mX6_days) (pc := 64) dX6_days_64 rfl ?_
    apply V_get (Y := mX6_days) (pc := 65) dX6_days_65 fl_X6_222
    · assumption
    · rfl
    refine V_iadd (Y := mX6_days) (pc := 68) dX6_days_68 ?_
    apply V_iald (Y := mX6_days) (pc := 69) dX6_days_69
    · assumption
    · exact ⟨by omega, by omega⟩
    · omega
    rw [eo]
    refine V_icmp_ne (tgt := 121) (Y := mX6_days) (pc := 70) dX6_days_70 (by decide) ⟨by omega, by omega⟩ ⟨by omega, by omega⟩ (fun h_70 => ?_) (fun h_70 => ?_)
    · refine V_iinc (Y := mX6_days) (pc := 121) dX6_days_121 rfl rfl ?_
      refine V_goto (tgt := 37) (Y := mX6_days) (pc := 124) dX6_days_124 (by decide) ?_
      first
        | exact ih (i + 1) _ _ w' fr (by omega) (by omega) h8 hf (hD.skip hi (fun q => h_70 (hbit.mp q)))
        | exact ih (i + 1) _ _ w_80 fr2 (by omega) (by omega) g2 hf2 (hD.worse hi g5 (Or.inl h_89))
        | exact ih (i + 1) _ _ w_80 fr2 (by omega) (by omega) g2 hf2 (hD.better hi (hbit.mpr h_70) g5 ⟨h_89, g40.2⟩ (Or.inl h_95))
        | exact ih (i + 1) _ _ w_80 fr2 (by omega) (by omega) g2 hf2 (hD.better hi (hbit.mpr h_70) g5 ⟨h_89, g40.2⟩ (Or.inr h_106))
        | exact ih (i + 1) _ _ w_80 fr2 (by omega) (by omega) g2 hf2 (hD.worse hi g5 (Or.inr ⟨h_95, h_106⟩))
    · refine V_aload_n (Y := mX6_days) (pc := 73) dX6_days_73 rfl ?_
      refine V_iconst (Y := mX6_days) (pc := 74) dX6_days_74 ?_
      refine V_iload (Y := mX6_days) (pc := 75) dX6_days_75 rfl ?_
      refine V_ishl (Y := mX6_days) (pc := 77) dX6_days_77 (iI_shl2 (by omega) (by omega)) ?_
      refine V_iconst (Y := mX6_days) (pc := 78) dX6_days_78 ?_
      refine V_iconst (Y := mX6_days) (pc := 79) dX6_days_79 ?_
      apply V_vV (Y := mX6_days) (pc := 80) dX6_days_80 ok_X6_reckons ov_X6_reckons ln_X6_199 (cm_reckons (sp := sp) (a := p2 i.toNat) (b := 0) (y := 0) hM' hG hsp hL' h8 hlt2 (Nat.two_pow_pos _) (Or.inl rfl))
      · assumption
      · rfl
      · rfl
      · rfl
      · rfl
      · rfl
      rintro w_80 ⟨⟨fr2, g2, g3, g4⟩, f2⟩
      have o80 := (f2 99 (by omega)).trans ho'
      have g40 := g4 s hs
      rw [brP_0] at g3
      have g5 : IsFar n sp (fun _ => False) (fun s => dg s i.toNat = 2) (fun s => fr2 s.toNat) := g3.congr (fun _ _ _ _ => rfl) (fun _ _ => Iff.rfl) (fun t _ => goal_1 (n := n) (d := i.toNat) ⟨by omega, by omega⟩ (by omega) t)
      have hf2 : ∀ j, j ≠ 108 → w_80 j = w j := fun j hj => (f2 j hj).trans (hf j hj)
      refine V_aload_n (Y := mX6_days) (pc := 83) dX6_days_83 rfl ?_
      apply V_get (Y := mX6_days) (pc := 84) dX6_days_84 fl_X6_35
      · assumption
      · rfl
      refine V_iload_n (Y := mX6_days) (pc := 87) dX6_days_87 rfl ?_
      apply V_iald (Y := mX6_days) (pc := 88) dX6_days_88
      · assumption
      · exact ⟨by omega, by omega⟩
      · omega
      refine V_if_lt (tgt := 121) (Y := mX6_days) (pc := 89) dX6_days_89 (by decide) ⟨by omega, by omega⟩ (fun h_89 => ?_) (fun h_89 => ?_)
      · refine V_iinc (Y := mX6_days) (pc := 121) dX6_days_121 rfl rfl ?_
        refine V_goto (tgt := 37) (Y := mX6_days) (pc := 124) dX6_days_124 (by decide) ?_
        first
          | exact ih (i + 1) _ _ w' fr (by omega) (by omega) h8 hf (hD.skip hi (fun q => h_70 (hbit.mp q)))
          | exact ih (i + 1) _ _ w_80 fr2 (by omega) (by omega) g2 hf2 (hD.worse hi g5 (Or.inl h_89))
          | exact ih (i + 1) _ _ w_80 fr2 (by omega) (by omega) g2 hf2 (hD.better hi (hbit.mpr h_70) g5 ⟨h_89, g40.2⟩ (Or.inl h_95))
          | exact ih (i + 1) _ _ w_80 fr2 (by omega) (by omega) g2 hf2 (hD.better hi (hbit.mpr h_70) g5 ⟨h_89, g40.2⟩ (Or.inr h_106))
          | exact ih (i + 1) _ _ w_80 fr2 (by omega) (by omega) g2 hf2 (hD.worse hi g5 (Or.inr ⟨h_95, h_106⟩))
      · refine V_iload (Y := mX6_days) (pc := 92) dX6_days_92 rfl ?_
        refine V_iconst (Y := mX6_days) (pc := 94) dX6_days_94 ?_
        refine V_icmp_eq (tgt := 109) (Y := mX6_days) (pc := 95) dX6_days_95 (by decide) ⟨by omega, by omega⟩ ⟨by omega, by omega⟩ (fun h_95 => ?_) (fun h_95 => ?_)
        · refine V_aload_n (Y := mX6_days) (pc := 109) dX6_days_109 rfl ?_
          apply V_get (Y := mX6_days) (pc := 110) dX6_days_110 fl_X6_35
          · assumption
          · rfl
          refine V_iload_n (Y := mX6_days) (pc := 113) dX6_days_113 rfl ?_
          apply V_iald (Y := mX6_days) (pc := 114) dX6_days_114
          · assumption
          · exact ⟨by omega, by omega⟩
          · omega
          refine V_istore (Y := mX6_days) (pc := 115) dX6_days_115 rfl ?_
          refine V_iload (Y := mX6_days) (pc := 117) dX6_days_117 rfl ?_
          refine V_istore (Y := mX6_days) (pc := 119) dX6_days_119 rfl ?_
          refine V_iinc (Y := mX6_days) (pc := 121) dX6_days_121 rfl rfl ?_
          refine V_goto (tgt := 37) (Y := mX6_days) (pc := 124) dX6_days_124 (by decide) ?_
          first
            | exact ih (i + 1) _ _ w' fr (by omega) (by omega) h8 hf (hD.skip hi (fun q => h_70 (hbit.mp q)))
            | exact ih (i + 1) _ _ w_80 fr2 (by omega) (by omega) g2 hf2 (hD.worse hi g5 (Or.inl h_89))
            | exact ih (i + 1) _ _ w_80 fr2 (by omega) (by omega) g2 hf2 (hD.better hi (hbit.mpr h_70) g5 ⟨h_89, g40.2⟩ (Or.inl h_95))
            | exact ih (i + 1) _ _ w_80 fr2 (by omega) (by omega) g2 hf2 (hD.better hi (hbit.mpr h_70) g5 ⟨h_89, g40.2⟩ (Or.inr h_106))
            | exact ih (i + 1) _ _ w_80 fr2 (by omega) (by omega) g2 hf2 (hD.worse hi g5 (Or.inr ⟨h_95, h_106⟩))
        · refine V_aload_n (Y := mX6_days) (pc := 98) dX6_days_98 rfl ?_
          apply V_get (Y := mX6_days) (pc := 99) dX6_days_99 fl_X6_35
          · assumption
          · rfl
          refine V_iload_n (Y := mX6_days) (pc := 102) dX6_days_102 rfl ?_
          apply V_iald (Y := mX6_days) (pc := 103) dX6_days_103
          · assumption
          · exact ⟨by omega, by omega⟩
          · omega
          refine V_iload (Y := mX6_days) (pc := 104) dX6_days_104 rfl ?_
          refine V_icmp_ge (tgt := 121) (Y := mX6_days) (pc := 106) dX6_days_106 (by decide) ⟨by omega, by omega⟩ ⟨by omega, by omega⟩ (fun h_106 => ?_) (fun h_106 => ?_)
          · refine V_iinc (Y := mX6_days) (pc := 121) dX6_days_121 rfl rfl ?_
            refine V_goto (tgt := 37) (Y := mX6_days) (pc := 124) dX6_days_124 (by decide) ?_
            first
              | exact ih (i + 1) _ _ w' fr (by omega) (by omega) h8 hf (hD.skip hi (fun q => h_70 (hbit.mp q)))
              | exact ih (i + 1) _ _ w_80 fr2 (by omega) (by omega) g2 hf2 (hD.worse hi g5 (Or.inl h_89))
              | exact ih (i + 1) _ _ w_80 fr2 (by omega) (by omega) g2 hf2 (hD.better hi (hbit.mpr h_70) g5 ⟨h_89, g40.2⟩ (Or.inl h_95))
              | exact ih (i + 1) _ _ w_80 fr2 (by omega) (by omega) g2 hf2 (hD.better hi (hbit.mpr h_70) g5 ⟨h_89, g40.2⟩ (Or.inr h_106))
              | exact ih (i + 1) _ _ w_80 fr2 (by omega) (by omega) g2 hf2 (hD.worse hi g5 (Or.inr ⟨h_95, h_106⟩))
          · refine V_aload_n (Y := mX6_days) (pc := 109) dX6_days_109 rfl ?_
            apply V_get (Y := mX6_days) (pc := 110) dX6_days_110 fl_X6_35
            · assumption
            · rfl
            refine V_iload_n (Y := mX6_days) (pc := 113) dX6_days_113 rfl ?_
            apply V_iald (Y := mX6_days) (pc := 114) dX6_days_114
            · assumption
            · exact ⟨by omega, by omega⟩
            · omega
            refine V_istore (Y := mX6_days) (pc := 115) dX6_days_115 rfl ?_
            refine V_iload (Y := mX6_days) (pc := 117) dX6_days_117 rfl ?_
            refine V_istore (Y := mX6_days) (pc := 119) dX6_days_119 rfl ?_
            refine V_iinc (Y := mX6_days) (pc := 121) dX6_days_121 rfl rfl ?_
            refine V_goto (tgt := 37) (Y := mX6_days) (pc := 124) dX6_days_124 (by decide) ?_
            first
              | exact ih (i + 1) _ _ w' fr (by omega) (by omega) h8 hf (hD.skip hi (fun q => h_70 (hbit.mp q)))
              | exact ih (i + 1) _ _ w_80 fr2 (by omega) (by omega) g2 hf2 (hD.worse hi g5 (Or.inl h_89))
              | exact ih (i + 1) _ _ w_80 fr2 (by omega) (by omega) g2 hf2 (hD.better hi (hbit.mpr h_70) g5 ⟨h_89, g40.2⟩ (Or.inl h_95))
              | exact ih (i + 1) _ _ w_80 fr2 (by omega) (by omega) g2 hf2 (hD.better hi (hbit.mpr h_70) g5 ⟨h_89, g40.2⟩ (Or.inr h_106))
              | exact ih (i + 1) _ _ w_80 fr2 (by omega) (by omega) g2 hf2 (hD.worse hi g5 (Or.inr ⟨h_95, h_106⟩))
set_option maxRecDepth 100000 in
theorem lpm_days5 {s sum drawer least : Int} {w' : vWd} {Q : vPost} (hd : drawer = -1) (K : Q (some (vI sum)) nn w') :
    V mX6_days (rm 4) Q 127 [some (.ref 99), some (vI s), some (vI sum), some (vI 1), some (vI drawer), some (vI least), none] [] nn w' 0 0 := by
  subst hd
  refine V_iload (Y := mX6_days) (pc := 127) dX6_days_127 rfl ?_
  refine V_iconst (Y := mX6_days) (pc := 129) dX6_days_129 ?_
  refine V_icmp_eq (tgt := 137) (Y := mX6_days) (pc := 130) dX6_days_130 (by decide) ⟨by omega, by omega⟩ ⟨by omega, by omega⟩ (fun h_130 => ?_) (fun h_130 => absurd h_130 (by omega))
  refine V_iconst (Y := mX6_days) (pc := 137) dX6_days_137 ?_
  refine V_istore_n (Y := mX6_days) (pc := 138) dX6_days_138 rfl ?_
  refine V_iload_n (Y := mX6_days) (pc := 139) dX6_days_139 rfl ?_
  refine V_if_eq (tgt := 196) (Y := mX6_days) (pc := 140) dX6_days_140 (by decide) ⟨by omega, by omega⟩ (fun h_140 => ?_) (fun h_140 => absurd h_140 (by omega))
  refine V_goto (tgt := 11) (Y := mX6_days) (pc := 196) dX6_days_196 (by decide) ?_
  refine V_iload_n (Y := mX6_days) (pc := 11) dX6_days_11 rfl ?_
  refine V_if_eq (tgt := 199) (Y := mX6_days) (pc := 12) dX6_days_12 (by decide) ⟨by omega, by omega⟩ (fun h_12 => ?_) (fun h_12 => absurd h_12 (by omega))
  refine V_iload_n (Y := mX6_days) (pc := 199) dX6_days_199 rfl ?_
  refine V_iret (Y := mX6_days) (pc := 200) dX6_days_200 rfl (Nat.le_of_ble_eq_true rfl) (Nat.le_of_ble_eq_true rfl) ?_
  exact K
set_option maxRecDepth 100000 in
theorem lpm_days3 {s sum drawer least sv : Int} {fr : Nat → Int} {w' : vWd} {Q : vPost} (hd : ¬ drawer = -1) (hM : MS w' n now ca po fo rs) (hG : vGood (n, now, ca, po, fo, rs)) (hsp : spOK n (p3 n.toNat) sp) (hL : LdM w' n sp) (ho : w' 99 = some (mO qt ty a0 sp0 tk vl mn fd sv)) (h8 : w' 108 = some (arI 2187 fr)) (hdr : 0 ≤ drawer ∧ drawer < n) (K : ∀ w'' fr', w'' 108 = some (arI 2187 fr') → (∀ j, j ≠ 108 → w'' j = w' j) → IsFar n sp (fun _ => False) (fun s => dg s drawer.toNat = 2) (fun s => fr' s.toNat) → (∀ s : Int, isS n s → -2 ≤ fr' s.toNat ∧ fr' s.toNat ≤ 2187) → V mX6_days (rm 4) Q 158 [some (.ref 99), some (vI s), some (vI (sum + least)), some (vI 1), some (vI drawer), some (vI least), none] [] nn w'' 0 0) :
    V mX6_days (rm 4) Q 127 [some (.ref 99), some (vI s), some (vI sum), some (vI 1), some (vI drawer), some (vI least), none] [] nn w' 0 0 := by
  have hn := hG.un.1
  have hlt2 : p2 drawer.toNat < 2 ^ n.toNat := Nat.pow_lt_pow_right (by decide) (by omega)
  refine V_iload (Y := mX6_days) (pc := 127) dX6_days_127 rfl ?_
  refine V_iconst (Y := mX6_days) (pc := 129) dX6_days_129 ?_
  refine V_icmp_eq (tgt := 137) (Y := mX6_days) (pc := 130) dX6_days_130 (by decide) ⟨by omega, by omega⟩ ⟨by omega, by omega⟩ (fun h_130 => absurd h_130 (by omega)) (fun h_130 => ?_)
  refine V_iconst (Y := mX6_days) (pc := 133) dX6_days_133 ?_
  refine V_goto (tgt := 138) (Y := mX6_days) (pc := 134) dX6_days_134 (by decide) ?_
  refine V_istore_n (Y := mX6_days) (pc := 138) dX6_days_138 rfl ?_
  refine V_iload_n (Y := mX6_days) (pc := 139) dX6_days_139 rfl ?_
  refine V_if_eq (tgt := 196) (Y := mX6_days) (pc := 140) dX6_days_140 (by decide) ⟨by omega, by omega⟩ (fun h_140 => absurd h_140 (by omega)) (fun h_140 => ?_)
  refine V_aload_n (Y := mX6_days) (pc := 143) dX6_days_143 rfl ?_
  refine V_iconst (Y := mX6_days) (pc := 144) dX6_days_144 ?_
  refine V_iload (Y := mX6_days) (pc := 145) dX6_days_145 rfl ?_
  refine V_ishl (Y := mX6_days) (pc := 147) dX6_days_147 (iI_shl2 (by omega) (by omega)) ?_
  refine V_iconst (Y := mX6_days) (pc := 148) dX6_days_148 ?_
  refine V_iconst (Y := mX6_days) (pc := 149) dX6_days_149 ?_
  apply V_vV (Y := mX6_days) (pc := 150) dX6_days_150 ok_X6_reckons ov_X6_reckons ln_X6_199 (cm_reckons (sp := sp) (a := p2 drawer.toNat) (b := 0) (y := 0) hM hG hsp hL h8 hlt2 (Nat.two_pow_pos _) (Or.inl rfl))
  · assumption
  · rfl
  · rfl
  · rfl
  · rfl
  · rfl
  rintro w_150 ⟨⟨fr2, g2, g3, g4⟩, f2⟩
  rw [brP_0] at g3
  have g5 : IsFar n sp (fun _ => False) (fun s => dg s drawer.toNat = 2) (fun s => fr2 s.toNat) := g3.congr (fun _ _ _ _ => rfl) (fun _ _ => Iff.rfl) (fun t _ => goal_1 (n := n) (d := drawer.toNat) ⟨by omega, by omega⟩ (by omega) t)
  refine V_iload_n (Y := mX6_days) (pc := 153) dX6_days_153 rfl ?_
  refine V_iload (Y := mX6_days) (pc := 154) dX6_days_154 rfl ?_
  refine V_iadd (Y := mX6_days) (pc := 156) dX6_days_156 ?_
  refine V_istore_n (Y := mX6_days) (pc := 157) dX6_days_157 rfl ?_
  exact K w_150 fr2 g2 f2 g5 g4
set_option maxRecDepth 100000 in
theorem lpm_days1 {Q : vPost} {r : Int × Int × bF} (hM : MS w n now ca po fo rs) (hb : w 100 = some (arI 98 f)) (hB : BkOf f n now ca po fo rs) (hG : vGood (n, now, ca, po, fo, rs)) (hsp : spOK n (p3 n.toNat) sp) (hL : LdM w n sp) (K : ∀ w' fr, w' 99 = some (mO qt ty a0 sp0 tk vl mn fd r.1) → w' 108 = some (arI 2187 fr) → (∀ j, j ≠ 99 → j ≠ 108 → w' j = w j) → Q (some (vI r.2.1)) nn w') : ∀ (m : Nat) (o s pl : Int) (F : bF) (w' : vWd) (fr : Nat → Int), 0 ≤ o → o + m = (rs 5).length → isS n s → FSh F → w' 99 = some (mO qt ty a0 sp0 tk vl mn fd o) → w' 108 = some (arI 2187 fr) → (∀ j, j ≠ 99 → j ≠ 108 → w' j = w j) → fRunH sp n (hdB n rs) m o s o pl F = r →
    V mX6_days (rm 4) Q 11 [some (.ref 99), some (vI s), some (vI pl), some (vI 1), none, none, none] [] nn w' 0 0 := by
  obtain ⟨hn, hnow, hca, hpo, hfo, hgd, hcv, hor, hsg, hpast⟩ := hG.un
  have hp := p3_le n.toNat (by omega)
  have hlen := hB.2.1
  have e2 : f (2 : Int).toNat = (rs 5).length := hB.1.1.2.2.1
  have hM0 : ∀ w', (∀ j, j ≠ 99 → j ≠ 108 → w' j = w j) → (∃ o, w' 99 = some (mO qt ty a0 sp0 tk vl mn fd o)) → MS w' n now ca po fo rs := fun w' h1 h2 => by
    obtain ⟨o, h2⟩ := h2
    exact ⟨f, ⟨_, _, _, _, _, _, _, _, _, h2⟩, (h1 _ (by omega) (by omega)).trans hb, hB⟩
  intro m
  induction m with
  | zero =>
    intro o s pl F w' fr ho hom hs hF h9 h8 hf hr
    have hb' := (hf 100 (by omega) (by omega)).trans hb
    have hr : (o, pl, F) = r := hr
    refine V_iload_n (Y := mX6_days) (pc := 11) dX6_days_11 rfl ?_
    refine V_if_eq (tgt := 199) (Y := mX6_days) (pc := 12) dX6_days_12 (by decide) ⟨by omega, by omega⟩ (fun h_12 => absurd h_12 (by omega)) (fun h_12 => ?_)
    refine V_aload_n (Y := mX6_days) (pc := 15) dX6_days_15 rfl ?_
    apply V_get (Y := mX6_days) (pc := 16) dX6_days_16 fl_X6_222
    · assumption
    · rfl
    refine V_aload_n (Y := mX6_days) (pc := 19) dX6_days_19 rfl ?_
    apply V_get (Y := mX6_days) (pc := 20) dX6_days_20 fl_X6_7
    · assumption
    · rfl
    refine V_iconst (Y := mX6_days) (pc := 23) dX6_days_23 ?_
    apply V_iald (Y := mX6_days) (pc := 24) dX6_days_24
    · assumption
    · exact ⟨by omega, by omega⟩
    · omega
    rw [e2]
    refine V_icmp_ge (tgt := 199) (Y := mX6_days) (pc := 25) dX6_days_25 (by decide) ⟨by omega, by omega⟩ ⟨by omega, by omega⟩ (fun h_25 => ?_) (fun h_25 => absurd h_25 (by omega))
    refine V_iload_n (Y := mX6_days) (pc := 199) dX6_days_199 rfl ?_
    refine V_iret (Y := mX6_days) (pc := 200) dX6_days_200 rfl (Nat.le_of_ble_eq_true rfl) (Nat.le_of_ble_eq_true rfl) ?_
    rw [← hr] at K
    exact K w' fr h9 h8 hf
  | succ m ih =>
    intro o s pl F w' fr ho hom hs hF h9 h8 hf hr
    have hb' := (hf 100 (by omega) (by omega)).trans hb
    have hM' := hM0 w' hf ⟨o, h9⟩
    have hL' := hL.keep (hf 107 (by omega) (by omega))
    have hh7 : hdB n rs o < 2 ^ n.toNat := dwB_lt _ _ _
    rw [fRunH] at hr
    refine V_iload_n (Y := mX6_days) (pc := 11) dX6_days_11 rfl ?_
    refine V_if_eq (tgt := 199) (Y := mX6_days) (pc := 12) dX6_days_12 (by decide) ⟨by omega, by omega⟩ (fun h_12 => absurd h_12 (by omega)) (fun h_12 => ?_)
    refine V_aload_n (Y := mX6_days) (pc := 15) dX6_days_15 rfl ?_
    apply V_get (Y := mX6_days) (pc := 16) dX6_days_16 fl_X6_222
    · assumption
    · rfl
    refine V_aload_n (Y := mX6_days) (pc := 19) dX6_days_19 rfl ?_
    apply V_get (Y := mX6_days) (pc := 20) dX6_days_20 fl_X6_7
    · assumption
    · rfl
    refine V_iconst (Y := mX6_days) (pc := 23) dX6_days_23 ?_
    apply V_iald (Y := mX6_days) (pc := 24) dX6_days_24
    · assumption
    · exact ⟨by omega, by omega⟩
    · omega
    rw [e2]
    refine V_icmp_ge (tgt := 199) (Y := mX6_days) (pc := 25) dX6_days_25 (by decide) ⟨by omega, by omega⟩ ⟨by omega, by omega⟩ (fun h_25 => absurd h_25 (by omega)) (fun h_25 => ?_)
    refine V_iconst (Y := mX6_days) (pc := 28) dX6_days_28 ?_
    refine V_istore (Y := mX6_days) (pc := 29) dX6_days_29 rfl ?_
    refine V_iconst (Y := mX6_days) (pc := 31) dX6_days_31 ?_
    refine V_istore (Y := mX6_days) (pc := 32) dX6_days_32 rfl ?_
    refine V_iconst (Y := mX6_days) (pc := 34) dX6_days_34 ?_
    refine V_istore (Y := mX6_days) (pc := 35) dX6_days_35 rfl ?_
    refine lpm_days2 (w := w') (sp := sp) hM' h9 hb' hB hG hs hsp hL' ⟨ho, by omega⟩ (fun w2 fr2 drawer least q1 q2 q3 => ?_) n.toNat 0 (-1) (-1) w' fr (by omega) (by omega) h8 (fun _ _ => rfl) (Or.inl ⟨rfl, rfl, fun d hd _ => by omega⟩)
    have o2 := (q2 99 (by omega)).trans h9
    have hf2 : ∀ j, j ≠ 99 → j ≠ 108 → w2 j = w j := fun j a b => (q2 j b).trans (hf j a b)
    have hM2 := hM0 w2 hf2 ⟨o, o2⟩
    have hL2 := hL'.keep (q2 107 (by omega))
    have hDr := q3.rng (by omega)
    by_cases hd : drawer = -1
    · rw [if_pos (q3.no ⟨by omega, by omega⟩ hh7 hsp hs hF hd)] at hr
      refine lpm_days5 hd ?_
      rw [← hr] at K
      exact K w2 fr2 o2 q1 hf2
    · refine lpm_days3 (sp := sp) hd hM2 hG hsp hL2 o2 q1 ⟨by omega, by omega⟩ (fun w3 fr3 y1 y2 y3 y4 => ?_)
      have hy := q3.yes (F := F) ⟨by omega, by omega⟩ hh7 hsp hs hF hd y3
      have hy1 : fr3 s.toNat = least := hy.1
      have hL3 := hL2.keep (y2 107 (by omega))
      have o3 := (y2 99 (by omega)).trans o2
      have hf3 : ∀ j, j ≠ 99 → j ≠ 108 → w3 j = w j := fun j a b => (y2 j b).trans (hf2 j a b)
      have hv := v_spec y3 (by omega) hsp hs (fr3 s.toNat).toNat (by show (((fr3 s.toNat).toNat : Nat) : Int) ≤ fr3 s.toNat; omega)
      rw [if_neg (by rw [hy.2.1]; have := hv.1; show ¬ rwF sp n (fun s => fr3 s.toNat) s (fr3 s.toNat).toNat = -1; omega)] at hr
      have hnr := nrTo_ok ⟨by omega, by omega⟩ hsp (hdB n rs o) hs hF
      refine lpm_days4 (sp := sp) (sv := o) o3 (hM0 w3 hf3 ⟨o, o3⟩) hn hs hsp hL3 y1 y3 y4 (by omega) (fun w4 z1 z2 => ?_) least.toNat 0 (by omega) (by omega)
      rw [hy.2.2, hy.2.1] at hr
      exact ih (o + 1) _ _ _ w4 fr3 (by omega) (by omega) hv.1 hnr.1.sh z1 ((z2 108 (by omega)).trans y1) (fun j a b => (z2 j a).trans (hf3 j a b)) hr
set_option maxRecDepth 100000 in
theorem cm_days {fr : Nat → Int} {sv : Int} (ho : w 99 = some (mO qt ty a0 sp0 tk vl mn fd sv)) (hb : w 100 = some (arI 98 f)) (hB : BkOf f n now ca po fo rs) (hG : vGood (n, now, ca, po, fo, rs)) (hsp : spOK n (p3 n.toNat) sp) (hL : LdM w n sp) (h8 : w 108 = some (arI 2187 fr)) : Ctr mX6_days (rm 4) [.ref 99] nn w (pI (fun z w' => z = (fRunH sp n (hdB n rs) (rs 5).length 0 0 0 0 bF0).2.1 ∧ w' 99 = some (mO qt ty a0 sp0 tk vl mn fd (fRunH sp n (hdB n rs) (rs 5).length 0 0 0 0 bF0).1) ∧ (∃ fr, w' 108 = some (arI 2187 fr)) ∧ ∀ j, j ≠ 99 → j ≠ 108 → w' j = w j) nn) := by
  refine Ctr_of (lv := [some (.ref 99), none, none, none, none, none, none]) (by decide +kernel) rfl rfl ?_
  have hp := p3_1 n.toNat
  have hF0 : FSh bF0 := ⟨by show (List.replicate 2187 (0 : Int)).length = 2187; rw [List.length_replicate], by show (List.replicate 2187 (0 : Int)).length = 2187; rw [List.length_replicate]⟩
  have hM : MS w n now ca po fo rs := ⟨f, ⟨_, _, _, _, _, _, _, _, _, ho⟩, hb, hB⟩
  refine V_iconst (Y := mX6_days) (pc := 0) dX6_days_0 ?_
  refine V_istore_n (Y := mX6_days) (pc := 1) dX6_days_1 rfl ?_
  refine V_iconst (Y := mX6_days) (pc := 2) dX6_days_2 ?_
  refine V_istore_n (Y := mX6_days) (pc := 3) dX6_days_3 rfl ?_
  refine V_aload_n (Y := mX6_days) (pc := 4) dX6_days_4 rfl ?_
  refine V_iconst (Y := mX6_days) (pc := 5) dX6_days_5 ?_
  apply V_putiW (Y := mX6_days) (pc := 6) dX6_days_6 fl_X6_222
  · assumption
  · exact Nat.le_of_ble_eq_true rfl
  intro w_6 h_6 f_6
  simp only [List.set_cons_zero, List.set_cons_succ] at h_6
  refine V_iconst (Y := mX6_days) (pc := 9) dX6_days_9 ?_
  refine V_istore_n (Y := mX6_days) (pc := 10) dX6_days_10 rfl ?_
  exact lpm_days1 (w := w) (sp := sp) (r := fRunH sp n (hdB n rs) (rs 5).length 0 0 0 0 bF0) hM hb hB hG hsp hL (fun w' fr q1 q2 q3 => pI_of ⟨rfl, q1, ⟨fr, q2⟩, q3⟩) (rs 5).length 0 0 0 bF0 w_6 fr (by omega) (by omega) ⟨by omega, by omega⟩ hF0 h_6 ((f_6 _ (by omega)).trans h8) (fun j a b => f_6 j a) rfl
end MOD
