/-! ===== the nearest drawer ===== -/
theorem ntz_sp {a : Nat} (h : ∃ k : Nat, k < 7 ∧ a.testBit k = true) : ∃ k : Nat, k < 7 ∧ ntzF a = (k : Int) ∧ a.testBit k = true ∧ ∀ j, j < k → a.testBit j = false := by
  have key : ∀ k : Nat, k < 7 → a.testBit k = true → (∀ j, j < k → ¬ a.testBit j = true) → ∃ k : Nat, k < 7 ∧ ntzF a = (k : Int) ∧ a.testBit k = true ∧ ∀ j, j < k → a.testBit j = false := by
    intro k hk hb hlo
    refine ⟨k, hk, ?_, hb, fun j hj => Bool.eq_false_iff.mpr (hlo j hj)⟩
    unfold ntzF
    rcases (show k = 0 ∨ k = 1 ∨ k = 2 ∨ k = 3 ∨ k = 4 ∨ k = 5 ∨ k = 6 by omega) with rfl | rfl | rfl | rfl | rfl | rfl | rfl
    · rw [if_pos hb]; rfl
    · rw [if_neg (hlo 0 (by omega)), if_pos hb]; rfl
    · rw [if_neg (hlo 0 (by omega)), if_neg (hlo 1 (by omega)), if_pos hb]; rfl
    · rw [if_neg (hlo 0 (by omega)), if_neg (hlo 1 (by omega)), if_neg (hlo 2 (by omega)), if_pos hb]; rfl
    · rw [if_neg (hlo 0 (by omega)), if_neg (hlo 1 (by omega)), if_neg (hlo 2 (by omega)), if_neg (hlo 3 (by omega)), if_pos hb]; rfl
    · rw [if_neg (hlo 0 (by omega)), if_neg (hlo 1 (by omega)), if_neg (hlo 2 (by omega)), if_neg (hlo 3 (by omega)), if_neg (hlo 4 (by omega)), if_pos hb]; rfl
    · rw [if_neg (hlo 0 (by omega)), if_neg (hlo 1 (by omega)), if_neg (hlo 2 (by omega)), if_neg (hlo 3 (by omega)), if_neg (hlo 4 (by omega)), if_neg (hlo 5 (by omega)), if_pos hb]; rfl
  by_cases b0 : a.testBit 0 = true
  · exact key 0 (by omega) b0 (fun j hj => by omega)
  by_cases b1 : a.testBit 1 = true
  · exact key 1 (by omega) b1 (fun j hj => by rw [show j = 0 by omega]; exact b0)
  by_cases b2 : a.testBit 2 = true
  · exact key 2 (by omega) b2 (fun j hj => by rcases (show j = 0 ∨ j = 1 by omega) with rfl | rfl <;> assumption)
  by_cases b3 : a.testBit 3 = true
  · exact key 3 (by omega) b3 (fun j hj => by rcases (show j = 0 ∨ j = 1 ∨ j = 2 by omega) with rfl | rfl | rfl <;> assumption)
  by_cases b4 : a.testBit 4 = true
  · exact key 4 (by omega) b4 (fun j hj => by rcases (show j = 0 ∨ j = 1 ∨ j = 2 ∨ j = 3 by omega) with rfl | rfl | rfl | rfl <;> assumption)
  by_cases b5 : a.testBit 5 = true
  · exact key 5 (by omega) b5 (fun j hj => by rcases (show j = 0 ∨ j = 1 ∨ j = 2 ∨ j = 3 ∨ j = 4 by omega) with rfl | rfl | rfl | rfl | rfl <;> assumption)
  obtain ⟨k, hk, hb⟩ := h
  have hk6 : k = 6 := by
    rcases (show k = 0 ∨ k = 1 ∨ k = 2 ∨ k = 3 ∨ k = 4 ∨ k = 5 ∨ k = 6 by omega) with rfl | rfl | rfl | rfl | rfl | rfl | rfl
    · exact absurd hb b0
    · exact absurd hb b1
    · exact absurd hb b2
    · exact absurd hb b3
    · exact absurd hb b4
    · exact absurd hb b5
    · rfl
  subst hk6
  exact key 6 (by omega) hb (fun j hj => by rcases (show j = 0 ∨ j = 1 ∨ j = 2 ∨ j = 3 ∨ j = 4 ∨ j = 5 by omega) with rfl | rfl | rfl | rfl | rfl | rfl <;> assumption)
theorem op_bit (t : Int) (hh d : Nat) : (drB t 2 7 &&& hh).testBit d = true ↔ (d < 7 ∧ dg t d = 2) ∧ hh.testBit d = true := by
  rw [Nat.testBit_and, drB_bit, Bool.and_eq_true, decide_eq_true_eq]
theorem op_ne {t : Int} {hh : Nat} : (drB t 2 7 &&& hh) ≠ 0 ↔ ∃ d : Nat, (d < 7 ∧ dg t d = 2) ∧ hh.testBit d = true := by
  constructor
  · intro h
    obtain ⟨i, hi⟩ := Nat.exists_testBit_of_ne_zero h
    exact ⟨i, (op_bit t hh i).mp hi⟩
  · rintro ⟨d, hd⟩ hz
    have := (op_bit t hh d).mpr hd
    rw [hz, Nat.zero_testBit] at this
    cases this
section BFS
variable {n : Int} {sp : Int → Int → Int} {g : Int → Int} {now : Int} {hh d0 : Nat}
/-- the drawer that is nearest, by the distances to each -/
def NrH (n : Int) (sp : Int → Int → Int) (now : Int) (hh d0 : Nat) (g : Int → Int) : Prop := (d0 < 7 ∧ hh.testBit d0 = true) ∧ IsFar n sp (fun _ => False) (fun s => dg s d0 = 2) g ∧ 0 ≤ g now ∧ ∀ d : Nat, d < 7 → hh.testBit d = true → ∃ gd : Int → Int, IsFar n sp (fun _ => False) (fun s => dg s d = 2) gd ∧ (0 ≤ gd now → g now ≤ gd now ∧ (gd now = g now → d0 ≤ d))
theorem NrH.low (h : NrH n sp now hh d0 g) {k : Nat} {c : Int} {F : bF} (hB : BI n sp (fun _ => False) now k c F) {t : Int} (ht : t ∈ F.2.2.2) (hle : rAt F.1 t ≤ g now) {d : Nat} (hd : d < 7) (hb : hh.testBit d = true) (hdg : dg t d = 2) : rAt F.1 t = g now ∧ d0 ≤ d := by
  obtain ⟨gd, hgd, hm⟩ := h.2.2.2 d hd hb
  have h0 := hgd.goal (hB.isS ht).1 (fun q => q) hdg
  have Q := hB.2.2.2.2.2 _ gd hgd t ht (by omega)
  have := hm Q.1
  exact ⟨by omega, this.2 (by omega)⟩
theorem near_tail (h : NrH n sp now hh d0 g) {kk : Nat} {c : Int} {F : bF} (hB : BI n sp (fun _ => False) now kk c F) {v : Int} (hv : v ≠ -1) (hphi : rAt F.1 v = g now) : ∀ m k : Nat, fNear sp n.toNat hh m k v (d0 : Int) F = (v, F)
  | 0, k => rfl
  | m + 1, k => by
    rw [fNear]
    split
    · rename_i hk
      split
      · rfl
      · rename_i hc
        have ht : rAt F.2.2.2 (k : Int) ∈ F.2.2.2 := rAt_mem (by omega) (by omega)
        have hle : rAt F.1 (rAt F.2.2.2 (k : Int)) ≤ g now := by
          rcases Int.lt_or_le (rAt F.1 v) (rAt F.1 (rAt F.2.2.2 (k : Int))) with r | r
          · exact absurd ⟨hv, r⟩ hc
          · omega
        have e : nrPick hh (rAt F.2.2.2 (k : Int)) v (d0 : Int) = (v, (d0 : Int)) := by
          refine if_neg (fun q => ?_)
          obtain ⟨d, ⟨d1, d2⟩, d3⟩ := op_ne.mp q.1
          obtain ⟨z, z1, z2, z3, z4⟩ := ntz_sp ⟨d, d1, (op_bit _ hh d).mpr ⟨⟨d1, d2⟩, d3⟩⟩
          obtain ⟨⟨y1, y2⟩, y3⟩ := (op_bit _ hh z).mp z3
          have := (h.low hB ht hle y1 y3 y2).2
          have := q.2
          omega
        rw [e, if_neg hv]
        exact near_tail h hB hv hphi m (k + 1)
    · rfl
theorem near_mid (h : NrH n sp now hh d0 g) {kk p : Nat} {c v : Int} {F : bF} (hB : BI n sp (fun _ => False) now kk c F) (hp : p < F.2.2.2.length) (hvp : rAt F.2.2.2 (p : Int) = v) (hphi : rAt F.1 v = g now) (hdg : dg v d0 = 2) (hb : ∀ i : Nat, i < p → 0 ≤ g (rAt F.2.2.2 (i : Int)) → rAt F.1 (rAt F.2.2.2 (i : Int)) + g (rAt F.2.2.2 (i : Int)) = g now → rAt F.1 (rAt F.2.2.2 (i : Int)) < g now) : ∀ (m k : Nat) (best bd : Int), k ≤ p → p < k + m → best ≠ -1 → rAt F.1 best = g now → (d0 : Int) < bd → fNear sp n.toNat hh m k best bd F = (v, F)
  | 0, k, best, bd, hkp, hkm, _, _, _ => by omega
  | m + 1, k, best, bd, hkp, hkm, hbest, hbp, hbd => by
    have hk : k < F.2.2.2.length := by omega
    have ht : rAt F.2.2.2 (k : Int) ∈ F.2.2.2 := rAt_mem (by omega) (by omega)
    have hS := hB.isS ht
    have hmono := hB.2.2.1 k p hkp hp
    rw [hvp, hphi] at hmono
    have hv1 : v ≠ -1 := by
      have : v ∈ F.2.2.2 := by rw [← hvp]; exact rAt_mem (by omega) (by omega)
      have := (hB.isS this).1
      omega
    rw [fNear, if_pos hk, if_neg (fun q => by have := q.2; omega)]
    rcases Nat.lt_or_ge k p with r | r
    · by_cases hne : (drB (rAt F.2.2.2 (k : Int)) 2 7 &&& hh) ≠ 0 ∧ ntzF (drB (rAt F.2.2.2 (k : Int)) 2 7 &&& hh) < bd
      · have e : nrPick hh (rAt F.2.2.2 (k : Int)) best bd = (rAt F.2.2.2 (k : Int), ntzF (drB (rAt F.2.2.2 (k : Int)) 2 7 &&& hh)) := if_pos hne
        obtain ⟨d, ⟨d1, d2⟩, d3⟩ := op_ne.mp hne.1
        obtain ⟨z, z1, z2, z3, z4⟩ := ntz_sp ⟨d, d1, (op_bit _ hh d).mpr ⟨⟨d1, d2⟩, d3⟩⟩
        obtain ⟨⟨y1, y2⟩, y3⟩ := (op_bit _ hh z).mp z3
        have hlow := h.low hB ht hmono y1 y3 y2
        have hz : z ≠ d0 := fun q => by
          subst q
          have h0 := h.2.1.goal hS.1 (fun q => q) y2
          have := hb k r (by omega) (by omega)
          omega
        rw [e]
        show fNear sp n.toNat hh m (k + 1) (rAt F.2.2.2 (k : Int)) (ntzF (drB (rAt F.2.2.2 (k : Int)) 2 7 &&& hh)) (if rAt F.2.2.2 (k : Int) = -1 then _ else F) = (v, F)
        rw [if_neg (by omega)]
        exact near_mid h hB hp hvp hphi hdg hb m (k + 1) _ _ (by omega) (by omega) (by omega) hlow.1 (by omega)
      · have e : nrPick hh (rAt F.2.2.2 (k : Int)) best bd = (best, bd) := if_neg hne
        rw [e]
        show fNear sp n.toNat hh m (k + 1) best bd (if best = -1 then _ else F) = (v, F)
        rw [if_neg hbest]
        exact near_mid h hB hp hvp hphi hdg hb m (k + 1) _ _ (by omega) (by omega) hbest hbp hbd
    · have hkp2 : k = p := by omega
      subst hkp2
      obtain ⟨z, z1, z2, z3, z4⟩ := ntz_sp (a := drB (rAt F.2.2.2 (k : Int)) 2 7 &&& hh) ⟨d0, h.1.1, (op_bit _ hh d0).mpr ⟨⟨h.1.1, by rw [hvp]; exact hdg⟩, h.1.2⟩⟩
      obtain ⟨⟨y1, y2⟩, y3⟩ := (op_bit _ hh z).mp z3
      have hlow := (h.low hB ht hmono y1 y3 y2).2
      have hzd : z = d0 := by
        rcases Nat.lt_or_ge d0 z with r2 | r2
        · have := z4 d0 r2
          rw [(op_bit _ hh d0).mpr ⟨⟨h.1.1, by rw [hvp]; exact hdg⟩, h.1.2⟩] at this
          cases this
        · omega
      subst hzd
      have e : nrPick hh (rAt F.2.2.2 (k : Int)) best bd = (v, (z : Int)) := by
        rw [nrPick, if_pos ⟨op_ne.mpr ⟨z, ⟨y1, y2⟩, y3⟩, by omega⟩, z2, hvp]
      rw [e]
      show fNear sp n.toNat hh m (k + 1) v (z : Int) (if v = -1 then _ else F) = (v, F)
      rw [if_neg hv1]
      exact near_tail h hB hv1 hphi m (k + 1)
theorem near_run (hn : 0 ≤ n ∧ n ≤ 7) (hsp : spOK n (p3 n.toNat) sp) (hnow : isS n now) (h : NrH n sp now hh d0 g) : ∀ (m k j p : Nat) (c : Int) (F : bF), k + m = 2188 → BI n sp (fun _ => False) now k c F → c ≤ rAt F.1 (rAt F.2.2.2 (k : Int)) → CH n sp now g k j p F →
    (fNear sp n.toNat hh m k (-1) 7 F).1 = rwF sp n g now (g now).toNat ∧ rAt (fNear sp n.toNat hh m k (-1) 7 F).2.1 (rwF sp n g now (g now).toNat) = g now
  | 0, k, j, p, c, F, hkm, hB, hc, hC => by
    have := hB.len hn
    have := hC.1
    have := hC.2.1
    omega
  | m + 1, k, j, p, c, F, hkm, hB, hc, hC => by
    have hC0 := hC
    have hg := h.2.1
    obtain ⟨h1, h2, h3, h4, h5, h6, h7, h8⟩ := hC
    have hlen := hB.len hn
    have hk : k < F.2.2.2.length := by omega
    have hm : rAt F.2.2.2 (k : Int) ∈ F.2.2.2 := rAt_mem (by omega) (by omega)
    have hS := hB.isS hm
    have hmono := hB.2.2.1 k p h2 h1
    rw [h3, h4] at hmono
    have hv := v_spec hg hn.1 hsp hnow j h8
    rw [fNear, if_pos hk, if_neg (fun q => q.1 rfl)]
    by_cases hne : (drB (rAt F.2.2.2 (k : Int)) 2 7 &&& hh) ≠ 0
    · obtain ⟨d, ⟨d1, d2⟩, d3⟩ := op_ne.mp hne
      obtain ⟨z, z1, z2, z3, z4⟩ := ntz_sp ⟨d, d1, (op_bit _ hh d).mpr ⟨⟨d1, d2⟩, d3⟩⟩
      obtain ⟨⟨y1, y2⟩, y3⟩ := (op_bit _ hh z).mp z3
      have hlow := h.low hB hm (by omega) y1 y3 y2
      have hj : (j : Int) = g now := by omega
      have hjn : (g now).toNat = j := by omega
      have hdg : dg (rwF sp n g now j) d0 = 2 := hg.zero hv.1 (by omega)
      have e : nrPick hh (rAt F.2.2.2 (k : Int)) (-1) 7 = (rAt F.2.2.2 (k : Int), (z : Int)) := by
        rw [nrPick, if_pos ⟨hne, by omega⟩, z2]
      rw [e, hjn]
      show (fNear sp n.toNat hh m (k + 1) (rAt F.2.2.2 (k : Int)) (z : Int) (if rAt F.2.2.2 (k : Int) = -1 then fGrowTo sp F (rAt F.2.2.2 (k : Int)) n.toNat else F)).1 = _ ∧ rAt (fNear sp n.toNat hh m (k + 1) (rAt F.2.2.2 (k : Int)) (z : Int) (if rAt F.2.2.2 (k : Int) = -1 then fGrowTo sp F (rAt F.2.2.2 (k : Int)) n.toNat else F)).2.1 _ = _
      rw [if_neg (by omega)]
      rcases Nat.lt_or_ge k p with r | r
      · have hz : z ≠ d0 := fun q => by
          subst q
          have h0 := hg.goal hS.1 (fun q => q) y2
          have := h5 k r (by omega) (by omega)
          omega
        have e2 := near_mid h hB h1 h3 (by omega) hdg (fun i hi a b => by have := h5 i hi a b; omega) m (k + 1) (rAt F.2.2.2 (k : Int)) (z : Int) (by omega) (by omega) (by omega) hlow.1 (by omega)
        rw [e2]
        exact ⟨rfl, by show rAt F.1 _ = _; omega⟩
      · have hkp : k = p := by omega
        subst hkp
        have hzd : z = d0 := by
          rcases Nat.lt_or_ge d0 z with r2 | r2
          · have := z4 d0 r2
            rw [(op_bit _ hh d0).mpr ⟨⟨h.1.1, by rw [h3]; exact hdg⟩, h.1.2⟩] at this
            cases this
          · have := hlow.2; omega
        subst hzd
        rw [h3, near_tail h hB (by omega) (by omega) m (k + 1)]
        exact ⟨rfl, by show rAt F.1 _ = _; omega⟩
    · have e : nrPick hh (rAt F.2.2.2 (k : Int)) (-1) 7 = (-1, 7) := if_neg (fun q => hne q.1)
      have hG : ¬ dg (rAt F.2.2.2 (k : Int)) d0 = 2 := fun q => hne (op_ne.mpr ⟨d0, ⟨h.1.1, q⟩, h.1.2⟩)
      rw [e]
      show (fNear sp n.toNat hh m (k + 1) (-1) 7 (fGrowTo sp F (rAt F.2.2.2 (k : Int)) n.toNat)).1 = _ ∧ rAt (fNear sp n.toNat hh m (k + 1) (-1) 7 (fGrowTo sp F (rAt F.2.2.2 (k : Int)) n.toNat)).2.1 _ = _
      have hgr := hB.grow hsp hk hc n.toNat (by omega)
      have hstep : ∀ j' p' : Nat, CH n sp now g (k + 1) j' p' (fGrowTo sp F (rAt F.2.2.2 (k : Int)) n.toNat) → (fNear sp n.toNat hh m (k + 1) (-1) 7 (fGrowTo sp F (rAt F.2.2.2 (k : Int)) n.toNat)).1 = rwF sp n g now (g now).toNat ∧ rAt (fNear sp n.toNat hh m (k + 1) (-1) 7 (fGrowTo sp F (rAt F.2.2.2 (k : Int)) n.toNat)).2.1 (rwF sp n g now (g now).toNat) = g now := fun j' p' hC' => by
        refine near_run hn hsp hnow h m (k + 1) j' p' _ _ (by omega) hgr.1 ?_ hC'
        have hl1 := hC'.1
        have hl2 := hC'.2.1
        have q := hgr.1.2.2.1 k (k + 1) (by omega) (by omega)
        rw [hgr.2.2.1, hgr.2.2.2] at q
        exact q
      rcases Nat.lt_or_ge k p with r | r
      · exact hstep j p (CH.keep hB hsp hC0 r hc n.toNat (by omega))
      · have hkp : k = p := by omega
        subst hkp
        have hpos := hg.pos hv.1 (by rw [← h3]; exact hG) (by omega)
        have hnx := nx_spec hg hn.1 hv.1 hpos
        obtain ⟨p', hp'⟩ := (CH.grow hn.1 hg hB hsp hnow hC0 hc (by omega) n.toNat (by omega)).2 (by omega)
        exact hstep (j + 1) p' hp'
theorem near_none (hn : 0 ≤ n ∧ n ≤ 7) (hsp : spOK n (p3 n.toNat) sp) (h : ∀ d : Nat, d < 7 → hh.testBit d = true → ∃ gd : Int → Int, IsFar n sp (fun _ => False) (fun s => dg s d = 2) gd ∧ gd now < 0) : ∀ (m k : Nat) (c : Int) (F : bF), BI n sp (fun _ => False) now k c F → (k < F.2.2.2.length → c ≤ rAt F.1 (rAt F.2.2.2 (k : Int))) → (fNear sp n.toNat hh m k (-1) 7 F).1 = -1
  | 0, k, c, F, hB, hc => rfl
  | m + 1, k, c, F, hB, hc => by
    rw [fNear]
    split
    · rename_i hk
      rw [if_neg (fun q => q.1 rfl)]
      have hm : rAt F.2.2.2 (k : Int) ∈ F.2.2.2 := rAt_mem (by omega) (by omega)
      have hS := hB.isS hm
      have hz : ¬ (drB (rAt F.2.2.2 (k : Int)) 2 7 &&& hh) ≠ 0 := fun q => by
        obtain ⟨d, ⟨d1, d2⟩, d3⟩ := op_ne.mp q
        obtain ⟨gd, hgd, hneg⟩ := h d d1 d3
        have h0 := hgd.goal hS.1 (fun q => q) d2
        have Q := (hB.2.2.2.2.2 _ gd hgd _ hm (by omega)).1
        omega
      have e : nrPick hh (rAt F.2.2.2 (k : Int)) (-1) 7 = (-1, 7) := if_neg (fun q => hz q.1)
      rw [e]
      show (fNear sp n.toNat hh m (k + 1) (-1) 7 (fGrowTo sp F (rAt F.2.2.2 (k : Int)) n.toNat)).1 = -1
      have hgr := hB.grow hsp hk (hc hk) n.toNat (by omega)
      refine near_none hn hsp h m (k + 1) _ _ hgr.1 (fun hl => ?_)
      have q := hgr.1.2.2.1 k (k + 1) (by omega) hl
      rw [hgr.2.2.1, hgr.2.2.2] at q
      exact q
    · rfl
theorem bg_start {F : bF} (hn : 0 ≤ n ∧ n ≤ 7) (hF : FSh F) (hnow : isS n now) : BI n sp (fun _ => False) now 0 0 (fMeet (bgF (p3 n.toNat) F) now (-1) (-1)) ∧ (fMeet (bgF (p3 n.toNat) F) now (-1) (-1)).2.2.2 = [now] ∧ rAt (fMeet (bgF (p3 n.toNat) F) now (-1) (-1)).1 now = 0 := by
  have q := BI_start (sp := sp) (P := fun _ => False) hn hF hnow
  rw [begL_none] at q
  exact ⟨q.1, q.2.2 (fun q => q)⟩
theorem nr_yes {F : bF} (hn : 0 ≤ n ∧ n ≤ 7) (hsp : spOK n (p3 n.toNat) sp) (hnow : isS n now) (hF : FSh F) (h : NrH n sp now hh d0 g) : (nrTo sp n hh now F).1 = rwF sp n g now (g now).toNat ∧ rAt (nrTo sp n hh now F).2.1 (nrTo sp n hh now F).1 = g now := by
  obtain ⟨hB, q1, q2⟩ := bg_start (sp := sp) hn hF hnow
  have k := near_run hn hsp hnow h 2188 0 0 0 0 _ (by omega) hB (by rw [q1, show rAt [now] ((0 : Nat) : Int) = now from rfl, q2]; exact Int.le_refl 0) (CH_start q1 q2 h.2.2.1)
  have k1 : (nrTo sp n hh now F).1 = rwF sp n g now (g now).toNat := k.1
  exact ⟨k1, by rw [k1]; exact k.2⟩
theorem nr_no {F : bF} (hn : 0 ≤ n ∧ n ≤ 7) (hsp : spOK n (p3 n.toNat) sp) (hnow : isS n now) (hF : FSh F) (h : ∀ d : Nat, d < 7 → hh.testBit d = true → ∃ gd : Int → Int, IsFar n sp (fun _ => False) (fun s => dg s d = 2) gd ∧ gd now < 0) : (nrTo sp n hh now F).1 = -1 := by
  obtain ⟨hB, q1, q2⟩ := bg_start (sp := sp) hn hF hnow
  exact near_none hn hsp h 2188 0 0 _ hB (fun _ => by rw [q1, show rAt [now] ((0 : Nat) : Int) = now from rfl, q2]; exact Int.le_refl 0)
end BFS
