/-! ===== the first row, the nearest drawer ===== -/
section BFS
variable {n : Int} {sp : Int → Int → Int} {P G : Int → Prop} {g : Int → Int} {now : Int}
theorem BI.len {k : Nat} {c : Int} {F : bF} (h : BI n sp P now k c F) (hn : 0 ≤ n ∧ n ≤ 7) : F.2.2.2.length ≤ 2187 := by
  have := h.1.len
  have := p3_le n.toNat (by omega)
  omega
theorem first_run (hn : 0 ≤ n ∧ n ≤ 7) (hsp : spOK n (p3 n.toNat) sp) (hnow : isS n now) (hg : IsFar n sp P G g) : ∀ (m k j p : Nat) (c : Int) (F : bF), k + m = 2188 → BI n sp P now k c F → c ≤ rAt F.1 (rAt F.2.2.2 (k : Int)) → CH n sp now g k j p F →
    ∃ F' : bF, fFirst sp n.toNat G m k F = (rwF sp n g now (g now).toNat, F') ∧ rAt F'.1 (rwF sp n g now (g now).toNat) = g now ∧ ∀ i : Nat, (i : Int) < g now → rAt F'.2.1 (rwF sp n g now (i + 1)) = rwF sp n g now i ∧ rAt F'.2.2.1 (rwF sp n g now (i + 1)) = nxF sp n g (rwF sp n g now i)
  | 0, k, j, p, c, F, hkm, hB, hc, hC => by
    have := hB.len hn
    have := hC.1
    have := hC.2.1
    omega
  | m + 1, k, j, p, c, F, hkm, hB, hc, hC => by
    have hC0 := hC
    obtain ⟨h1, h2, h3, h4, h5, h6, h7, h8⟩ := hC
    have hk : k < F.2.2.2.length := by omega
    have hm : rAt F.2.2.2 (k : Int) ∈ F.2.2.2 := rAt_mem (by omega) (by omega)
    have hS := hB.isS hm
    have hmono := hB.2.2.1 k p h2 h1
    rw [h3, h4] at hmono
    by_cases hG : G (rAt F.2.2.2 (k : Int))
    · have h0 := hg.goal hS.1 hS.2.2 hG
      have Q := (hB.2.2.2.2.2 G g hg _ hm (by omega)).2
      have hkp : k = p := by
        rcases Nat.lt_or_ge k p with r | r
        · have := h5 k r (by omega) (by omega); omega
        · omega
      subst hkp
      have hj : (g now).toNat = j := by rw [h3] at Q h0; omega
      rw [fFirst_t hk hG, hj]
      refine ⟨F, by rw [h3], by rw [h4]; omega, fun i hi => h7 i (by omega)⟩
    · rw [fFirst_f hk hG]
      have hgr := hB.grow hsp hk hc n.toNat (by omega)
      have hstep : ∀ j' p' : Nat, CH n sp now g (k + 1) j' p' (fGrowTo sp F (rAt F.2.2.2 (k : Int)) n.toNat) → ∃ F' : bF, fFirst sp n.toNat G m (k + 1) (fGrowTo sp F (rAt F.2.2.2 (k : Int)) n.toNat) = (rwF sp n g now (g now).toNat, F') ∧ rAt F'.1 (rwF sp n g now (g now).toNat) = g now ∧ ∀ i : Nat, (i : Int) < g now → rAt F'.2.1 (rwF sp n g now (i + 1)) = rwF sp n g now i ∧ rAt F'.2.2.1 (rwF sp n g now (i + 1)) = nxF sp n g (rwF sp n g now i) := fun j' p' hC' => by
        refine first_run hn hsp hnow hg m (k + 1) j' p' _ _ (by omega) hgr.1 ?_ hC'
        have hl1 := hC'.1
        have hl2 := hC'.2.1
        have q := hgr.1.2.2.1 k (k + 1) (by omega) (by omega)
        rw [hgr.2.2.1, hgr.2.2.2] at q
        exact q
      rcases Nat.lt_or_ge k p with r | r
      · exact hstep j p (CH.keep hB hsp hC0 r hc n.toNat (by omega))
      · have hkp : k = p := by omega
        subst hkp
        have hv := v_spec hg hn.1 hsp hnow j h8
        have hpos := hg.pos hv.1 (by rw [← h3]; exact hG) (by omega)
        have hnx := nx_spec hg hn.1 hv.1 hpos
        obtain ⟨p', hp'⟩ := (CH.grow hn.1 hg hB hsp hnow hC0 hc (by omega) n.toNat (by omega)).2 (by omega)
        exact hstep (j + 1) p' hp'
theorem first_none (hn : 0 ≤ n ∧ n ≤ 7) (hsp : spOK n (p3 n.toNat) sp) (hg : IsFar n sp P G g) (h0 : g now < 0) : ∀ (m k : Nat) (c : Int) (F : bF), BI n sp P now k c F → (k < F.2.2.2.length → c ≤ rAt F.1 (rAt F.2.2.2 (k : Int))) → (fFirst sp n.toNat G m k F).1 = -1
  | 0, k, c, F, hB, hc => rfl
  | m + 1, k, c, F, hB, hc => by
    by_cases hk : k < F.2.2.2.length
    · have hm : rAt F.2.2.2 (k : Int) ∈ F.2.2.2 := rAt_mem (by omega) (by omega)
      have hS := hB.isS hm
      have hG : ¬ G (rAt F.2.2.2 (k : Int)) := fun q => by
        have q1 := hg.goal hS.1 hS.2.2 q
        have q2 := (hB.2.2.2.2.2 G g hg _ hm (by omega)).1
        omega
      rw [fFirst_f hk hG]
      have hgr := hB.grow hsp hk (hc hk) n.toNat (by omega)
      refine first_none hn hsp hg h0 m (k + 1) _ _ hgr.1 (fun hl => ?_)
      have q := hgr.1.2.2.1 k (k + 1) (by omega) hl
      rw [hgr.2.2.1, hgr.2.2.2] at q
      exact q
    · rw [fFirst_e hk]
/-- the start of a walk -/
theorem BI_start {F : bF} (hn : 0 ≤ n ∧ n ≤ 7) (hF : FSh F) (hnow : isS n now) : BI n sp P now 0 0 (fMeet (begL P (p3 n.toNat), F.2.1, F.2.2.1, []) now (-1) (-1)) ∧ (P now → (fMeet (begL P (p3 n.toNat), F.2.1, F.2.2.1, []) now (-1) (-1)).2.2.2 = []) ∧ (¬ P now → (fMeet (begL P (p3 n.toNat), F.2.1, F.2.2.1, []) now (-1) (-1)).2.2.2 = [now] ∧ rAt (fMeet (begL P (p3 n.toNat), F.2.1, F.2.2.1, []) now (-1) (-1)).1 now = 0) := by
  have hp := p3_le n.toNat (by omega)
  have hp1 := p3_1 n.toNat
  have hF0 := FOK_begL P hF (N := p3 n.toNat) ⟨by omega, hp⟩
  have hF1 := hF0.meet (d := -1) hnow (Or.inl rfl)
  have hlen := begL_len P (N := p3 n.toNat) (by omega)
  have hall : ∀ s : Int, isS n s → (P s → rAt (begL P (p3 n.toNat)) s = -2) ∧ (¬ P s → rAt (begL P (p3 n.toNat)) s = -1) := fun s hs => ⟨fun q => begL_in q hs.1 hs.2, fun q => begL_out q hs.1 hs.2⟩
  by_cases hP : P now
  · have e : fMeet (begL P (p3 n.toNat), F.2.1, F.2.2.1, []) now (-1) (-1) = (begL P (p3 n.toNat), F.2.1, F.2.2.1, []) := fMeet_old (by show rAt (begL P (p3 n.toNat)) now ≠ -1; rw [(hall now hnow).1 hP]; decide)
    rw [e]
    refine ⟨⟨hF0, fun s hs => ⟨(hall s hs).1, fun q => by show rAt (begL P (p3 n.toNat)) s ≠ -2; rw [(hall s hs).2 q]; decide⟩, fun i j _ hj => absurd hj (Nat.not_lt_zero j), fun s hs => absurd hs List.not_mem_nil, fun s hs => absurd hs List.not_mem_nil, fun G g _ s hs => absurd hs List.not_mem_nil⟩, fun _ => rfl, fun q => absurd hP q⟩
  · have e : fMeet (begL P (p3 n.toNat), F.2.1, F.2.2.1, []) now (-1) (-1) = (rSet (begL P (p3 n.toNat)) now 0, rSet F.2.1 now (-1), rSet F.2.2.1 now (-1), [now]) := by
      rw [fMeet_new (by show rAt (begL P (p3 n.toNat)) now = -1; exact (hall now hnow).2 hP)]
      rfl
    rw [e] at hF1 ⊢
    have hphi : ∀ x : Int, rAt (rSet (begL P (p3 n.toNat)) now 0) x = if x = now then 0 else rAt (begL P (p3 n.toNat)) x := fun x => rAt_set hnow.1 (by omega)
    have h0 : rAt (rSet (begL P (p3 n.toNat)) now 0) now = 0 := by rw [hphi, if_pos rfl]
    refine ⟨⟨hF1, fun s hs => ?_, fun i j hij hj => ?_, fun s hs => ?_, fun s hs => ?_, fun G g _ s hs hg => ?_⟩, fun q => absurd q hP, fun _ => ⟨rfl, h0⟩⟩
    · show (P s → rAt (rSet (begL P (p3 n.toNat)) now 0) s = -2) ∧ (¬ P s → rAt (rSet (begL P (p3 n.toNat)) now 0) s ≠ -2)
      rw [hphi]
      by_cases hsn : s = now
      · rw [if_pos hsn]
        exact ⟨fun q => absurd (hsn ▸ q) hP, fun _ => by decide⟩
      · rw [if_neg hsn]
        exact ⟨(hall s hs).1, fun q => by rw [(hall s hs).2 q]; decide⟩
    · have hj : j < 1 := hj
      rw [show i = j by omega]
      exact Int.le_refl _
    · rw [List.mem_singleton.mp hs]
      show rAt (rSet (begL P (p3 n.toNat)) now 0) now ≤ 0 + 1
      omega
    · rw [List.mem_singleton.mp hs]
      exact Or.inl ⟨rfl, h0⟩
    · rw [List.mem_singleton.mp hs] at hg ⊢
      refine ⟨hg, ?_⟩
      show g now ≤ rAt (rSet (begL P (p3 n.toNat)) now 0) now + g now
      omega
theorem CH_start {F : bF} (h1 : F.2.2.2 = [now]) (h2 : rAt F.1 now = 0) (h0 : 0 ≤ g now) : CH n sp now g 0 0 0 F := by
  refine ⟨by rw [h1]; exact Nat.zero_lt_one, Nat.le_refl _, by rw [h1]; rfl, h2, fun i hi => absurd hi (Nat.not_lt_zero i), fun i hi => ?_, fun i hi => absurd hi (Nat.not_lt_zero i), h0⟩
  rw [show i = 0 by omega, h1]
  exact List.mem_singleton.mpr rfl
/-- the answer by the distances -/
noncomputable def rwA (sp : Int → Int → Int) (n : Int) (g : Int → Int) (now i : Int) : Int := if g now < 0 then -1 else if i = -1 then g now else if g now ≤ i then -5 else nxF sp n g (rwF sp n g now i.toNat)
theorem bk_row {F : bF} {D : Int} (h : ∀ i : Nat, (i : Int) < D → rAt F.2.1 (rwF sp n g now (i + 1)) = rwF sp n g now i) : ∀ c : Nat, (c : Int) ≤ D → bkF F (rwF sp n g now D.toNat) c = rwF sp n g now (D.toNat - c)
  | 0, _ => rfl
  | c + 1, hc => by
    rw [bkF, bk_row h c (by omega), show D.toNat - c = (D.toNat - (c + 1)) + 1 by omega]
    exact h _ (by omega)
theorem pf_eq {F : bF} {a b : Nat} {i : Int} (hn : 0 ≤ n ∧ n ≤ 7) (hsp : spOK n (p3 n.toNat) sp) (hnow : isS n now) (hF : FSh F) (hi : -1 ≤ i) (hg : IsFar n sp P (goalP a b) g) : pfAns (pfR sp n now a b P F) i = rwA sp n g now i := by
  obtain ⟨hB, hP1, hP2⟩ := BI_start (sp := sp) (P := P) (F := F) hn hF hnow
  by_cases h0 : g now < 0
  · have e : (pfR sp n now a b P F).1 = -1 := first_none hn hsp hg h0 2188 0 0 _ hB (fun hl => by
      by_cases hp : P now
      · rw [hP1 hp] at hl; exact absurd hl (Nat.not_lt_zero 0)
      · obtain ⟨q1, q2⟩ := hP2 hp
        rw [q1, show rAt [now] ((0 : Nat) : Int) = now from rfl, q2]; exact Int.le_refl 0)
    rw [pfAns, if_pos e, rwA, if_pos h0]
  · have hfree := hg.free hnow (by omega)
    obtain ⟨q1, q2⟩ := hP2 hfree
    obtain ⟨F', e1, e2, e3⟩ := first_run hn hsp hnow hg 2188 0 0 0 0 _ (by omega) hB (by rw [q1, show rAt [now] ((0 : Nat) : Int) = now from rfl, q2]; exact Int.le_refl 0) (CH_start q1 q2 (by omega))
    have e1 : pfR sp n now a b P F = (rwF sp n g now (g now).toNat, F') := e1
    have hv := (v_spec hg hn.1 hsp hnow (g now).toNat (by omega)).1
    rw [e1, pfAns, rwA, if_neg h0]
    show (if rwF sp n g now (g now).toNat = -1 then (-1 : Int) else if i = -1 then rAt F'.1 (rwF sp n g now (g now).toNat) else if i < rAt F'.1 (rwF sp n g now (g now).toNat) then rAt F'.2.2.1 (bkF F' (rwF sp n g now (g now).toNat) (rAt F'.1 (rwF sp n g now (g now).toNat) - 1 - i).toNat) else -5) = _
    rw [if_neg (by omega), e2]
    by_cases hi1 : i = -1
    · rw [if_pos hi1, if_pos hi1]
    · rw [if_neg hi1, if_neg hi1]
      by_cases hlt : i < g now
      · rw [if_pos hlt, if_neg (by omega), bk_row (fun i hi => (e3 i hi).1) _ (by omega), show (g now).toNat - (g now - 1 - i).toNat = i.toNat + 1 by omega]
        exact (e3 i.toNat (by omega)).2
      · rw [if_neg hlt, if_pos (by omega)]
theorem IsFar.congr {sp' : Int → Int → Int} {P' G' : Int → Prop} (h : IsFar n sp P G g) (hs : ∀ s d : Int, isS n s → isD n d → sp s d = sp' s d) (hP : ∀ s : Int, isS n s → (P s ↔ P' s)) (hG : ∀ s : Int, isS n s → (G s ↔ G' s)) : IsFar n sp' P' G' g := fun s hss => by
  have hP := hP s hss
  have hG := hG s hss
  rcases h s hss with ⟨q1, q2⟩ | ⟨q1, q2, q3⟩ | ⟨q1, q2, q3, q4⟩ | ⟨q1, q2, q3, ⟨d, hd, q4⟩, q5⟩
  · exact Or.inl ⟨hP.mp q1, q2⟩
  · exact Or.inr (Or.inl ⟨fun q => q1 (hP.mpr q), hG.mp q2, q3⟩)
  · exact Or.inr (Or.inr (Or.inl ⟨fun q => q1 (hP.mpr q), fun q => q2 (hG.mpr q), q3, fun d hd => by rw [← hs s d hss hd]; exact q4 d hd⟩))
  · exact Or.inr (Or.inr (Or.inr ⟨fun q => q1 (hP.mpr q), fun q => q2 (hG.mpr q), q3, ⟨d, hd, by rw [← hs s d hss hd]; exact q4⟩, fun d hd => by rw [← hs s d hss hd]; exact q5 d hd⟩))
/-- what the model's rows answer -/
def mlRel (S : vSt) (e x y i z : Int) : Prop := (¬ plOK S.1 x y i ∧ z = -10) ∨ (plOK S.1 x y i ∧ ∃ g : Int → Int, IsFar S.1 (spP S.2.2.1 S.2.2.2.2.2) (brP S e) (goalP x.toNat y.toNat) g ∧ z = rwA (spP S.2.2.1 S.2.2.2.2.2) S.1 g S.2.1 i)
theorem rwF_congr {sp' : Int → Int → Int} (hn : 0 ≤ n) (hsp : spOK n (p3 n.toNat) sp) (hg : IsFar n sp P G g) (hnow : isS n now) (hs : ∀ s d : Int, isS n s → isD n d → sp s d = sp' s d) : ∀ j : Nat, (j : Int) ≤ g now → rwF sp n g now j = rwF sp' n g now j ∧ ((j : Int) < g now → nxF sp n g (rwF sp n g now j) = nxF sp' n g (rwF sp' n g now j))
  | 0, hj => ⟨rfl, fun _ => fst1_congr _ _ (fun d d0 d1 => by show g (sp now d) = g now - 1 ↔ g (sp' now d) = g now - 1; rw [hs _ d hnow ⟨d0, by omega⟩])⟩
  | j + 1, hj => by
    have ih := rwF_congr hn hsp hg hnow hs j (by omega)
    have hv := v_spec hg hn hsp hnow j (by omega)
    have hnx := nx_spec hg hn hv.1 (by omega)
    have e : rwF sp n g now (j + 1) = rwF sp' n g now (j + 1) := by
      rw [rwF, rwF, ← ih.2 (by omega), ← ih.1, hs _ _ hv.1 hnx.1]
    refine ⟨e, fun hlt => ?_⟩
    have hv1 := v_spec hg hn hsp hnow (j + 1) hj
    rw [← e]
    exact fst1_congr _ _ (fun d d0 d1 => by rw [hs _ d hv1.1 ⟨d0, by omega⟩])
theorem pl_eq {S : vSt} {e x y i z z' : Int} (hG : vGood S) (h : plRel S e x y i z) (h' : mlRel S e x y i z') : z = z' := by
  obtain ⟨n, now, ca, po, fo, rs⟩ := S
  obtain ⟨hn, hnow, hca, hpo, hfo, hgd, hcv, hor, hsg, hpast⟩ := hG.un
  rcases h with ⟨q, e1⟩ | ⟨q, st, tt, tb, F, htb, htt, htb2, hF, hA, e1⟩
  · rcases h' with ⟨-, e2⟩ | ⟨q2, -⟩
    · rw [e1, e2]
    · exact absurd q2 q
  · rcases h' with ⟨q2, -⟩ | ⟨-, g, hg, e2⟩
    · exact absurd q q2
    · have hs := stp_spP htb tt tb
      have hsp := spP_ok (ca := ca) hcv
      have hsp' : spOK n (p3 n.toNat) (stpF st (-1) tt tb) := fun s d hs1 hd => by rw [hs s d hs1 hd]; exact hsp s d hs1 hd
      have hg : IsFar n (spP ca rs) (brP (n, now, ca, po, fo, rs) e) (goalP x.toNat y.toNat) g := hg
      have hg' := hg.congr (sp' := stpF st (-1) tt tb) (fun s d a b => (hs s d a b).symm) (fun _ _ => Iff.rfl) (fun _ _ => Iff.rfl)
      have hi : -1 ≤ i := q.2.2.2
      have e3 := pf_eq (F := F) ⟨by omega, by omega⟩ hsp' hnow hF hi hg'
      rw [e1, e2]
      show pfAns (pfR (stpF st (-1) tt tb) n now x.toNat y.toNat (brP (n, now, ca, po, fo, rs) e) F) i = rwA (spP ca rs) n g now i
      rw [e3]
      unfold rwA
      split
      · rfl
      · split
        · rfl
        · split
          · rfl
          · exact (rwF_congr (by omega) hsp' hg' hnow hs i.toNat (by omega)).2 (by omega)
end BFS
