/-! ===== a next of a stage: class and reference keep step ===== -/
theorem FRL.behind {V T : Sg} {ko fo fr p po g z : Int} {v' u : Sg} {k : Nat} (hfo : 66 < fo ∧ fo < 300 ∧ (fo < 201 ∨ 266 < fo)) (hko : 206 < ko ∧ ko < 250) (g1 : GLR V ko v' u) (b1 : v' fo 1 = po) (b3 : v' fo 3 = u 324 fr) (b4 : v' fo 4 = g) (hk0 : k = 0) : FRL V T ko fo fr p po g (sset v' (fo + 4) k z) u k := by
  refine ⟨fun o j q => ?_, ⟨?_, ?_, g1.2.1.2.2⟩, fun n i1 i2 => ?_, ⟨?_, ?_, ?_⟩, fun j hj => absurd hj (by omega)⟩
  · rw [sset_1 (by unfold UNC at q; omega)]; exact g1.1 o j q
  · rw [sset_1 (by omega)]; exact g1.2.1.1
  · rw [sset_1 (by omega)]; exact g1.2.1.2.1
  · rw [sset_1 (by omega)]; exact g1.2.2 n i1 i2
  · rw [sset_1 (by omega)]; exact b1
  · rw [sset_1 (by omega)]; exact b3
  · rw [sset_1 (by omega)]; exact b4
theorem nf4 (fo : Int) : fo + 1 ≠ fo + 4 ∧ fo + 2 ≠ fo + 4 ∧ fo + 3 ≠ fo + 4 ∧ fo ≠ fo + 4 ∧ fo + 5 ≠ fo + 4 ∧ fo + 5 + 1 ≠ fo + 4 := by omega
theorem nxk_ok {d n : Nat} {A : AHp} {V T : Sg} {ko fo lev fr p po g so o : Int} {e k : Nat} (hC : SKX A V T ko fo lev fr p po e k so o) (hB : NXB d (nextS n) A V T ko fo lev fr p po g k) (hPR : PR A V T e po p) (hL : STL A V T ko) (hd : 7 ≤ d) (hg4 : 0 ≤ g ∧ g ≤ 4) (hlv : g < 4 ∨ 0 < e → lev + 1 < 20)
    (hGB : ∀ e', e = e' + 1 → GLX (d - 3) (nextS n) A V T ko (lev + 1) (childS fr) fr (fo + 5) g e') (hGF : g < 4 → GLX (d - 3) (nextS n) A V T ko (lev + 1) (childS fr) fr (fo + 5) (g + 1) 3)
    (hIok : ∀ (s : Sg) (n1 : Int), GI T s → FX T s fr p 1 → s 307 33 = g → (11 ≤ T 314 (T 312 p) ∧ T 314 (T 312 p) ≤ 14) → in32 n1 → ∃ t, innerS (nextS n) fr (T 312 p) n1 s = some t ∧ QC T s t fr p 0 ∧ t 326 (6 * fr) = s 326 (6 * fr)) :
    NXK d (nextS (n + 1)) A V T ko fo lev fr p po g k := by
  intro v s s' x i Q hR hG hp9 hF hg hnx hNP hi0 hi hE
  obtain ⟨hX, hK, hFr, hfo, hko, hlev, hfl, hfr, hPC, hPOK, hTOK⟩ := id hC.1
  obtain ⟨hST, ho⟩ := hC.st
  have hk5 := hC.k5
  have hT4 : ∀ j : Nat, j < k → T 316 (T 312 p + j) ≤ 4 := fun j hj => hC.m4 j (by omega)
  have eh : ∀ o j, 350 ≤ o → v o j = V o j := fun o j q => hR.1 o j (Or.inl q)
  have hPo := hPC.1
  have hStg : STG A v so := hST.1.eq eh
  obtain ⟨hgd, h9⟩ := next_s hnx
  have hS : SG4 T s fr p g (k + 1) := ⟨hG, hp9, hF, hg⟩
  obtain ⟨s1, s2, s3, s4, s5⟩ := id (hR.2.2.2.2 k (by omega))
  have est : stAt s (s 323 fr) k = T 312 p + k := by
    rw [stAt_id hgd.2.2.1 hgd.2.1, hp9, hG.1 312 p (by omega)]
  rw [est] at h9
  have hpos : ∀ (r : Sg) (b : Int), ptS T (sset r 327 (6 * fr + k) b) fr p k = ptS T r fr p k := fun r b => ptS_eq (fun j _ _ => ⟨sset_1 (by omega), sset_2 (by omega)⟩)
  unfold AK
  refine x_asked (po := po) (so := so) (o := o) (by omega) hX hK hFr hfo hko (by omega) hR.2.2.2.1.1 hPo ((eh _ _ hPo.2.2.1).trans hC.2.2.1) hStg hC.2.2.2 (by omega) s3 (fun hov1 => ?_) (fun hov0 hin => ?_) (fun hov0 hw12 hin0 => ?_)
  · refine ⟨_, v, rfl, rfl, ?_⟩
    rcases h9 with ⟨c1, c2, c3⟩ | ⟨c1, r, c2, c3⟩
    · subst c2 c3
      exact hE i v hi0 (Int.le_refl _) hR XF.rf
    · rcases s4.mp hov1 with q | ⟨q1, q2⟩
      · omega
      · unfold askedS at c2
        have ew : s 314 (T 312 p + k) = T 314 (T 312 p + k) := hG.1 _ _ (by omega)
        rw [ew, if_neg (by omega), if_neg (by omega), if_neg (by omega), if_neg (by omega), if_neg (by omega), if_neg (by omega), if_pos q1, if_pos q2] at c2
        simp only [Option.some.injEq, Prod.mk.injEq] at c2
        obtain ⟨c4, c5⟩ := c2
        subst c4 c5
        rw [if_pos rfl] at c3
        have hps : ptS T s' fr p k = ptS T s fr p k := by rw [c3]; exact hpos _ _
        have hlt := hNP.2.2.2.1 (k + 1) (Nat.le_refl _)
        refine hE i v hi0 (by omega) ?_ XF.rf
        rw [c3]
        refine FRL.up (hR.down.own hfo hko hT4 (fun o' j q => rfl) (rs_off (Or.inr (Or.inl rfl)))) ?_
        unfold SR SRw
        rw [sset_1 (by omega), sset_e]
        refine ⟨s1, fun i g1 g2 => by rw [sset_1 (by omega)]; exact s2 i g1 g2, s3, ⟨fun _ => Or.inl rfl, fun _ => hov1⟩, fun q => absurd q (by omega)⟩
  · obtain ⟨c1, r, c2, c3⟩ : s 327 (6 * fr + k) = 0 ∧ ∃ r, askedS (nextS n) fr k (T 312 p + k) (s 325 (24 * fr + 4 * k)) s = some (x, r) ∧ s' = sset r 327 (6 * fr + k) (if x = (-9223372036854775808) then 1 else 0) := by
      rcases h9 with ⟨c1, _⟩ | h9
      · exfalso
        rcases hgd.2.2.2 with q | q
        · exact c1 q
        · have := s4.mpr (Or.inl q)
          omega
      · exact h9
    have hps : ptS T s' fr p k = ptS T r fr p k := by rw [c3]; exact hpos _ _
    have hlt := hNP.2.2.2.2.1 c1
    obtain ⟨a1, a2⟩ := dirx hC hB (x := x) (i := i) (Q := Q) hR hS c1 hov0 (by rw [ho] at hin; omega) c2 hi0 (by omega) (fun i' v' g1 g2 g3 g4 => hE i' v' g1 (by omega) (by rw [c3]; exact g3) g4)
    exact ⟨a1, _, _, rfl, rfl, a2⟩
  · obtain ⟨c1, r, c2, c3⟩ : s 327 (6 * fr + k) = 0 ∧ ∃ r, askedS (nextS n) fr k (T 312 p + k) (s 325 (24 * fr + 4 * k)) s = some (x, r) ∧ s' = sset r 327 (6 * fr + k) (if x = (-9223372036854775808) then 1 else 0) := by
      rcases h9 with ⟨c1, _⟩ | h9
      · exfalso
        rcases hgd.2.2.2 with q | q
        · exact c1 q
        · have := s4.mpr (Or.inl q)
          omega
      · exact h9
    have hps : ptS T s' fr p k = ptS T r fr p k := by rw [c3]; exact hpos _ _
    have hlt := hNP.2.2.2.2.1 c1
    have hw : 11 ≤ T 314 (T 312 p + k) := by omega
    have hk0 := k0_of hC hw
    have e0 : 6 * fr + (k : Int) = 6 * fr := by omega
    have e00 : T 312 p + (k : Int) = T 312 p := by omega
    obtain ⟨t1, _, _, t4⟩ := s5 hov0
    have t1 := t1 (Or.inr (Or.inr hw))
    obtain ⟨z1, z2, z3⟩ : v fo 9 = 0 ∧ s 326 (6 * fr + k) = 0 ∧ s 330 fr = 0 := by
      rcases t4 hw with q | ⟨q, _⟩
      · exact q
      · omega
    have hplast := hPOK.w.1.2.2.2.2.2.2 k (by omega) hC.2.1
    have ew : s 314 (T 312 p + k) = T 314 (T 312 p + k) := hG.1 _ _ (by omega)
    unfold askedS at c2
    rw [ew, if_neg (by omega), if_neg (by omega), if_neg (by omega), if_neg (by omega), if_neg (by omega), if_neg (by omega), if_neg (by omega), if_neg (by omega), if_neg (by omega)] at c2
    obtain ⟨u, q1, q2, q3, q4⟩ := within_s c2
    rw [e00] at q1
    have hn32 : in32 (s 325 (24 * fr + 4 * k)) := hG.2.2.2.2.2.1 _
    obtain ⟨u2, q5, q6, q7⟩ := hIok s _ hG ⟨hF.1, fun j hj => hF.2 j (by omega)⟩ hg (by rw [← e00]; omega) hn32
    rw [q1, Option.some.injEq] at q5
    subst q5
    have hn1 : T 314 (T 312 p + k) ≤ 13 → v (fo + 1) (k * 4) = s 325 (24 * fr + 4 * k) := fun q => by
      have := s2 0 (by omega) (by have := hST.2.2.2.2 (by omega); omega)
      rw [Int.add_zero, Int.add_zero] at this
      exact this
    have ef : ∀ o j, o ≠ fo + 5 → (o ≠ fo ∨ j ≠ 9) → (sset (sset v fo 9 1) (fo + 5) 1 0) o j = v o j := fun o j g1 g2 => by
      unfold sset
      rw [if_neg (by omega), if_neg (by omega)]
    have hGL1 : GLR V ko (sset (sset v fo 9 1) (fo + 5) 1 0) s := hR.g.veq (fun o j q => ef o j (by unfold UNC at q; omega) (by unfold UNC at q; omega)) (ef _ _ (by omega) (by omega)) (ef _ _ (by omega) (by omega)) (fun n => ef _ _ (by omega) (by omega))
    rw [show d - 1 - 1 = d - 2 by omega]
    refine inx hC hk0 hPR hL (by omega) hg4 hw hlv (by rw [show d - 2 - 1 = d - 3 by omega]; exact hGB) (by rw [show d - 2 - 1 = d - 3 by omega]; exact hGF) hG hg hn32 hGL1 (by rw [ef _ _ (by omega) (by omega)]; exact hR.2.2.2.1.1) (by rw [ef _ _ (by omega) (by omega)]; exact hR.2.2.2.1.2.1) (by rw [ef _ _ (by omega) (by omega)]; exact hR.2.2.2.1.2.2) (fun q => by rw [ef _ _ (by omega) (by omega)]; exact hn1 q) sset_e z3 (by rw [← e0]; exact z2) q1 (fun v' g1 g2 g3 g4 => ?_)
    -- behind the list
    have hSTs := hST.1
    have hm4 := hC.m4 k (Nat.le_refl _)
    obtain ⟨n1, n2, n3, n0, n5, n6⟩ := nf4 fo
    clear s4 s5 t4 hplast hlv hGB hGF hIok h9 hgd hn1 hST
    have gx : ∀ o j, (fo ≤ o ∧ o ≤ fo + 4) → (o ≠ fo ∨ j ≠ 9) → v' o j = v o j := fun o j i1 i2 => by
      rw [g4 o j (by unfold XCG; omega)]
      exact ef o j (by omega) i2
    have gx9 : v' fo 9 = 1 := by
      rw [g4 fo 9 (by unfold XCG; omega), sset_1 (by omega), sset_e]
    have eh' : ∀ o j, 350 ≤ o → (sset v' (fo + 4) k (u 328 (6 * fr))) o j = V o j := fun o j q => by
      rw [sset_1 (by omega)]
      exact g1.1 o j (Or.inl q)
    have u27 : u 327 (6 * fr + k) = 0 := by
      rw [q6.1 327 (6 * fr + k) (Or.inr ⟨rfl, by omega⟩)]
      exact c1
    have hfr24 : ∀ j, 24 * fr ≤ j → j < 24 * fr + 24 → u 325 j = s 325 j := fun j i1 i2 => q6.1 325 j (Or.inl (by unfold TCH TCL childS; split <;> omega))
    have u324 : u 324 fr = s 324 fr := q6.1 324 fr (Or.inl (by unfold TCH TCL childS; split <;> omega))
    have hX0 : XF ko fo lev k v (sset v' (fo + 4) k (u 328 (6 * fr))) := by
      refine XF.put (fun o j q => ?_) (by omega) (Or.inr (Or.inr rfl))
      unfold XCH at q
      rw [g4 o j (by unfold XCG; omega)]
      exact ef o j (by omega) (by omega)
    have gx1 : ∀ j, v' (fo + 1) j = v (fo + 1) j := fun j => gx _ _ (by omega) (by omega)
    have gx2 : v' (fo + 2) k = v (fo + 2) k := gx _ _ (by omega) (by omega)
    have gx3 : v' (fo + 3) k = v (fo + 3) k := gx _ _ (by omega) (by omega)
    have gb1 : v' fo 1 = po := (gx _ _ (by omega) (by omega)).trans hR.2.2.2.1.1
    have gb3 : v' fo 3 = u 324 fr := (gx _ _ (by omega) (by omega)).trans (hR.2.2.2.1.2.1.trans u324.symm)
    have gb4 : v' fo 4 = g := (gx _ _ (by omega) (by omega)).trans hR.2.2.2.1.2.2
    have hwk : ∀ i, 0 ≤ i → i < T 316 (T 312 p + k) → v' (fo + 1) (k * 4 + i) = u 325 (24 * fr + 4 * k + i) := fun i i1 i2 => by
      rw [gx1, hfr24 _ (by omega) (by omega)]
      exact s2 i i1 i2
    have htl : v' (fo + 2) k = u 326 (6 * fr + k) := by
      rw [gx2, t1, e0, q7]
    have hpl : 0 ≤ u 326 (6 * fr + k) ∧ u 326 (6 * fr + k) ≤ 60 := by
      rw [e0]
      exact q2.1
    have h0 : ∀ s1, ptS T s1 fr p k = 0 := fun s1 => by rw [hk0]; rfl
    refine ⟨_, v', rfl, rfl, ⟨hSTs.eq eh', ⟨fun q => ?_, fun q => ?_⟩⟩, _, _, rfl, rfl, ?_⟩
    · rw [sset_1 n2, gx2, t1, z2]
      exact ⟨by decide, by decide⟩
    · rw [sset_1 n5, g2]
      exact q6.2.2.1.1
    · refine withx (g := g) hC hk0 hw (v := sset v' (fo + 4) k (u 328 (6 * fr))) (v0 := v) (u := u) (FRL.behind hfo hko g1 gb1 gb3 gb4 hk0) (by rw [sset_e, e0]) (fun i i1 i2 => by rw [sset_1 n1]; exact hwk i i1 i2) (by rw [sset_1 n3, gx3]; exact hov0) u27 (by rw [sset_1 n2]; exact htl) (by rw [sset_1 n0]; exact gx9) (by rw [sset_1 n5]; exact g2) (fun i i1 i2 => by rw [sset_1 n6]; exact g3 i i1 i2) hpl hX0 q3 (fun j z => no32 (z ▸ q6.2.1.2.2.2.2.2.2 j)) (fun v2 k1 k2 => ?_)
      rw [← q4, ← c3] at k1
      refine hE i v2 hi0 ?_ k1 k2
      rw [h0, h0]
      clear hE q3 q4 hX0
      omega
