/-! ===== a run of a line, class and reference ===== -/
def XRR (ko : Int) (v v' : Sg) : Prop := ∀ o j, ¬ (o = ko + 1 ∨ (o = 64 ∧ (j = 3 ∨ j = 4)) ∨ o = ko + 3 ∨ o = ko + 4 ∨ (67 ≤ o ∧ o < 207) ∨ (o = ko ∧ (j = 4 ∨ j = 5))) → v' o j = v o j
theorem runx {A : AHp} {V T : Sg} {ko : Int} {n d : Nat} (hX : XLAY A) (hKp : KeptAt A ko) (hko : 206 < ko ∧ ko < 250) (hT : TOK T) (hL : STL A V T ko) (hn9 : 139 ≤ n) (hd : 111 ≤ d) {v s t : Sg} {l : Int} {Q : Option AV → AHp → Prop} (h : runsS n l s = some t) (hG : GI T s) (hl9 : 0 ≤ l ∧ l < V 64 1) (hU : ∀ o j, UNC ko o j → v o j = V o j) (hvl : ∀ n, 0 ≤ n → n < 5 → v (ko + 1) n = s 320 n)
    (htr : V ko 2 = s 307 15) (htr2 : s 307 15 = -5 ∨ (0 ≤ s 307 15 ∧ s 307 15 < V 64 1))
    (hQ : ∀ v', GLR V ko v' t → OUTR v' t (ko + 3) (-1) → v' ko 4 = t 307 37 → v' ko 5 = t 307 34 → XRR ko v v' → Q none (cl A v')) : CALL d mX4_runLine [vr 64, vr ko, vi l] (cl A v) Q := by
  obtain ⟨z1, r1, g1, g2⟩ := runs_s h
  obtain ⟨hl1, hl2, _⟩ := id hL
  have e641 : v 64 1 = V 64 1 := hU _ _ (by unfold UNC; omega)
  have e65 : ∀ j, v 65 j = V 65 j := fun j => hU _ _ (by unfold UNC; omega)
  obtain ⟨_, f1, f2, f3⟩ := hl2 l hl9.1 hl9.2
  have hG0 : GI T (sset (sset (sset (sset s 307 32 60) 307 33 0) 307 34 0) 307 36 0) := (((hG.set (by omega) (by omega) (by omega)).set (by omega) (by omega) (by omega)).set (by omega) (by omega) (by omega)).set (by omega) (by omega) (by omega)
  obtain ⟨z9, r9, q1, q2⟩ := run_goes hT hn9 _ (60 * l) 0 hG0 (by rw [sset_2 (by omega), sset_2 (by omega), sset_e]) (by omega) f3 (by unfold in32; omega) (by omega)
  rw [g1, Option.some.injEq, Prod.mk.injEq] at q1
  obtain ⟨q3, q4⟩ := q1
  subst q3 q4
  have h33 : r1 307 33 = 0 := by rw [q2.1 _ _ tcg_going, sset_2 (by omega), sset_2 (by omega), sset_e]
  have h15 : r1 307 15 = s 307 15 := by
    rw [q2.1 _ _ (by unfold TCG TCL; omega), sset_2 (by omega), sset_2 (by omega), sset_2 (by omega), sset_2 (by omega)]
  have ev1 : ∀ o j, o ≠ 64 ∨ (j ≠ 3 ∧ j ≠ 4) → o ≠ ko + 3 → (sset (sset (sset v 64 3 60) 64 4 0) (ko + 3) 1 0) o j = v o j := fun o j k1 k2 => by
    rw [sset_1 k2]
    unfold sset
    rw [if_neg (by omega), if_neg (by omega)]
  have hGL1 : GLR V ko (sset (sset (sset v 64 3 60) 64 4 0) (ko + 3) 1 0) (sset (sset (sset (sset s 307 32 60) 307 33 0) 307 34 0) 307 36 0) := by
    refine ⟨fun o j q => ?_, ⟨?_, ?_, ?_⟩, fun n k1 k2 => ?_⟩
    · rw [ev1 o j (by unfold UNC at q; omega) (by unfold UNC at q; omega)]; exact hU o j q
    · rw [sset_1 (by omega), sset_2 (by omega), sset_e, sset_2 (by omega), sset_2 (by omega), sset_2 (by omega), sset_e]
    · rw [sset_1 (by omega), sset_e, sset_2 (by omega), sset_e]
    · rw [sset_2 (by omega), sset_e]; unfold in32; omega
    · rw [ev1 _ _ (by omega) (by omega), sset_1 (by omega), sset_1 (by omega), sset_1 (by omega), sset_1 (by omega)]; exact hvl n k1 k2
  have hO1 : OUTR (sset (sset (sset v 64 3 60) 64 4 0) (ko + 3) 1 0) (sset (sset (sset (sset s 307 32 60) 307 33 0) 307 34 0) 307 36 0) (ko + 3) (-1) := by
    refine ⟨fun _ => ⟨by rw [sset_e, sset_e], fun i k1 k2 => ?_⟩, fun q => by omega⟩
    rw [sset_e] at k2
    omega
  refine x_runLine (r9 := hp A (V 65 l) 0) (by omega) hX hKp hko (by rw [e641]; exact hl1) (fun j k1 k2 => by rw [e65]; rw [e641] at k2; exact (hl2 j k1 k2).1) (by rw [e641, e65, if_pos hl9]) ?_
  refine top_glx hX hKp hko hT hL hn9 (by omega) _ _ r1 (60 * l) _ 0 z1 _ g1 hG0 (by rw [sset_2 (by omega), sset_2 (by omega), sset_e]) (by omega) f3 f2 (by unfold in32; omega) (by omega) hGL1 hO1 (fun v2 k1 k2 k3 => ?_)
  have eU2 : ∀ o j, UNC ko o j → v2 o j = V o j := k1.1
  have e2 : v2 64 1 = V 64 1 := eU2 _ _ (by unfold UNC; omega)
  have e22 : v2 ko 2 = s 307 15 := (eU2 _ _ (by unfold UNC; omega)).trans htr
  have xr1 : ∀ o j, ¬ (o = ko + 1 ∨ (o = 64 ∧ (j = 3 ∨ j = 4)) ∨ o = ko + 3 ∨ o = ko + 4 ∨ (67 ≤ o ∧ o < 207) ∨ (o = ko ∧ (j = 4 ∨ j = 5))) → v2 o j = v o j := fun o j q => by
    rw [k3 o j (by unfold XCG; omega), ev1 o j (by omega) (by omega)]
  refine ⟨z1, v2, rfl, rfl, ⟨by rw [e2]; exact hl1, fun j j1 j2 => by rw [eU2 65 j (by unfold UNC; omega)]; rw [e2] at j2; exact (hl2 j j1 j2).1⟩, fun c => ?_, fun c1 c2 => ?_⟩
  · have et : t = sset r1 307 37 z1 := by
      rcases g2 with ⟨_, q⟩ | ⟨q5, q6, _⟩
      · exact q
      · rw [h15] at q6
        rw [e22] at c
        omega
    subst et
    have ew : ∀ o j, o ≠ ko ∨ (j ≠ 4 ∧ j ≠ 5) → (sset (sset v2 ko 4 z1) ko 5 (v2 64 4)) o j = v2 o j := fun o j q => by
      unfold sset
      rw [if_neg (by omega), if_neg (by omega)]
    refine hQ _ ((k1.seq (s' := sset r1 307 37 z1) (sset_2 (by omega)) (sset_2 (by omega)) (fun n => sset_1 (by omega))).veq (fun o j q => ew o j (by unfold UNC at q; omega)) (ew _ _ (by omega)) (ew _ _ (by omega)) (fun n => ew _ _ (by omega))) (OUTR.eq (by omega) k2 (fun j => ⟨ew _ _ (by omega), ew _ _ (by omega)⟩) (fun o j q => ?_)) ?_ ?_ (fun o j q => ?_)
    · unfold WRT at q
      unfold sset
      rw [if_neg (by omega)]
    · rw [sset_2 (by omega), sset_e, sset_e]
    · rw [sset_e, sset_2 (by omega)]; exact k1.2.1.2.1
    · rw [ew o j (by omega)]; exact xr1 o j q
  · rw [e22] at c2 ⊢
    have hpos : 0 ≤ s 307 15 ∧ s 307 15 < V 64 1 := by omega
    obtain ⟨z2, q5⟩ : ∃ z2, goesS (nextS n) (60 * r1 307 15) 0 0 (-1) (sset r1 307 37 z1) = some (z2, t) := by
      rcases g2 with ⟨q, _⟩ | ⟨_, _, q⟩
      · omega
      · exact q
    rw [h15] at q5
    obtain ⟨_, w1, w2, w3⟩ := hl2 _ hpos.1 hpos.2
    have hG1 : GI T (sset r1 307 37 z1) := q2.2.1.set (by omega) (by omega) (by omega)
    obtain ⟨z9, r9, q6, q7⟩ := run_goes hT hn9 _ (60 * s 307 15) 0 hG1 (by rw [sset_2 (by omega)]; exact h33) (by omega) w3 (by unfold in32; omega) (by omega)
    rw [q5, Option.some.injEq, Prod.mk.injEq] at q6
    obtain ⟨q8, q9⟩ := q6
    subst q8 q9
    have ew : ∀ o j, o ≠ ko ∨ j ≠ 4 → (sset v2 ko 4 z1) o j = v2 o j := fun o j q => by
      unfold sset
      rw [if_neg (by omega)]
    rw [if_pos (by rw [e2]; exact hpos), eU2 65 _ (by unfold UNC; omega)]
    refine top_glx hX hKp hko hT hL hn9 (by omega) _ _ t (60 * s 307 15) _ 0 z2 _ q5 hG1 (by rw [sset_2 (by omega)]; exact h33) (by omega) w3 w2 (by unfold in32; omega) (by omega) ((k1.seq (s' := sset r1 307 37 z1) (sset_2 (by omega)) (sset_2 (by omega)) (fun n => sset_1 (by omega))).veq (fun o j q => ew o j (by unfold UNC at q; omega)) (ew _ _ (by omega)) (ew _ _ (by omega)) (fun n => ew _ _ (by omega))) (OUTR.eq (by omega) k2 (fun j => ⟨ew _ _ (by omega), ew _ _ (by omega)⟩) (fun o j q => ?_)) (fun v3 j1 j2 j3 => ?_)
    · unfold WRT at q
      unfold sset
      rw [if_neg (by omega)]
    · refine ⟨z2, v3, rfl, rfl, ?_⟩
      have eh : ∀ o j, o ≠ ko ∨ j ≠ 5 → (sset v3 ko 5 (v3 64 4)) o j = v3 o j := fun o j q => by
        unfold sset
        rw [if_neg (by omega)]
      refine hQ _ (j1.veq (fun o j q => eh o j (by unfold UNC at q; omega)) (eh _ _ (by omega)) (eh _ _ (by omega)) (fun n => eh _ _ (by omega))) (OUTR.eq (by omega) j2 (fun j => ⟨eh _ _ (by omega), eh _ _ (by omega)⟩) (fun _ _ _ => rfl)) ?_ ?_ (fun o j q => ?_)
      · rw [eh _ _ (by omega), j3 _ _ (by unfold XCG; omega), sset_e, q7.1 _ _ (by unfold TCG TCL; omega), sset_e]
      · rw [sset_e]; exact j1.2.1.2.1
      · rw [eh o j (by omega), j3 o j (by unfold XCG; omega), ew o j (by omega)]
        exact xr1 o j q
