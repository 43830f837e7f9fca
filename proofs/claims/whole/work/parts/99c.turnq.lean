/-! ===== a job's turn, along the chain of its line ===== -/
/-- as JX, of a predicate on the places of the chain -/
def JQ (V T : Sg) (P : Int → Int → Prop) (j : Int) (v s : Sg) (m2 : Nat) : Prop := v (267 + 7 * j) 3 = 0 ∧ v (267 + 7 * j) 4 = 0 ∧
  ((s 336 j = 0 ∧ v (267 + 7 * j) 1 = 0 ∧ CHR V T P m2 (v (267 + 7 * j) 0) (s 335 j) ∧ v (267 + 7 * j) 2 = s 337 j) ∨
   (s 336 j = 1 ∧ ∃ po, P po (s 335 j) ∧ 350 ≤ po ∧ v (267 + 7 * j) 0 = V po 3 ∧ CHR V T P m2 (V po 3) (T 310 (s 335 j)) ∧ ∃ K : Nat, (K : Int) = T 313 (s 335 j) - 1 ∧ FRL V T 207 (267 + 7 * j) (24 + j) (s 335 j) po 0 v s (K + 1)))
theorem turnq {A : AHp} {V T : Sg} {P : Int → Int → Prop} {n d : Nat} {j : Int} (hP9 : ∀ po p, P po p → PR A V T 3 po p) (hX : XLAY A) (hT : TOK T) (hL : STL A V T 207) (hn9 : 139 ≤ n) (hd : 120 ≤ d) (hj : 0 ≤ j ∧ j ≤ 3) {t : Sg} {x : Int} {Q : Option AV → AHp → Prop} :
    ∀ (m m1 m2 : Nat) (v s : Sg) (i : Int), turnL (nextS n) j m s = some (x, t) → GI T s → s 307 33 = 0 → JP T j s m1 → JQ V T P j v s m2 → GLR V 207 v s → 0 ≤ i → i + m2 + s 336 j ≤ 90 →
    (∀ v' m2', m2' ≤ m2 → GLR V 207 v' t → (x = (-9223372036854775808) ∨ JQ V T P j v' t m2') → XJ j v v' → Q (some (vl x)) (cl A v')) → (s 336 j = 0 → GOA d A 3 207 (267 + 7 * j) 0 i v Q) ∧ (s 336 j = 1 → GOA d A 45 207 (267 + 7 * j) 0 i v Q)
  | 0, m1, m2, v, s, i, h, _, _, _, _, _, _, _, _ => by simp [turnL] at h
  | m + 1, m1, m2, v, s, i, h, hG, hg, hJ, hx, hR, hi0, hi, hE => by
    have hFr := XF_job hX j hj.1 (by omega)
    have hKp := XK_now hX
    obtain ⟨f3, f4, hx⟩ := hx
    obtain ⟨m', em, hcase⟩ := turn_s h
    obtain rfl : m = m' := by omega
    have hUN : ∀ o i, UNC 207 o i → o ≠ 267 + 7 * j := fun o i q => by unfold UNC at q; omega
    have eV : ∀ o i, 350 ≤ o → v o i = V o i := fun o i q => hR.1 o i (Or.inl q)
    refine ⟨fun z0 => ?_, fun z1 => ?_⟩
    · obtain ⟨f1, hCR, f2⟩ : v (267 + 7 * j) 1 = 0 ∧ CHR V T P m2 (v (267 + 7 * j) 0) (s 335 j) ∧ v (267 + 7 * j) 2 = s 337 j := by
        rcases hx with ⟨_, q1, q2, q3⟩ | ⟨q, _⟩
        · exact ⟨q1, q2, q3⟩
        · omega
      have hCH : CH T (POK T 3) m1 (s 335 j) := by
        rcases hJ with ⟨_, q⟩ | ⟨q, _⟩
        · exact q
        · omega
      have hend : v (267 + 7 * j) 0 = 0 → s 335 j = -1 → GOA d A 3 207 (267 + 7 * j) 0 i v Q := fun e1 e2 => by
        rcases hcase with ⟨_, q2, q3⟩ | ⟨q, _⟩
        · subst q2 q3
          exact go_null (po := 0) hFr (by omega) f1 e1 (hE v m2 (Nat.le_refl _) hR (Or.inl rfl) (fun _ _ _ => rfl))
        · omega
      generalize hpo : v (267 + 7 * j) 0 = po at hCR hend
      generalize hp9 : s 335 j = p at hCR hend hCH
      cases m2 with
      | zero => exact hend hCR.1 hCR.2
      | succ m2 =>
        rcases hCR with ⟨e1, e2⟩ | ⟨⟨p350, pge⟩, hPR, hCR2⟩
        · exact hend e1 e2
        · obtain ⟨m1', hP, hCH2⟩ : ∃ m1', POK T 3 p ∧ CH T (POK T 3) m1' (T 310 p) := by
            cases m1 with
            | zero => have : p = -1 := hCH; omega
            | succ m1 =>
              rcases hCH with e1 | ⟨_, q1, q2⟩
              · omega
              · exact ⟨m1, q1, q2⟩
          have hPC := (hP9 _ _ hPR).c
          have hPT := hP.w.1
          have hsz := hPT.2.2.1
          have hsz6 := hPT.2.2.2.1
          have e10 : s 310 p = T 310 p := hG.1 _ _ (by omega)
          have e11 : s 311 p = T 311 p := hG.1 _ _ (by omega)
          have h2 : turnL (nextS n) j m (jobBegS s j) = some (x, t) := by
            rcases hcase with ⟨q, _⟩ | ⟨_, _, _, q⟩
            · rw [hp9] at q; omega
            · rcases q with ⟨_, q⟩ | ⟨q, _⟩
              · exact q
              · omega
          unfold jobBegS at h2
          rw [hp9, e11, e10] at h2
          have ep3 : v po 3 = V po 3 := eV _ _ p350
          have hon : onS (v po 2) (v (267 + 7 * j) 2) = onS (T 311 p) (s 337 j) := by rw [eV _ _ p350, hPC.2.2.1, f2]
          have evp1 : v po 1 = T 313 p := (eV _ _ p350).trans hPC.2.1
          have hxf : ∀ (u : Sg), (∀ o i, o ≠ 267 + 7 * j → u o i = v o i) → XJ j v u ∧ GLR V 207 u s := fun u q =>
            ⟨fun o i q2 => q o i (fun z => q2 (Or.inr (Or.inr (Or.inr (by omega))))), hR.veq (fun o i q2 => q o i (hUN o i q2)) (q _ _ (by omega)) (q _ _ (by omega)) (fun n => q _ _ (by omega))⟩
          refine go_begin hX hFr (by omega) (by omega) f1 hpo p350 ?_
          refine x_beginNext (by omega) hX hKp hFr (by omega) (by omega) hPC.1 (by omega) (fun k g1 g2 => ?_) (fun on0 => ?_) (fun on1 fz => ?_) (fun on1 fp u hB => ?_)
          · rw [eV _ _ hPC.1.2.2.1]
            exact (hPC.2.2.2 k g1 (by omega)).1.eq eV
          · rw [hon] at on0
            rw [if_pos on0] at h2
            obtain ⟨x1, x2⟩ := hxf (sset v (267 + 7 * j) 0 (v po 3)) (fun o i q => sset_1 q)
            refine ⟨rfl, _, rfl, go_38n (po := 0) hFr (by omega) (by rw [sset_2 (by omega)]; exact f1) ?_⟩
            exact (turnq hP9 hX hT hL hn9 hd hj m m1' m2 _ (sset s 335 j (T 310 p)) (i + 1) h2 (hG.set (by omega) (by omega) (by omega)) (by rw [sset_1 (by omega)]; exact hg) (Or.inl ⟨by rw [sset_1 (by omega)]; exact z0, by rw [sset_e]; exact hCH2⟩) ⟨by rw [sset_2 (by omega)]; exact f3, by rw [sset_2 (by omega)]; exact f4, Or.inl ⟨by rw [sset_1 (by omega)]; exact z0, by rw [sset_2 (by omega)]; exact f1, by rw [sset_e, sset_e, ep3]; exact hCR2, by rw [sset_2 (by omega), sset_1 (by omega)]; exact f2⟩⟩ (x2.seq (sset_1 (by omega)) (sset_1 (by omega)) (fun n => sset_1 (by omega))) (by omega) (by rw [sset_1 (by omega)]; omega) (fun v' m2' k0 k1 k2 k3 => hE v' m2' (by omega) k1 k2 (x1.trans k3))).1 (by rw [sset_1 (by omega)]; exact z0)
          · rw [hon] at on1
            have hfu := hR.2.1.1
            have hfb := hG.2.1
            rw [if_neg (by rw [on1]; decide), if_pos (by omega)] at h2
            obtain ⟨x1, x2⟩ := hxf (sset (sset v (267 + 7 * j) 0 (v po 3)) (267 + 7 * j) 2 8) (fun o i q => by rw [sset_1 q, sset_1 q])
            refine ⟨rfl, _, rfl, go_38n (po := 0) hFr (by omega) (by rw [sset_2 (by omega), sset_2 (by omega)]; exact f1) ?_⟩
            exact (turnq hP9 hX hT hL hn9 hd hj m m1' m2 _ (sset (sset s 337 j 8) 335 j (T 310 p)) (i + 1) h2 ((hG.set (by omega) (by omega) (by omega)).set (by omega) (by omega) (by omega)) (by rw [sset_1 (by omega), sset_1 (by omega)]; exact hg) (Or.inl ⟨by rw [sset_1 (by omega), sset_1 (by omega)]; exact z0, by rw [sset_e]; exact hCH2⟩) ⟨by rw [sset_2 (by omega), sset_2 (by omega)]; exact f3, by rw [sset_2 (by omega), sset_2 (by omega)]; exact f4, Or.inl ⟨by rw [sset_1 (by omega), sset_1 (by omega)]; exact z0, by rw [sset_2 (by omega), sset_2 (by omega)]; exact f1, by rw [sset_2 (by omega), sset_e, sset_e, ep3]; exact hCR2, by rw [sset_e, sset_1 (by omega), sset_e]⟩⟩ (x2.seq (by rw [sset_1 (by omega), sset_1 (by omega)]) (by rw [sset_1 (by omega), sset_1 (by omega)]) (fun n => by rw [sset_1 (by omega), sset_1 (by omega)])) (by omega) (by rw [sset_1 (by omega), sset_1 (by omega)]; omega) (fun v' m2' k0 k1 k2 k3 => hE v' m2' (by omega) k1 k2 (x1.trans k3))).1 (by rw [sset_1 (by omega), sset_1 (by omega)]; exact z0)
          · rw [hon] at on1
            have hfu := hR.2.1.1
            rw [if_neg (by rw [on1]; decide), if_neg (by omega)] at h2
            obtain ⟨b1, b2, b3, b4⟩ := jbeg hT hj hG (show s 307 32 ≠ 0 by omega) hP
            obtain ⟨K, hK⟩ : ∃ K : Nat, (K : Int) = T 313 p - 1 := ⟨(T 313 p - 1).toNat, by omega⟩
            have hT4 : ∀ q : Nat, q < K + 1 → T 316 (T 312 p + q) ≤ 4 := fun q hq => (hPT.2.2.2.2.2.2 q (by omega) (by omega)).2.1
            have hR1 := begx (c := 24 + j) (par := 0) (g := 0) (K := K + 1) (by omega) (by omega) hPC hPT hP.w.2.1 hG hR f3 f4 hB (by omega)
            have e335 : ∀ y, (sset (beginsS (sset s 307 32 (w32 (s 307 32 - 1))) (24 + j) p 0) 336 j y) 335 j = p := fun y => by
              rw [sset_1 (by omega), b4 _ _ (by unfold TCB; omega) (by omega)]
              exact hp9
            have x1 : XJ j v u := fun o i q => by
              rw [hB.1 o i (by unfold OUT4; omega)]
              exact bg0_o (by omega)
            have hf0 : u (267 + 7 * j) 0 = V po 3 := by
              rw [hB.1 _ _ (by unfold OUT4; omega)]
              unfold bg0
              rw [sset_2 (by omega), sset_2 (by omega), sset_1 (by omega), sset_e]
              exact ep3
            have hR2 := hR1.seq hT4 (s' := sset (beginsS (sset s 307 32 (w32 (s 307 32 - 1))) (24 + j) p 0) 336 j 1) ⟨sset_1 (by omega), sset_1 (by omega)⟩ (fun o i q => sset_1 (by omega))
            have hu3 : u (267 + 7 * j) 3 = 0 := by
              rw [hB.1 _ _ (by unfold OUT4; omega), bg0_o (by omega)]
              exact f3
            refine ⟨rfl, u, rfl, go_38p hFr hR1.2.2.2.1.1 p350 ?_⟩
            exact (turnq hP9 hX hT hL hn9 hd hj m m1' m2 u _ i h2 (b1.set (by omega) (by omega) (by omega)) (by rw [sset_1 (by omega), b4 _ _ (by unfold TCB; omega) (by omega)]; exact hg)
              (Or.inr ⟨sset_e, by rw [e335]; exact ⟨pge, hPT.2.1⟩, by rw [e335]; exact hP, by rw [e335, sset_1 (by omega)]; exact b2, ⟨K, by rw [e335]; exact hK, by rw [e335]; exact FXs (b3 K hK) (sset_1 (by omega)) (fun o i q => sset_1 (by omega))⟩, by rw [e335]; exact hCH2⟩)
              ⟨hu3, hR1.2.2.2.1.2.2, Or.inr ⟨sset_e, po, by rw [e335]; exact hPR, p350, hf0, by rw [e335]; exact hCR2, K, by rw [e335]; exact hK, by rw [e335]; exact hR2⟩⟩ hR2.g hi0 (by rw [sset_e]; omega) (fun v' m2' k0 k1 k2 k3 => hE v' m2' (by omega) k1 k2 (x1.trans k3))).2 sset_e
    · obtain ⟨po, hPR, p350, f0, hCR2, K, hK, hF2⟩ : ∃ po, P po (s 335 j) ∧ 350 ≤ po ∧ v (267 + 7 * j) 0 = V po 3 ∧ CHR V T P m2 (V po 3) (T 310 (s 335 j)) ∧ ∃ K : Nat, (K : Int) = T 313 (s 335 j) - 1 ∧ FRL V T 207 (267 + 7 * j) (24 + j) (s 335 j) po 0 v s (K + 1) := by
        rcases hx with ⟨q, _⟩ | ⟨_, q⟩
        · omega
        · exact q
      obtain ⟨pge, hP, h323, ⟨K2, hK2, hF⟩, hCH⟩ : (0 ≤ s 335 j ∧ s 335 j < 480) ∧ POK T 3 (s 335 j) ∧ s 323 (24 + j) = s 335 j ∧ (∃ K : Nat, (K : Int) = T 313 (s 335 j) - 1 ∧ FX T s (24 + j) (s 335 j) (K + 1)) ∧ CH T (POK T 3) m1 (T 310 (s 335 j)) := by
        rcases hJ with ⟨q, _⟩ | ⟨_, q⟩
        · omega
        · exact q
      obtain rfl : K = K2 := by omega
      have hPC := (hP9 _ _ hPR).c
      have hsz := hP.w.1.2.2.1
      have hsz6 := hP.w.1.2.2.2.1
      have hC : SCX A V T 207 (267 + 7 * j) 0 (24 + j) (s 335 j) po 3 := ⟨hX, hKp, hFr, by omega, by omega, by omega, Or.inr (by omega), by omega, hPC, hP, hT⟩
      obtain ⟨y, r, e1, hNP⟩ := nexts_ok hT n (24 + j) (s 335 j) 0 3 K 19 (by omega) (by omega) (by omega) (by omega) hP (by omega) s hG h323 hF hg
      have e13 : s 313 (s 335 j) - 1 = (K : Int) := by rw [hG.1 313 _ (by omega), hK]
      have hres : (y = (-9223372036854775808) ∧ turnL (nextS n) j m (jobEnd r j K) = some (x, t)) ∨ (y ≠ (-9223372036854775808) ∧ x = y ∧ t = r) := by
        rcases hcase with ⟨q, _⟩ | ⟨_, _, _, q⟩
        · omega
        · rcases q with ⟨q, _⟩ | ⟨_, x1, r1, q1, q2⟩
          · omega
          · rw [e13, e1, Option.some.injEq, Prod.mk.injEq] at q1
            obtain ⟨q3, q4⟩ := q1
            subst q3 q4
            rw [e13] at q2
            rcases q2 with ⟨q5, _, q6⟩ | q5
            · exact Or.inl ⟨q5, q6⟩
            · exact Or.inr q5
      have hN : NXK (d - 1) (nextS n) A V T 207 (267 + 7 * j) 0 (24 + j) (s 335 j) po 0 K := nxx_all hX hKp (by omega) hT hL n (d - 1) _ 0 (24 + j) _ po 0 3 K 19 (by omega) (by omega) (by omega) (by omega) (by omega) hC (hP9 _ _ hPR) (by omega) (by omega)
      have hn1 := hNP.1
      have r335 : r 335 j = s 335 j := hn1 _ _ (by unfold TCH TCL; omega)
      have r336 : r 336 j = s 336 j := hn1 _ _ (by unfold TCH TCL; omega)
      have r33 : r 307 33 = 0 := (hn1 _ _ tch_going).trans hg
      have r310 : r 310 (s 335 j) = T 310 (s 335 j) := hNP.2.1.1 _ _ (by omega)
      refine go_45 (po := 0) hX (by omega) ?_
      refine nextx hC hK hN (by omega) hF2 hG h323 hF hg e1 hNP (fun v' g3 g4 => ⟨y, v', rfl, rfl, fun c0 => ?_, fun c0 => ?_⟩)
      · obtain ⟨_, h2⟩ : y = (-9223372036854775808) ∧ turnL (nextS n) j m (jobEnd r j K) = some (x, t) := by
          rcases hres with q | ⟨q, _⟩
          · exact q
          · exact absurd c0 q
        have evp : v' po 1 = T 313 (s 335 j) := (g3.1 _ _ (Or.inl p350)).trans hPC.2.1
        refine go_66 hFr (by omega) (by omega) g3.2.2.2.1.1 hPC.1 (by omega) ?_
        have est := (g3.2.2.2.2 K (by omega)).1
        rw [evp, ← hK, est]
        unfold jobEnd at h2
        rw [r335, r310] at h2
        have k0 : v' (267 + 7 * j) 0 = V po 3 := (g4 _ _ (by unfold XCH; omega)).trans f0
        have k3 : v' (267 + 7 * j) 3 = 0 := (g4 _ _ (by unfold XCH; omega)).trans f3
        have k4 : v' (267 + 7 * j) 4 = 0 := g3.2.2.2.1.2.2
        have yy : ∀ o i, o ≠ 267 + 7 * j → (sset (sset v' (267 + 7 * j) 2 (r 328 (6 * (24 + j) + K))) (267 + 7 * j) 1 0) o i = v' o i := fun o i q => by rw [sset_1 q, sset_1 q]
        have x1 : XJ j v (sset (sset v' (267 + 7 * j) 2 (r 328 (6 * (24 + j) + K))) (267 + 7 * j) 1 0) := fun o i q => by
          rw [yy o i (by omega)]
          exact g4 o i (by unfold XCH; omega)
        exact (turnq hP9 hX hT hL hn9 hd hj m m1 m2 _ _ (i + 1) h2 (((hNP.2.1.set (by omega) (by omega) (by omega)).set (by omega) (by omega) (by omega)).set (by omega) (by omega) (by omega)) (by rw [sset_1 (by omega), sset_1 (by omega), sset_1 (by omega)]; exact r33) (Or.inl ⟨by rw [sset_1 (by omega), sset_e], by rw [sset_e]; exact hCH⟩)
          ⟨by rw [sset_2 (by omega), sset_2 (by omega)]; exact k3, by rw [sset_2 (by omega), sset_2 (by omega)]; exact k4, Or.inl ⟨by rw [sset_1 (by omega), sset_e], sset_e, by rw [sset_2 (by omega), sset_2 (by omega), sset_e, k0]; exact hCR2, by rw [sset_2 (by omega), sset_e, sset_1 (by omega), sset_1 (by omega), sset_e]⟩⟩
          ((g3.g.seq (s' := sset (sset (sset r 337 j (r 328 (6 * (24 + j) + K))) 336 j 0) 335 j (T 310 (s 335 j))) (by rw [sset_1 (by omega), sset_1 (by omega), sset_1 (by omega)]) (by rw [sset_1 (by omega), sset_1 (by omega), sset_1 (by omega)]) (fun n => by rw [sset_1 (by omega), sset_1 (by omega), sset_1 (by omega)])).veq (fun o i q => yy o i (hUN o i q)) (yy _ _ (by omega)) (yy _ _ (by omega)) (fun n => yy _ _ (by omega))) (by omega) (by rw [sset_1 (by omega), sset_e]; omega) (fun v2 m2' q0 q1 q2 q3 => hE v2 m2' q0 q1 q2 (x1.trans q3))).1 (by rw [sset_1 (by omega), sset_e])
      · obtain ⟨_, q2, q3⟩ : y ≠ (-9223372036854775808) ∧ x = y ∧ t = r := by
          rcases hres with ⟨q, _⟩ | q
          · exact absurd q c0
          · exact q
        subst q2 q3
        have k0 : v' (267 + 7 * j) 0 = V po 3 := (g4 _ _ (by unfold XCH; omega)).trans f0
        have k3 : v' (267 + 7 * j) 3 = 0 := (g4 _ _ (by unfold XCH; omega)).trans f3
        refine hE v' m2 (Nat.le_refl _) g3.g (Or.inr ⟨k3, g3.2.2.2.1.2.2, Or.inr ⟨r336.trans z1, po, by rw [r335]; exact hPR, p350, k0, by rw [r335]; exact hCR2, K, by rw [r335]; exact hK, by rw [r335]; exact g3⟩⟩) (fun o i q => g4 o i (by unfold XCH; omega))
theorem jobBegS_r {s s' : Sg} {j : Int} (h : RD s s') : RD (jobBegS s j) (jobBegS s' j) := by
  unfold jobBegS
  have e335 : s' 335 j = s 335 j := h _ _ (by omega)
  have e32 : s' 307 32 = s 307 32 := h _ _ (by omega)
  have e337 : s' 337 j = s 337 j := h _ _ (by omega)
  have e311 : s' 311 (s 335 j) = s 311 (s 335 j) := h _ _ (by omega)
  have e310 : s' 310 (s 335 j) = s 310 (s 335 j) := h _ _ (by omega)
  rw [e335, e32, e337, e311, e310]
  split
  · exact h.set
  · split
    · exact h.set.set
    · exact (beginsS_r h.set).set
theorem turnL_r {nx : Sg → Int → Int → Option (Int × Sg)} (hn9 : HR nx) {j : Int} : ∀ {m : Nat} {s t s' : Sg} {x : Int}, turnL nx j m s = some (x, t) → RD s s' → ∃ t', turnL nx j m s' = some (x, t') ∧ RD t t'
  | 0, _, _, _, _, h, _ => by simp [turnL] at h
  | m + 1, s, t, s', x, h, hs9 => by
    unfold turnL at h ⊢
    have e335 : s' 335 j = s 335 j := hs9 _ _ (by omega)
    have e336 : s' 336 j = s 336 j := hs9 _ _ (by omega)
    have e313 : s' 313 (s 335 j) = s 313 (s 335 j) := hs9 _ _ (by omega)
    rw [e335, e336, e313]
    by_cases c : s 335 j < 0
    · rw [if_pos c, Option.some.injEq, Prod.mk.injEq] at h
      rw [if_pos c, ← h.1, ← h.2]
      exact ⟨_, rfl, hs9⟩
    · rw [if_neg c] at h ⊢
      obtain ⟨⟨g0, g01⟩, h⟩ := grd_some h
      rw [grd_ok ⟨g0, PTB_r hs9 g01⟩]
      by_cases c2 : s 336 j = 0
      · rw [if_pos c2] at h ⊢
        exact turnL_r hn9 h (jobBegS_r hs9)
      · rw [if_neg c2] at h ⊢
        obtain ⟨⟨x1, r1⟩, g1, g2⟩ := Option.bind_eq_some_iff.mp h
        obtain ⟨t1, g3, g4⟩ := hn9 _ _ _ _ _ _ g1 hs9
        rw [g3, Option.bind_some]
        dsimp only at g2 ⊢
        by_cases c3 : x1 = (-9223372036854775808)
        · rw [if_pos c3] at g2 ⊢
          obtain ⟨g5, g6⟩ := grd_some g2
          rw [grd_ok (by rw [g4 335 j (by omega)]; exact g5)]
          refine turnL_r hn9 g6 ?_
          unfold jobEnd
          rw [g4 328 _ (by omega), g4 335 j (by omega), g4 310 _ (by omega)]
          exact g4.set.set.set
        · rw [if_neg c3] at g2 ⊢
          rw [Option.some.injEq, Prod.mk.injEq] at g2
          rw [← g2.1, ← g2.2]
          exact ⟨_, rfl, g4⟩
/-- the chain of a list, each pipe told with its place -/
theorem CHR.at {w u : Sg} {P : Int → Int → Prop} {po0 p0 : Int} {N : Nat} : ∀ {m k : Nat}, k + m ≤ N → CHR w u P m (itV w k po0) (itT u k p0) → CHR w u (fun po p => P po p ∧ ∃ i, i ≤ N ∧ po = itV w i po0 ∧ p = itT u i p0) m (itV w k po0) (itT u k p0)
  | 0, _, _, h => h
  | m + 1, k, hN, h => by
    rcases h with h | ⟨h1, h2, h3⟩
    · exact Or.inl h
    · have e1 : ∀ (k : Nat) (q : Int), ¬ itV w k q = 0 → w (itV w k q) 3 = itV w (k + 1) q := fun k => by
        induction k with
        | zero =>
          intro q hq
          have hq' : ¬ q = 0 := hq
          show w q 3 = if q = 0 then 0 else w q 3
          rw [if_neg hq']
        | succ k ih =>
          intro q hq
          by_cases c : q = 0
          · have : itV w (k + 1) q = 0 := if_pos c
            exact absurd this hq
          · have e : itV w (k + 1) q = itV w k (w q 3) := if_neg c
            have e' : itV w (k + 1 + 1) q = itV w (k + 1) (w q 3) := if_neg c
            rw [e] at hq ⊢
            rw [e']
            exact ih _ hq
      have e2 : ∀ (k : Nat) (q : Int), ¬ itT u k q < 0 → u 310 (itT u k q) = itT u (k + 1) q := fun k => by
        induction k with
        | zero =>
          intro q hq
          have hq' : ¬ q < 0 := hq
          show u 310 q = if q < 0 then q else u 310 q
          rw [if_neg hq']
        | succ k ih =>
          intro q hq
          by_cases c : q < 0
          · have : itT u (k + 1) q = q := if_pos c
            rw [this] at hq
            exact absurd c hq
          · have e : itT u (k + 1) q = itT u k (u 310 q) := if_neg c
            have e' : itT u (k + 1 + 1) q = itT u (k + 1) (u 310 q) := if_neg c
            rw [e] at hq ⊢
            rw [e']
            exact ih _ hq
      refine Or.inr ⟨h1, ⟨h2, k, by omega, rfl, rfl⟩, ?_⟩
      rw [e1 k po0 (by omega), e2 k p0 (by omega)] at h3 ⊢
      exact CHR.at (by omega) h3
