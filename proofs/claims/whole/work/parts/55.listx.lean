/-! ===== a list goes, class and reference ===== -/
def QGL (d : Nat) (A : AHp) (ko first par g lev to fo i2 : Int) (Q : Option AV → AHp → Prop) : Option AV → AHp → Prop := fun r B => ∃ x u, r = some (vl x) ∧ B = cl A u ∧ (x = (-9223372036854775808) → Q (some (vi (u fo 2))) (cl A u)) ∧ (x ≠ (-9223372036854775808) → 0 ≤ u to 1 ∧ LHA d A ko first par g lev to fo (i2 + 1) (addX u to x) Q)
theorem OUTR.eq {v v' s s' : Sg} {to at9 : Int} (hb : 0 ≤ at9 → s 330 at9 ≤ 60) (h : OUTR v s to at9) (hv : ∀ j, v' to j = v to j ∧ v' (to + 1) j = v (to + 1) j) (hs : ∀ o j, WRT at9 o j → s' o j = s o j) : OUTR v' s' to at9 := by
  refine ⟨fun q => ?_, fun q => ?_⟩
  · obtain ⟨a1, a2⟩ := h.1 q
    rw [(hv 1).1, hs 307 36 (by unfold WRT; omega)]
    refine ⟨a1, fun i g1 g2 => ?_⟩
    rw [(hv i).2, hs 331 i (by unfold WRT; omega)]
    exact a2 i g1 g2
  · obtain ⟨a1, a2⟩ := h.2 q
    rw [(hv 1).1, hs 330 at9 (by unfold WRT; omega)]
    refine ⟨a1, fun i g1 g2 => ?_⟩
    have := hb q
    rw [(hv i).2, hs 329 _ (by unfold WRT; omega)]
    exact a2 i g1 g2
theorem too_x {ko lev to K j : Int} (hlev : 0 ≤ lev ∧ lev < 20) (hko : 206 < ko ∧ ko < 250) (hto : TOO ko lev to) : ¬ XCH ko (67 + 7 * lev) lev K to j ∧ ¬ XCH ko (67 + 7 * lev) lev K (to + 1) j := by
  unfold TOO at hto
  unfold XCH
  omega
theorem xch_xcg {ko lev to K o j : Int} (hlev : 0 ≤ lev ∧ lev < 20) (q : XCH ko (67 + 7 * lev) lev K o j) : XCG ko lev to o j := by
  rcases q with q | q | q | q | q | q | q
  · exact Or.inl q
  · exact Or.inr (Or.inl q)
  all_goals exact Or.inr (Or.inr (Or.inr (Or.inr (by omega))))
theorem XG.trans {ko lev to : Int} {v1 v2 v3 : Sg} (h1 : XG ko lev to v1 v2) (h2 : XG ko lev to v2 v3) : XG ko lev to v1 v3 := fun o j q => (h2 o j q).trans (h1 o j q)
theorem wrt_tch {c K at9 o j : Int} (hc : 0 ≤ c ∧ c < 24) (h9 : at9 < 28 ∧ (at9 < c ∨ 24 ≤ at9)) (q : WRT at9 o j) : ¬ TCH c K o j := by
  unfold WRT at q
  unfold TCH TCL childS
  rw [if_pos hc.2]
  omega
theorem flowx {d : Nat} {nx : Sg → Int → Int → Option (Int × Sg)} {A : AHp} {V T : Sg} {ko lev c p po g par at9 to first : Int} {e K : Nat} (hC : SCX A V T ko (67 + 7 * lev) lev c p po e) (hc : 0 ≤ c ∧ c < 24) (hK : (K : Int) = T 313 p - 1) (hN : NXK (d - 2) nx A V T ko (67 + 7 * lev) lev c p po g K) (hNG : NXG nx T c p K g) (h9 : at9 < 28 ∧ (at9 < c ∨ 24 ≤ at9)) (hto : TOO ko lev to) (hNt : NumsAt A to) (hd : 6 ≤ d) {t : Sg} {Q : Option AV → AHp → Prop} :
    ∀ (mm : Nat) (v s : Sg) (i i2 : Int), flowS nx c at9 K mm s = some t → FRL V T ko (67 + 7 * lev) c p po g v s (K + 1) → GI T s → s 323 c = p → FX T s c p (K + 1) → s 307 33 = g → OUTR v s to at9 → (0 ≤ at9 → 0 ≤ s 330 at9 ∧ s 330 at9 ≤ 60) → 0 ≤ i → i ≤ 99 → 0 ≤ i2 → i2 + mm ≤ 900000 →
    (∀ (i' i2' : Int) (v' : Sg), 0 ≤ i' → i' ≤ i → 0 ≤ i2' → i2' ≤ i2 + mm → FRL V T ko (67 + 7 * lev) c p po g v' t (K + 1) → OUTR v' t to at9 → XG ko lev to v v' → (v' (67 + 7 * lev) 0 = v (67 + 7 * lev) 0 ∧ v' (67 + 7 * lev) 3 = v (67 + 7 * lev) 3) → GOA (d - 1) A 66 ko (67 + 7 * lev) lev i' v' (QGL d A ko first par g lev to (67 + 7 * lev) i2' Q)) →
    GOA (d - 1) A 45 ko (67 + 7 * lev) lev i v (QGL d A ko first par g lev to (67 + 7 * lev) i2 Q)
  | 0, v, s, i, i2, h, _, _, _, _, _, _, _, _, _, _, _, _ => by simp [flowS] at h
  | mm + 1, v, s, i, i2, h, hR, hG, hp9, hF, hg, hO, hb, hi0, hi, hj0, hj, hE => by
    obtain ⟨hX, hKp, hFr, hfo, hko, hlev, hfl, hfr, hPC, hPOK, hTOK⟩ := id hC
    obtain ⟨x, r, e1, hNP⟩ := hNG s hG hp9 hF hg
    unfold flowS at h
    rw [e1, Option.bind_some] at h
    have hT4 : ∀ j : Nat, j < K + 1 → T 316 (T 312 p + j) ≤ 4 := fun j hj => (hPOK.w.1.2.2.2.2.2.2 j (by omega) (by omega)).2.1
    have hws : ∀ o j, WRT at9 o j → r o j = s o j := fun o j q => hNP.1 o j (wrt_tch hc h9 q)
    have hr9 : 0 ≤ at9 → 0 ≤ r 330 at9 ∧ r 330 at9 ≤ 60 := fun q => by
      rw [hws 330 at9 (by unfold WRT; omega)]
      exact hb q
    refine go_45 (po := 0) hX (by omega) ?_
    rw [show d - 1 - 1 = d - 2 by omega]
    refine nextx hC hK hN (by omega) hR hG hp9 hF hg e1 hNP (fun v' g3 g4 => ⟨x, v', rfl, rfl, fun c0 => ?_, fun c0 => ?_⟩)
    · have gk : v' (67 + 7 * lev) 0 = v (67 + 7 * lev) 0 ∧ v' (67 + 7 * lev) 3 = v (67 + 7 * lev) 3 := ⟨g4 _ _ (by unfold XCH; omega), g4 _ _ (by unfold XCH; omega)⟩
      rw [if_pos c0, Option.some.injEq] at h
      subst h
      have hO2 : OUTR v' r to at9 := OUTR.eq (fun q => (hb q).2) hO (fun j => ⟨g4 _ _ (too_x hlev hko hto).1, g4 _ _ (too_x hlev hko hto).2⟩) hws
      exact hE i i2 v' hi0 (Int.le_refl _) hj0 (by omega) g3 hO2 (fun o j q => g4 o j (fun z => q (xch_xcg hlev z))) gk
    · rw [if_neg c0] at h
      obtain ⟨_, h⟩ := grd_some h
      have gk : v' (67 + 7 * lev) 0 = v (67 + 7 * lev) 0 ∧ v' (67 + 7 * lev) 3 = v (67 + 7 * lev) 3 := ⟨g4 _ _ (by unfold XCH; omega), g4 _ _ (by unfold XCH; omega)⟩
      have gt : 67 + 7 * lev ≠ to ∧ 67 + 7 * lev ≠ to + 1 := by
        unfold TOO at hto
        omega
      have hO2 : OUTR v' r to at9 := OUTR.eq (fun q => (hb q).2) hO (fun j => ⟨g4 _ _ (too_x hlev hko hto).1, g4 _ _ (too_x hlev hko hto).2⟩) hws
      have h36 := hNP.2.1.2.2.1
      have hto0 : 0 < to := by unfold TOO at hto; omega
      have hu0 : 0 ≤ v' to 1 := by
        rcases Int.lt_or_le at9 0 with q | q
        · rw [(hO2.1 q).1]; exact h36.1
        · rw [(hO2.2 q).1]; exact (hr9 q).1
      refine ⟨x, v', rfl, rfl, fun q => absurd q c0, fun _ => ⟨hu0, ?_⟩⟩
      refine lh_step hX hFr hNt (by omega) (by omega) hto0 ?_
      refine x_goOn (by omega) ?_
      have hR3 : FRL V T ko (67 + 7 * lev) c p po g (addX v' to x) (writesS r at9 (w32 x)) (K + 1) := g3.addw hlev rfl hko hto ⟨h9.1, by omega⟩ (fun q => (hr9 q).1) hNP.2.2.1.1.2 hT4
      refine go_in (po := po) hFr (by omega) hR3.2.2.2.1.1 hPC.1.1 ?_
      have hwk : ∀ o j, (326 ≤ o ∧ o ≤ 328 ∨ o = 323 ∨ (o = 330 ∧ j = c) ∨ (o = 307 ∧ j = 33)) → writesS r at9 (w32 x) o j = r o j := fun o j q => writes_w (by unfold WRT; omega) (fun z => (hr9 z).1)
      have hG2 : GI T (writesS r at9 (w32 x)) := by
        unfold writesS
        split
        · split
          · exact (hNP.2.1.set (by omega) (by omega) (by omega)).set (by omega) (by omega) (fun _ _ => by omega)
          · exact hNP.2.1
        · split
          · exact (hNP.2.1.set (by omega) (fun _ => w32_in _) (by omega)).set (by omega) (by omega) (by omega)
          · exact hNP.2.1
      have hr2 : 0 ≤ at9 → 0 ≤ writesS r at9 (w32 x) 330 at9 ∧ writesS r at9 (w32 x) 330 at9 ≤ 60 := fun q => by
        have q2 := hr9 q
        unfold writesS
        rw [if_neg (show ¬ at9 < 0 by omega)]
        split
        · rw [sset_e]; omega
        · exact q2
      have hF2 : FX T (writesS r at9 (w32 x)) c p (K + 1) := by
        refine ⟨?_, fun j hj => SO_eq (hwk _ _ (by omega)) (hwk _ _ (by omega)) (hNP.2.2.1.2 j hj)⟩
        rw [hwk 330 c (by omega)]
        exact hNP.2.2.1.1
      refine flowx hC hc hK hN hNG h9 hto hNt hd mm _ _ 0 (i2 + 1) h hR3 hG2 (by rw [hwk _ _ (by omega), hNP.1 _ _ (tch_self (by omega))]; exact hp9) hF2 (by rw [hwk _ _ (by omega), hNP.1 _ _ tch_going]; exact hg) (hO2.add (fun _ => h36.1) (fun q => (hr9 q).1)) hr2 (by omega) (by omega) (by omega) (by omega) (fun i' i2' v2 k1 k2 k3 k4 k5 k6 k7 k8 => hE i' i2' v2 k1 (by omega) k3 (by omega) k5 k6 ?_ ⟨k8.1.trans ((addX_o gt.1 gt.2).trans gk.1), k8.2.trans ((addX_o gt.1 gt.2).trans gk.2)⟩)
      have x1 : XG ko lev to v v' := fun o j q => g4 o j (fun z => q (xch_xcg hlev z))
      have x2 : XG ko lev to v' (addX v' to x) := fun o j q => addX_o (fun z => q (Or.inr (Or.inr (Or.inl z)))) (fun z => q (Or.inr (Or.inr (Or.inr (Or.inl z)))))
      exact (x1.trans x2).trans k7
theorem listx {d : Nat} {nx : Sg → Int → Int → Option (Int × Sg)} {A : AHp} {V T : Sg} {ko lev c g par at9 to first : Int} {e : Nat} (hX : XLAY A) (hKp : KeptAt A ko) (hko : 206 < ko ∧ ko < 250) (hlev : 0 ≤ lev ∧ lev < 20) (hT : TOK T) (hc : 0 ≤ c ∧ c < 24) (hN : ∀ p po (k : Nat), POK T e p → PR A V T e po p → (k : Int) < T 313 p → NXK (d - 2) nx A V T ko (67 + 7 * lev) lev c p po g k) (hNG : ∀ p (k : Nat), POK T e p → (k : Int) < T 313 p → NXG nx T c p k g) (h9 : at9 < 28 ∧ (at9 < c ∨ 24 ≤ at9)) (hto : TOO ko lev to) (hNt : NumsAt A to) (hpar : in32 par) (hd : 6 ≤ d) {t : Sg} {z : Int} {Q : Option AV → AHp → Prop} :
    ∀ (mm m1 m2 : Nat) (p po st : Int) (v s : Sg) (i i2 : Int), listS nx par c at9 mm p st s = some (z, t) → CH T (POK T e) m1 p → CHR V T (PR A V T e) m2 po p → (v (67 + 7 * lev) 0 = po ∧ v (67 + 7 * lev) 1 = 0 ∧ v (67 + 7 * lev) 2 = st ∧ v (67 + 7 * lev) 3 = par ∧ v (67 + 7 * lev) 4 = g) → GLR V ko v s → GI T s → s 307 33 = g → OUTR v s to at9 → (0 ≤ at9 → 0 ≤ s 330 at9 ∧ s 330 at9 ≤ 60) → 0 ≤ i → i + m2 ≤ 90 → 0 ≤ i2 → i2 + 300 * m2 ≤ 800000 →
    (∀ v', GLR V ko v' t → OUTR v' t to at9 → XG ko lev to v v' → Q (some (vi z)) (cl A v')) →
    GOA (d - 1) A 3 ko (67 + 7 * lev) lev i v (QGL d A ko first par g lev to (67 + 7 * lev) i2 Q)
  | 0, m1, m2, p, po, st, v, s, i, i2, h, _, _, _, _, _, _, _, _, _, _, _, _, _ => by simp [listS] at h
  | mm + 1, m1, m2, p, po, st, v, s, i, i2, h, hCH, hCR, ⟨f0, f1, f2, f3, f4⟩, hR, hG, hg, hO, hb, hi0, hi, hj0, hj, hE => by
    have hFr := XF_frame hX lev hlev.1 hlev.2
    have hend : po = 0 → p = -1 → GOA (d - 1) A 3 ko (67 + 7 * lev) lev i v (QGL d A ko first par g lev to (67 + 7 * lev) i2 Q) := fun e1 e2 => by
      unfold listS at h
      rw [if_pos (by omega), Option.some.injEq, Prod.mk.injEq] at h
      obtain ⟨h1, h2⟩ := h
      subst h1 h2
      refine go_null (po := 0) hFr (by omega) f1 (f0.trans e1) ⟨_, v, rfl, rfl, fun _ => ?_, fun q => absurd rfl q⟩
      rw [f2]
      exact hE v hR hO (fun _ _ _ => rfl)
    cases m2 with
    | zero => exact hend hCR.1 hCR.2
    | succ m2 =>
      rcases hCR with ⟨e1, e2⟩ | ⟨⟨p350, pge⟩, hPR, hCR2⟩
      · exact hend e1 e2
      · obtain ⟨m1', hP, hCH2⟩ : ∃ m1', POK T e p ∧ CH T (POK T e) m1' (T 310 p) := by
          cases m1 with
          | zero => have : p = -1 := hCH; omega
          | succ m1 =>
            rcases hCH with e1 | ⟨_, q1, q2⟩
            · omega
            · exact ⟨m1, q1, q2⟩
        have hPC := hPR.c
        have hPT := hP.w.1
        have hsz := hPT.2.2.1
        have hsz6 := hPT.2.2.2.1
        have eV : ∀ o j, 350 ≤ o → v o j = V o j := fun o j q => hR.1 o j (Or.inl q)
        have hC : SCX A V T ko (67 + 7 * lev) lev c p po e := ⟨hX, hKp, hFr, by omega, hko, hlev, Or.inl rfl, by omega, hPC, hP, hT⟩
        unfold listS at h
        rw [if_neg (by omega)] at h
        obtain ⟨_, h⟩ := grd_some h
        obtain ⟨⟨z1, r1⟩, h1, h2⟩ := Option.bind_eq_some_iff.mp h
        dsimp only at h2
        have e11 : s 311 p = T 311 p := hG.1 _ _ (by omega)
        rw [e11] at h1
        have ep3 : v po 3 = V po 3 := eV _ _ p350
        have hon : onS (v po 2) (v (67 + 7 * lev) 2) = onS (T 311 p) st := by rw [eV _ _ p350, hPC.2.2.1, f2]
        have evp1 : v po 1 = T 313 p := (eV _ _ p350).trans hPC.2.1
        have hUN : ∀ o j, UNC ko o j → o ≠ 67 + 7 * lev := fun o j q => by unfold UNC at q; omega
        have hxf : ∀ (u : Sg), (∀ o j, o ≠ 67 + 7 * lev → u o j = v o j) → XG ko lev to v u ∧ GLR V ko u s ∧ OUTR u s to at9 := fun u q => by
          refine ⟨fun o j q2 => q o j (fun z => q2 (Or.inr (Or.inr (Or.inr (Or.inr (by omega)))))), hR.veq (fun o j q2 => q o j (hUN o j q2)) (q _ _ (by omega)) (q _ _ (by omega)) (fun n => q _ _ (by omega)), OUTR.eq (fun q => (hb q).2) hO (fun j => ⟨q _ _ (by unfold TOO at hto; omega), q _ _ (by unfold TOO at hto; omega)⟩) (fun _ _ _ => rfl)⟩
        refine go_begin hX hFr (by omega) (by omega) f1 f0 p350 ?_
        refine x_beginNext (by omega) hX hKp hFr (by omega) hko hPC.1 (by omega) (fun k g1 g2 => ?_) (fun on0 => ?_) (fun on1 fz => ?_) (fun on1 fp u hB => ?_)
        · rw [eV _ _ hPC.1.2.2.1]
          exact (hPC.2.2.2 k g1 (by omega)).1.eq eV
        · rw [hon] at on0
          rw [if_neg (by rw [on0]; decide), Option.some.injEq, Prod.mk.injEq] at h1
          obtain ⟨h3, h4⟩ := h1
          subst h3 h4
          rw [hG.1 310 p (by omega)] at h2
          obtain ⟨x1, x2, x3⟩ := hxf (sset v (67 + 7 * lev) 0 (v po 3)) (fun o j q => sset_1 q)
          refine ⟨rfl, _, rfl, go_38n (po := 0) hFr (by omega) (by rw [sset_2 (by omega)]; exact f1) ?_⟩
          exact listx hX hKp hko hlev hT hc hN hNG h9 hto hNt hpar hd mm m1' m2 _ (V po 3) st _ s (i + 1) i2 h2 hCH2 hCR2 ⟨by rw [sset_e]; exact ep3, by rw [sset_2 (by omega)]; exact f1, by rw [sset_2 (by omega)]; exact f2, by rw [sset_2 (by omega)]; exact f3, by rw [sset_2 (by omega)]; exact f4⟩ x2 hG hg x3 hb (by omega) (by omega) hj0 (by omega) (fun v' k1 k2 k3 => hE v' k1 k2 (x1.trans k3))
        · rw [hon] at on1
          have hfu := hR.2.1.1
          have hfb := hG.2.1
          rw [if_pos on1, if_pos (by omega), Option.some.injEq, Prod.mk.injEq] at h1
          obtain ⟨h3, h4⟩ := h1
          subst h3 h4
          rw [hG.1 310 p (by omega)] at h2
          obtain ⟨x1, x2, x3⟩ := hxf (sset (sset v (67 + 7 * lev) 0 (v po 3)) (67 + 7 * lev) 2 8) (fun o j q => by rw [sset_1 q, sset_1 q])
          refine ⟨rfl, _, rfl, go_38n (po := 0) hFr (by omega) (by rw [sset_2 (by omega), sset_2 (by omega)]; exact f1) ?_⟩
          exact listx hX hKp hko hlev hT hc hN hNG h9 hto hNt hpar hd mm m1' m2 _ (V po 3) 8 _ s (i + 1) i2 h2 hCH2 hCR2 ⟨by rw [sset_2 (by omega), sset_e]; exact ep3, by rw [sset_2 (by omega), sset_2 (by omega)]; exact f1, sset_e, by rw [sset_2 (by omega), sset_2 (by omega)]; exact f3, by rw [sset_2 (by omega), sset_2 (by omega)]; exact f4⟩ x2 hG hg x3 hb (by omega) (by omega) hj0 (by omega) (fun v' k1 k2 k3 => hE v' k1 k2 (x1.trans k3))
        · rw [hon] at on1
          have hfu := hR.2.1.1
          rw [if_pos on1, if_neg (by omega)] at h1
          obtain ⟨zz, rr, hz1, hz2⟩ := pipe_ok (par := par) hT hc h9 hP (fun k hk9 => hNG p k hP hk9) hG hg (show s 307 32 ≠ 0 by omega) hpar hb
          rw [h1, Option.some.injEq, Prod.mk.injEq] at hz1
          obtain ⟨hz3, hz4⟩ := hz1
          subst hz3 hz4
          unfold pipeS at h1
          obtain ⟨_, h1⟩ := grd_some h1
          obtain ⟨w, h3, h4⟩ := Option.bind_eq_some_iff.mp h1
          simp only [Option.some.injEq, Prod.mk.injEq] at h4
          obtain ⟨h5, h6⟩ := h4
          subst h6
          have hfb := hG.2.1
          have e32 : w32 (s 307 32 - 1) = s 307 32 - 1 := w32_id (by omega) (by omega)
          have hG0 : GI T (sset s 307 32 (w32 (s 307 32 - 1))) := hG.set (by omega) (by omega) (fun _ q => by rw [e32]; omega)
          have hPs : PTB (sset s 307 32 (w32 (s 307 32 - 1))) p := hG0.ptb.mpr hPT
          have hG1 := begins_GI (fr := c) (par := par) hT hG0 hPs hpar
          obtain ⟨b1, ⟨b2, b3, b4⟩, b5⟩ := begins_v (fr := c) (par := par) hPs
          have e13 : beginsS (sset s 307 32 (w32 (s 307 32 - 1))) c p par 313 p = T 313 p := hG1.1 313 p (by omega)
          have e13s : (sset s 307 32 (w32 (s 307 32 - 1))) 313 p = T 313 p := hG0.1 313 p (by omega)
          rw [e13] at h3 h5
          obtain ⟨K, hK⟩ : ∃ K : Nat, (K : Int) = T 313 p - 1 := ⟨(T 313 p - 1).toNat, by omega⟩
          have hFX : FX T (beginsS (sset s 307 32 (w32 (s 307 32 - 1))) c p par) c p (K + 1) := by
            refine ⟨by rw [b4]; omega, fun j hj => ?_⟩
            obtain ⟨q1, q2, _⟩ := b5 j (by omega) (by rw [e13s]; omega)
            unfold SO
            rw [q1, q2]
            omega
          have hR1 := begx (c := c) (K := K + 1) (by omega) hko hPC hPT hP.w.2.1 hG hR f3 f4 hB (by omega)
          have bo : ∀ o j, u o j = v o j ∨ (67 + 7 * lev ≤ o ∧ o ≤ 67 + 7 * lev + 4) ∨ (o = 64 ∧ j = 3) := fun o j => by
            by_cases q : (67 + 7 * lev ≤ o ∧ o ≤ 67 + 7 * lev + 4) ∨ (o = 64 ∧ j = 3)
            · exact Or.inr q
            · left
              rw [hB.1 o j (by unfold OUT4; omega)]
              exact bg0_o (by omega)
          have x1 : XG ko lev to v u := fun o j q => by
            rcases bo o j with z | z | z
            · exact z
            · exact absurd (Or.inr (Or.inr (Or.inr (Or.inr (by omega))))) q
            · exact absurd (Or.inr (Or.inl ⟨z.1, Or.inl z.2⟩)) q
          have hO1 : OUTR u (beginsS (sset s 307 32 (w32 (s 307 32 - 1))) c p par) to at9 := by
            refine OUTR.eq (fun q => (hb q).2) hO (fun j => ⟨?_, ?_⟩) (fun o j q => ?_)
            · have := bo to j
              unfold TOO at hto
              omega
            · have := bo (to + 1) j
              unfold TOO at hto
              omega
            · unfold WRT at q
              rw [b1 o j (by unfold TCB; omega)]
              unfold sset
              rw [if_neg (by omega)]
          have hf0 : u (67 + 7 * lev) 0 = V po 3 := by
            rw [hB.1 _ _ (by unfold OUT4; omega)]
            unfold bg0
            rw [sset_2 (by omega), sset_2 (by omega), sset_1 (by omega), sset_e]
            exact ep3
          refine ⟨rfl, u, rfl, go_38p hFr hR1.2.2.2.1.1 p350 ?_⟩
          rw [← hK] at h3
          refine flowx hC hc hK (hN p po K hP hPR (by omega)) (hNG p K hP (by omega)) h9 hto hNt hd 200 u _ i i2 h3 hR1 hG1 b2 hFX (by rw [b1 _ _ (by unfold TCB; omega), sset_2 (by omega)]; exact hg) hO1 (fun q => by rw [b1 330 at9 (by unfold TCB; omega), sset_1 (by omega)]; exact hb q) hi0 (by omega) hj0 (by omega) (fun i' i2' v' k1 k2 k3 k4 k5 k6 k7 k8 => ?_)
          have evp : v' po 1 = T 313 p := (k5.1 _ _ (Or.inl p350)).trans hPC.2.1
          refine go_66 hFr (by omega) (by omega) k5.2.2.2.1.1 hPC.1 (by omega) ?_
          have est := (k5.2.2.2.2 K (by omega)).1
          rw [evp, ← hK, est, hK, h5]
          rw [hz2.2.1.1 310 p (by omega)] at h2
          have y1 : XG ko lev to v' (sset (sset v' (67 + 7 * lev) 2 z1) (67 + 7 * lev) 1 0) := fun o j q => by
            have : o ≠ 67 + 7 * lev := fun z => q (Or.inr (Or.inr (Or.inr (Or.inr (by omega)))))
            rw [sset_1 this, sset_1 this]
          have yy : ∀ o j, o ≠ 67 + 7 * lev → (sset (sset v' (67 + 7 * lev) 2 z1) (67 + 7 * lev) 1 0) o j = v' o j := fun o j q => by rw [sset_1 q, sset_1 q]
          have hkeep0 : v' (67 + 7 * lev) 0 = V po 3 := k8.1.trans hf0
          refine listx hX hKp hko hlev hT hc hN hNG h9 hto hNt hpar hd mm m1' m2 _ (V po 3) z1 _ w (i' + 1) i2' h2 hCH2 hCR2 ⟨by rw [sset_2 (by omega), sset_2 (by omega)]; exact hkeep0, sset_e, by rw [sset_2 (by omega), sset_e], by rw [sset_2 (by omega), sset_2 (by omega)]; exact k8.2.trans (hR1.2.2.2.1.2.1.trans b3), by rw [sset_2 (by omega), sset_2 (by omega)]; exact k5.2.2.2.1.2.2⟩ (k5.g.veq (fun o j q => yy o j (hUN o j q)) (yy _ _ (by omega)) (yy _ _ (by omega)) (fun n => yy _ _ (by omega))) hz2.2.1 ((hz2.1 _ _ tcg_going).trans hg) (OUTR.eq (fun q => (hz2.2.2 q).2) k6 (fun j => ⟨yy _ _ (by unfold TOO at hto; omega), yy _ _ (by unfold TOO at hto; omega)⟩) (fun _ _ _ => rfl)) hz2.2.2 (by omega) (by omega) k3 (by omega) (fun v2 j1 j2 j3 => hE v2 j1 j2 (((x1.trans k7).trans y1).trans j3))
