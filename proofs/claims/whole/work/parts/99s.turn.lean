/-! ===== the pairs again: turn ===== -/
theorem p2_turn {A : AHp} {v : Sg} {j : Int} (h : RR A v) : PAIR2 A v mX12_turn mX13_turn [vi j] := by
  obtain ⟨h0, h1, h2, h3, h4, h5, h6, h7, h8, h9, h10⟩ := id h
  have hX := h0.1.2.1
  have hM := h0.1.2.2
  have hvv := lift_agree (A := A) (w := v) (v := v) (fun _ _ _ _ => rfl)
  unfold PAIR2
  refine x_turn (by omega) hX h0.2.1 (fun q => ?_) (fun q1 q2 q3 => ?_)
  · refine ⟨mid_rf hM, ?_⟩
    rw [hvv]
    refine c_turn (n := 139) (by omega) hM hMinC (fun _ => ⟨fun _ => rfl, rfl, A, v, hvv.symm, h, GRO.rf, by omega⟩) (fun z1 z2 z3 => ?_)
    rcases h8 j z1 (by omega) with ⟨c1, c2⟩ | ⟨c1, c2, _⟩ <;> omega
  · obtain ⟨⟨l0, l1⟩, e264, e265, ⟨f0, f1⟩, k, k9, e335, ⟨x3, x4⟩, hx⟩ : (0 ≤ v 333 j ∧ v 333 j < v 64 1) ∧ v 264 j = v 333 j ∧ v 265 j = v 334 j ∧ (0 ≤ v 334 j ∧ v 334 j ≤ 60) ∧ ∃ k : Nat, k ≤ 60 ∧ v 335 j = itT v k (v 309 (60 * v 333 j)) ∧ JOBX v j (itT v k (v 309 (60 * v 333 j))) (itV v k (hp A (v 65 (v 333 j)) 0)) := by
      rcases h8 j q1 (by omega) with ⟨c1, _⟩ | q
      · exact absurd c1 q3
      · exact q
    have hL := h1.2.2.2 _ l0 l1
    have zs : ∀ o i, ¬ (o = 64 ∧ i = 3) → (sset v 64 3 (v 265 j)) o i = v o i := fun o i q => sset_ne q
    have z643 : (sset v 64 3 (v 265 j)) 64 3 = v 334 j := by rw [sset_e, e265]
    have ss : ∀ o i, ¬ (o = 307 ∧ (i = 32 ∨ i = 33 ∨ i = 34)) → (sset (sset (sset v 307 32 (v 334 j)) 307 33 0) 307 34 (v 64 4)) o i = v o i := fun o i q => by
      rw [sset_ne (by omega), sset_ne (by omega), sset_ne (by omega)]
    have s32 : (sset (sset (sset v 307 32 (v 334 j)) 307 33 0) 307 34 (v 64 4)) 307 32 = v 334 j := by rw [sset_2 (by omega), sset_2 (by omega), sset_e]
    have s33 : (sset (sset (sset v 307 32 (v 334 j)) 307 33 0) 307 34 (v 64 4)) 307 33 = 0 := by rw [sset_2 (by omega), sset_e]
    have s34 : (sset (sset (sset v 307 32 (v 334 j)) 307 33 0) 307 34 (v 64 4)) 307 34 = v 64 4 := sset_e
    have hRD : RD (sset (sset (sset v 307 32 (v 334 j)) 307 33 0) 307 34 (v 64 4)) (sset (sset v 307 32 (v 334 j)) 307 33 0) := fun o i q => (sset_ne q).symm
    generalize sset (sset (sset v 307 32 (v 334 j)) 307 33 0) 307 34 (v 64 4) = s at ss s32 s33 s34 hRD
    generalize hzz : sset v 64 3 (v 265 j) = z at zs z643
    obtain ⟨t1, t2, t3⟩ := tab_ok (z := z) (s := s) h1 (fun o i q => zs o i (by omega)) (fun o i a b => ss o i (by omega))
    have e64 : z 64 1 = v 64 1 := zs _ _ (by omega)
    have hGI : GI s s := ⟨fun _ _ _ => rfl, by rw [s32]; exact ⟨f0, f1⟩, by rw [ss 307 36 (by omega)]; exact h10.1.2, fun i => by rw [ss 320 i (by omega)]; exact h10.2.1.1 i, fun i => by rw [ss 324 i (by omega)]; exact h10.2.1.2.1 i, fun i => by rw [ss 325 i (by omega)]; exact h10.2.1.2.2.1 i, fun i => by rw [ss 329 i (by omega)]; exact h10.2.1.2.2.2.1 i⟩
    have hln : ∀ y, LNN v y → y < 0 ∨ (0 ≤ y ∧ y < 8 ∧ CH s (POK s 3) 100 (s 309 (60 * y))) := fun y q => by
      rcases q with q | q
      · omega
      · exact Or.inr ⟨q.1, by omega, (t3 y q.1 (by omega)).2.2.2⟩
    have s321 : ∀ f, s 321 f = v 321 f := fun f => ss _ _ (by omega)
    have hTOK : TOK s := by
      refine ⟨fun f g0 g1 => ?_, t2⟩
      rw [s321]
      rcases hln _ (h3.2.1 f g0 g1).2 with q | q
      · exact Or.inl q
      · exact Or.inr q.2
    have hSTL : STL A z s 207 := by
      refine ⟨t1, t3, fun f g0 g1 => ⟨?_, ?_⟩, fun i i0 i1 => by rw [zs 66 i (by omega)]; exact h0.2.2.2.1 i i0 i1⟩
      · rw [s321]
        exact (zs 209 f (by omega)).trans (h3.2.1 f g0 g1).1
      · rw [s321, e64]
        have := (h3.2.1 f g0 g1).2
        unfold LNN at this
        omega
    have s309 : s 309 (60 * v 333 j) = v 309 (60 * v 333 j) := ss _ _ (by omega)
    have hC := (hL.2 A z s (old_rfl A) (fun o i a b => zs o i (by omega)) (fun o i q => ss o i (by unfold LIN at q; omega))).1
    have hC2 : CHR v v (GQ A v v (v 333 j) 3) (k + (60 - k)) (hp A (v 65 (v 333 j)) 0) (v 309 (60 * v 333 j)) := by
      rw [show k + (60 - k) = 60 by omega]
      exact hL.now
    have hit : ∀ i : Nat, i ≤ 60 → itV z i (hp A (v 65 (v 333 j)) 0) = itV v i (hp A (v 65 (v 333 j)) 0) ∧ itT s i (v 309 (60 * v 333 j)) = itT v i (v 309 (60 * v 333 j)) := fun i hi => by
      have hCi : CHR v v (GQ A v v (v 333 j) 3) (i + (60 - i)) (hp A (v 65 (v 333 j)) 0) (v 309 (60 * v 333 j)) := by
        rw [show i + (60 - i) = 60 by omega]
        exact hL.now
      exact it_eq (fun o q a b => zs o q (by omega)) (fun o q y => ss o q (by unfold LIN at y; omega)) hCi
    rw [s309, show (60 : Nat) = k + (60 - k) by omega] at hC
    have hCk := CHR.it hC
    have hCP := CHR.at (N := 60) (m := 60 - k) (k := k) (by omega) hCk
    obtain ⟨hi1, hi2⟩ := hit k k9
    rw [hi1, hi2] at hCk hCP
    generalize hp0 : itT v k (v 309 (60 * v 333 j)) = p at e335 hx hCk hCP
    generalize hpo0 : itV v k (hp A (v 65 (v 333 j)) 0) = po at hx hCk hCP
    clear hC hC2 hi1 hi2
    have s335 : s 335 j = p := (ss _ _ (by omega)).trans e335
    have s336 : s 336 j = v 336 j := ss _ _ (by omega)
    have hfo : ∀ i, z (267 + 7 * j) i = v (267 + 7 * j) i := fun i => zs _ _ (by omega)
    obtain ⟨m1, hm1, hJP, m2, hm2, hJQ⟩ : ∃ m1, m1 ≤ 60 ∧ JP s j s m1 ∧ ∃ m2, m2 ≤ 60 ∧ JQ z s (fun po p => GQ A z s (v 333 j) 3 po p ∧ ∃ i, i ≤ 60 ∧ po = itV z i (hp A (v 65 (v 333 j)) 0) ∧ p = itT s i (v 309 (60 * v 333 j))) j z s m2 := by
      rcases hx with ⟨y1, y2, y3, y4⟩ | ⟨y1, y2, ⟨y3, y4⟩, ⟨y5, y6⟩, y7, y8⟩
      · refine ⟨60 - k, by omega, Or.inl ⟨by rw [s336]; exact y1, ?_⟩, 60 - k, by omega, by rw [hfo]; exact x3, by rw [hfo]; exact x4, Or.inl ⟨by rw [s336]; exact y1, by rw [hfo]; exact y2, ?_, by rw [hfo, ss 337 j (by omega)]; exact y4⟩⟩
        · rw [s335]
          exact CHR.ch (fun _ _ q => ⟨q.1.pw.2.1.2.1, q.1.pok⟩) hCk
        · rw [hfo, y3, s335]
          exact hCP
      · obtain ⟨m, hm⟩ : ∃ m, 60 - k = m + 1 ∨ 60 - k = 0 := ⟨60 - k - 1, by omega⟩
        rcases hm with hm | hm
        · rw [hm] at hCk hCP
          rcases hCk with ⟨w1, w2⟩ | ⟨w1, w2, w3⟩
          · omega
          rcases hCP with ⟨v1, v2⟩ | ⟨v1, v2, v3⟩
          · omega
          have hpt := w2.1.pw.2.1
          have hsz : s 313 p = v 313 p := ss _ _ (by omega)
          obtain ⟨K, hK⟩ : ∃ K : Nat, (K : Int) = s 313 p - 1 := ⟨(s 313 p - 1).toNat, by have := hpt.2.2.1; omega⟩
          refine ⟨m, by omega, Or.inr ⟨by rw [s336]; exact y1, by rw [s335]; exact ⟨y2, hpt.2.1⟩, by rw [s335]; exact w2.1.pok, by rw [s335, ss 323 _ (by omega)]; exact y5, ⟨K, by rw [s335]; exact hK, ?_⟩, ?_⟩, m, by omega, by rw [hfo]; exact x3, by rw [hfo]; exact x4, Or.inr ⟨by rw [s336]; exact y1, po, by rw [s335]; exact v2, w1.1, by rw [hfo, y4, zs po 3 (by omega)], by rw [s335]; exact v3, K, by rw [s335]; exact hK, ?_⟩⟩
          · rw [s335]
            refine ⟨by rw [ss 330 _ (by omega)]; exact y7, fun i hi => ?_⟩
            have := (y8 i (by omega)).1
            unfold SO at this ⊢
            rw [ss 312 _ (by omega), ss 314 _ (by omega), ss 327 _ (by omega), ss 326 _ (by omega)]
            exact this
          · rw [s335]
            exact CHR.ch (fun _ _ q => ⟨q.1.pw.2.1.2.1, q.1.pok⟩) w3
          · rw [s335]
            refine ⟨fun _ _ _ => rfl, ⟨by rw [z643, s32], by rw [zs 64 4 (by omega), s34], by rw [s34]; exact h10.2.2⟩, fun n n0 n1 => by rw [ss 320 n (by omega)]; exact (zs 208 n (by omega)).trans (h3.1 n n0 n1), ⟨by rw [hfo]; exact y3, by rw [hfo, x3, ss 324 _ (by omega), y6], by rw [hfo]; exact x4⟩, fun i hi => ?_⟩
            have h9s := (y8 i (by omega)).2
            unfold SR at h9s ⊢
            rw [ss 312 _ (by omega), ss 314 _ (by omega), ss 316 _ (by omega)]
            have hm4 : v 316 (v 312 p + i) ≤ 4 := by
              have := (hpt.2.2.2.2.2.2 i (by omega) (by omega)).2.1
              rw [ss 316 _ (by omega), ss 312 _ (by omega)] at this
              exact this
            exact SRw.eq hm4 ⟨fun i9 => Or.inl (zs _ _ (by omega)), ⟨zs _ _ (by omega), zs _ _ (by omega), zs _ _ (by omega)⟩, ⟨zs _ _ (by omega), zs _ _ (by omega), fun i9 => zs _ _ (by omega)⟩, fun i9 => Or.inl (ss _ _ (by omega)), ⟨ss _ _ (by omega), ss _ _ (by omega), ss _ _ (by omega)⟩, ss _ _ (by omega), fun i9 _ _ => ss _ _ (by omega)⟩ h9s
        · rw [hm] at hCk
          have w : po = 0 ∧ p = -1 := hCk
          omega
    have h336 : s 336 j = 0 ∨ s 336 j = 1 := by
      rcases hJP with q | q
      · exact Or.inl q.1
      · exact Or.inr q.1
    obtain ⟨x, t, hturn, g1, g2, g3, g4⟩ := turn_ok hTOK (n := 139) (by omega) ⟨q1, q2⟩ 400 m1 s (by omega) hGI s33 hJP
    have g3' : ∀ o i, ¬ TJQ2 j o i → t o i = s o i := fun o i q => g3 o i (fun w => q (tcj_2 ⟨q1, q2⟩ w))
    obtain ⟨ta, hta, hrd⟩ := turnL_r (nextS_r 139) hturn hRD
    have hGL : GLR z 207 z s := ⟨fun _ _ _ => rfl, ⟨by rw [z643, s32], by rw [zs 64 4 (by omega), s34], by rw [s34]; exact h10.2.2⟩, fun n n0 n1 => by rw [ss 320 n (by omega)]; exact (zs 208 n (by omega)).trans (h3.1 n n0 n1)⟩
    have hTS : turnS 139 j v = some (x, ta) := hta
    have fin : ∀ v' m2', GLR z 207 v' t → (x = (-9223372036854775808) ∨ JQ z s (fun po p => GQ A z s (v 333 j) 3 po p ∧ ∃ i, i ≤ 60 ∧ po = itV z i (hp A (v 65 (v 333 j)) 0) ∧ p = itT s i (v 309 (60 * v 333 j))) j v' t m2') → XJ j z v' → (x = (-9223372036854775808) → MID A v (cl A (sset (sset v' 265 j (v' 64 3)) 264 j (-5))) ∧ CALL 900 mX13_turn [vr 307, vi j] (cl A (sset (sset v' 265 j (v' 64 3)) 264 j (-5))) (fun r2 B2 => KEP (hv (cl A (sset (sset v' 265 j (v' 64 3)) 264 j (-5)))) B2 ∧ (some (vl x) = r2 ∧ ∃ B w, B2 = cl B w ∧ RR B w ∧ (GRO A B ∧ hn B ≤ hn A + 301)))) ∧ (x ≠ (-9223372036854775808) → MID A v (cl A (sset v' 265 j (v' 64 3))) ∧ CALL 900 mX13_turn [vr 307, vi j] (cl A (sset v' 265 j (v' 64 3))) (fun r2 B2 => KEP (hv (cl A (sset v' 265 j (v' 64 3)))) B2 ∧ (some (vl x) = r2 ∧ ∃ B w, B2 = cl B w ∧ RR B w ∧ (GRO A B ∧ hn B ≤ hn A + 301)))) := fun v' m2' u1 u2 u3 => by
      obtain ⟨w1, ⟨w2, w3, w4⟩, w5⟩ := u1
      have hv' : ∀ o i, ¬ (o = 208 ∨ (o = 64 ∧ (i = 3 ∨ i = 4)) ∨ (67 ≤ o ∧ o < 207) ∨ (267 + 7 * j ≤ o ∧ o ≤ 267 + 7 * j + 6)) → v' o i = v o i := fun o i q => by
        rw [u3 o i q]
        exact zs o i (by omega)
      have hta9 : ∀ o i, ¬ (o = 307 ∧ i = 34) → ta o i = t o i := fun o i q => hrd o i q
      have htv : ∀ o i, ¬ TJQ2 j o i → t o i = v o i := fun o i q => by
        rw [g3' o i q]
        exact ss o i (fun w => q (Or.inr (Or.inl ⟨w.1, by omega⟩)))
      refine ⟨fun hx9 => ?_, fun hx9 => ?_⟩
      · have hlg : ∀ o i, 307 ≤ o → o < 350 → (sset (sset v' 265 j (v' 64 3)) 264 j (-5)) o i = v o i := fun o i a b => by
          rw [sset_1 (by omega), sset_1 (by omega)]
          exact hv' o i (by omega)
        refine ⟨mid_w hM (fun k => by simp (disch := omega) only [sset_1]; exact hv' 33 k (by omega)), ?_⟩
        rw [lift_agree hlg]
        refine c_turn (n := 139) (by omega) hM hMinC (fun q => by omega) (fun _ _ _ => ⟨x, ta, hTS, ?_⟩)
        have etF : turnF ta j x = sset (sset ta 334 j (ta 307 32)) 333 j (-1) := by
          unfold turnF
          rw [if_pos hx9]
        rw [etF]
        have to : ∀ o i, ¬ ((o = 333 ∨ o = 334) ∧ i = j) → (sset (sset ta 334 j (ta 307 32)) 333 j (-1)) o i = ta o i := fun o i q => by
          rw [sset_ne (by omega), sset_ne (by omega)]
        have t333 : (sset (sset ta 334 j (ta 307 32)) 333 j (-1)) 333 j = -1 := sset_e
        generalize sset (sset ta 334 j (ta 307 32)) 333 j (-1) = tb at to t333 ⊢
        have tb9 : ∀ o i, ¬ ((o = 333 ∨ o = 334) ∧ i = j) → ¬ (o = 307 ∧ i = 34) → tb o i = t o i := fun o i a b => (to o i a).trans (hta9 o i b)
        refine ⟨fun _ => rfl, rfl, A, _, lift_cl, h.tn (w := sset (sset v' 265 j (v' 64 3)) 264 j (-5)) (t := tb) ⟨q1, q2⟩ (fun o i q => ?_) (fun o i q => ?_) (fun n n0 n1 => ?_) ?_ ?_ (fun i => ?_) (fun i => ?_) (fun i => ?_) (fun i => ?_) (Or.inl ⟨?_, ?_⟩), GRO.rf, by omega⟩
        · rw [sset_ne (by omega), sset_ne (by omega)]
          exact hv' o i (by omega)
        · rw [tb9 o i (fun w => q (by unfold TJQ2; omega)) (fun w => q (by unfold TJQ2; omega))]
          exact htv o i q
        · rw [sset_1 (by omega), sset_1 (by omega), tb9 _ _ (by omega) (by omega)]
          exact w5 n n0 n1
        · rw [sset_1 (by omega), sset_1 (by omega), w3]
          exact w4
        · rw [tb9 _ _ (by omega) (by omega)]; exact g1.2.1
        · rw [tb9 _ _ (by omega) (by omega)]; exact g1.2.2.2.1 i
        · rw [tb9 _ _ (by omega) (by omega)]; exact g1.2.2.2.2.1 i
        · rw [tb9 _ _ (by omega) (by omega)]; exact g1.2.2.2.2.2.1 i
        · rw [tb9 _ _ (by omega) (by omega)]; exact g1.2.2.2.2.2.2 i
        · rw [liftV_o (by omega), sset_e]
        · rw [liftV_i (by omega)]; exact t333
      · have hlg : ∀ o i, 307 ≤ o → o < 350 → (sset v' 265 j (v' 64 3)) o i = v o i := fun o i a b => by
          rw [sset_1 (by omega)]
          exact hv' o i (by omega)
        refine ⟨mid_w hM (fun k => by simp (disch := omega) only [sset_1]; exact hv' 33 k (by omega)), ?_⟩
        rw [lift_agree hlg]
        refine c_turn (n := 139) (by omega) hM hMinC (fun q => by omega) (fun _ _ _ => ⟨x, ta, hTS, ?_⟩)
        have etF : turnF ta j x = sset ta 334 j (ta 307 32) := by
          unfold turnF
          rw [if_neg hx9]
        rw [etF]
        have to : ∀ o i, ¬ (o = 334 ∧ i = j) → (sset ta 334 j (ta 307 32)) o i = ta o i := fun o i q => sset_ne q
        have t334 : (sset ta 334 j (ta 307 32)) 334 j = t 307 32 := by rw [sset_e]; exact hta9 _ _ (by omega)
        generalize sset ta 334 j (ta 307 32) = tb at to t334 ⊢
        have tb9 : ∀ o i, ¬ (o = 334 ∧ i = j) → ¬ (o = 307 ∧ i = 34) → tb o i = t o i := fun o i a b => (to o i a).trans (hta9 o i b)
        obtain ⟨k336, m1', _, hJP2⟩ : t 336 j = 1 ∧ ∃ m1', m1' ≤ m1 ∧ JP s j t m1' := by
          rcases g4 with q | q
          · exact absurd q hx9
          · exact q.2
        obtain ⟨r3, r4, hgo⟩ : JQ z s (fun po p => GQ A z s (v 333 j) 3 po p ∧ ∃ i, i ≤ 60 ∧ po = itV z i (hp A (v 65 (v 333 j)) 0) ∧ p = itT s i (v 309 (60 * v 333 j))) j v' t m2' := by
          rcases u2 with q | q
          · exact absurd q hx9
          · exact q
        obtain ⟨po', ⟨hgq, i', hi', hpo', hp'⟩, p350, r0, _, K, hK, hFR⟩ := (by
          rcases hgo with ⟨q, _⟩ | ⟨_, q⟩
          · omega
          · exact q : ∃ po, (GQ A z s (v 333 j) 3 po (t 335 j) ∧ ∃ i, i ≤ 60 ∧ po = itV z i (hp A (v 65 (v 333 j)) 0) ∧ t 335 j = itT s i (v 309 (60 * v 333 j))) ∧ 350 ≤ po ∧ v' (267 + 7 * j) 0 = z po 3 ∧ CHR z s (fun po p => GQ A z s (v 333 j) 3 po p ∧ ∃ i, i ≤ 60 ∧ po = itV z i (hp A (v 65 (v 333 j)) 0) ∧ p = itT s i (v 309 (60 * v 333 j))) m2' (z po 3) (s 310 (t 335 j)) ∧ ∃ K : Nat, (K : Int) = s 313 (t 335 j) - 1 ∧ FRL z s 207 (267 + 7 * j) (24 + j) (t 335 j) po 0 v' t (K + 1))
        obtain ⟨⟨pge, _⟩, _, h323, ⟨K2, hK2, hF⟩, _⟩ : (0 ≤ t 335 j ∧ t 335 j < 480) ∧ POK s 3 (t 335 j) ∧ t 323 (24 + j) = t 335 j ∧ (∃ K : Nat, (K : Int) = s 313 (t 335 j) - 1 ∧ FX s t (24 + j) (t 335 j) (K + 1)) ∧ CH s (POK s 3) m1' (s 310 (t 335 j)) := by
          rcases hJP2 with ⟨q, _⟩ | ⟨_, q⟩
          · omega
          · exact q
        obtain ⟨hit1, hit2⟩ := hit i' hi'
        rw [hit1] at hpo'
        rw [hit2] at hp'
        obtain ⟨_, _, _, ⟨y5, y6, y7⟩, y8⟩ := hFR
        have hpt := hgq.1.pw.2.1
        have Wc : ∀ o i, ¬ (307 ≤ o ∧ o < 350) → ¬ (o = 265 ∧ i = j) → liftV (sset v' 265 j (v' 64 3)) tb o i = v' o i := fun o i a b => by
          rw [liftV_o a, sset_ne b]
        have Wr : ∀ o i, 308 ≤ o → o < 350 → ¬ (o = 334 ∧ i = j) → liftV (sset v' 265 j (v' 64 3)) tb o i = t o i := fun o i a b c => by
          rw [liftV_i (by omega)]; exact tb9 o i c (by omega)
        have Wtb : ∀ o i, 309 ≤ o → o ≤ 317 → liftV (sset v' 265 j (v' 64 3)) tb o i = s o i := fun o i a b => by
          rw [Wr o i (by omega) (by omega) (by omega)]
          exact g3' o i (by unfold TJQ2; omega)
        have Wtv : ∀ o i, 309 ≤ o → o ≤ 317 → liftV (sset v' 265 j (v' 64 3)) tb o i = v o i := fun o i a b => (Wtb o i a b).trans (ss o i (by omega))
        have Wh : ∀ o i, 350 ≤ o → liftV (sset v' 265 j (v' 64 3)) tb o i = v o i := fun o i a => by
          rw [Wc o i (by omega) (by omega)]
          exact hv' o i (by omega)
        have W333 : liftV (sset v' 265 j (v' 64 3)) tb 333 j = v 333 j := by
          rw [Wr _ _ (by omega) (by omega) (by omega)]
          rw [g3 333 j (by unfold TCJ TCH TCB TCL; omega)]
          exact ss _ _ (by omega)
        refine ⟨fun _ => rfl, rfl, A, _, lift_cl, h.tn (w := sset v' 265 j (v' 64 3)) (t := tb) ⟨q1, q2⟩ (fun o i q => ?_) (fun o i q => ?_) (fun n n0 n1 => ?_) ?_ ?_ (fun i => ?_) (fun i => ?_) (fun i => ?_) (fun i => ?_) (Or.inr ⟨?_, ?_, ?_, ?_, i', hi', ?_, ?_⟩), GRO.rf, by omega⟩
        · rw [sset_ne (by omega)]
          exact hv' o i (by omega)
        · rw [tb9 o i (fun w => q (by unfold TJQ2; omega)) (fun w => q (by unfold TJQ2; omega))]
          exact htv o i q
        · rw [sset_1 (by omega), tb9 _ _ (by omega) (by omega)]
          exact w5 n n0 n1
        · rw [sset_1 (by omega), w3]
          exact w4
        · rw [tb9 _ _ (by omega) (by omega)]; exact g1.2.1
        · rw [tb9 _ _ (by omega) (by omega)]; exact g1.2.2.2.1 i
        · rw [tb9 _ _ (by omega) (by omega)]; exact g1.2.2.2.2.1 i
        · rw [tb9 _ _ (by omega) (by omega)]; exact g1.2.2.2.2.2.1 i
        · rw [tb9 _ _ (by omega) (by omega)]; exact g1.2.2.2.2.2.2 i
        · rw [W333, Wc 64 1 (by omega) (by omega), hv' 64 1 (by omega)]
          exact ⟨l0, l1⟩
        · rw [W333, Wc 264 j (by omega) (by omega), hv' 264 j (by omega)]
          exact e264
        · rw [liftV_o (by omega), sset_e, liftV_i (by omega), t334, w2]
        · rw [liftV_i (by omega), t334]
          exact g1.2.1
        · rw [W333, Wr 335 j (by omega) (by omega) (by omega), Wtv 309 _ (by omega) (by omega), hp']
          have hCi : CHR v v (GQ A v v (v 333 j) 3) (i' + (60 - i')) (hp A (v 65 (v 333 j)) 0) (v 309 (60 * v 333 j)) := by
            rw [show i' + (60 - i') = 60 by omega]
            exact hL.now
          exact (it_eq (w2 := liftV (sset v' 265 j (v' 64 3)) tb) (u2 := liftV (sset v' 265 j (v' 64 3)) tb) (fun o q a b => Wh o q a) (fun o q y => Wtv o q (by unfold LIN at y; omega) (by unfold LIN at y; omega)) hCi).2.symm
        · have hCi : CHR v v (GQ A v v (v 333 j) 3) (i' + (60 - i')) (hp A (v 65 (v 333 j)) 0) (v 309 (60 * v 333 j)) := by
            rw [show i' + (60 - i') = 60 by omega]
            exact hL.now
          have hie := it_eq (w2 := liftV (sset v' 265 j (v' 64 3)) tb) (u2 := liftV (sset v' 265 j (v' 64 3)) tb) (fun o q a b => Wh o q a) (fun o q y => Wtv o q (by unfold LIN at y; omega) (by unfold LIN at y; omega)) hCi
          have W65 : liftV (sset v' 265 j (v' 64 3)) tb 65 (v 333 j) = v 65 (v 333 j) := by
            rw [Wc 65 _ (by omega) (by omega)]
            exact hv' _ _ (by omega)
          rw [W333, Wtv 309 _ (by omega) (by omega), W65, hie.1, hie.2, ← hpo', ← hp']
          have r324 : t 324 (24 + j) = 0 := by rw [← y6]; exact r3
          have Wfo : ∀ i, liftV (sset v' 265 j (v' 64 3)) tb (267 + 7 * j) i = v' (267 + 7 * j) i := fun i => Wc _ _ (by omega) (by omega)
          refine ⟨⟨by rw [Wfo]; exact r3, by rw [Wfo]; exact r4⟩, Or.inr ⟨by rw [Wr 336 j (by omega) (by omega) (by omega)]; exact k336, pge, ⟨by rw [Wfo]; exact y5, ?_⟩, ⟨by rw [Wr 323 _ (by omega) (by omega) (by omega)]; exact h323, by rw [Wr 324 _ (by omega) (by omega) (by omega)]; exact r324⟩, by rw [Wr 330 _ (by omega) (by omega) (by omega)]; exact hF.1, fun i hi => ?_⟩⟩
          · rw [Wfo, r0, Wh po' 3 p350]
            exact zs po' 3 (by omega)
          · rw [Wtb 313 _ (by omega) (by omega)] at hi
            refine ⟨?_, ?_⟩
            · have := hF.2 i (by omega)
              unfold SO at this ⊢
              rw [Wtb 312 _ (by omega) (by omega), Wtb 314 _ (by omega) (by omega), Wr 327 _ (by omega) (by omega) (by omega), Wr 326 _ (by omega) (by omega) (by omega)]
              exact this
            · have h9s := y8 i (by omega)
              unfold SR at h9s ⊢
              rw [Wtb 312 _ (by omega) (by omega), Wtb 314 _ (by omega) (by omega), Wtb 316 _ (by omega) (by omega)]
              exact SRw.eq (hpt.2.2.2.2.2.2 i (by omega) (by omega)).2.1 ⟨fun i9 => Or.inl (Wc _ _ (by omega) (by omega)), ⟨Wc _ _ (by omega) (by omega), Wc _ _ (by omega) (by omega), Wc _ _ (by omega) (by omega)⟩, ⟨Wc _ _ (by omega) (by omega), Wc _ _ (by omega) (by omega), fun i9 => Wc _ _ (by omega) (by omega)⟩, fun i9 => Or.inl (Wr _ _ (by omega) (by omega) (by omega)), ⟨Wr _ _ (by omega) (by omega) (by omega), Wr _ _ (by omega) (by omega) (by omega), Wr _ _ (by omega) (by omega) (by omega)⟩, Wr _ _ (by omega) (by omega) (by omega), fun i9 _ _ => Wr _ _ (by omega) (by omega) (by omega)⟩ h9s
    have hTQ := turnq (A := A) (V := z) (T := s) (n := 139) (d := 899) (j := j) (P := fun po p => GQ A z s (v 333 j) 3 po p ∧ ∃ i, i ≤ 60 ∧ po = itV z i (hp A (v 65 (v 333 j)) 0) ∧ p = itT s i (v 309 (60 * v 333 j))) (fun _ _ q => q.1.1.pr) hX hTOK hSTL (by omega) (by omega) ⟨q1, q2⟩ (t := t) (x := x) (Q := fun r B => ∃ x u, r = some (vl x) ∧ B = cl A u ∧ (x = (-9223372036854775808) → MID A v (cl A (sset (sset u 265 j (u 64 3)) 264 j (-5))) ∧ CALL 900 mX13_turn [vr 307, vi j] (cl A (sset (sset u 265 j (u 64 3)) 264 j (-5))) (fun r2 B2 => KEP (hv (cl A (sset (sset u 265 j (u 64 3)) 264 j (-5)))) B2 ∧ (some (vl x) = r2 ∧ ∃ B w, B2 = cl B w ∧ RR B w ∧ (GRO A B ∧ hn B ≤ hn A + 301)))) ∧ (x ≠ (-9223372036854775808) → MID A v (cl A (sset u 265 j (u 64 3))) ∧ CALL 900 mX13_turn [vr 307, vi j] (cl A (sset u 265 j (u 64 3))) (fun r2 B2 => KEP (hv (cl A (sset u 265 j (u 64 3)))) B2 ∧ (some (vl x) = r2 ∧ ∃ B w, B2 = cl B w ∧ RR B w ∧ (GRO A B ∧ hn B ≤ hn A + 301))))) 400 m1 m2 z s 0 hturn hGI s33 hJP hJQ hGL (by omega) (by omega) (fun v' m2' _ u1 u2 u3 => ⟨x, v', rfl, rfl, fin v' m2' u1 u2 u3⟩)
    refine x_goOn (by omega) ?_
    rcases h336 with q | q
    · exact hTQ.1 q
    · obtain ⟨po9, p350, hpo9⟩ : ∃ po, 350 ≤ po ∧ z (267 + 7 * j) 1 = po := by
        obtain ⟨_, _, hgo⟩ := hJQ
        rcases hgo with ⟨q9, _⟩ | ⟨_, po9, _, y1, _, _, _, _, y2⟩
        · omega
        · exact ⟨po9, y1, y2.2.2.2.1.1⟩
      exact go_in (XF_job hX j q1 (by omega)) (by omega) hpo9 p350 (hTQ.2 q)

