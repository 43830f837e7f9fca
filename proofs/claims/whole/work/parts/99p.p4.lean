/-! ===== the pairs again: image, undo, run ===== -/
theorem p2_undo {A : AHp} {v : Sg} (h : RR A v) : PAIR2 A v mX12_undo mX13_undo [] := by
  obtain ⟨h0, h1, h2, h3, h4, h5, h6, h7, h8, h9, h10⟩ := id h
  have hX := h0.1.2.1
  have hM := h0.1.2.2
  unfold PAIR2
  obtain ⟨i1, i2, i3⟩ := id h7
  refine x_undo (A := cl A v) (by omega) hX (fun q => ?_) (fun q => ?_) (fun q => ?_)
  · obtain ⟨⟨b1, b2, b3, b4, b5, b6, b7⟩, ⟨a1, a2, a3⟩, ⟨p1, p2, p3⟩, r1, r2, r3⟩ := i3 q
    refine ⟨?_, ?_, ?_, ?_⟩
    · show 0 ≤ v 224 1 ∧ v 224 1 ≤ 60
      rw [b4.1]; exact b4.2
    · show 0 ≤ v 226 2 ∧ v 226 2 ≤ 5
      rw [a1]; exact a2
    · show 0 ≤ v 229 2 ∧ v 229 2 ≤ 10
      rw [p1]; exact p2
    · show 0 ≤ v 232 2 ∧ v 232 2 ≤ 8
      rw [r1]; exact r2
  · have q' : v 60 4 = 0 := q
    refine ⟨mid_rf hM, ?_⟩
    refine c_undo (A := cl A v) (by omega) hM (fun _ => ⟨fun _ => rfl, rfl, A, v, rfl, h, GRO.rf, by omega⟩) (fun z => ?_)
    have z' : v 307 58 ≠ 0 := z
    omega
  have q' : v 60 4 ≠ 0 := q
  have hI := i3 q'
  have hk := keq_n (kcp_eq (A := cl A v) (a := 207) (b := 221) (by omega))
  have hko : ∀ o k, o < 207 ∨ 221 ≤ o → hv (kcp (cl A v) 207 221) o k = v o k := fun o k q => kcp_out (by omega)
  have hk2 : kcp (cl A v) 207 221 = cl A (hv (kcp (cl A v) 207 221)) := rfl
  rw [hk2]
  generalize hv (kcp (cl A v) 207 221) = K at hk hko ⊢
  clear hk2
  obtain ⟨k1, k2, k3, ⟨k4, k5⟩, ⟨k6, k7⟩, ⟨k8, k9⟩, ⟨k10, k11⟩, k12, k13⟩ := hk
  refine ⟨mid_w hM (fun k => hko 33 k (by omega)), ?_⟩
  have hk33 : ∀ k, K 33 k = v 33 k := fun k => hko 33 k (by omega)
  refine c_undo (A := cl A K) (by omega) hM (fun z => ?_) (fun z => ?_)
  · have z' : K 307 58 = 0 := z
    rw [hko _ _ (by omega)] at z'
    omega
  have ea : K 307 12 = v 307 12 := hko _ _ (by omega)
  have hw : sngB (carB (cl A K)) = cl A (hv (sngB (carB (cl A K)))) := rfl
  rw [hw]
  obtain ⟨c1, c2, c3, c4, c5, c6, c7⟩ := carB_in (A := cl A K)
  obtain ⟨s0, s1, s2, s3, s4, s5, s6⟩ := sngB_in (A := carB (cl A K))
  have so : ∀ o k, o ≠ 307 ∨ (k ≠ 15 ∧ k ≠ 39 ∧ k ≠ 40 ∧ k ≠ 41 ∧ k ≠ 49 ∧ k ≠ 52 ∧ k ≠ 54) → hv (sngB (carB (cl A K))) o k = hv (carB (cl A K)) o k := fun o k q => sngB_out q
  have co : ∀ o k, (o ≠ 320 ∧ o ≠ 321 ∧ o ≠ 332 ∧ o ≠ 339 ∧ o ≠ 341 ∧ o ≠ 342 ∧ o ≠ 346) → hv (carB (cl A K)) o k = K o k := fun o k q => carB_out q
  have co320 : ∀ k, k < 0 ∨ 5 ≤ k → hv (carB (cl A K)) 320 k = K 320 k := fun k q => carB_320 q
  have kv : ∀ o k, ¬ (207 ≤ o ∧ o ≤ 220) → K o k = v o k := fun o k q => hko o k (by omega)
  have g1 : ∀ k, 0 ≤ k → k < 5 → hv (sngB (carB (cl A K))) 320 k = v 345 k := fun k a b => (so _ _ (by omega)).trans ((c1 k a b).trans (kv _ _ (by omega)))
  have g1o : ∀ k, k < 0 ∨ 5 ≤ k → hv (sngB (carB (cl A K))) 320 k = v 320 k := fun k a => (so _ _ (by omega)).trans ((co320 k a).trans (kv _ _ (by omega)))
  have g2 : ∀ k, 0 ≤ k → k < 3 → hv (sngB (carB (cl A K))) 321 k = v 345 (5 + k) := fun k a b => (so _ _ (by omega)).trans ((c2 k a b).trans (kv _ _ (by omega)))
  have g3 : ∀ k, 0 ≤ k → k < 60 → hv (sngB (carB (cl A K))) 332 k = v 345 (8 + k) := fun k a b => (so _ _ (by omega)).trans ((c3 k a b).trans (kv _ _ (by omega)))
  have g4 : ∀ k, 0 ≤ k → k < 10 → hv (sngB (carB (cl A K))) 339 k = v 345 (68 + k) := fun k a b => (so _ _ (by omega)).trans ((c4 k a b).trans (kv _ _ (by omega)))
  have g5 : ∀ k, 0 ≤ k → k < 20 → hv (sngB (carB (cl A K))) 341 k = v 345 (78 + k) := fun k a b => (so _ _ (by omega)).trans ((c5 k a b).trans (kv _ _ (by omega)))
  have g6 : ∀ k, 0 ≤ k → k < 16 → hv (sngB (carB (cl A K))) 342 k = v 345 (98 + k) := fun k a b => (so _ _ (by omega)).trans ((c6 k a b).trans (kv _ _ (by omega)))
  have f0 : hv (sngB (carB (cl A K))) 307 15 = v 345 114 := s0.trans ((c7 0 (by omega) (by omega)).trans (kv _ _ (by omega)))
  have f1 : hv (sngB (carB (cl A K))) 307 39 = v 345 115 := s1.trans ((c7 1 (by omega) (by omega)).trans (kv _ _ (by omega)))
  have f2 : hv (sngB (carB (cl A K))) 307 40 = v 345 116 := s2.trans ((c7 2 (by omega) (by omega)).trans (kv _ _ (by omega)))
  have f3 : hv (sngB (carB (cl A K))) 307 41 = v 345 117 := s3.trans ((c7 3 (by omega) (by omega)).trans (kv _ _ (by omega)))
  have f4 : hv (sngB (carB (cl A K))) 307 49 = v 345 118 := s4.trans ((c7 4 (by omega) (by omega)).trans (kv _ _ (by omega)))
  have f5 : hv (sngB (carB (cl A K))) 307 52 = v 345 119 := s5.trans ((c7 5 (by omega) (by omega)).trans (kv _ _ (by omega)))
  have f6 : hv (sngB (carB (cl A K))) 307 54 = v 345 120 := s6.trans ((c7 6 (by omega) (by omega)).trans (kv _ _ (by omega)))
  have ek : ∀ o k, 207 ≤ o → o ≤ 220 → hv (sngB (carB (cl A K))) o k = K o k := fun o k a b => (so _ _ (by omega)).trans (co _ _ (by omega))
  have ew : ∀ o k, ¬ ((207 ≤ o ∧ o ≤ 220) ∨ o = 320 ∨ o = 321 ∨ o = 332 ∨ o = 339 ∨ o = 341 ∨ o = 342 ∨ o = 346 ∨ (o = 307 ∧ (k = 15 ∨ k = 39 ∨ k = 40 ∨ k = 41 ∨ k = 49 ∨ k = 52 ∨ k = 54))) → hv (sngB (carB (cl A K))) o k = v o k := fun o k q => (so o k (by omega)).trans ((co o k (by omega)).trans (kv o k (by omega)))
  clear c1 c2 c3 c4 c5 c6 c7 s0 s1 s2 s3 s4 s5 s6 so co co320 hw
  generalize hv (sngB (carB (cl A K))) = W at *
  have e64 : W 64 1 = v 64 1 := ew _ _ (by omega)
  obtain ⟨⟨b1, b2, b3, b4, b5, b6, b7⟩, ⟨a1, a2, a3⟩, ⟨p1, p2, p3⟩, r1, r2, r3⟩ := hI
  have k4' : K 210 1 = v 224 1 := k4
  have k8' : K 212 2 = v 226 2 := k8
  have k10' : K 215 2 = v 229 2 := k10
  have k12' : K 218 2 = v 232 2 := k12
  have k5' : ∀ k, 0 ≤ k → k < v 224 1 → K 211 k = v 225 k := k5
  have k9' : ∀ k, 0 ≤ k → k < v 226 2 → K 213 k = v 227 k ∧ K 214 k = v 228 k := k9
  have k11' : ∀ k, 0 ≤ k → k < v 229 2 → K 216 k = v 230 k ∧ K 217 k = v 231 k := k11
  have k13' : ∀ k, 0 ≤ k → k < v 232 2 → K 219 k = v 233 k ∧ K 220 k = v 234 k := k13
  refine ⟨fun k => (ew 33 k (by omega)).trans (hk33 k).symm, ?_, A, W, rfl, ⟨h0.eq (fun o k q => ew o k (by unfold FP0 at q; omega)), h1.eq (fun o k q => ew o k (by unfold FP1 at q; omega)), h2.eq (fun o k q => ew o k (by unfold FP2 at q; omega)), ⟨fun n n0 n1 => ?_, fun f q0 q1 => ?_, ?_, ?_, fun i i0 i1 => ?_, ?_, ?_⟩, ⟨?_, by rw [f4]; exact a2, fun j j0 j1 => ?_⟩, ⟨?_, by rw [f5]; exact p2, fun j j0 j1 => ?_⟩, ⟨?_, by rw [f6]; exact r2, fun j j0 j1 => ?_⟩, h7.eq (fun o k q => ew o k (by unfold FP7 at q; omega)), h8.eq h1 (fun o k q => ew o k (by unfold FP8 at q; omega)) (fun o k q => ew o k (by unfold FP1 at q; omega)), h9.eq (fun o k q => ew o k (by unfold FP9 at q; omega)), ?_⟩, GRO.rf, by omega⟩
  · show some (vi (v 64 1)) = some (vi (K 307 12))
    rw [ea, h1.2.1]
  · rw [g1 n n0 n1, ek 208 n (by omega) (by omega)]
    exact (k1 n n0 n1).trans (b1 n n0 n1).1
  · rw [g2 f q0 q1, ek 209 f (by omega) (by omega)]
    exact ⟨(k2 f q0 q1).trans (b2 f q0 q1).1, (b2 f q0 q1).2.le (by omega)⟩
  · rw [f0, ek 207 2 (by omega) (by omega)]
    exact ⟨k3.trans b3.1, b3.2.le (by omega)⟩
  · rw [f1, ek 210 1 (by omega) (by omega), k4']
    exact b4
  · rw [f1] at i1
    rw [g3 i i0 (by omega), ek 211 i (by omega) (by omega), k5' i i0 (by omega)]
    exact b5 i i0 i1
  · rw [f2, ek 207 4 (by omega) (by omega)]
    exact k6.trans b6
  · rw [f3, ek 207 5 (by omega) (by omega)]
    exact k7.trans b7
  · rw [f4, ek 212 2 (by omega) (by omega), k8']
    exact a1
  · rw [f4] at j1
    rw [g4 (2 * j) (by omega) (by omega), g4 (2 * j + 1) (by omega) (by omega), ek 213 j (by omega) (by omega), ek 214 j (by omega) (by omega), (k9' j j0 (by omega)).1, (k9' j j0 (by omega)).2]
    exact a3 j j0 j1
  · rw [f5, ek 215 2 (by omega) (by omega), k10']
    exact p1
  · rw [f5] at j1
    rw [g5 (2 * j) (by omega) (by omega), g5 (2 * j + 1) (by omega) (by omega), ek 216 j (by omega) (by omega), ek 217 j (by omega) (by omega), (k11' j j0 (by omega)).1, (k11' j j0 (by omega)).2]
    exact ⟨(p3 j j0 j1).1, (p3 j j0 j1).2.1, (p3 j j0 j1).2.2.le (by omega)⟩
  · rw [f6, ek 218 2 (by omega) (by omega), k12']
    exact r1
  · rw [f6] at j1
    rw [g6 (2 * j) (by omega) (by omega), g6 (2 * j + 1) (by omega) (by omega), ek 219 j (by omega) (by omega), ek 220 j (by omega) (by omega), (k13' j j0 (by omega)).1, (k13' j j0 (by omega)).2]
    exact r3 j j0 j1
  · obtain ⟨⟨z1, z2⟩, ⟨z3, z4, z5, z6, z7⟩, z8⟩ := id h10
    refine ⟨⟨by rw [ew 307 32 (by omega)]; exact z1, by rw [ew 307 36 (by omega)]; exact z2⟩, ⟨fun j => ?_, fun j => by rw [ew 324 j (by omega)]; exact z4 j, fun j => by rw [ew 325 j (by omega)]; exact z5 j, fun j => by rw [ew 329 j (by omega)]; exact z6 j, fun j => by rw [ew 331 j (by omega)]; exact z7 j⟩, by rw [ew 64 4 (by omega)]; exact z8⟩
    by_cases c : 0 ≤ j ∧ j < 5
    · rw [g1 j c.1 c.2]
      exact (b1 j c.1 c.2).2
    · rw [g1o j (by omega)]
      exact z3 j

theorem p2_run {A : AHp} {v : Sg} {l : Int} (h : RR A v) : PAIR2 A v mX12_run mX13_run [vi l] := by
  obtain ⟨h0, h1, h2, h3, h4, h5, h6, h7, h8, h9, h10⟩ := id h
  have hX := h0.1.2.1
  have hM := h0.1.2.2
  have hln := h1.1
  have hl12 := h1.2.1
  unfold PAIR2
  have hvv := lift_agree (A := A) (w := v) (v := v) (fun _ _ _ _ => rfl)
  refine x_run (by omega) hX (fun q => ?_) (fun q1 q2 => ?_)
  · refine ⟨mid_rf hM, ?_⟩
    rw [hvv]
    exact c_run (n := 139) (by omega) hM hMinC (by omega) (fun _ => ⟨fun _ => rfl, rfl, A, v, hvv.symm, h, GRO.rf, by omega⟩) (fun _ _ => by omega)
  · obtain ⟨t, g1, ⟨g2, g3, g4, g5, g6, g7, g8⟩, g9, g10, g11⟩ := run_core h1 h0.2.2.2.1 hX (XK_now hX) (by omega) h.rs ⟨q1, q2⟩
    refine g11 _ _ (by omega) (fun z' k1 k2 k3 k4 k5 => ⟨z', rfl, rfl, ?_⟩)
    have hzv : ∀ o k, 307 ≤ o → o < 350 → z' o k = v o k := fun o k a b => k5 o k (by omega)
    refine ⟨mid_w hM (fun k => k5 33 k (by omega)), ?_⟩
    rw [lift_agree hzv]
    have hrun : runS 139 l v = some (sset (sset (sset (scpy t 331 0 332 0 60) 307 39 (t 307 36)) 307 40 (t 307 37)) 307 41 (t 307 34)) := by
      unfold runS
      rw [g1, Option.bind_some]
    refine c_run (n := 139) (by omega) hM hMinC (by omega) (fun _ => by omega) (fun _ _ => ⟨_, hrun, ?_⟩)
    rw [lift_cl]
    have s39 : (sset (sset (sset (scpy t 331 0 332 0 60) 307 39 (t 307 36)) 307 40 (t 307 37)) 307 41 (t 307 34)) 307 39 = t 307 36 := by rw [sset_2 (by omega), sset_2 (by omega), sset_e]
    have s40 : (sset (sset (sset (scpy t 331 0 332 0 60) 307 39 (t 307 36)) 307 40 (t 307 37)) 307 41 (t 307 34)) 307 40 = t 307 37 := by rw [sset_2 (by omega), sset_e]
    have s41 : (sset (sset (sset (scpy t 331 0 332 0 60) 307 39 (t 307 36)) 307 40 (t 307 37)) 307 41 (t 307 34)) 307 41 = t 307 34 := sset_e
    have s332 : ∀ i, 0 ≤ i → i < 60 → (sset (sset (sset (scpy t 331 0 332 0 60) 307 39 (t 307 36)) 307 40 (t 307 37)) 307 41 (t 307 34)) 332 i = t 331 i := fun i i0 i1 => by
      rw [sset_1 (by omega), sset_1 (by omega), sset_1 (by omega), scpy_i (by omega)]
      congr 1
      omega
    have so : ∀ o k, ¬ (o = 332 ∨ (o = 307 ∧ (k = 39 ∨ k = 40 ∨ k = 41))) → (sset (sset (sset (scpy t 331 0 332 0 60) 307 39 (t 307 36)) 307 40 (t 307 37)) 307 41 (t 307 34)) o k = t o k := fun o k q => by
      rw [sset_ne (by omega), sset_ne (by omega), sset_ne (by omega), scpy_n (by omega)]
    generalize sset (sset (sset (scpy t 331 0 332 0 60) 307 39 (t 307 36)) 307 40 (t 307 37)) 307 41 (t 307 34) = t' at s39 s40 s41 s332 so ⊢
    obtain ⟨u1, ⟨u2, u3, u4⟩, u5⟩ := k1
    have k2' := k2.1 (by omega)
    have w210 : z' 210 1 = t 307 36 := k2'.1
    have w211 : ∀ i, 0 ≤ i → i < t 307 36 → z' 211 i = t 331 i := k2'.2
    have w208 : ∀ n, 0 ≤ n → n < 5 → z' 208 n = t 320 n := u5
    have e : ∀ o k, ¬ (CW o k ∨ o = 210 ∨ FP3 o k ∧ ¬ (o = 64 ∧ k = 1) ∧ o ≠ 209 ∧ o ≠ 321 ∧ ¬ (o = 207 ∧ k = 2) ∧ ¬ (o = 307 ∧ k = 15)) → liftV z' t' o k = v o k := fun o k q => by
      by_cases c : 307 ≤ o ∧ o < 350
      · rw [liftV_i c, so o k (fun w => q (Or.inr (Or.inr (by unfold FP3; omega)))), g10 o k (fun w => q (Or.inl (Or.inr (Or.inr (Or.inr (Or.inl w))))))]
      · rw [liftV_o c]
        exact k5 o k (by unfold CW FP3 TC2 at q; omega)
    refine ⟨fun k => (liftV_o (w := z') (s := t') (o := 33) (k := k) (by omega)).trans (liftV_o (w := z') (s := v) (o := 33) (k := k) (by omega)).symm, by rw [s39, w210], A, liftV z' t', rfl, h.cw e ?_ ?_, GRO.rf, by omega⟩
    · obtain ⟨b1, b2, b3, b4, b5, b6, b7⟩ := id h3
      have e64 : liftV z' t' 64 1 = v 64 1 := e _ _ (by unfold CW TC2 FP3; omega)
      have hle : v 64 1 ≤ liftV z' t' 64 1 := by omega
      refine ⟨fun n n0 n1 => ?_, fun f f0 f1 => ?_, ?_, ?_, fun i i0 i1 => ?_, ?_, ?_⟩
      · rw [liftV_o (by omega), liftV_i (by omega), so _ _ (by omega)]
        exact w208 n n0 n1
      · rw [e 209 f (by unfold CW TC2 FP3; omega), e 321 f (by unfold CW TC2 FP3; omega)]
        exact ⟨(b2 f f0 f1).1, (b2 f f0 f1).2.le hle⟩
      · rw [e 207 2 (by unfold CW TC2 FP3; omega), e 307 15 (by unfold CW TC2 FP3; omega)]
        exact ⟨b3.1, b3.2.le hle⟩
      · rw [liftV_o (by omega), liftV_i (by omega), s39]
        exact ⟨w210, g4⟩
      · rw [liftV_i (by omega), s39] at i1
        rw [liftV_o (by omega), liftV_i (by omega), s332 i i0 (by omega)]
        exact w211 i i0 i1
      · rw [liftV_o (by omega), liftV_i (by omega), s40]
        exact k3
      · rw [liftV_o (by omega), liftV_i (by omega), s41]
        exact k4
    · refine ⟨⟨?_, ?_⟩, ⟨fun j => ?_, fun j => ?_, fun j => ?_, fun j => ?_, fun j => ?_⟩, ?_⟩
      · rw [liftV_i (by omega), so _ _ (by omega)]; exact g3
      · rw [liftV_i (by omega), so _ _ (by omega)]; exact g4
      · rw [liftV_i (by omega), so _ _ (by omega)]; exact g5 j
      · rw [liftV_i (by omega), so _ _ (by omega)]; exact g6 j
      · rw [liftV_i (by omega), so _ _ (by omega)]; exact g7 j
      · rw [liftV_i (by omega), so _ _ (by omega)]; exact g8 j
      · rw [liftV_i (by omega), so _ _ (by omega)]; exact g9 j
      · rw [liftV_o (by omega), u3]; exact u4

