/-! ===== pairs: image, undo ===== -/
theorem hv_cpi {A : AHp} {s sp d dp n k : Int} (h : dp ≤ k ∧ k < dp + n) : hv (hcpy A s sp d dp n) d k = hv A s (sp + (k - dp)) := by rw [hv_cpy, if_pos ⟨rfl, h⟩]
theorem carF_out {A : AHp} {o k : Int} (h : o ≠ 345) : hv (carF A) o k = hv A o k := by
  unfold carF
  simp (disch := omega) only [hv_c1]
theorem carF_in {A : AHp} : (∀ k, 0 ≤ k → k < 5 → hv (carF A) 345 k = hv A 320 k) ∧ (∀ k, 0 ≤ k → k < 3 → hv (carF A) 345 (5 + k) = hv A 321 k) ∧ (∀ k, 0 ≤ k → k < 60 → hv (carF A) 345 (8 + k) = hv A 332 k) ∧ (∀ k, 0 ≤ k → k < 10 → hv (carF A) 345 (68 + k) = hv A 339 k) ∧ (∀ k, 0 ≤ k → k < 20 → hv (carF A) 345 (78 + k) = hv A 341 k) ∧ (∀ k, 0 ≤ k → k < 16 → hv (carF A) 345 (98 + k) = hv A 342 k) ∧ ∀ k, 0 ≤ k → k < 7 → hv (carF A) 345 (114 + k) = hv A 346 k := by
  unfold carF
  refine ⟨fun k h0 h1 => ?_, fun k h0 h1 => ?_, fun k h0 h1 => ?_, fun k h0 h1 => ?_, fun k h0 h1 => ?_, fun k h0 h1 => ?_, fun k h0 h1 => ?_⟩ <;>
    (simp (disch := omega) only [hv_c2, hv_cpi, hv_c1]; congr 1; omega)
theorem sngF_out {A : AHp} {o k : Int} (h : o ≠ 346) : hv (sngF A) o k = hv A o k := by
  unfold sngF
  simp (disch := omega) only [hv_n1]
theorem sngF_in {A : AHp} : hv (sngF A) 346 0 = hv A 307 15 ∧ hv (sngF A) 346 1 = hv A 307 39 ∧ hv (sngF A) 346 2 = hv A 307 40 ∧ hv (sngF A) 346 3 = hv A 307 41 ∧ hv (sngF A) 346 4 = hv A 307 49 ∧ hv (sngF A) 346 5 = hv A 307 52 ∧ hv (sngF A) 346 6 = hv A 307 54 := by
  unfold sngF
  refine ⟨?_, ?_, ?_, ?_, ?_, ?_, ?_⟩ <;> simp (disch := omega) only [hv_e1, hv_n2, hv_n1]
theorem carB_out {A : AHp} {o k : Int} (h : o ≠ 320 ∧ o ≠ 321 ∧ o ≠ 332 ∧ o ≠ 339 ∧ o ≠ 341 ∧ o ≠ 342 ∧ o ≠ 346) : hv (carB A) o k = hv A o k := by
  unfold carB
  simp (disch := omega) only [hv_c1]
theorem carB_320 {A : AHp} {k : Int} (h : k < 0 ∨ 5 ≤ k) : hv (carB A) 320 k = hv A 320 k := by
  unfold carB
  simp (disch := omega) only [hv_c1, hv_c2]
theorem carB_in {A : AHp} : (∀ k, 0 ≤ k → k < 5 → hv (carB A) 320 k = hv A 345 k) ∧ (∀ k, 0 ≤ k → k < 3 → hv (carB A) 321 k = hv A 345 (5 + k)) ∧ (∀ k, 0 ≤ k → k < 60 → hv (carB A) 332 k = hv A 345 (8 + k)) ∧ (∀ k, 0 ≤ k → k < 10 → hv (carB A) 339 k = hv A 345 (68 + k)) ∧ (∀ k, 0 ≤ k → k < 20 → hv (carB A) 341 k = hv A 345 (78 + k)) ∧ (∀ k, 0 ≤ k → k < 16 → hv (carB A) 342 k = hv A 345 (98 + k)) ∧ ∀ k, 0 ≤ k → k < 7 → hv (carB A) 346 k = hv A 345 (114 + k) := by
  unfold carB
  refine ⟨fun k h0 h1 => ?_, fun k h0 h1 => ?_, fun k h0 h1 => ?_, fun k h0 h1 => ?_, fun k h0 h1 => ?_, fun k h0 h1 => ?_, fun k h0 h1 => ?_⟩ <;>
    (simp (disch := omega) only [hv_c1, hv_cpi]; congr 1; omega)
theorem sngB_out {A : AHp} {o k : Int} (h : o ≠ 307 ∨ (k ≠ 15 ∧ k ≠ 39 ∧ k ≠ 40 ∧ k ≠ 41 ∧ k ≠ 49 ∧ k ≠ 52 ∧ k ≠ 54)) : hv (sngB A) o k = hv A o k := by
  unfold sngB
  rcases h with h | ⟨g1, g2, g3, g4, g5, g6, g7⟩
  · simp (disch := omega) only [hv_n1]
  · simp (disch := omega) only [hv_n2]
theorem sngB_in {A : AHp} : hv (sngB A) 307 15 = hv A 346 0 ∧ hv (sngB A) 307 39 = hv A 346 1 ∧ hv (sngB A) 307 40 = hv A 346 2 ∧ hv (sngB A) 307 41 = hv A 346 3 ∧ hv (sngB A) 307 49 = hv A 346 4 ∧ hv (sngB A) 307 52 = hv A 346 5 ∧ hv (sngB A) 307 54 = hv A 346 6 := by
  unfold sngB
  refine ⟨?_, ?_, ?_, ?_, ?_, ?_, ?_⟩ <;> simp (disch := omega) only [hv_e1, hv_n2, hv_n1]
/-- KEQ, place by place -/
theorem keq_n {A B : AHp} {a b : Int} (h : KEQ A a B b) : (∀ k, 0 ≤ k → k < 5 → hv A (a + 1) k = hv B (b + 1) k) ∧ (∀ k, 0 ≤ k → k < 3 → hv A (a + 2) k = hv B (b + 2) k) ∧ hv A a 2 = hv B b 2 ∧
  (hv A (a + 3) 1 = hv B (b + 3) 1 ∧ ∀ k, 0 ≤ k → k < hv B (b + 3) 1 → hv A (a + 4) k = hv B (b + 4) k) ∧ (hv A a 4 = hv B b 4 ∧ hv A a 5 = hv B b 5) ∧
  (hv A (a + 5) 2 = hv B (b + 5) 2 ∧ ∀ k, 0 ≤ k → k < hv B (b + 5) 2 → hv A (a + 6) k = hv B (b + 6) k ∧ hv A (a + 7) k = hv B (b + 7) k) ∧
  (hv A (a + 8) 2 = hv B (b + 8) 2 ∧ ∀ k, 0 ≤ k → k < hv B (b + 8) 2 → hv A (a + 9) k = hv B (b + 9) k ∧ hv A (a + 10) k = hv B (b + 10) k) ∧
  hv A (a + 11) 2 = hv B (b + 11) 2 ∧ ∀ k, 0 ≤ k → k < hv B (b + 11) 2 → hv A (a + 12) k = hv B (b + 12) k ∧ hv A (a + 13) k = hv B (b + 13) k := by
  obtain ⟨h1, h2, h3, ⟨h4, h5⟩, h6, h7, ⟨h8, h9⟩, ⟨h10, h11⟩, h12, h13⟩ := h
  have e4 : ∀ x : Int, x + 3 + 1 = x + 4 := fun x => by omega
  have e6 : ∀ x : Int, x + 5 + 1 = x + 6 := fun x => by omega
  have e7 : ∀ x : Int, x + 5 + 2 = x + 7 := fun x => by omega
  have e9 : ∀ x : Int, x + 8 + 1 = x + 9 := fun x => by omega
  have e10 : ∀ x : Int, x + 8 + 2 = x + 10 := fun x => by omega
  have e12 : ∀ x : Int, x + 11 + 1 = x + 12 := fun x => by omega
  have e13 : ∀ x : Int, x + 11 + 2 = x + 13 := fun x => by omega
  simp only [e4, e6, e7, e9, e10, e12, e13] at h5 h9 h11 h13
  exact ⟨h1, h2, h3, ⟨h4, h5⟩, ⟨h6, h7⟩, ⟨h8, h9⟩, ⟨h10, h11⟩, h12, h13⟩
theorem RR.ksz {A : AHp} {v : Sg} (h3 : G3 v) (h4 : G4 v) (h5 : G5 v) (h6 : G6 v) : KSZ (cl A v) 207 := by
  refine ⟨?_, ?_, ?_, ?_⟩
  · show 0 ≤ v 210 1 ∧ v 210 1 ≤ 60
    rw [h3.2.2.2.1.1]; exact h3.2.2.2.1.2
  · show 0 ≤ v 212 2 ∧ v 212 2 ≤ 5
    rw [h4.1]; exact h4.2.1
  · show 0 ≤ v 215 2 ∧ v 215 2 ≤ 10
    rw [h5.1]; exact h5.2.1
  · show 0 ≤ v 218 2 ∧ v 218 2 ≤ 8
    rw [h6.1]; exact h6.2.1
theorem p_image {A : AHp} {v : Sg} (h : RR A v) : PAIR A v mX12_image mX13_image [] := by
  obtain ⟨h0, h1, h2, h3, h4, h5, h6, h7, h8, h9, h10⟩ := id h
  have hX := h0.1.2.1
  have hM := h0.1.2.2
  unfold PAIR
  refine x_image (A := cl A v) (by omega) hX (RR.ksz h3 h4 h5 h6) ?_
  have hk := keq_n (kcp_eq (A := cl A v) (a := 221) (b := 207) (by omega))
  have hko : ∀ o k, o < 221 ∨ 235 ≤ o → hv (kcp (cl A v) 221 207) o k = v o k := fun o k q => kcp_out (by omega)
  have hk2 : kcp (cl A v) 221 207 = cl A (hv (kcp (cl A v) 221 207)) := rfl
  rw [hk2]
  generalize hv (kcp (cl A v) 221 207) = K at hk hko ⊢
  clear hk2
  obtain ⟨k1, k2, k3, ⟨k4, k5⟩, ⟨k6, k7⟩, ⟨k8, k9⟩, ⟨k10, k11⟩, k12, k13⟩ := hk
  refine c_image (A := cl A (sset K 60 4 1)) (by omega) hM ?_
  have ea : (sset K 60 4 1) 307 12 = v 307 12 := (sset_1 (by omega)).trans (hko _ _ (by omega))
  have hw : hset (carF (sngF (cl A (sset K 60 4 1)))) 307 58 1 = cl A (hv (hset (carF (sngF (cl A (sset K 60 4 1)))) 307 58 1)) := rfl
  rw [hw]
  have w58 : hv (hset (carF (sngF (cl A (sset K 60 4 1)))) 307 58 1) 307 58 = 1 := hv_e1
  have wo : ∀ o k, o ≠ 345 → o ≠ 346 → ¬ (o = 307 ∧ k = 58) → hv (hset (carF (sngF (cl A (sset K 60 4 1)))) 307 58 1) o k = (sset K 60 4 1) o k := fun o k q1 q2 q3 => by
    rw [hv_set, if_neg q3, carF_out q1, sngF_out q2]
    rfl
  have w345 : ∀ k, hv (hset (carF (sngF (cl A (sset K 60 4 1)))) 307 58 1) 345 k = hv (carF (sngF (cl A (sset K 60 4 1)))) 345 k := fun k => hv_n1 (by omega)
  have so : ∀ o k, o ≠ 346 → hv (sngF (cl A (sset K 60 4 1))) o k = (sset K 60 4 1) o k := fun o k q => sngF_out q
  obtain ⟨c1, c2, c3, c4, c5, c6, c7⟩ := carF_in (A := sngF (cl A (sset K 60 4 1)))
  obtain ⟨s0, s1, s2, s3, s4, s5, s6⟩ := sngF_in (A := cl A (sset K 60 4 1))
  have d0 := c7 0 (by omega) (by omega)
  have d1 := c7 1 (by omega) (by omega)
  have d2 := c7 2 (by omega) (by omega)
  have d3 := c7 3 (by omega) (by omega)
  have d4 := c7 4 (by omega) (by omega)
  have d5 := c7 5 (by omega) (by omega)
  have d6 := c7 6 (by omega) (by omega)
  rw [s0] at d0
  rw [s1] at d1
  rw [s2] at d2
  rw [s3] at d3
  rw [s4] at d4
  rw [s5] at d5
  rw [s6] at d6
  simp only [← w345] at c1 c2 c3 c4 c5 c6 d0 d1 d2 d3 d4 d5 d6
  clear c7 s0 s1 s2 s3 s4 s5 s6 hw w345
  generalize hv (hset (carF (sngF (cl A (sset K 60 4 1)))) 307 58 1) = W at w58 wo c1 c2 c3 c4 c5 c6 d0 d1 d2 d3 d4 d5 d6 ⊢
  have ew : ∀ o k, ¬ ((221 ≤ o ∧ o ≤ 234) ∨ (o = 60 ∧ k = 4) ∨ o = 345 ∨ o = 346 ∨ (o = 307 ∧ k = 58)) → W o k = v o k := fun o k q => by
    rw [wo o k (by omega) (by omega) (by omega), show (sset K 60 4 1) o k = K o k from if_neg (by omega)]
    exact hko o k (by omega)
  have w1 : ∀ o k, o ≠ 60 → (sset K 60 4 1) o k = K o k := fun o k q => sset_1 q
  have kv : ∀ o k, o ≠ 60 → ¬ (221 ≤ o ∧ o ≤ 234) → (sset K 60 4 1) o k = v o k := fun o k q1 q2 => by
    rw [w1 o k q1]
    exact hko o k (by omega)
  have wi : ∀ o k, 221 ≤ o → o ≤ 234 → W o k = K o k := fun o k q1 q2 => by
    rw [wo o k (by omega) (by omega) (by omega), w1 o k (by omega)]
  have kc : ∀ o k, o ≠ 346 → o ≠ 60 → ¬ (221 ≤ o ∧ o ≤ 234) → hv (sngF (cl A (sset K 60 4 1))) o k = v o k := fun o k q1 q2 q3 => by
    rw [so o k q1]
    exact kv o k q2 q3
  have f0 : W 345 114 = v 307 15 := d0.trans (kv 307 15 (by omega) (by omega))
  have f1 : W 345 115 = v 307 39 := d1.trans (kv 307 39 (by omega) (by omega))
  have f2 : W 345 116 = v 307 40 := d2.trans (kv 307 40 (by omega) (by omega))
  have f3 : W 345 117 = v 307 41 := d3.trans (kv 307 41 (by omega) (by omega))
  have f4 : W 345 118 = v 307 49 := d4.trans (kv 307 49 (by omega) (by omega))
  have f5 : W 345 119 = v 307 52 := d5.trans (kv 307 52 (by omega) (by omega))
  have f6 : W 345 120 = v 307 54 := d6.trans (kv 307 54 (by omega) (by omega))
  have g1 : ∀ k, 0 ≤ k → k < 5 → W 345 k = v 320 k := fun k a b => (c1 k a b).trans (kc _ _ (by omega) (by omega) (by omega))
  have g2 : ∀ k, 0 ≤ k → k < 3 → W 345 (5 + k) = v 321 k := fun k a b => (c2 k a b).trans (kc _ _ (by omega) (by omega) (by omega))
  have g3 : ∀ k, 0 ≤ k → k < 60 → W 345 (8 + k) = v 332 k := fun k a b => (c3 k a b).trans (kc _ _ (by omega) (by omega) (by omega))
  have g4 : ∀ k, 0 ≤ k → k < 10 → W 345 (68 + k) = v 339 k := fun k a b => (c4 k a b).trans (kc _ _ (by omega) (by omega) (by omega))
  have g5 : ∀ k, 0 ≤ k → k < 20 → W 345 (78 + k) = v 341 k := fun k a b => (c5 k a b).trans (kc _ _ (by omega) (by omega) (by omega))
  have g6 : ∀ k, 0 ≤ k → k < 16 → W 345 (98 + k) = v 342 k := fun k a b => (c6 k a b).trans (kc _ _ (by omega) (by omega) (by omega))
  have w60 : W 60 4 = 1 := (wo 60 4 (by omega) (by omega) (by omega)).trans sset_e
  clear d0 d1 d2 d3 d4 d5 d6 c1 c2 c3 c4 c5 c6 so kc kv w1 wo
  have e64 : W 64 1 = v 64 1 := ew _ _ (by omega)
  refine ⟨?_, A, W, rfl, ⟨h0.eq (fun o k q => ew o k (by unfold FP0 at q; omega)), h1.eq (fun o k q => ew o k (by unfold FP1 at q; omega)), h2.eq (fun o k q => ew o k (by unfold FP2 at q; omega)), h3.eq (fun o k q => ew o k (by unfold FP3 at q; omega)), h4.eq (fun o k q => ew o k (by unfold FP4 at q; omega)), h5.eq (fun o k q => ew o k (by unfold FP5 at q; omega)), h6.eq (fun o k q => ew o k (by unfold FP6 at q; omega)), ⟨by rw [w60, w58], Or.inr w60, fun _ => ?_⟩, h8.eq h1 (fun o k q => ew o k (by unfold FP8 at q; omega)) (fun o k q => ew o k (by unfold FP1 at q; omega)), h9.eq (fun o k q => ew o k (by unfold FP9 at q; omega)), h10.eq (fun o k q => ew o k (by unfold FP10 at q; omega))⟩, GRO.rf, by omega⟩
  · show some (vi (v 64 1)) = some (vi ((sset K 60 4 1) 307 12))
    rw [ea, h1.2.1]
  · obtain ⟨b1, b2, b3, b4, b5, b6, b7⟩ := id h3
    obtain ⟨a1, a2, a3⟩ := id h4
    obtain ⟨p1, p2, p3⟩ := id h5
    obtain ⟨r1, r2, r3⟩ := id h6
    have k4' : K 224 1 = v 210 1 := k4
    have k8' : K 226 2 = v 212 2 := k8
    have k10' : K 229 2 = v 215 2 := k10
    have k12' : K 232 2 = v 218 2 := k12
    have k5' : ∀ k, 0 ≤ k → k < v 210 1 → K 225 k = v 211 k := k5
    have k9' : ∀ k, 0 ≤ k → k < v 212 2 → K 227 k = v 213 k ∧ K 228 k = v 214 k := k9
    have k11' : ∀ k, 0 ≤ k → k < v 215 2 → K 230 k = v 216 k ∧ K 231 k = v 217 k := k11
    have k13' : ∀ k, 0 ≤ k → k < v 218 2 → K 233 k = v 219 k ∧ K 234 k = v 220 k := k13
    refine ⟨⟨fun n n0 n1 => ?_, fun f q0 q1 => ?_, ?_, ?_, fun i i0 i1 => ?_, ?_, ?_⟩, ⟨?_, by rw [f4]; exact a2, fun j j0 j1 => ?_⟩, ⟨?_, by rw [f5]; exact p2, fun j j0 j1 => ?_⟩, ?_, by rw [f6]; exact r2, fun j j0 j1 => ?_⟩
    · rw [g1 n n0 n1, wi 222 n (by omega) (by omega)]
      exact ⟨(k1 n n0 n1).trans (b1 n n0 n1), h10.2.1.1 n⟩
    · rw [g2 f q0 q1, wi 223 f (by omega) (by omega)]
      exact ⟨(k2 f q0 q1).trans (b2 f q0 q1).1, (b2 f q0 q1).2.le (by omega)⟩
    · rw [f0, wi 221 2 (by omega) (by omega)]
      exact ⟨k3.trans b3.1, b3.2.le (by omega)⟩
    · rw [f1, wi 224 1 (by omega) (by omega), k4']
      exact b4
    · rw [f1] at i1
      rw [g3 i i0 (by omega), wi 225 i (by omega) (by omega), k5' i i0 (by omega)]
      exact b5 i i0 i1
    · rw [f2, wi 221 4 (by omega) (by omega)]
      exact k6.trans b6
    · rw [f3, wi 221 5 (by omega) (by omega)]
      exact k7.trans b7
    · rw [f4, wi 226 2 (by omega) (by omega), k8']
      exact a1
    · rw [f4] at j1
      rw [g4 (2 * j) (by omega) (by omega), g4 (2 * j + 1) (by omega) (by omega), wi 227 j (by omega) (by omega), wi 228 j (by omega) (by omega), (k9' j j0 (by omega)).1, (k9' j j0 (by omega)).2]
      exact a3 j j0 j1
    · rw [f5, wi 229 2 (by omega) (by omega), k10']
      exact p1
    · rw [f5] at j1
      rw [g5 (2 * j) (by omega) (by omega), g5 (2 * j + 1) (by omega) (by omega), wi 230 j (by omega) (by omega), wi 231 j (by omega) (by omega), (k11' j j0 (by omega)).1, (k11' j j0 (by omega)).2]
      exact ⟨(p3 j j0 j1).1, (p3 j j0 j1).2.1, (p3 j j0 j1).2.2.le (by omega)⟩
    · rw [f6, wi 232 2 (by omega) (by omega), k12']
      exact r1
    · rw [f6] at j1
      rw [g6 (2 * j) (by omega) (by omega), g6 (2 * j + 1) (by omega) (by omega), wi 233 j (by omega) (by omega), wi 234 j (by omega) (by omega), (k13' j j0 (by omega)).1, (k13' j j0 (by omega)).2]
      exact r3 j j0 j1
theorem p_undo {A : AHp} {v : Sg} (h : RR A v) : PAIR A v mX12_undo mX13_undo [] := by
  obtain ⟨h0, h1, h2, h3, h4, h5, h6, h7, h8, h9, h10⟩ := id h
  have hX := h0.1.2.1
  have hM := h0.1.2.2
  unfold PAIR
  obtain ⟨i1, i2, i3⟩ := id h7
  refine x_undo (A := cl A v) (by omega) hX (fun q => ?_) (fun q => ?_) (fun q => ?_)
  · obtain ⟨⟨b1, b2, b3, b4, b5, b6, b7⟩, ⟨a1, a2, a3⟩, ⟨p1, p2, p3⟩, r1, r2, r3⟩ := i3 q
    refine ⟨?_, ?_, ?_, ?_⟩
    · show 0 ≤ v 224 1 ∧ v 224 1 ≤ 60
      rw [b4.1]; exact b4.2
    · show 0 ≤ v 226 2 ∧ v 226 2 ≤ 5
      rw [a1]; exact a2
    · show 0 ≤ v 229 2 ∧ v 229 2 ≤ 10
      rw [p1]; exact p2
    · show 0 ≤ v 232 2 ∧ v 232 2 ≤ 8
      rw [r1]; exact r2
  · have q' : v 60 4 = 0 := q
    refine c_undo (A := cl A v) (by omega) hM (fun _ => ⟨rfl, A, v, rfl, h, GRO.rf, by omega⟩) (fun z => ?_)
    have z' : v 307 58 ≠ 0 := z
    omega
  have q' : v 60 4 ≠ 0 := q
  have hI := i3 q'
  have hk := keq_n (kcp_eq (A := cl A v) (a := 207) (b := 221) (by omega))
  have hko : ∀ o k, o < 207 ∨ 221 ≤ o → hv (kcp (cl A v) 207 221) o k = v o k := fun o k q => kcp_out (by omega)
  have hk2 : kcp (cl A v) 207 221 = cl A (hv (kcp (cl A v) 207 221)) := rfl
  rw [hk2]
  generalize hv (kcp (cl A v) 207 221) = K at hk hko ⊢
  clear hk2
  obtain ⟨k1, k2, k3, ⟨k4, k5⟩, ⟨k6, k7⟩, ⟨k8, k9⟩, ⟨k10, k11⟩, k12, k13⟩ := hk
  refine c_undo (A := cl A K) (by omega) hM (fun z => ?_) (fun z => ?_)
  · have z' : K 307 58 = 0 := z
    rw [hko _ _ (by omega)] at z'
    omega
  have ea : K 307 12 = v 307 12 := hko _ _ (by omega)
  have hw : sngB (carB (cl A K)) = cl A (hv (sngB (carB (cl A K)))) := rfl
  rw [hw]
  obtain ⟨c1, c2, c3, c4, c5, c6, c7⟩ := carB_in (A := cl A K)
  obtain ⟨s0, s1, s2, s3, s4, s5, s6⟩ := sngB_in (A := carB (cl A K))
  have so : ∀ o k, o ≠ 307 ∨ (k ≠ 15 ∧ k ≠ 39 ∧ k ≠ 40 ∧ k ≠ 41 ∧ k ≠ 49 ∧ k ≠ 52 ∧ k ≠ 54) → hv (sngB (carB (cl A K))) o k = hv (carB (cl A K)) o k := fun o k q => sngB_out q
  have co : ∀ o k, (o ≠ 320 ∧ o ≠ 321 ∧ o ≠ 332 ∧ o ≠ 339 ∧ o ≠ 341 ∧ o ≠ 342 ∧ o ≠ 346) → hv (carB (cl A K)) o k = K o k := fun o k q => carB_out q
  have co320 : ∀ k, k < 0 ∨ 5 ≤ k → hv (carB (cl A K)) 320 k = K 320 k := fun k q => carB_320 q
  have kv : ∀ o k, ¬ (207 ≤ o ∧ o ≤ 220) → K o k = v o k := fun o k q => hko o k (by omega)
  have g1 : ∀ k, 0 ≤ k → k < 5 → hv (sngB (carB (cl A K))) 320 k = v 345 k := fun k a b => (so _ _ (by omega)).trans ((c1 k a b).trans (kv _ _ (by omega)))
  have g1o : ∀ k, k < 0 ∨ 5 ≤ k → hv (sngB (carB (cl A K))) 320 k = v 320 k := fun k a => (so _ _ (by omega)).trans ((co320 k a).trans (kv _ _ (by omega)))
  have g2 : ∀ k, 0 ≤ k → k < 3 → hv (sngB (carB (cl A K))) 321 k = v 345 (5 + k) := fun k a b => (so _ _ (by omega)).trans ((c2 k a b).trans (kv _ _ (by omega)))
  have g3 : ∀ k, 0 ≤ k → k < 60 → hv (sngB (carB (cl A K))) 332 k = v 345 (8 + k) := fun k a b => (so _ _ (by omega)).trans ((c3 k a b).trans (kv _ _ (by omega)))
  have g4 : ∀ k, 0 ≤ k → k < 10 → hv (sngB (carB (cl A K))) 339 k = v 345 (68 + k) := fun k a b => (so _ _ (by omega)).trans ((c4 k a b).trans (kv _ _ (by omega)))
  have g5 : ∀ k, 0 ≤ k → k < 20 → hv (sngB (carB (cl A K))) 341 k = v 345 (78 + k) := fun k a b => (so _ _ (by omega)).trans ((c5 k a b).trans (kv _ _ (by omega)))
  have g6 : ∀ k, 0 ≤ k → k < 16 → hv (sngB (carB (cl A K))) 342 k = v 345 (98 + k) := fun k a b => (so _ _ (by omega)).trans ((c6 k a b).trans (kv _ _ (by omega)))
  have f0 : hv (sngB (carB (cl A K))) 307 15 = v 345 114 := s0.trans ((c7 0 (by omega) (by omega)).trans (kv _ _ (by omega)))
  have f1 : hv (sngB (carB (cl A K))) 307 39 = v 345 115 := s1.trans ((c7 1 (by omega) (by omega)).trans (kv _ _ (by omega)))
  have f2 : hv (sngB (carB (cl A K))) 307 40 = v 345 116 := s2.trans ((c7 2 (by omega) (by omega)).trans (kv _ _ (by omega)))
  have f3 : hv (sngB (carB (cl A K))) 307 41 = v 345 117 := s3.trans ((c7 3 (by omega) (by omega)).trans (kv _ _ (by omega)))
  have f4 : hv (sngB (carB (cl A K))) 307 49 = v 345 118 := s4.trans ((c7 4 (by omega) (by omega)).trans (kv _ _ (by omega)))
  have f5 : hv (sngB (carB (cl A K))) 307 52 = v 345 119 := s5.trans ((c7 5 (by omega) (by omega)).trans (kv _ _ (by omega)))
  have f6 : hv (sngB (carB (cl A K))) 307 54 = v 345 120 := s6.trans ((c7 6 (by omega) (by omega)).trans (kv _ _ (by omega)))
  have ek : ∀ o k, 207 ≤ o → o ≤ 220 → hv (sngB (carB (cl A K))) o k = K o k := fun o k a b => (so _ _ (by omega)).trans (co _ _ (by omega))
  have ew : ∀ o k, ¬ ((207 ≤ o ∧ o ≤ 220) ∨ o = 320 ∨ o = 321 ∨ o = 332 ∨ o = 339 ∨ o = 341 ∨ o = 342 ∨ o = 346 ∨ (o = 307 ∧ (k = 15 ∨ k = 39 ∨ k = 40 ∨ k = 41 ∨ k = 49 ∨ k = 52 ∨ k = 54))) → hv (sngB (carB (cl A K))) o k = v o k := fun o k q => (so o k (by omega)).trans ((co o k (by omega)).trans (kv o k (by omega)))
  clear c1 c2 c3 c4 c5 c6 c7 s0 s1 s2 s3 s4 s5 s6 so co co320 hw
  generalize hv (sngB (carB (cl A K))) = W at *
  have e64 : W 64 1 = v 64 1 := ew _ _ (by omega)
  obtain ⟨⟨b1, b2, b3, b4, b5, b6, b7⟩, ⟨a1, a2, a3⟩, ⟨p1, p2, p3⟩, r1, r2, r3⟩ := hI
  have k4' : K 210 1 = v 224 1 := k4
  have k8' : K 212 2 = v 226 2 := k8
  have k10' : K 215 2 = v 229 2 := k10
  have k12' : K 218 2 = v 232 2 := k12
  have k5' : ∀ k, 0 ≤ k → k < v 224 1 → K 211 k = v 225 k := k5
  have k9' : ∀ k, 0 ≤ k → k < v 226 2 → K 213 k = v 227 k ∧ K 214 k = v 228 k := k9
  have k11' : ∀ k, 0 ≤ k → k < v 229 2 → K 216 k = v 230 k ∧ K 217 k = v 231 k := k11
  have k13' : ∀ k, 0 ≤ k → k < v 232 2 → K 219 k = v 233 k ∧ K 220 k = v 234 k := k13
  refine ⟨?_, A, W, rfl, ⟨h0.eq (fun o k q => ew o k (by unfold FP0 at q; omega)), h1.eq (fun o k q => ew o k (by unfold FP1 at q; omega)), h2.eq (fun o k q => ew o k (by unfold FP2 at q; omega)), ⟨fun n n0 n1 => ?_, fun f q0 q1 => ?_, ?_, ?_, fun i i0 i1 => ?_, ?_, ?_⟩, ⟨?_, by rw [f4]; exact a2, fun j j0 j1 => ?_⟩, ⟨?_, by rw [f5]; exact p2, fun j j0 j1 => ?_⟩, ⟨?_, by rw [f6]; exact r2, fun j j0 j1 => ?_⟩, h7.eq (fun o k q => ew o k (by unfold FP7 at q; omega)), h8.eq h1 (fun o k q => ew o k (by unfold FP8 at q; omega)) (fun o k q => ew o k (by unfold FP1 at q; omega)), h9.eq (fun o k q => ew o k (by unfold FP9 at q; omega)), ?_⟩, GRO.rf, by omega⟩
  · show some (vi (v 64 1)) = some (vi (K 307 12))
    rw [ea, h1.2.1]
  · rw [g1 n n0 n1, ek 208 n (by omega) (by omega)]
    exact (k1 n n0 n1).trans (b1 n n0 n1).1
  · rw [g2 f q0 q1, ek 209 f (by omega) (by omega)]
    exact ⟨(k2 f q0 q1).trans (b2 f q0 q1).1, (b2 f q0 q1).2.le (by omega)⟩
  · rw [f0, ek 207 2 (by omega) (by omega)]
    exact ⟨k3.trans b3.1, b3.2.le (by omega)⟩
  · rw [f1, ek 210 1 (by omega) (by omega), k4']
    exact b4
  · rw [f1] at i1
    rw [g3 i i0 (by omega), ek 211 i (by omega) (by omega), k5' i i0 (by omega)]
    exact b5 i i0 i1
  · rw [f2, ek 207 4 (by omega) (by omega)]
    exact k6.trans b6
  · rw [f3, ek 207 5 (by omega) (by omega)]
    exact k7.trans b7
  · rw [f4, ek 212 2 (by omega) (by omega), k8']
    exact a1
  · rw [f4] at j1
    rw [g4 (2 * j) (by omega) (by omega), g4 (2 * j + 1) (by omega) (by omega), ek 213 j (by omega) (by omega), ek 214 j (by omega) (by omega), (k9' j j0 (by omega)).1, (k9' j j0 (by omega)).2]
    exact a3 j j0 j1
  · rw [f5, ek 215 2 (by omega) (by omega), k10']
    exact p1
  · rw [f5] at j1
    rw [g5 (2 * j) (by omega) (by omega), g5 (2 * j + 1) (by omega) (by omega), ek 216 j (by omega) (by omega), ek 217 j (by omega) (by omega), (k11' j j0 (by omega)).1, (k11' j j0 (by omega)).2]
    exact ⟨(p3 j j0 j1).1, (p3 j j0 j1).2.1, (p3 j j0 j1).2.2.le (by omega)⟩
  · rw [f6, ek 218 2 (by omega) (by omega), k12']
    exact r1
  · rw [f6] at j1
    rw [g6 (2 * j) (by omega) (by omega), g6 (2 * j + 1) (by omega) (by omega), ek 219 j (by omega) (by omega), ek 220 j (by omega) (by omega), (k13' j j0 (by omega)).1, (k13' j j0 (by omega)).2]
    exact r3 j j0 j1
  · obtain ⟨⟨z1, z2⟩, ⟨z3, z4, z5, z6, z7⟩, z8⟩ := id h10
    refine ⟨⟨by rw [ew 307 32 (by omega)]; exact z1, by rw [ew 307 36 (by omega)]; exact z2⟩, ⟨fun j => ?_, fun j => by rw [ew 324 j (by omega)]; exact z4 j, fun j => by rw [ew 325 j (by omega)]; exact z5 j, fun j => by rw [ew 329 j (by omega)]; exact z6 j, fun j => by rw [ew 331 j (by omega)]; exact z7 j⟩, by rw [ew 64 4 (by omega)]; exact z8⟩
    by_cases c : 0 ≤ j ∧ j < 5
    · rw [g1 j c.1 c.2]
      exact (b1 j c.1 c.2).2
    · rw [g1o j (by omega)]
      exact z3 j
