/-! ===== the pair again: image (each side's last heap told by facts) ===== -/
theorem zx_image {d : Nat} {A : AHp} {z : Sg} {Q : Option AV → AHp → Prop} (hd : 4 ≤ d) (hX : XLAY A) (hM : MLAY A) (hz : KSZ (cl A z) 207) (hQ : ∀ w : Sg, (∀ o k, ¬ ((221 ≤ o ∧ o ≤ 234) ∨ (o = 60 ∧ k = 4)) → w o k = z o k) → w 60 4 = 1 → KEQ (cl A w) 221 (cl A z) 207 → Q (some (vi (z 64 1))) (cl A w)) : CALL d mX12_image [vr 60] (cl A z) (fun r B => MID A z B ∧ Q r B) := by
  refine x_image (A := cl A z) (Q := fun r B => MID A z B ∧ Q r B) hd hX hz ?_
  have hk1 := kcp_eq (A := cl A z) (a := 221) (b := 207) (by omega)
  have hko : ∀ o k, o < 221 ∨ 235 ≤ o → hv (kcp (cl A z) 221 207) o k = z o k := fun o k q => kcp_out (by omega)
  have e0 : ∃ K : Sg, kcp (cl A z) 221 207 = cl A K ∧ hv (kcp (cl A z) 221 207) = K := ⟨_, rfl, rfl⟩
  obtain ⟨K, e1, e2⟩ := e0
  rw [e2] at hko
  rw [e1] at hk1
  rw [e1, cl_set]
  clear e1 e2
  have w1 : ∀ o k, ¬ (o = 60 ∧ k = 4) → sset K 60 4 1 o k = K o k := fun o k q => if_neg q
  have w2 : sset K 60 4 1 60 4 = 1 := sset_e
  generalize sset K 60 4 1 = w at w1 w2 ⊢
  have hko2 : ∀ o k, ¬ ((221 ≤ o ∧ o ≤ 234) ∨ (o = 60 ∧ k = 4)) → w o k = z o k := fun o k q => (w1 o k (by omega)).trans (hko o k (by omega))
  refine ⟨mid_w hM (fun k => hko2 33 k (by omega)), hQ w hko2 w2 ?_⟩
  have e : ∀ o k, 221 ≤ o → hv (cl A w) o k = hv (cl A K) o k := fun o k q => w1 o k (by omega)
  unfold KEQ at hk1 ⊢
  simp (disch := omega) only [e]
  exact hk1
def CQ (w z : Sg) : Prop := ((∀ k, 0 ≤ k → k < 5 → w 345 k = z 320 k) ∧ (∀ k, 0 ≤ k → k < 3 → w 345 (5 + k) = z 321 k) ∧ (∀ k, 0 ≤ k → k < 60 → w 345 (8 + k) = z 332 k) ∧ (∀ k, 0 ≤ k → k < 10 → w 345 (68 + k) = z 339 k) ∧ (∀ k, 0 ≤ k → k < 20 → w 345 (78 + k) = z 341 k) ∧ ∀ k, 0 ≤ k → k < 16 → w 345 (98 + k) = z 342 k) ∧
  (w 345 114 = z 307 15 ∧ w 345 115 = z 307 39 ∧ w 345 116 = z 307 40 ∧ w 345 117 = z 307 41 ∧ w 345 118 = z 307 49 ∧ w 345 119 = z 307 52 ∧ w 345 120 = z 307 54)
theorem zc_image {d : Nat} {A : AHp} {z : Sg} {Q : Option AV → AHp → Prop} (hd : 2 ≤ d) (hM : MLAY A) (hQ : ∀ w : Sg, (∀ o k, ¬ (o = 345 ∨ o = 346 ∨ (o = 307 ∧ k = 58)) → w o k = z o k) → w 307 58 = 1 → CQ w z → Q (some (vi (z 307 12))) (cl A w)) : CALL d mX13_image [vr 307] (cl A z) (fun r B => KEP z B ∧ Q r B) := by
  refine c_image (A := cl A z) (Q := fun r B => KEP z B ∧ Q r B) hd hM ?_
  have so : ∀ o k, o ≠ 346 → hv (sngF (cl A z)) o k = z o k := fun o k q => sngF_out q
  obtain ⟨s0, s1, s2, s3, s4, s5, s6⟩ := sngF_in (A := cl A z)
  have e0 : ∃ K : Sg, sngF (cl A z) = cl A K ∧ hv (sngF (cl A z)) = K := ⟨_, rfl, rfl⟩
  obtain ⟨K, e1, e2⟩ := e0
  rw [e2] at so s0 s1 s2 s3 s4 s5 s6
  rw [e1]
  clear e1 e2
  have co : ∀ o k, o ≠ 345 → hv (carF (cl A K)) o k = K o k := fun o k q => carF_out q
  obtain ⟨c1, c2, c3, c4, c5, c6, c7⟩ := carF_in (A := cl A K)
  have e0 : ∃ L : Sg, carF (cl A K) = cl A L ∧ hv (carF (cl A K)) = L := ⟨_, rfl, rfl⟩
  obtain ⟨L, e1, e2⟩ := e0
  rw [e2] at co c1 c2 c3 c4 c5 c6 c7
  rw [e1, cl_set]
  clear e1 e2
  have w1 : ∀ o k, ¬ (o = 307 ∧ k = 58) → sset L 307 58 1 o k = L o k := fun o k q => if_neg q
  have w2 : sset L 307 58 1 307 58 = 1 := sset_e
  generalize sset L 307 58 1 = w at w1 w2 ⊢
  have w5 : ∀ k, w 345 k = L 345 k := fun k => w1 _ _ (by omega)
  have kz : ∀ o k, o ≠ 346 → hv (cl A K) o k = z o k := so
  have ez : ∀ o k, hv (cl A z) o k = z o k := fun _ _ => rfl
  have e6 : ∀ k, hv (cl A K) 346 k = K 346 k := fun _ => rfl
  have d : ∀ k, 0 ≤ k → k < 7 → w 345 (114 + k) = K 346 k := fun k a b => (w5 _).trans (c7 k a b)
  have hout : ∀ o k, ¬ (o = 345 ∨ o = 346 ∨ (o = 307 ∧ k = 58)) → w o k = z o k := fun o k q => (w1 o k (by omega)).trans ((co o k (by omega)).trans (so o k (by omega)))
  refine ⟨fun k => hout 33 k (by omega), hQ w hout w2 ⟨⟨?_, ?_, ?_, ?_, ?_, ?_⟩, ?_, ?_, ?_, ?_, ?_, ?_, ?_⟩⟩
  · exact fun k a b => (w5 _).trans ((c1 k a b).trans (kz _ _ (by omega)))
  · exact fun k a b => (w5 _).trans ((c2 k a b).trans (kz _ _ (by omega)))
  · exact fun k a b => (w5 _).trans ((c3 k a b).trans (kz _ _ (by omega)))
  · exact fun k a b => (w5 _).trans ((c4 k a b).trans (kz _ _ (by omega)))
  · exact fun k a b => (w5 _).trans ((c5 k a b).trans (kz _ _ (by omega)))
  · exact fun k a b => (w5 _).trans ((c6 k a b).trans (kz _ _ (by omega)))
  · exact (d 0 (by omega) (by omega)).trans (s0.trans (ez _ _))
  · exact (d 1 (by omega) (by omega)).trans (s1.trans (ez _ _))
  · exact (d 2 (by omega) (by omega)).trans (s2.trans (ez _ _))
  · exact (d 3 (by omega) (by omega)).trans (s3.trans (ez _ _))
  · exact (d 4 (by omega) (by omega)).trans (s4.trans (ez _ _))
  · exact (d 5 (by omega) (by omega)).trans (s5.trans (ez _ _))
  · exact (d 6 (by omega) (by omega)).trans (s6.trans (ez _ _))
theorem p2_image {A : AHp} {v : Sg} (h : RR A v) : PAIR2 A v mX12_image mX13_image [] := by
  obtain ⟨h0, h1, h2, h3, h4, h5, h6, h7, h8, h9, h10⟩ := id h
  have hX := h0.1.2.1
  have hM := h0.1.2.2
  unfold PAIR2
  refine zx_image (by omega) hX hM (RR.ksz h3 h4 h5 h6) (fun K hko x60 hk0 => ?_)
  refine zc_image (A := A) (z := K) (by omega) hM (fun W wo w58 hc => ?_)
  have hk1 := keq_n hk0
  clear hk0
  obtain ⟨k1, k2, k3, ⟨k4, k5⟩, ⟨k6, k7⟩, ⟨k8, k9⟩, ⟨k10, k11⟩, k12, k13⟩ := hk1
  obtain ⟨⟨c1, c2, c3, c4, c5, c6⟩, d0, d1, d2, d3, d4, d5, d6⟩ := hc
  have ew : ∀ o k, ¬ ((221 ≤ o ∧ o ≤ 234) ∨ (o = 60 ∧ k = 4) ∨ o = 345 ∨ o = 346 ∨ (o = 307 ∧ k = 58)) → W o k = v o k := fun o k q => (wo o k (by omega)).trans (hko o k (by omega))
  have wi : ∀ o k, 221 ≤ o → o ≤ 234 → W o k = K o k := fun o k q1 q2 => wo o k (by omega)
  have f0 : W 345 114 = v 307 15 := d0.trans (hko 307 15 (by omega))
  have f1 : W 345 115 = v 307 39 := d1.trans (hko 307 39 (by omega))
  have f2 : W 345 116 = v 307 40 := d2.trans (hko 307 40 (by omega))
  have f3 : W 345 117 = v 307 41 := d3.trans (hko 307 41 (by omega))
  have f4 : W 345 118 = v 307 49 := d4.trans (hko 307 49 (by omega))
  have f5 : W 345 119 = v 307 52 := d5.trans (hko 307 52 (by omega))
  have f6 : W 345 120 = v 307 54 := d6.trans (hko 307 54 (by omega))
  have g1 : ∀ k, 0 ≤ k → k < 5 → W 345 k = v 320 k := fun k a b => (c1 k a b).trans (hko _ _ (by omega))
  have g2 : ∀ k, 0 ≤ k → k < 3 → W 345 (5 + k) = v 321 k := fun k a b => (c2 k a b).trans (hko _ _ (by omega))
  have g3 : ∀ k, 0 ≤ k → k < 60 → W 345 (8 + k) = v 332 k := fun k a b => (c3 k a b).trans (hko _ _ (by omega))
  have g4 : ∀ k, 0 ≤ k → k < 10 → W 345 (68 + k) = v 339 k := fun k a b => (c4 k a b).trans (hko _ _ (by omega))
  have g5 : ∀ k, 0 ≤ k → k < 20 → W 345 (78 + k) = v 341 k := fun k a b => (c5 k a b).trans (hko _ _ (by omega))
  have g6 : ∀ k, 0 ≤ k → k < 16 → W 345 (98 + k) = v 342 k := fun k a b => (c6 k a b).trans (hko _ _ (by omega))
  have w60 : W 60 4 = 1 := (wo 60 4 (by omega)).trans x60
  have ea : K 307 12 = v 307 12 := hko 307 12 (by omega)
  have e64 : W 64 1 = v 64 1 := ew _ _ (by omega)
  clear d0 d1 d2 d3 d4 d5 d6 c1 c2 c3 c4 c5 c6 wo hko
  refine ⟨?_, A, W, rfl, ⟨h0.eq (fun o k q => ew o k (by unfold FP0 at q; omega)), h1.eq (fun o k q => ew o k (by unfold FP1 at q; omega)), h2.eq (fun o k q => ew o k (by unfold FP2 at q; omega)), h3.eq (fun o k q => ew o k (by unfold FP3 at q; omega)), h4.eq (fun o k q => ew o k (by unfold FP4 at q; omega)), h5.eq (fun o k q => ew o k (by unfold FP5 at q; omega)), h6.eq (fun o k q => ew o k (by unfold FP6 at q; omega)), ⟨by rw [w60, w58], Or.inr w60, fun _ => ?_⟩, h8.eq h1 (fun o k q => ew o k (by unfold FP8 at q; omega)) (fun o k q => ew o k (by unfold FP1 at q; omega)), h9.eq (fun o k q => ew o k (by unfold FP9 at q; omega)), h10.eq (fun o k q => ew o k (by unfold FP10 at q; omega))⟩, GRO.rf, by omega⟩
  · show some (vi (v 64 1)) = some (vi (K 307 12))
    rw [ea, h1.2.1]
  · obtain ⟨b1, b2, b3, b4, b5, b6, b7⟩ := id h3
    obtain ⟨a1, a2, a3⟩ := id h4
    obtain ⟨p1, p2, p3⟩ := id h5
    obtain ⟨r1, r2, r3⟩ := id h6
    have k4' : K 224 1 = v 210 1 := k4
    have k8' : K 226 2 = v 212 2 := k8
    have k10' : K 229 2 = v 215 2 := k10
    have k12' : K 232 2 = v 218 2 := k12
    have k5' : ∀ k, 0 ≤ k → k < v 210 1 → K 225 k = v 211 k := k5
    have k9' : ∀ k, 0 ≤ k → k < v 212 2 → K 227 k = v 213 k ∧ K 228 k = v 214 k := k9
    have k11' : ∀ k, 0 ≤ k → k < v 215 2 → K 230 k = v 216 k ∧ K 231 k = v 217 k := k11
    have k13' : ∀ k, 0 ≤ k → k < v 218 2 → K 233 k = v 219 k ∧ K 234 k = v 220 k := k13
    refine ⟨⟨fun n n0 n1 => ?_, fun f q0 q1 => ?_, ?_, ?_, fun i i0 i1 => ?_, ?_, ?_⟩, ⟨?_, by rw [f4]; exact a2, fun j j0 j1 => ?_⟩, ⟨?_, by rw [f5]; exact p2, fun j j0 j1 => ?_⟩, ?_, by rw [f6]; exact r2, fun j j0 j1 => ?_⟩
    · rw [g1 n n0 n1, wi 222 n (by omega) (by omega)]
      exact ⟨(k1 n n0 n1).trans (b1 n n0 n1), h10.2.1.1 n⟩
    · rw [g2 f q0 q1, wi 223 f (by omega) (by omega)]
      exact ⟨(k2 f q0 q1).trans (b2 f q0 q1).1, (b2 f q0 q1).2.le (by omega)⟩
    · rw [f0, wi 221 2 (by omega) (by omega)]
      exact ⟨k3.trans b3.1, b3.2.le (by omega)⟩
    · rw [f1, wi 224 1 (by omega) (by omega), k4']
      exact b4
    · rw [f1] at i1
      rw [g3 i i0 (by omega), wi 225 i (by omega) (by omega), k5' i i0 (by omega)]
      exact b5 i i0 i1
    · rw [f2, wi 221 4 (by omega) (by omega)]
      exact k6.trans b6
    · rw [f3, wi 221 5 (by omega) (by omega)]
      exact k7.trans b7
    · rw [f4, wi 226 2 (by omega) (by omega), k8']
      exact a1
    · rw [f4] at j1
      rw [g4 (2 * j) (by omega) (by omega), g4 (2 * j + 1) (by omega) (by omega), wi 227 j (by omega) (by omega), wi 228 j (by omega) (by omega), (k9' j j0 (by omega)).1, (k9' j j0 (by omega)).2]
      exact a3 j j0 j1
    · rw [f5, wi 229 2 (by omega) (by omega), k10']
      exact p1
    · rw [f5] at j1
      rw [g5 (2 * j) (by omega) (by omega), g5 (2 * j + 1) (by omega) (by omega), wi 230 j (by omega) (by omega), wi 231 j (by omega) (by omega), (k11' j j0 (by omega)).1, (k11' j j0 (by omega)).2]
      exact ⟨(p3 j j0 j1).1, (p3 j j0 j1).2.1, (p3 j j0 j1).2.2.le (by omega)⟩
    · rw [f6, wi 232 2 (by omega) (by omega), k12']
      exact r1
    · rw [f6] at j1
      rw [g6 (2 * j) (by omega) (by omega), g6 (2 * j + 1) (by omega) (by omega), wi 233 j (by omega) (by omega), wi 234 j (by omega) (by omega), (k13' j j0 (by omega)).1, (k13' j j0 (by omega)).2]
      exact r3 j j0 j1
