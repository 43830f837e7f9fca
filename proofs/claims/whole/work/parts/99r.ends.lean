/-! ===== the pairs again: ends ===== -/
theorem p2_ends {A : AHp} {v : Sg} {name : Int} (h : RR A v) : PAIR2 A v mX12_ends mX13_ends [vi name] := by
  obtain ⟨h0, h1, h2, h3, h4, h5, h6, h7, h8, h9, h10⟩ := id h
  have hX := h0.1.2.1
  have hM := h0.1.2.2
  obtain ⟨a1, a2, a3⟩ := id h5
  have hcc : (((v 307 52).toNat : Nat) : Int) = v 307 52 := by omega
  have f52 : ∀ i : Nat, (i : Int) ≤ v 307 52 → famE v i 307 52 = v 307 52 ∧ ∀ k, famE v i 341 k = v 341 k := fun i hi => ⟨(famE_ok h i hi).1.1 _ _ (by unfold TC2; omega), fun k => (famE_ok h i hi).1.1 _ _ (by unfold TC2; omega)⟩
  have hstp : ∀ i : Nat, (i : Int) < v 307 52 → endStep 139 (famE v i) (v 341 (2 * (i : Int))) (v 341 (2 * (i : Int) + 1)) = some (famE v (i + 1)) ∧ ∀ z, EZ v z (famE v i) → CALL 899 mX12_carryOut [vr 60, vi (v 341 (2 * (i : Int))), vi (v 341 (2 * (i : Int) + 1))] (cl A z) (fun r B => ∃ u, r = none ∧ B = cl A u ∧ EZ v u (famE v (i + 1))) := fun i hi => by
    obtain ⟨j1, j2⟩ := famE_ok h i (by omega)
    obtain ⟨s', g1, g2, g3⟩ := end_step h j1 (a3 (i : Int) (by omega) hi).2.2 j2
    have e : famE v (i + 1) = s' := by
      show (endStep 139 (famE v i) (v 341 (2 * (i : Int))) (v 341 (2 * (i : Int) + 1))).getD v = s'
      rw [g1]
      rfl
    rw [e]
    exact ⟨g1, g3⟩
  unfold PAIR2
  refine x_ends (c := (v 307 52).toNat) (Inv := fun i z => EZ v z (famE v i)) (by omega) hX ((CZI.rf h).ksz h) (by omega) (fun q => ?_) ?_ (fun i z hi hz => ⟨?_, fun hi2 => ?_⟩) (fun q1 q2 z hz => ?_)
  · refine ⟨mid_z hM ((CZI.rf h)), ?_⟩
    rw [lift_z (CZI.rf h)]
    exact c_ends (n := 139) (by omega) hM hMinC (fun _ => ⟨fun _ => rfl, rfl, A, v, (lift_z (CZI.rf h)).symm, h, GRO.rf, by omega⟩) (fun _ _ => by omega)
  · obtain ⟨k1, k2, k3, k4⟩ := kcv_f (A := A) (z := v) (ko := 235) (by omega)
    have s0 : ∀ o k, o ≠ 343 → o ≠ 344 → famE v 0 o k = v o k := fun o k q1 q2 => by
      show scpy (scpy v 320 0 343 0 5) 321 0 344 0 3 o k = v o k
      rw [scpy_n (by omega), scpy_n (by omega)]
    refine ⟨⟨fun o k q => k4 o k (by omega), by rw [k4 64 4 (by omega)]; exact h10.2.2⟩, fun n n0 n1 => ?_, fun f f0 f1 => ?_, ?_, ?_⟩
    · rw [s0 _ _ (by omega) (by omega)]; exact (k1 n n0 n1).trans (h3.1 n n0 n1)
    · rw [s0 _ _ (by omega) (by omega)]; exact ⟨(k2 f f0 f1).trans (h3.2.1 f f0 f1).1, (h3.2.1 f f0 f1).2⟩
    · rw [s0 _ _ (by omega) (by omega)]; exact k3.trans h3.2.2.1.1
    · rw [s0 _ _ (by omega) (by omega)]; exact h3.2.2.1.2
  · rw [hz.1.1 215 2 (by omega), a1, hcc]
  · obtain ⟨b1, b2, b3⟩ := a3 (i : Int) (by omega) (by omega)
    rw [hz.1.1 216 i (by omega), hz.1.1 217 i (by omega), b1, b2]
    exact (hstp i (by omega)).2 z hz
  · refine ⟨mid_z hM (hz.1), ?_⟩
    rw [lift_z hz.1]
    obtain ⟨⟨j1, ⟨⟨x2, x3, x4, x5, x6, x7⟩, x8⟩, j3, j4⟩, _⟩ := famE_ok h (v 307 52).toNat (by omega)
    refine c_ends (n := 139) (by omega) hM hMinC (fun _ => by omega) (fun _ _ => ⟨(v 307 52).toNat, famE v, rfl, by omega, fun i hi => by rw [(f52 i (by omega)).1, hcc], fun i hi => ?_, fun i hi => by rw [(f52 i (by omega)).2, (f52 i (by omega)).2]; exact (hstp i (by omega)).1, ?_⟩)
    · rw [(f52 i (by omega)).2, (f52 i (by omega)).2]
      have hp9 := (a3 (i : Int) (by omega) (by omega)).2.2
      have hl8 := h1.1.2
      unfold PLV at hp9
      refine ⟨by omega, by omega, fun q => by omega, fun q => by omega, fun q => by omega⟩
    · have t0 : ∀ o k, ¬ (o = 320 ∨ o = 321 ∨ (o = 307 ∧ k = 15)) → (sset (scpy (scpy (famE v (v 307 52).toNat) 343 0 320 0 5) 344 0 321 0 3) 307 15 (v 307 15)) o k = famE v (v 307 52).toNat o k := fun o k q => by
        rw [sset_ne (by omega), scpy_n (by omega), scpy_n (by omega)]
      have t15 : (sset (scpy (scpy (famE v (v 307 52).toNat) 343 0 320 0 5) 344 0 321 0 3) 307 15 (v 307 15)) 307 15 = v 307 15 := sset_e
      have t20 : ∀ n, 0 ≤ n → n < 5 → (sset (scpy (scpy (famE v (v 307 52).toNat) 343 0 320 0 5) 344 0 321 0 3) 307 15 (v 307 15)) 320 n = v 320 n := fun n n0 n1 => by
        rw [sset_1 (by omega), scpy_n (by omega), scpy_i (by omega), show (0 : Int) + (n - 0) = n by omega]
        exact j3 n n0 n1
      have t20o : ∀ n, n < 0 ∨ 5 ≤ n → (sset (scpy (scpy (famE v (v 307 52).toNat) 343 0 320 0 5) 344 0 321 0 3) 307 15 (v 307 15)) 320 n = famE v (v 307 52).toNat 320 n := fun n n0 => by
        rw [sset_1 (by omega), scpy_n (by omega), scpy_n (by omega)]
      have t21 : ∀ f, (sset (scpy (scpy (famE v (v 307 52).toNat) 343 0 320 0 5) 344 0 321 0 3) 307 15 (v 307 15)) 321 f = v 321 f := fun f => by
        by_cases c : 0 ≤ f ∧ f < 3
        · rw [sset_1 (by omega), scpy_i (by omega), scpy_n (by omega), show (0 : Int) + (f - 0) = f by omega]
          exact j4 f c.1 c.2
        · rw [sset_1 (by omega), scpy_n (by omega), scpy_n (by omega)]
          exact j1 _ _ (by unfold TC2; omega)
      generalize sset (scpy (scpy (famE v (v 307 52).toNat) 343 0 320 0 5) 344 0 321 0 3) 307 15 (v 307 15) = t at t0 t15 t20 t20o t21 ⊢
      refine ⟨fun _ => rfl, ?_, A, liftV z t, lift_cl, h.cz hz.1 ⟨fun o k q => ?_, ⟨?_, ?_, fun j => ?_, fun j => ?_, fun j => ?_, fun j => ?_⟩, fun j => ?_⟩ t20, GRO.rf, by omega⟩
      · rw [hz.2.1 name q1 (by omega)]
      · by_cases c : o = 321
        · rw [c]; exact t21 k
        · by_cases c2 : o = 307 ∧ k = 15
          · rw [c2.1, c2.2]; exact t15
          · rw [t0 o k (fun w => q (by unfold TC2; omega))]
            exact j1 o k (fun w => by
              rcases w with w | w | w | w | w | w | w
              · exact q (Or.inl w)
              · exact q (Or.inr (Or.inl w))
              · exact q (Or.inr (Or.inr (Or.inl w)))
              · exact q (Or.inr (Or.inr (Or.inr (Or.inl w))))
              · exact q (Or.inr (Or.inr (Or.inr (Or.inr w))))
              · exact c w.1
              · exact c2 w)
      · rw [t0 _ _ (by omega)]; exact x2
      · rw [t0 _ _ (by omega)]; exact x3
      · by_cases c : 0 ≤ j ∧ j < 5
        · rw [t20 j c.1 c.2]; exact h10.2.1.1 j
        · rw [t20o j (by omega)]; exact x4 j
      · rw [t0 _ _ (by omega)]; exact x5 j
      · rw [t0 _ _ (by omega)]; exact x6 j
      · rw [t0 _ _ (by omega)]; exact x7 j
      · rw [t0 _ _ (by omega)]; exact x8 j

