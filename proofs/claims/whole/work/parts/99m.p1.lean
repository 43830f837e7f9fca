/-! ===== the pairs again, keeping the script ===== -/
theorem p2_feed {A : AHp} {v : Sg} {s : Int} (h : RR A v) : PAIR2 A v mX12_feed mX13_feed [vi s] := by
  obtain ⟨h0, h1, h2, h3, h4, h5, h6, h7, h8, h9, h10⟩ := id h
  have hX := h0.1.2.1
  have hM := h0.1.2.2
  have hln := h1.1
  have hl12 := h1.2.1
  unfold PAIR2
  obtain ⟨a1, a2, a3⟩ := id h2
  refine zx_feed (by omega) hX hM (by omega) (fun q => ?_) (fun q1 q2 q3 => ?_) (fun q1 q2 q3 => ?_)
  · exact zc_feed (by omega) hM a2 (fun _ => ⟨rfl, A, v, rfl, h, GRO.rf, by omega⟩) (fun _ _ _ => by omega) (fun _ _ _ => by omega)
  · exact zc_feed (by omega) hM a2 (fun _ => by omega) (fun _ _ _ => ⟨rfl, A, v, rfl, h, GRO.rf, by omega⟩) (fun _ _ _ => by omega)
  · refine zc_feed (by omega) hM (by simp (disch := omega) only [sset_1, sset_2, sset_e]; exact a2) (fun _ => by omega) (fun _ _ q => by simp (disch := omega) only [sset_1, sset_2, sset_e] at q; omega) (fun _ _ _ => ?_)
    simp (disch := omega) only [sset_1, sset_2, sset_e]
    have e : ∀ o k, ¬ (o = 63 ∨ (o = 61 ∧ k = 2) ∨ o = 322 ∨ (o = 307 ∧ k = 17)) → (sset (sset (sset (sset v 63 (v 61 2) s) 61 2 (v 61 2 + 1)) 322 (v 307 17) s) 307 17 (v 307 17 + 1)) o k = v o k := fun o k q => by
      unfold sset
      rw [if_neg (by omega), if_neg (by omega), if_neg (by omega), if_neg (by omega)]
    have w1 : (sset (sset (sset (sset v 63 (v 61 2) s) 61 2 (v 61 2 + 1)) 322 (v 307 17) s) 307 17 (v 307 17 + 1)) 61 2 = v 61 2 + 1 := by simp (disch := omega) only [sset_1, sset_2, sset_e]
    have w2 : (sset (sset (sset (sset v 63 (v 61 2) s) 61 2 (v 61 2 + 1)) 322 (v 307 17) s) 307 17 (v 307 17 + 1)) 307 17 = v 307 17 + 1 := by simp (disch := omega) only [sset_1, sset_2, sset_e]
    have w3 : (sset (sset (sset (sset v 63 (v 61 2) s) 61 2 (v 61 2 + 1)) 322 (v 307 17) s) 307 17 (v 307 17 + 1)) 63 (v 61 2) = s := by simp (disch := omega) only [sset_1, sset_2, sset_e]
    have w4 : (sset (sset (sset (sset v 63 (v 61 2) s) 61 2 (v 61 2 + 1)) 322 (v 307 17) s) 307 17 (v 307 17 + 1)) 322 (v 307 17) = s := by simp (disch := omega) only [sset_1, sset_2, sset_e]
    have w5 : ∀ k, k ≠ v 61 2 → (sset (sset (sset (sset v 63 (v 61 2) s) 61 2 (v 61 2 + 1)) 322 (v 307 17) s) 307 17 (v 307 17 + 1)) 63 k = v 63 k := fun k hk => by simp (disch := omega) only [sset_1, sset_2, sset_e]
    have w6 : ∀ k, k ≠ v 307 17 → (sset (sset (sset (sset v 63 (v 61 2) s) 61 2 (v 61 2 + 1)) 322 (v 307 17) s) 307 17 (v 307 17 + 1)) 322 k = v 322 k := fun k hk => by simp (disch := omega) only [sset_1, sset_2, sset_e]
    generalize sset (sset (sset (sset v 63 (v 61 2) s) 61 2 (v 61 2 + 1)) 322 (v 307 17) s) 307 17 (v 307 17 + 1) = W at e w1 w2 w3 w4 w5 w6 ⊢
    refine ⟨by rw [a1], A, W, rfl, ⟨h0.eq (fun o k q => e o k (by unfold FP0 at q; omega)), h1.eq (fun o k q => e o k (by unfold FP1 at q; omega)), ?_, h3.eq (fun o k q => e o k (by unfold FP3 at q; omega)), h4.eq (fun o k q => e o k (by unfold FP4 at q; omega)), h5.eq (fun o k q => e o k (by unfold FP5 at q; omega)), h6.eq (fun o k q => e o k (by unfold FP6 at q; omega)), h7.eq (fun o k q => e o k (by unfold FP7 at q; omega)), h8.eq h1 (fun o k q => e o k (by unfold FP8 at q; omega)) (fun o k q => e o k (by unfold FP1 at q; omega)), h9.eq (fun o k q => e o k (by unfold FP9 at q; omega)), h10.eq (fun o k q => e o k (by unfold FP10 at q; omega))⟩, GRO.rf, by omega⟩
    · refine ⟨by rw [w1, w2, a1], by rw [w2]; omega, fun k k0 k1 => ?_⟩
      rw [w2] at k1
      by_cases c : k = v 307 17
      · have c2 : k = v 61 2 := by omega
        rw [c, w4, ← a1, w3]
        exact ⟨rfl, q1, q2⟩
      · rw [w5 k (by omega), w6 k c]
        exact a3 k k0 (by omega)
theorem p2_define {A : AHp} {v : Sg} {f l : Int} (h : RR A v) : PAIR2 A v mX12_define mX13_define [vi f, vi l] := by
  obtain ⟨h0, h1, h2, h3, h4, h5, h6, h7, h8, h9, h10⟩ := id h
  have hX := h0.1.2.1
  have hM := h0.1.2.2
  have hln := h1.1
  have hl12 := h1.2.1
  unfold PAIR2
  refine zx_define (by omega) hX hM hln (fun q => ?_) (fun q1 q2 q3 => ?_) (fun q1 q2 q3 q4 => ?_)
  · exact zc_define (by omega) hM (by omega) (fun _ => ⟨rfl, A, v, rfl, h, GRO.rf, by omega⟩) (fun _ _ _ => by omega) (fun _ _ _ _ => by omega)
  · refine zc_define (by omega) hM (by simp (disch := omega) only [sset_1, sset_2, sset_e]; omega) (fun q => by simp (disch := omega) only [sset_1, sset_2, sset_e] at q; omega) (fun _ _ _ => ?_) (fun _ _ _ _ => by omega)
    simp (disch := omega) only [sset_1, sset_2, sset_e]
    have h3f := (h3.2.1 f (by omega) (by omega)).1
    have e : ∀ o k, ¬ ((o = 209 ∨ o = 321) ∧ k = f) → (sset (sset v 209 f (-5)) 321 f (-5)) o k = v o k := fun o k q => by
      unfold sset
      rw [if_neg (by omega), if_neg (by omega)]
    have w1 : (sset (sset v 209 f (-5)) 321 f (-5)) 209 f = (-5) := by simp (disch := omega) only [sset_1, sset_2, sset_e]
    have w2 : (sset (sset v 209 f (-5)) 321 f (-5)) 321 f = (-5) := by simp (disch := omega) only [sset_1, sset_2, sset_e]
    have w3 : ∀ g, g ≠ f → (sset (sset v 209 f (-5)) 321 f (-5)) 209 g = v 209 g := fun g hg => by simp (disch := omega) only [sset_1, sset_2, sset_e]
    have w4 : ∀ g, g ≠ f → (sset (sset v 209 f (-5)) 321 f (-5)) 321 g = v 321 g := fun g hg => by simp (disch := omega) only [sset_1, sset_2, sset_e]
    generalize sset (sset v 209 f (-5)) 321 f (-5) = W at e w1 w2 w3 w4 ⊢
    refine ⟨by rw [h3f], A, W, rfl, ⟨h0.eq (fun o k q => e o k (by unfold FP0 at q; omega)), h1.eq (fun o k q => e o k (by unfold FP1 at q; omega)), h2.eq (fun o k q => e o k (by unfold FP2 at q; omega)), ?_, h4.eq (fun o k q => e o k (by unfold FP4 at q; omega)), h5.eq (fun o k q => e o k (by unfold FP5 at q; omega)), h6.eq (fun o k q => e o k (by unfold FP6 at q; omega)), h7.eq (fun o k q => e o k (by unfold FP7 at q; omega)), h8.eq h1 (fun o k q => e o k (by unfold FP8 at q; omega)) (fun o k q => e o k (by unfold FP1 at q; omega)), h9.eq (fun o k q => e o k (by unfold FP9 at q; omega)), h10.eq (fun o k q => e o k (by unfold FP10 at q; omega))⟩, GRO.rf, by omega⟩
    · obtain ⟨b1, b2, b3, b4, b5, b6, b7⟩ := id h3
      have e64 : W 64 1 = v 64 1 := e _ _ (by omega)
      refine ⟨fun n n0 n1 => by rw [e 208 n (by omega), e 320 n (by omega)]; exact b1 n n0 n1, fun g g0 g1 => ?_, ?_, ?_, fun i i0 i1 => ?_, ?_, ?_⟩
      · by_cases c : g = f
        · rw [c, w1, w2]
          refine ⟨rfl, ?_⟩
          unfold LNN
          omega
        · rw [w3 g c, w4 g c]
          exact ⟨(b2 g g0 g1).1, (b2 g g0 g1).2.le (by omega)⟩
      · rw [e 207 2 (by omega), e 307 15 (by omega)]; exact ⟨b3.1, b3.2.le (by omega)⟩
      · rw [e 210 1 (by omega), e 307 39 (by omega)]; exact b4
      · rw [e 307 39 (by omega)] at i1
        rw [e 211 i (by omega), e 332 i (by omega)]; exact b5 i i0 i1
      · rw [e 207 4 (by omega), e 307 40 (by omega)]; exact b6
      · rw [e 207 5 (by omega), e 307 41 (by omega)]; exact b7
  · refine zc_define (by omega) hM (by simp (disch := omega) only [sset_1, sset_2, sset_e]; omega) (fun q => by simp (disch := omega) only [sset_1, sset_2, sset_e] at q; omega) (fun _ _ _ => by omega) (fun _ _ _ _ => ?_)
    simp (disch := omega) only [sset_1, sset_2, sset_e]
    have h3f := (h3.2.1 f (by omega) (by omega)).1
    have e : ∀ o k, ¬ ((o = 209 ∨ o = 321) ∧ k = f) → (sset (sset v 209 f l) 321 f l) o k = v o k := fun o k q => by
      unfold sset
      rw [if_neg (by omega), if_neg (by omega)]
    have w1 : (sset (sset v 209 f l) 321 f l) 209 f = l := by simp (disch := omega) only [sset_1, sset_2, sset_e]
    have w2 : (sset (sset v 209 f l) 321 f l) 321 f = l := by simp (disch := omega) only [sset_1, sset_2, sset_e]
    have w3 : ∀ g, g ≠ f → (sset (sset v 209 f l) 321 f l) 209 g = v 209 g := fun g hg => by simp (disch := omega) only [sset_1, sset_2, sset_e]
    have w4 : ∀ g, g ≠ f → (sset (sset v 209 f l) 321 f l) 321 g = v 321 g := fun g hg => by simp (disch := omega) only [sset_1, sset_2, sset_e]
    generalize sset (sset v 209 f l) 321 f l = W at e w1 w2 w3 w4 ⊢
    refine ⟨by rw [h3f], A, W, rfl, ⟨h0.eq (fun o k q => e o k (by unfold FP0 at q; omega)), h1.eq (fun o k q => e o k (by unfold FP1 at q; omega)), h2.eq (fun o k q => e o k (by unfold FP2 at q; omega)), ?_, h4.eq (fun o k q => e o k (by unfold FP4 at q; omega)), h5.eq (fun o k q => e o k (by unfold FP5 at q; omega)), h6.eq (fun o k q => e o k (by unfold FP6 at q; omega)), h7.eq (fun o k q => e o k (by unfold FP7 at q; omega)), h8.eq h1 (fun o k q => e o k (by unfold FP8 at q; omega)) (fun o k q => e o k (by unfold FP1 at q; omega)), h9.eq (fun o k q => e o k (by unfold FP9 at q; omega)), h10.eq (fun o k q => e o k (by unfold FP10 at q; omega))⟩, GRO.rf, by omega⟩
    · obtain ⟨b1, b2, b3, b4, b5, b6, b7⟩ := id h3
      have e64 : W 64 1 = v 64 1 := e _ _ (by omega)
      refine ⟨fun n n0 n1 => by rw [e 208 n (by omega), e 320 n (by omega)]; exact b1 n n0 n1, fun g g0 g1 => ?_, ?_, ?_, fun i i0 i1 => ?_, ?_, ?_⟩
      · by_cases c : g = f
        · rw [c, w1, w2]
          refine ⟨rfl, ?_⟩
          unfold LNN
          omega
        · rw [w3 g c, w4 g c]
          exact ⟨(b2 g g0 g1).1, (b2 g g0 g1).2.le (by omega)⟩
      · rw [e 207 2 (by omega), e 307 15 (by omega)]; exact ⟨b3.1, b3.2.le (by omega)⟩
      · rw [e 210 1 (by omega), e 307 39 (by omega)]; exact b4
      · rw [e 307 39 (by omega)] at i1
        rw [e 211 i (by omega), e 332 i (by omega)]; exact b5 i i0 i1
      · rw [e 207 4 (by omega), e 307 40 (by omega)]; exact b6
      · rw [e 207 5 (by omega), e 307 41 (by omega)]; exact b7
theorem p2_trap {A : AHp} {v : Sg} {l : Int} (h : RR A v) : PAIR2 A v mX12_trap mX13_trap [vi l] := by
  obtain ⟨h0, h1, h2, h3, h4, h5, h6, h7, h8, h9, h10⟩ := id h
  have hX := h0.1.2.1
  have hM := h0.1.2.2
  have hln := h1.1
  have hl12 := h1.2.1
  unfold PAIR2
  refine zx_trap (by omega) hX hM hln (fun q => ?_) (fun q3 => ?_) (fun q3 q4 => ?_)
  · exact zc_trap (by omega) hM (by omega) (fun _ => ⟨rfl, A, v, rfl, h, GRO.rf, by omega⟩) (fun _ => by omega) (fun _ _ => by omega)
  · refine zc_trap (by omega) hM (by simp (disch := omega) only [sset_1, sset_2, sset_e]; omega) (fun q => by simp (disch := omega) only [sset_1, sset_2, sset_e] at q; omega) (fun _ => ?_) (fun _ _ => by omega)
    simp (disch := omega) only [sset_1, sset_2, sset_e]
    have e : ∀ o k, ¬ ((o = 207 ∧ k = 2) ∨ (o = 307 ∧ k = 15)) → (sset (sset v 207 2 (-5)) 307 15 (-5)) o k = v o k := fun o k q => by
      unfold sset
      rw [if_neg (by omega), if_neg (by omega)]
    have w1 : (sset (sset v 207 2 (-5)) 307 15 (-5)) 207 2 = (-5) := by simp (disch := omega) only [sset_1, sset_2, sset_e]
    have w2 : (sset (sset v 207 2 (-5)) 307 15 (-5)) 307 15 = (-5) := by simp (disch := omega) only [sset_1, sset_2, sset_e]
    generalize sset (sset v 207 2 (-5)) 307 15 (-5) = W at e w1 w2 ⊢
    refine ⟨by rw [h3.2.2.1.1], A, W, rfl, ⟨h0.eq (fun o k q => e o k (by unfold FP0 at q; omega)), h1.eq (fun o k q => e o k (by unfold FP1 at q; omega)), h2.eq (fun o k q => e o k (by unfold FP2 at q; omega)), ?_, h4.eq (fun o k q => e o k (by unfold FP4 at q; omega)), h5.eq (fun o k q => e o k (by unfold FP5 at q; omega)), h6.eq (fun o k q => e o k (by unfold FP6 at q; omega)), h7.eq (fun o k q => e o k (by unfold FP7 at q; omega)), h8.eq h1 (fun o k q => e o k (by unfold FP8 at q; omega)) (fun o k q => e o k (by unfold FP1 at q; omega)), h9.eq (fun o k q => e o k (by unfold FP9 at q; omega)), h10.eq (fun o k q => e o k (by unfold FP10 at q; omega))⟩, GRO.rf, by omega⟩
    · obtain ⟨b1, b2, b3, b4, b5, b6, b7⟩ := id h3
      have e64 : W 64 1 = v 64 1 := e _ _ (by omega)
      refine ⟨fun n n0 n1 => by rw [e 208 n (by omega), e 320 n (by omega)]; exact b1 n n0 n1, fun g g0 g1 => ?_, ?_, ?_, fun i i0 i1 => ?_, ?_, ?_⟩
      · rw [e 209 g (by omega), e 321 g (by omega)]
        exact ⟨(b2 g g0 g1).1, (b2 g g0 g1).2.le (by omega)⟩
      · rw [w1, w2]
        refine ⟨rfl, ?_⟩
        unfold LNN
        omega
      · rw [e 210 1 (by omega), e 307 39 (by omega)]; exact b4
      · rw [e 307 39 (by omega)] at i1
        rw [e 211 i (by omega), e 332 i (by omega)]; exact b5 i i0 i1
      · rw [e 207 4 (by omega), e 307 40 (by omega)]; exact b6
      · rw [e 207 5 (by omega), e 307 41 (by omega)]; exact b7
  · refine zc_trap (by omega) hM (by simp (disch := omega) only [sset_1, sset_2, sset_e]; omega) (fun q => by simp (disch := omega) only [sset_1, sset_2, sset_e] at q; omega) (fun _ => by omega) (fun _ _ => ?_)
    simp (disch := omega) only [sset_1, sset_2, sset_e]
    have e : ∀ o k, ¬ ((o = 207 ∧ k = 2) ∨ (o = 307 ∧ k = 15)) → (sset (sset v 207 2 l) 307 15 l) o k = v o k := fun o k q => by
      unfold sset
      rw [if_neg (by omega), if_neg (by omega)]
    have w1 : (sset (sset v 207 2 l) 307 15 l) 207 2 = l := by simp (disch := omega) only [sset_1, sset_2, sset_e]
    have w2 : (sset (sset v 207 2 l) 307 15 l) 307 15 = l := by simp (disch := omega) only [sset_1, sset_2, sset_e]
    generalize sset (sset v 207 2 l) 307 15 l = W at e w1 w2 ⊢
    refine ⟨by rw [h3.2.2.1.1], A, W, rfl, ⟨h0.eq (fun o k q => e o k (by unfold FP0 at q; omega)), h1.eq (fun o k q => e o k (by unfold FP1 at q; omega)), h2.eq (fun o k q => e o k (by unfold FP2 at q; omega)), ?_, h4.eq (fun o k q => e o k (by unfold FP4 at q; omega)), h5.eq (fun o k q => e o k (by unfold FP5 at q; omega)), h6.eq (fun o k q => e o k (by unfold FP6 at q; omega)), h7.eq (fun o k q => e o k (by unfold FP7 at q; omega)), h8.eq h1 (fun o k q => e o k (by unfold FP8 at q; omega)) (fun o k q => e o k (by unfold FP1 at q; omega)), h9.eq (fun o k q => e o k (by unfold FP9 at q; omega)), h10.eq (fun o k q => e o k (by unfold FP10 at q; omega))⟩, GRO.rf, by omega⟩
    · obtain ⟨b1, b2, b3, b4, b5, b6, b7⟩ := id h3
      have e64 : W 64 1 = v 64 1 := e _ _ (by omega)
      refine ⟨fun n n0 n1 => by rw [e 208 n (by omega), e 320 n (by omega)]; exact b1 n n0 n1, fun g g0 g1 => ?_, ?_, ?_, fun i i0 i1 => ?_, ?_, ?_⟩
      · rw [e 209 g (by omega), e 321 g (by omega)]
        exact ⟨(b2 g g0 g1).1, (b2 g g0 g1).2.le (by omega)⟩
      · rw [w1, w2]
        refine ⟨rfl, ?_⟩
        unfold LNN
        omega
      · rw [e 210 1 (by omega), e 307 39 (by omega)]; exact b4
      · rw [e 307 39 (by omega)] at i1
        rw [e 211 i (by omega), e 332 i (by omega)]; exact b5 i i0 i1
      · rw [e 207 4 (by omega), e 307 40 (by omega)]; exact b6
      · rw [e 207 5 (by omega), e 307 41 (by omega)]; exact b7
theorem p2_value {A : AHp} {v : Sg} {n x : Int} (h : RR A v) (hx : in32 x) : PAIR2 A v mX12_value mX13_value [vi n, vi x] := by
  obtain ⟨h0, h1, h2, h3, h4, h5, h6, h7, h8, h9, h10⟩ := id h
  have hX := h0.1.2.1
  have hM := h0.1.2.2
  have hln := h1.1
  have hl12 := h1.2.1
  unfold PAIR2
  refine zx_value (by omega) hX hM (fun q => ?_) (fun q1 q2 => ?_)
  · exact zc_value (by omega) hM (fun _ => ⟨rfl, A, v, rfl, h, GRO.rf, by omega⟩) (fun _ _ => by omega)
  · refine zc_value (by omega) hM (fun q => by omega) (fun _ _ => ?_)
    simp (disch := omega) only [sset_1, sset_2, sset_e]
    have h3n := h3.1 n (by omega) (by omega)
    have e : ∀ o k, ¬ ((o = 208 ∨ o = 320) ∧ k = n) → (sset (sset v 208 n x) 320 n x) o k = v o k := fun o k q => by
      unfold sset
      rw [if_neg (by omega), if_neg (by omega)]
    have w1 : (sset (sset v 208 n x) 320 n x) 208 n = x := by simp (disch := omega) only [sset_1, sset_2, sset_e]
    have w2 : (sset (sset v 208 n x) 320 n x) 320 n = x := by simp (disch := omega) only [sset_1, sset_2, sset_e]
    have w3 : ∀ g, g ≠ n → (sset (sset v 208 n x) 320 n x) 208 g = v 208 g := fun g hg => by simp (disch := omega) only [sset_1, sset_2, sset_e]
    have w4 : ∀ g, g ≠ n → (sset (sset v 208 n x) 320 n x) 320 g = v 320 g := fun g hg => by simp (disch := omega) only [sset_1, sset_2, sset_e]
    generalize sset (sset v 208 n x) 320 n x = W at e w1 w2 w3 w4 ⊢
    refine ⟨by rw [h3n], A, W, rfl, ⟨h0.eq (fun o k q => e o k (by unfold FP0 at q; omega)), h1.eq (fun o k q => e o k (by unfold FP1 at q; omega)), h2.eq (fun o k q => e o k (by unfold FP2 at q; omega)), ?_, h4.eq (fun o k q => e o k (by unfold FP4 at q; omega)), h5.eq (fun o k q => e o k (by unfold FP5 at q; omega)), h6.eq (fun o k q => e o k (by unfold FP6 at q; omega)), h7.eq (fun o k q => e o k (by unfold FP7 at q; omega)), h8.eq h1 (fun o k q => e o k (by unfold FP8 at q; omega)) (fun o k q => e o k (by unfold FP1 at q; omega)), h9.eq (fun o k q => e o k (by unfold FP9 at q; omega)), ?_⟩, GRO.rf, by omega⟩
    · obtain ⟨b1, b2, b3, b4, b5, b6, b7⟩ := id h3
      have e64 : W 64 1 = v 64 1 := e _ _ (by omega)
      refine ⟨fun g g0 g1 => ?_, fun g g0 g1 => ?_, ?_, ?_, fun i i0 i1 => ?_, ?_, ?_⟩
      · by_cases c : g = n
        · rw [c, w1, w2]
        · rw [w3 g c, w4 g c]; exact b1 g g0 g1
      · rw [e 209 g (by omega), e 321 g (by omega)]
        exact ⟨(b2 g g0 g1).1, (b2 g g0 g1).2.le (by omega)⟩
      · rw [e 207 2 (by omega), e 307 15 (by omega)]; exact ⟨b3.1, b3.2.le (by omega)⟩
      · rw [e 210 1 (by omega), e 307 39 (by omega)]; exact b4
      · rw [e 307 39 (by omega)] at i1
        rw [e 211 i (by omega), e 332 i (by omega)]; exact b5 i i0 i1
      · rw [e 207 4 (by omega), e 307 40 (by omega)]; exact b6
      · rw [e 207 5 (by omega), e 307 41 (by omega)]; exact b7
    · obtain ⟨⟨c1, c2⟩, ⟨c3, c4, c5, c6, c7⟩, c8⟩ := id h10
      refine ⟨⟨by rw [e 307 32 (by omega)]; exact c1, by rw [e 307 36 (by omega)]; exact c2⟩, ⟨fun j => ?_, fun j => by rw [e 324 j (by omega)]; exact c4 j, fun j => by rw [e 325 j (by omega)]; exact c5 j, fun j => by rw [e 329 j (by omega)]; exact c6 j, fun j => by rw [e 331 j (by omega)]; exact c7 j⟩, by rw [e 64 4 (by omega)]; exact c8⟩
      by_cases c : j = n
      · rw [c, w2]; exact hx
      · rw [w4 j c]; exact c3 j
theorem p2_told {A : AHp} {v : Sg} {w : Int} (h : RR A v) (hw : in32 w) : PAIR2 A v mX12_told mX13_told [vi w] := by
  obtain ⟨h0, h1, h2, h3, h4, h5, h6, h7, h8, h9, h10⟩ := id h
  have hX := h0.1.2.1
  have hM := h0.1.2.2
  have hln := h1.1
  have hl12 := h1.2.1
  unfold PAIR2
  obtain ⟨b1, b2, b3, b4, b5, b6, b7⟩ := id h3
  refine zx_told (by omega) hX hM (by omega) hw (fun q => ?_) (fun q => ?_) (fun q => ?_) (fun q1 q2 => ?_) (fun q1 q2 => ?_) (fun q => ?_) (fun q1 q2 => ?_) (fun q1 q2 q3 q4 q5 => ?_)
  · exact zc_told (by omega) hM b4.2 (fun _ => ⟨by rw [b4.1], A, v, rfl, h, GRO.rf, by omega⟩) (fun _ => by omega) (fun _ => by omega) (fun _ _ => by omega) (fun _ _ => by omega) (fun _ => by omega) (fun _ _ => by omega) (fun _ _ _ _ _ => by omega)
  · exact zc_told (by omega) hM b4.2 (fun _ => by omega) (fun _ => ⟨by rw [b6], A, v, rfl, h, GRO.rf, by omega⟩) (fun _ => by omega) (fun _ _ => by omega) (fun _ _ => by omega) (fun _ => by omega) (fun _ _ => by omega) (fun _ _ _ _ _ => by omega)
  · exact zc_told (by omega) hM b4.2 (fun _ => by omega) (fun _ => by omega) (fun _ => ⟨by rw [b7], A, v, rfl, h, GRO.rf, by omega⟩) (fun _ _ => by omega) (fun _ _ => by omega) (fun _ => by omega) (fun _ _ => by omega) (fun _ _ _ _ _ => by omega)
  · exact zc_told (by omega) hM b4.2 (fun _ => by omega) (fun _ => by omega) (fun _ => by omega) (fun _ _ => ⟨by rw [b1 _ (by omega) (by omega)], A, v, rfl, h, GRO.rf, by omega⟩) (fun _ _ => by omega) (fun _ => by omega) (fun _ _ => by omega) (fun _ _ _ _ _ => by omega)
  · exact zc_told (by omega) hM b4.2 (fun _ => by omega) (fun _ => by omega) (fun _ => by omega) (fun _ _ => by omega) (fun _ _ => ⟨by rw [(b2 _ (by omega) (by omega)).1], A, v, rfl, h, GRO.rf, by omega⟩) (fun _ => by omega) (fun _ _ => by omega) (fun _ _ _ _ _ => by omega)
  · exact zc_told (by omega) hM b4.2 (fun _ => by omega) (fun _ => by omega) (fun _ => by omega) (fun _ _ => by omega) (fun _ _ => by omega) (fun _ => ⟨by rw [b3.1], A, v, rfl, h, GRO.rf, by omega⟩) (fun _ _ => by omega) (fun _ _ _ _ _ => by omega)
  · exact zc_told (by omega) hM b4.2 (fun _ => by omega) (fun _ => by omega) (fun _ => by omega) (fun _ _ => by omega) (fun _ _ => by omega) (fun _ => by omega) (fun _ _ => ⟨by rw [b5 _ (by omega) (by omega)], A, v, rfl, h, GRO.rf, by omega⟩) (fun _ _ _ _ _ => by omega)
  · exact zc_told (by omega) hM b4.2 (fun _ => by omega) (fun _ => by omega) (fun _ => by omega) (fun _ _ => by omega) (fun _ _ => by omega) (fun _ => by omega) (fun _ _ => by omega) (fun _ _ _ _ _ => ⟨rfl, A, v, rfl, h, GRO.rf, by omega⟩)
theorem p2_see {A : AHp} {v : Sg} {p x : Int} (h : RR A v) (hx : in32 x) : PAIR2 A v mX12_see mX13_see [vi p, vi x] := by
  obtain ⟨h0, h1, h2, h3, h4, h5, h6, h7, h8, h9, h10⟩ := id h
  have hX := h0.1.2.1
  have hM := h0.1.2.2
  have hln := h1.1
  have hl12 := h1.2.1
  unfold PAIR2
  obtain ⟨a1, a2, a3⟩ := id h4
  refine zx_see (by omega) hX hM (by omega) (fun q => ?_) (fun q1 q2 => ?_) (fun q1 q2 q3 => ?_) (fun q1 q2 q3 => ?_)
  · refine zc_see (by omega) hM (by simp (disch := omega) only [sset_1, sset_2, sset_e]; exact a2) (fun _ => ?_) (fun _ _ => by omega) (fun _ _ _ => by omega) (fun _ _ _ => by omega)
    simp (disch := omega) only [sset_1, sset_2, sset_e]
    have e : ∀ o k, ¬ ((o = 212 ∧ k = 2) ∨ (o = 307 ∧ k = 49)) → (sset (sset v 212 2 0) 307 49 0) o k = v o k := fun o k q => by
      unfold sset
      rw [if_neg (by omega), if_neg (by omega)]
    have w1 : (sset (sset v 212 2 0) 307 49 0) 212 2 = 0 := by simp (disch := omega) only [sset_1, sset_2, sset_e]
    have w2 : (sset (sset v 212 2 0) 307 49 0) 307 49 = 0 := by simp (disch := omega) only [sset_1, sset_2, sset_e]
    generalize sset (sset v 212 2 0) 307 49 0 = W at e w1 w2 ⊢
    refine ⟨(by trivial), A, W, rfl, ⟨h0.eq (fun o k q => e o k (by unfold FP0 at q; omega)), h1.eq (fun o k q => e o k (by unfold FP1 at q; omega)), h2.eq (fun o k q => e o k (by unfold FP2 at q; omega)), h3.eq (fun o k q => e o k (by unfold FP3 at q; omega)), ?_, h5.eq (fun o k q => e o k (by unfold FP5 at q; omega)), h6.eq (fun o k q => e o k (by unfold FP6 at q; omega)), h7.eq (fun o k q => e o k (by unfold FP7 at q; omega)), h8.eq h1 (fun o k q => e o k (by unfold FP8 at q; omega)) (fun o k q => e o k (by unfold FP1 at q; omega)), h9.eq (fun o k q => e o k (by unfold FP9 at q; omega)), h10.eq (fun o k q => e o k (by unfold FP10 at q; omega))⟩, GRO.rf, by omega⟩
    · exact ⟨by rw [w1, w2], by rw [w2]; omega, fun j j0 j1 => by rw [w2] at j1; omega⟩
  · exact zc_see (by omega) hM a2 (fun _ => by omega) (fun _ _ => ⟨rfl, A, v, rfl, h, GRO.rf, by omega⟩) (fun _ _ _ => by omega) (fun _ _ _ => by omega)
  · exact zc_see (by omega) hM a2 (fun _ => by omega) (fun _ _ => by omega) (fun _ _ _ => ⟨rfl, A, v, rfl, h, GRO.rf, by omega⟩) (fun _ _ _ => by omega)
  · refine zc_see (by omega) hM (by simp (disch := omega) only [sset_1, sset_2, sset_e]; exact a2) (fun _ => by omega) (fun _ _ => by omega) (fun _ _ q => by simp (disch := omega) only [sset_1, sset_2, sset_e] at q; omega) (fun _ _ _ => ?_)
    simp (disch := omega) only [sset_1, sset_2, sset_e]
    have e : ∀ o k, ¬ (o = 213 ∨ o = 214 ∨ (o = 212 ∧ k = 2) ∨ o = 339 ∨ (o = 307 ∧ k = 49)) → (sset (sset (sset (sset (sset (sset v 213 (v 212 2) p) 214 (v 212 2) x) 212 2 (v 212 2 + 1)) 339 (2 * v 307 49) p) 339 (2 * v 307 49 + 1) x) 307 49 (v 307 49 + 1)) o k = v o k := fun o k q => by
      unfold sset
      rw [if_neg (by omega), if_neg (by omega), if_neg (by omega), if_neg (by omega), if_neg (by omega), if_neg (by omega)]
    have w1 : (sset (sset (sset (sset (sset (sset v 213 (v 212 2) p) 214 (v 212 2) x) 212 2 (v 212 2 + 1)) 339 (2 * v 307 49) p) 339 (2 * v 307 49 + 1) x) 307 49 (v 307 49 + 1)) 212 2 = v 212 2 + 1 := by simp (disch := omega) only [sset_1, sset_2, sset_e]
    have w2 : (sset (sset (sset (sset (sset (sset v 213 (v 212 2) p) 214 (v 212 2) x) 212 2 (v 212 2 + 1)) 339 (2 * v 307 49) p) 339 (2 * v 307 49 + 1) x) 307 49 (v 307 49 + 1)) 307 49 = v 307 49 + 1 := by simp (disch := omega) only [sset_1, sset_2, sset_e]
    have w3 : (sset (sset (sset (sset (sset (sset v 213 (v 212 2) p) 214 (v 212 2) x) 212 2 (v 212 2 + 1)) 339 (2 * v 307 49) p) 339 (2 * v 307 49 + 1) x) 307 49 (v 307 49 + 1)) 213 (v 212 2) = p := by simp (disch := omega) only [sset_1, sset_2, sset_e]
    have w4 : (sset (sset (sset (sset (sset (sset v 213 (v 212 2) p) 214 (v 212 2) x) 212 2 (v 212 2 + 1)) 339 (2 * v 307 49) p) 339 (2 * v 307 49 + 1) x) 307 49 (v 307 49 + 1)) 214 (v 212 2) = x := by simp (disch := omega) only [sset_1, sset_2, sset_e]
    have w5 : (sset (sset (sset (sset (sset (sset v 213 (v 212 2) p) 214 (v 212 2) x) 212 2 (v 212 2 + 1)) 339 (2 * v 307 49) p) 339 (2 * v 307 49 + 1) x) 307 49 (v 307 49 + 1)) 339 (2 * v 307 49) = p := by simp (disch := omega) only [sset_1, sset_2, sset_e]
    have w6 : (sset (sset (sset (sset (sset (sset v 213 (v 212 2) p) 214 (v 212 2) x) 212 2 (v 212 2 + 1)) 339 (2 * v 307 49) p) 339 (2 * v 307 49 + 1) x) 307 49 (v 307 49 + 1)) 339 (2 * v 307 49 + 1) = x := by simp (disch := omega) only [sset_1, sset_2, sset_e]
    have w7 : ∀ k, k ≠ v 212 2 → (sset (sset (sset (sset (sset (sset v 213 (v 212 2) p) 214 (v 212 2) x) 212 2 (v 212 2 + 1)) 339 (2 * v 307 49) p) 339 (2 * v 307 49 + 1) x) 307 49 (v 307 49 + 1)) 213 k = v 213 k := fun k hk => by simp (disch := omega) only [sset_1, sset_2, sset_e]
    have w8 : ∀ k, k ≠ v 212 2 → (sset (sset (sset (sset (sset (sset v 213 (v 212 2) p) 214 (v 212 2) x) 212 2 (v 212 2 + 1)) 339 (2 * v 307 49) p) 339 (2 * v 307 49 + 1) x) 307 49 (v 307 49 + 1)) 214 k = v 214 k := fun k hk => by simp (disch := omega) only [sset_1, sset_2, sset_e]
    have w9 : ∀ k, k ≠ 2 * v 307 49 → k ≠ 2 * v 307 49 + 1 → (sset (sset (sset (sset (sset (sset v 213 (v 212 2) p) 214 (v 212 2) x) 212 2 (v 212 2 + 1)) 339 (2 * v 307 49) p) 339 (2 * v 307 49 + 1) x) 307 49 (v 307 49 + 1)) 339 k = v 339 k := fun k hk hk2 => by simp (disch := omega) only [sset_1, sset_2, sset_e]
    generalize sset (sset (sset (sset (sset (sset v 213 (v 212 2) p) 214 (v 212 2) x) 212 2 (v 212 2 + 1)) 339 (2 * v 307 49) p) 339 (2 * v 307 49 + 1) x) 307 49 (v 307 49 + 1) = W at e w1 w2 w3 w4 w5 w6 w7 w8 w9 ⊢
    refine ⟨by rw [a1], A, W, rfl, ⟨h0.eq (fun o k q => e o k (by unfold FP0 at q; omega)), h1.eq (fun o k q => e o k (by unfold FP1 at q; omega)), h2.eq (fun o k q => e o k (by unfold FP2 at q; omega)), h3.eq (fun o k q => e o k (by unfold FP3 at q; omega)), ?_, h5.eq (fun o k q => e o k (by unfold FP5 at q; omega)), h6.eq (fun o k q => e o k (by unfold FP6 at q; omega)), h7.eq (fun o k q => e o k (by unfold FP7 at q; omega)), h8.eq h1 (fun o k q => e o k (by unfold FP8 at q; omega)) (fun o k q => e o k (by unfold FP1 at q; omega)), h9.eq (fun o k q => e o k (by unfold FP9 at q; omega)), h10.eq (fun o k q => e o k (by unfold FP10 at q; omega))⟩, GRO.rf, by omega⟩
    · refine ⟨by rw [w1, w2, a1], by rw [w2]; omega, fun j j0 j1 => ?_⟩
      rw [w2] at j1
      by_cases c : j = v 307 49
      · have c2 : v 307 49 = v 212 2 := by omega
        rw [c, w5, w6, c2, w3, w4]
        exact ⟨rfl, rfl, ⟨by omega, by omega⟩, hx⟩
      · rw [w7 j (by omega), w8 j (by omega), w9 (2 * j) (by omega) (by omega), w9 (2 * j + 1) (by omega) (by omega)]
        exact a3 j j0 (by omega)
theorem p2_plan {A : AHp} {v : Sg} {p x : Int} (h : RR A v) : PAIR2 A v mX12_plan mX13_plan [vi p, vi x] := by
  obtain ⟨h0, h1, h2, h3, h4, h5, h6, h7, h8, h9, h10⟩ := id h
  have hX := h0.1.2.1
  have hM := h0.1.2.2
  have hln := h1.1
  have hl12 := h1.2.1
  unfold PAIR2
  obtain ⟨a1, a2, a3⟩ := id h5
  refine zx_plan (by omega) hX hM hln (by omega) (fun q => ?_) (fun q1 q2 => ?_) (fun q1 q3 => ?_) (fun q1 q3 => ?_)
  · refine zc_plan (by omega) hM (by simp (disch := omega) only [sset_1, sset_2, sset_e]; omega) (by simp (disch := omega) only [sset_1, sset_2, sset_e]; exact a2) (fun _ => ?_) (fun _ _ => by omega) (fun q9 _ => by simp (disch := omega) only [sset_1, sset_2, sset_e] at q9; omega) (fun q9 _ => by simp (disch := omega) only [sset_1, sset_2, sset_e] at q9; omega)
    simp (disch := omega) only [sset_1, sset_2, sset_e]
    have e : ∀ o k, ¬ ((o = 215 ∧ k = 2) ∨ (o = 307 ∧ k = 52)) → (sset (sset v 215 2 0) 307 52 0) o k = v o k := fun o k q => by
      unfold sset
      rw [if_neg (by omega), if_neg (by omega)]
    have w1 : (sset (sset v 215 2 0) 307 52 0) 215 2 = 0 := by simp (disch := omega) only [sset_1, sset_2, sset_e]
    have w2 : (sset (sset v 215 2 0) 307 52 0) 307 52 = 0 := by simp (disch := omega) only [sset_1, sset_2, sset_e]
    generalize sset (sset v 215 2 0) 307 52 0 = W at e w1 w2 ⊢
    refine ⟨(by trivial), A, W, rfl, ⟨h0.eq (fun o k q => e o k (by unfold FP0 at q; omega)), h1.eq (fun o k q => e o k (by unfold FP1 at q; omega)), h2.eq (fun o k q => e o k (by unfold FP2 at q; omega)), h3.eq (fun o k q => e o k (by unfold FP3 at q; omega)), h4.eq (fun o k q => e o k (by unfold FP4 at q; omega)), ?_, h6.eq (fun o k q => e o k (by unfold FP6 at q; omega)), h7.eq (fun o k q => e o k (by unfold FP7 at q; omega)), h8.eq h1 (fun o k q => e o k (by unfold FP8 at q; omega)) (fun o k q => e o k (by unfold FP1 at q; omega)), h9.eq (fun o k q => e o k (by unfold FP9 at q; omega)), h10.eq (fun o k q => e o k (by unfold FP10 at q; omega))⟩, GRO.rf, by omega⟩
    · exact ⟨by rw [w1, w2], by rw [w2]; omega, fun j j0 j1 => by rw [w2] at j1; omega⟩
  · exact zc_plan (by omega) hM (by omega) a2 (fun _ => by omega) (fun _ _ => ⟨rfl, A, v, rfl, h, GRO.rf, by omega⟩) (fun _ _ => by omega) (fun _ _ => by omega)
  · exact zc_plan (by omega) hM (by omega) a2 (fun _ => by omega) (fun _ _ => by omega) (fun _ _ => ⟨rfl, A, v, rfl, h, GRO.rf, by omega⟩) (fun _ _ => by omega)
  · refine zc_plan (by omega) hM (by simp (disch := omega) only [sset_1, sset_2, sset_e]; omega) (by simp (disch := omega) only [sset_1, sset_2, sset_e]; exact a2) (fun _ => by omega) (fun _ q => by simp (disch := omega) only [sset_1, sset_2, sset_e] at q; omega) (fun _ q => by simp (disch := omega) only [sset_1, sset_2, sset_e] at q; omega) (fun _ _ => ?_)
    simp (disch := omega) only [sset_1, sset_2, sset_e]
    have e : ∀ o k, ¬ (o = 216 ∨ o = 217 ∨ (o = 215 ∧ k = 2) ∨ o = 341 ∨ (o = 307 ∧ k = 52)) → (sset (sset (sset (sset (sset (sset v 216 (v 215 2) p) 217 (v 215 2) x) 215 2 (v 215 2 + 1)) 341 (2 * v 307 52) p) 341 (2 * v 307 52 + 1) x) 307 52 (v 307 52 + 1)) o k = v o k := fun o k q => by
      unfold sset
      rw [if_neg (by omega), if_neg (by omega), if_neg (by omega), if_neg (by omega), if_neg (by omega), if_neg (by omega)]
    have w1 : (sset (sset (sset (sset (sset (sset v 216 (v 215 2) p) 217 (v 215 2) x) 215 2 (v 215 2 + 1)) 341 (2 * v 307 52) p) 341 (2 * v 307 52 + 1) x) 307 52 (v 307 52 + 1)) 215 2 = v 215 2 + 1 := by simp (disch := omega) only [sset_1, sset_2, sset_e]
    have w2 : (sset (sset (sset (sset (sset (sset v 216 (v 215 2) p) 217 (v 215 2) x) 215 2 (v 215 2 + 1)) 341 (2 * v 307 52) p) 341 (2 * v 307 52 + 1) x) 307 52 (v 307 52 + 1)) 307 52 = v 307 52 + 1 := by simp (disch := omega) only [sset_1, sset_2, sset_e]
    have w3 : (sset (sset (sset (sset (sset (sset v 216 (v 215 2) p) 217 (v 215 2) x) 215 2 (v 215 2 + 1)) 341 (2 * v 307 52) p) 341 (2 * v 307 52 + 1) x) 307 52 (v 307 52 + 1)) 216 (v 215 2) = p := by simp (disch := omega) only [sset_1, sset_2, sset_e]
    have w4 : (sset (sset (sset (sset (sset (sset v 216 (v 215 2) p) 217 (v 215 2) x) 215 2 (v 215 2 + 1)) 341 (2 * v 307 52) p) 341 (2 * v 307 52 + 1) x) 307 52 (v 307 52 + 1)) 217 (v 215 2) = x := by simp (disch := omega) only [sset_1, sset_2, sset_e]
    have w5 : (sset (sset (sset (sset (sset (sset v 216 (v 215 2) p) 217 (v 215 2) x) 215 2 (v 215 2 + 1)) 341 (2 * v 307 52) p) 341 (2 * v 307 52 + 1) x) 307 52 (v 307 52 + 1)) 341 (2 * v 307 52) = p := by simp (disch := omega) only [sset_1, sset_2, sset_e]
    have w6 : (sset (sset (sset (sset (sset (sset v 216 (v 215 2) p) 217 (v 215 2) x) 215 2 (v 215 2 + 1)) 341 (2 * v 307 52) p) 341 (2 * v 307 52 + 1) x) 307 52 (v 307 52 + 1)) 341 (2 * v 307 52 + 1) = x := by simp (disch := omega) only [sset_1, sset_2, sset_e]
    have w7 : ∀ k, k ≠ v 215 2 → (sset (sset (sset (sset (sset (sset v 216 (v 215 2) p) 217 (v 215 2) x) 215 2 (v 215 2 + 1)) 341 (2 * v 307 52) p) 341 (2 * v 307 52 + 1) x) 307 52 (v 307 52 + 1)) 216 k = v 216 k := fun k hk => by simp (disch := omega) only [sset_1, sset_2, sset_e]
    have w8 : ∀ k, k ≠ v 215 2 → (sset (sset (sset (sset (sset (sset v 216 (v 215 2) p) 217 (v 215 2) x) 215 2 (v 215 2 + 1)) 341 (2 * v 307 52) p) 341 (2 * v 307 52 + 1) x) 307 52 (v 307 52 + 1)) 217 k = v 217 k := fun k hk => by simp (disch := omega) only [sset_1, sset_2, sset_e]
    have w9 : ∀ k, k ≠ 2 * v 307 52 → k ≠ 2 * v 307 52 + 1 → (sset (sset (sset (sset (sset (sset v 216 (v 215 2) p) 217 (v 215 2) x) 215 2 (v 215 2 + 1)) 341 (2 * v 307 52) p) 341 (2 * v 307 52 + 1) x) 307 52 (v 307 52 + 1)) 341 k = v 341 k := fun k hk hk2 => by simp (disch := omega) only [sset_1, sset_2, sset_e]
    have w0 : (sset (sset (sset (sset (sset (sset v 216 (v 215 2) p) 217 (v 215 2) x) 215 2 (v 215 2 + 1)) 341 (2 * v 307 52) p) 341 (2 * v 307 52 + 1) x) 307 52 (v 307 52 + 1)) 64 1 = v 64 1 := by simp (disch := omega) only [sset_1, sset_2, sset_e]
    generalize sset (sset (sset (sset (sset (sset v 216 (v 215 2) p) 217 (v 215 2) x) 215 2 (v 215 2 + 1)) 341 (2 * v 307 52) p) 341 (2 * v 307 52 + 1) x) 307 52 (v 307 52 + 1) = W at e w1 w2 w3 w4 w5 w6 w7 w8 w9 w0 ⊢
    refine ⟨by rw [a1], A, W, rfl, ⟨h0.eq (fun o k q => e o k (by unfold FP0 at q; omega)), h1.eq (fun o k q => e o k (by unfold FP1 at q; omega)), h2.eq (fun o k q => e o k (by unfold FP2 at q; omega)), h3.eq (fun o k q => e o k (by unfold FP3 at q; omega)), h4.eq (fun o k q => e o k (by unfold FP4 at q; omega)), ?_, h6.eq (fun o k q => e o k (by unfold FP6 at q; omega)), h7.eq (fun o k q => e o k (by unfold FP7 at q; omega)), h8.eq h1 (fun o k q => e o k (by unfold FP8 at q; omega)) (fun o k q => e o k (by unfold FP1 at q; omega)), h9.eq (fun o k q => e o k (by unfold FP9 at q; omega)), h10.eq (fun o k q => e o k (by unfold FP10 at q; omega))⟩, GRO.rf, by omega⟩
    · refine ⟨by rw [w1, w2, a1], by rw [w2]; omega, fun j j0 j1 => ?_⟩
      rw [w2] at j1
      by_cases c : j = v 307 52
      · have c2 : v 307 52 = v 215 2 := by omega
        rw [c, w5, w6, c2, w3, w4]
        refine ⟨rfl, rfl, ?_⟩
        unfold PLV
        rw [w0]
        exact q1
      · rw [w7 j (by omega), w8 j (by omega), w9 (2 * j) (by omega) (by omega), w9 (2 * j + 1) (by omega) (by omega)]
        exact ⟨(a3 j j0 (by omega)).1, (a3 j j0 (by omega)).2.1, (a3 j j0 (by omega)).2.2.le (by omega)⟩
theorem p2_book {A : AHp} {v : Sg} {p x : Int} (h : RR A v) : PAIR2 A v mX12_book mX13_book [vi p, vi x] := by
  obtain ⟨h0, h1, h2, h3, h4, h5, h6, h7, h8, h9, h10⟩ := id h
  have hX := h0.1.2.1
  have hM := h0.1.2.2
  have hln := h1.1
  have hl12 := h1.2.1
  unfold PAIR2
  obtain ⟨a1, a2, a3⟩ := id h6
  refine zx_book (by omega) hX hM (by omega) (fun q => ?_) (fun q1 q2 => ?_) (fun q1 q2 q3 => ?_) (fun q1 q2 q3 => ?_)
  · refine zc_book (by omega) hM (by simp (disch := omega) only [sset_1, sset_2, sset_e]; exact a2) (fun _ => ?_) (fun _ _ => by omega) (fun _ _ _ => by omega) (fun _ _ _ => by omega)
    simp (disch := omega) only [sset_1, sset_2, sset_e]
    have e : ∀ o k, ¬ ((o = 218 ∧ k = 2) ∨ (o = 307 ∧ k = 54)) → (sset (sset v 218 2 0) 307 54 0) o k = v o k := fun o k q => by
      unfold sset
      rw [if_neg (by omega), if_neg (by omega)]
    have w1 : (sset (sset v 218 2 0) 307 54 0) 218 2 = 0 := by simp (disch := omega) only [sset_1, sset_2, sset_e]
    have w2 : (sset (sset v 218 2 0) 307 54 0) 307 54 = 0 := by simp (disch := omega) only [sset_1, sset_2, sset_e]
    generalize sset (sset v 218 2 0) 307 54 0 = W at e w1 w2 ⊢
    refine ⟨(by trivial), A, W, rfl, ⟨h0.eq (fun o k q => e o k (by unfold FP0 at q; omega)), h1.eq (fun o k q => e o k (by unfold FP1 at q; omega)), h2.eq (fun o k q => e o k (by unfold FP2 at q; omega)), h3.eq (fun o k q => e o k (by unfold FP3 at q; omega)), h4.eq (fun o k q => e o k (by unfold FP4 at q; omega)), h5.eq (fun o k q => e o k (by unfold FP5 at q; omega)), ?_, h7.eq (fun o k q => e o k (by unfold FP7 at q; omega)), h8.eq h1 (fun o k q => e o k (by unfold FP8 at q; omega)) (fun o k q => e o k (by unfold FP1 at q; omega)), h9.eq (fun o k q => e o k (by unfold FP9 at q; omega)), h10.eq (fun o k q => e o k (by unfold FP10 at q; omega))⟩, GRO.rf, by omega⟩
    · exact ⟨by rw [w1, w2], by rw [w2]; omega, fun j j0 j1 => by rw [w2] at j1; omega⟩
  · exact zc_book (by omega) hM a2 (fun _ => by omega) (fun _ _ => ⟨rfl, A, v, rfl, h, GRO.rf, by omega⟩) (fun _ _ _ => by omega) (fun _ _ _ => by omega)
  · exact zc_book (by omega) hM a2 (fun _ => by omega) (fun _ _ => by omega) (fun _ _ _ => ⟨rfl, A, v, rfl, h, GRO.rf, by omega⟩) (fun _ _ _ => by omega)
  · refine zc_book (by omega) hM (by simp (disch := omega) only [sset_1, sset_2, sset_e]; exact a2) (fun _ => by omega) (fun _ _ => by omega) (fun _ _ q => by simp (disch := omega) only [sset_1, sset_2, sset_e] at q; omega) (fun _ _ _ => ?_)
    simp (disch := omega) only [sset_1, sset_2, sset_e]
    have e : ∀ o k, ¬ (o = 219 ∨ o = 220 ∨ (o = 218 ∧ k = 2) ∨ o = 342 ∨ (o = 307 ∧ k = 54)) → (sset (sset (sset (sset (sset (sset v 219 (v 218 2) p) 220 (v 218 2) x) 218 2 (v 218 2 + 1)) 342 (2 * v 307 54) p) 342 (2 * v 307 54 + 1) x) 307 54 (v 307 54 + 1)) o k = v o k := fun o k q => by
      unfold sset
      rw [if_neg (by omega), if_neg (by omega), if_neg (by omega), if_neg (by omega), if_neg (by omega), if_neg (by omega)]
    have w1 : (sset (sset (sset (sset (sset (sset v 219 (v 218 2) p) 220 (v 218 2) x) 218 2 (v 218 2 + 1)) 342 (2 * v 307 54) p) 342 (2 * v 307 54 + 1) x) 307 54 (v 307 54 + 1)) 218 2 = v 218 2 + 1 := by simp (disch := omega) only [sset_1, sset_2, sset_e]
    have w2 : (sset (sset (sset (sset (sset (sset v 219 (v 218 2) p) 220 (v 218 2) x) 218 2 (v 218 2 + 1)) 342 (2 * v 307 54) p) 342 (2 * v 307 54 + 1) x) 307 54 (v 307 54 + 1)) 307 54 = v 307 54 + 1 := by simp (disch := omega) only [sset_1, sset_2, sset_e]
    have w3 : (sset (sset (sset (sset (sset (sset v 219 (v 218 2) p) 220 (v 218 2) x) 218 2 (v 218 2 + 1)) 342 (2 * v 307 54) p) 342 (2 * v 307 54 + 1) x) 307 54 (v 307 54 + 1)) 219 (v 218 2) = p := by simp (disch := omega) only [sset_1, sset_2, sset_e]
    have w4 : (sset (sset (sset (sset (sset (sset v 219 (v 218 2) p) 220 (v 218 2) x) 218 2 (v 218 2 + 1)) 342 (2 * v 307 54) p) 342 (2 * v 307 54 + 1) x) 307 54 (v 307 54 + 1)) 220 (v 218 2) = x := by simp (disch := omega) only [sset_1, sset_2, sset_e]
    have w5 : (sset (sset (sset (sset (sset (sset v 219 (v 218 2) p) 220 (v 218 2) x) 218 2 (v 218 2 + 1)) 342 (2 * v 307 54) p) 342 (2 * v 307 54 + 1) x) 307 54 (v 307 54 + 1)) 342 (2 * v 307 54) = p := by simp (disch := omega) only [sset_1, sset_2, sset_e]
    have w6 : (sset (sset (sset (sset (sset (sset v 219 (v 218 2) p) 220 (v 218 2) x) 218 2 (v 218 2 + 1)) 342 (2 * v 307 54) p) 342 (2 * v 307 54 + 1) x) 307 54 (v 307 54 + 1)) 342 (2 * v 307 54 + 1) = x := by simp (disch := omega) only [sset_1, sset_2, sset_e]
    have w7 : ∀ k, k ≠ v 218 2 → (sset (sset (sset (sset (sset (sset v 219 (v 218 2) p) 220 (v 218 2) x) 218 2 (v 218 2 + 1)) 342 (2 * v 307 54) p) 342 (2 * v 307 54 + 1) x) 307 54 (v 307 54 + 1)) 219 k = v 219 k := fun k hk => by simp (disch := omega) only [sset_1, sset_2, sset_e]
    have w8 : ∀ k, k ≠ v 218 2 → (sset (sset (sset (sset (sset (sset v 219 (v 218 2) p) 220 (v 218 2) x) 218 2 (v 218 2 + 1)) 342 (2 * v 307 54) p) 342 (2 * v 307 54 + 1) x) 307 54 (v 307 54 + 1)) 220 k = v 220 k := fun k hk => by simp (disch := omega) only [sset_1, sset_2, sset_e]
    have w9 : ∀ k, k ≠ 2 * v 307 54 → k ≠ 2 * v 307 54 + 1 → (sset (sset (sset (sset (sset (sset v 219 (v 218 2) p) 220 (v 218 2) x) 218 2 (v 218 2 + 1)) 342 (2 * v 307 54) p) 342 (2 * v 307 54 + 1) x) 307 54 (v 307 54 + 1)) 342 k = v 342 k := fun k hk hk2 => by simp (disch := omega) only [sset_1, sset_2, sset_e]
    generalize sset (sset (sset (sset (sset (sset v 219 (v 218 2) p) 220 (v 218 2) x) 218 2 (v 218 2 + 1)) 342 (2 * v 307 54) p) 342 (2 * v 307 54 + 1) x) 307 54 (v 307 54 + 1) = W at e w1 w2 w3 w4 w5 w6 w7 w8 w9 ⊢
    refine ⟨by rw [a1], A, W, rfl, ⟨h0.eq (fun o k q => e o k (by unfold FP0 at q; omega)), h1.eq (fun o k q => e o k (by unfold FP1 at q; omega)), h2.eq (fun o k q => e o k (by unfold FP2 at q; omega)), h3.eq (fun o k q => e o k (by unfold FP3 at q; omega)), h4.eq (fun o k q => e o k (by unfold FP4 at q; omega)), h5.eq (fun o k q => e o k (by unfold FP5 at q; omega)), ?_, h7.eq (fun o k q => e o k (by unfold FP7 at q; omega)), h8.eq h1 (fun o k q => e o k (by unfold FP8 at q; omega)) (fun o k q => e o k (by unfold FP1 at q; omega)), h9.eq (fun o k q => e o k (by unfold FP9 at q; omega)), h10.eq (fun o k q => e o k (by unfold FP10 at q; omega))⟩, GRO.rf, by omega⟩
    · refine ⟨by rw [w1, w2, a1], by rw [w2]; omega, fun j j0 j1 => ?_⟩
      rw [w2] at j1
      by_cases c : j = v 307 54
      · have c2 : v 307 54 = v 218 2 := by omega
        rw [c, w5, w6, c2, w3, w4]
        exact ⟨rfl, rfl, by omega, by omega⟩
      · rw [w7 j (by omega), w8 j (by omega), w9 (2 * j) (by omega) (by omega), w9 (2 * j + 1) (by omega) (by omega)]
        exact a3 j j0 (by omega)
theorem p2_looked {A : AHp} {v : Sg} (h : RR A v) : PAIR2 A v mX12_looked mX13_looked [] := by
  obtain ⟨h0, h1, h2, h3, h4, h5, h6, h7, h8, h9, h10⟩ := id h
  have hX := h0.1.2.1
  have hM := h0.1.2.2
  have hln := h1.1
  have hl12 := h1.2.1
  unfold PAIR2
  obtain ⟨a1, a2, a3⟩ := id h6
  have ej : ∀ j, 0 ≤ j → j < v 307 54 → v 208 (v 219 j) = v 320 (v 342 (2 * j)) ∧ v 220 j = v 342 (2 * j + 1) := fun j j0 j1 => by
    obtain ⟨c1, c2, c3, c4⟩ := a3 j j0 j1
    rw [c1, c2]
    exact ⟨h3.1 _ c3 (by omega), rfl⟩
  refine zx_looked (by omega) hX hM (by omega) (fun j j0 j1 => by rw [(a3 j j0 (by omega)).1]; exact (a3 j j0 (by omega)).2.2) (fun k k0 k1 q1 q2 => ?_) (fun q => ?_)
  · rw [(ej k k0 (by omega)).1, (ej k k0 (by omega)).2] at q2
    have q1' : ∀ j, 0 ≤ j → j < k → v 320 (v 342 (2 * j)) = v 342 (2 * j + 1) := fun j j0 j1 => by
      rw [← (ej j j0 (by omega)).1, ← (ej j j0 (by omega)).2]
      exact q1 j j0 j1
    refine zc_looked (by omega) hM a2 (fun j j0 j1 => (a3 j j0 j1).2.2) (fun k2 k20 k21 z1 z2 => ?_) (fun z => absurd (z k k0 (by omega)) q2)
    have ek : k2 = k := by
      rcases Int.lt_trichotomy k2 k with c | c | c
      · exact absurd (q1' k2 k20 c) z2
      · exact c
      · exact absurd (z1 k k0 c) q2
    subst ek
    exact ⟨rfl, A, v, rfl, h, GRO.rf, by omega⟩
  · have q' : ∀ j, 0 ≤ j → j < v 307 54 → v 320 (v 342 (2 * j)) = v 342 (2 * j + 1) := fun j j0 j1 => by
      rw [← (ej j j0 j1).1, ← (ej j j0 j1).2]
      exact q j j0 (by omega)
    exact zc_looked (by omega) hM a2 (fun j j0 j1 => (a3 j j0 j1).2.2) (fun k2 k20 k21 z1 z2 => absurd (q' k2 k20 k21) z2) (fun _ => ⟨rfl, A, v, rfl, h, GRO.rf, by omega⟩)
theorem p2_count {A : AHp} {v : Sg} {w : Int} (h : RR A v) : PAIR2 A v mX12_count mX13_count [vi w] := by
  obtain ⟨h0, h1, h2, h3, h4, h5, h6, h7, h8, h9, h10⟩ := id h
  have hX := h0.1.2.1
  have hM := h0.1.2.2
  have hln := h1.1
  have hl12 := h1.2.1
  unfold PAIR2
  have ej : ∀ j, 0 ≤ j → j < 4 → (if v 264 j ≠ -5 then (1 : Int) else 0) = if 0 ≤ v 333 j then 1 else 0 := fun j j0 j1 => by
    rcases h8 j j0 j1 with ⟨c1, c2⟩ | ⟨c1, c2, _⟩
    · rw [c1, c2, if_neg (by omega), if_neg (by omega)]
    · rw [c2, if_pos (by omega), if_pos (by omega)]
  refine zx_count (by omega) hX hM (fun q => ?_) (fun q n hn9 => ?_) (fun q => ?_) (fun q => ?_) (fun q => ?_) (fun q => ?_) (fun q => ?_)
  · exact zc_count (by omega) hM (fun _ => ⟨by rw [hl12], A, v, rfl, h, GRO.rf, by omega⟩) (fun _ _ _ => by omega) (fun _ => by omega) (fun _ => by omega) (fun _ => by omega) (fun _ => by omega) (fun _ => by omega)
  · exact zc_count (by omega) hM (fun _ => by omega) (fun _ n2 hn2 => ⟨by rw [hn9, hn2, ej 0 (by omega) (by omega), ej 1 (by omega) (by omega), ej 2 (by omega) (by omega), ej 3 (by omega) (by omega)], A, v, rfl, h, GRO.rf, by omega⟩) (fun _ => by omega) (fun _ => by omega) (fun _ => by omega) (fun _ => by omega) (fun _ => by omega)
  · exact zc_count (by omega) hM (fun _ => by omega) (fun _ _ _ => by omega) (fun _ => ⟨by rw [h4.1], A, v, rfl, h, GRO.rf, by omega⟩) (fun _ => by omega) (fun _ => by omega) (fun _ => by omega) (fun _ => by omega)
  · exact zc_count (by omega) hM (fun _ => by omega) (fun _ _ _ => by omega) (fun _ => by omega) (fun _ => ⟨by rw [h5.1], A, v, rfl, h, GRO.rf, by omega⟩) (fun _ => by omega) (fun _ => by omega) (fun _ => by omega)
  · exact zc_count (by omega) hM (fun _ => by omega) (fun _ _ _ => by omega) (fun _ => by omega) (fun _ => by omega) (fun _ => ⟨by rw [h6.1], A, v, rfl, h, GRO.rf, by omega⟩) (fun _ => by omega) (fun _ => by omega)
  · exact zc_count (by omega) hM (fun _ => by omega) (fun _ _ _ => by omega) (fun _ => by omega) (fun _ => by omega) (fun _ => by omega) (fun _ => ⟨by rw [h2.1], A, v, rfl, h, GRO.rf, by omega⟩) (fun _ => by omega)
  · exact zc_count (by omega) hM (fun _ => by omega) (fun _ _ _ => by omega) (fun _ => by omega) (fun _ => by omega) (fun _ => by omega) (fun _ => by omega) (fun _ => ⟨rfl, A, v, rfl, h, GRO.rf, by omega⟩)

