/-! ===== the pairs again, keeping the script ===== -/
theorem mid_rf {A : AHp} {v : Sg} (hM : MLAY A) : MID A v (cl A v) := ⟨⟨rfl, rfl, fun _ => rfl⟩, MO hM⟩
theorem p2_of {A : AHp} {v : Sg} {l w : Int} (h : RR A v) (hw : in32 w) : PAIR2 A v mX12_of mX13_of [vi l, vi w] := by
  obtain ⟨h0, h1, h2, h3, h4, h5, h6, h7, h8, h9, h10⟩ := id h
  have hX := h0.1.2.1
  have hM := h0.1.2.2
  have hln := h1.1
  have hl12 := h1.2.1
  unfold PAIR2
  have hL := h1.2.2.2
  have hC : 0 ≤ l → l < v 307 12 → CH v (fun _ => True) 60 (v 309 (60 * l)) := fun a b => CHR.ch (fun po p q => ⟨q.1.pw.2.1.2.1, trivial⟩) (hL l a (by omega)).now
  refine x_of (by omega) hX hln (fun j j0 j1 => (hL j j0 j1).1.1) (fun q => ?_) (fun q1 q2 q3 => ?_) (fun q1 q2 q3 => ?_) (fun q1 q2 q3 => ?_)
  · refine ⟨mid_rf hM, ?_⟩
    exact c_of (by omega) hM (by omega) hw hC (fun _ => ⟨fun _ => rfl, rfl, A, v, rfl, h, GRO.rf, by omega⟩) (fun _ _ _ => by omega) (fun _ _ _ => by omega) (fun _ _ _ => by omega)
  · have e1 := ((hL l q1 q2).2 A v v (old_rfl A) (fun _ _ _ _ => rfl) (fun _ _ _ => rfl)).2
    refine ⟨mid_rf hM, ?_⟩
    exact c_of (by omega) hM (by omega) hw hC (fun _ => by omega) (fun _ _ _ => ⟨fun _ => rfl, by rw [e1], A, v, rfl, h, GRO.rf, by omega⟩) (fun _ _ _ => by omega) (fun _ _ _ => by omega)
  · have e1 := (hL l q1 q2).1.2.2.1
    refine ⟨mid_rf hM, ?_⟩
    exact c_of (by omega) hM (by omega) hw hC (fun _ => by omega) (fun _ _ _ => by omega) (fun _ _ _ => ⟨fun _ => rfl, by rw [e1], A, v, rfl, h, GRO.rf, by omega⟩) (fun _ _ _ => by omega)
  · have e1 := (hL l q1 q2).1.2.2.2
    refine ⟨mid_rf hM, ?_⟩
    exact c_of (by omega) hM (by omega) hw hC (fun _ => by omega) (fun _ _ _ => by omega) (fun _ _ _ => by omega) (fun _ _ _ => ⟨fun _ => rfl, by rw [e1], A, v, rfl, h, GRO.rf, by omega⟩)
theorem p2_read {A : AHp} {v : Sg} {t i : Int} (h : RR A v) : PAIR2 A v mX12_read mX13_read [vi t, vi i] := by
  obtain ⟨h0, h1, h2, h3, h4, h5, h6, h7, h8, h9, h10⟩ := id h
  have hX := h0.1.2.1
  have hM := h0.1.2.2
  have hln := h1.1
  have hl12 := h1.2.1
  unfold PAIR2
  have tz : ∀ t, 0 ≤ t → t ≤ 5 → 0 ≤ v 348 t ∧ v 348 t ≤ 60 := fun t t0 t1 => (h9 t t0 t1).2.2.2.1
  have t0z : ∀ t, 0 ≤ t → t ≤ 5 → v (295 + 2 * t) 0 = v 347 t := fun t t0 t1 => (h9 t t0 t1).1
  have t1z : ∀ t, 0 ≤ t → t ≤ 5 → v (295 + 2 * t) 1 = v 348 t := fun t t0 t1 => (h9 t t0 t1).2.1
  have tsz : ∀ t, 0 ≤ t → t ≤ 5 → 0 ≤ v (295 + 2 * t) 1 ∧ v (295 + 2 * t) 1 ≤ 60 := fun t t0 t1 => by rw [t1z t t0 t1]; exact tz t t0 t1
  have tso : ∀ t, 0 ≤ t → t ≤ 5 → -1 ≤ v (295 + 2 * t) 0 ∧ v (295 + 2 * t) 0 ≤ 4 := fun t t0 t1 => by rw [t0z t t0 t1]; exact (h9 t t0 t1).2.2.1
  have hTP := h0.2.2.1
  refine zx_read (by omega) hX hM hTP tsz (fun q => ?_) (fun q1 q2 q3 q4 => ?_)
  · refine zc_read (by omega) hM tz (fun _ => ⟨rfl, A, v, rfl, h, GRO.rf, by omega⟩) (fun z1 z2 z3 z4 => ?_)
    have := t1z t z1 z2
    omega
  · have e1 := t1z t q1 q2
    have e2 := (h9 t q1 q2).2.2.2.2.2 i q3 (by have := tz t q1 q2; omega)
    exact zc_read (by omega) hM tz (fun _ => by omega) (fun _ _ _ _ => ⟨by rw [e2], A, v, rfl, h, GRO.rf, by omega⟩)
theorem p2_item {A : AHp} {v : Sg} {t i x : Int} (h : RR A v) : PAIR2 A v mX12_item mX13_item [vi t, vi i, vl x] := by
  obtain ⟨h0, h1, h2, h3, h4, h5, h6, h7, h8, h9, h10⟩ := id h
  have hX := h0.1.2.1
  have hM := h0.1.2.2
  have hln := h1.1
  have hl12 := h1.2.1
  unfold PAIR2
  have tz : ∀ t, 0 ≤ t → t ≤ 5 → 0 ≤ v 348 t ∧ v 348 t ≤ 60 := fun t t0 t1 => (h9 t t0 t1).2.2.2.1
  have t0z : ∀ t, 0 ≤ t → t ≤ 5 → v (295 + 2 * t) 0 = v 347 t := fun t t0 t1 => (h9 t t0 t1).1
  have t1z : ∀ t, 0 ≤ t → t ≤ 5 → v (295 + 2 * t) 1 = v 348 t := fun t t0 t1 => (h9 t t0 t1).2.1
  have tsz : ∀ t, 0 ≤ t → t ≤ 5 → 0 ≤ v (295 + 2 * t) 1 ∧ v (295 + 2 * t) 1 ≤ 60 := fun t t0 t1 => by rw [t1z t t0 t1]; exact tz t t0 t1
  have tso : ∀ t, 0 ≤ t → t ≤ 5 → -1 ≤ v (295 + 2 * t) 0 ∧ v (295 + 2 * t) 0 ≤ 4 := fun t t0 t1 => by rw [t0z t t0 t1]; exact (h9 t t0 t1).2.2.1
  have hTP := h0.2.2.1
  have e0 : 0 ≤ t → t ≤ 5 → v (295 + 2 * t) 0 = v 347 t := t0z t
  have e1 : 0 ≤ t → t ≤ 5 → v (295 + 2 * t) 1 = v 348 t := t1z t
  refine zx_item (by omega) hX hM hTP tsz tso (fun q => ?_) (fun q1 q2 q3 => ?_) (fun q1 q2 q3 q4 => ?_) (fun q1 q2 q3 q4 q5 => ?_)
  · exact zc_item (by omega) hM tz (fun _ => ⟨rfl, A, v, rfl, h, GRO.rf, by omega⟩) (fun _ _ _ => by omega) (fun _ _ _ _ => by omega) (fun _ _ _ _ _ => by omega)
  · have e0 := e0 q1 q2
    exact zc_item (by omega) hM tz (fun _ => by omega) (fun _ _ _ => ⟨rfl, A, v, rfl, h, GRO.rf, by omega⟩) (fun _ _ _ _ => by omega) (fun _ _ _ _ _ => by omega)
  · have e0 := e0 q1 q2
    have e1 := e1 q1 q2
    exact zc_item (by omega) hM tz (fun _ => by omega) (fun _ _ _ => by omega) (fun _ _ _ _ => ⟨rfl, A, v, rfl, h, GRO.rf, by omega⟩) (fun _ _ _ _ _ => by omega)
  · have f0 := e0 q1 q2
    have f1 := e1 q1 q2
    have htz := tz t q1 q2
    rw [f0]
    refine zc_item (by omega) hM (fun t2 g0 g1 => by simp (disch := omega) only [sset_1, sset_2, sset_e]; exact tz t2 g0 g1) (fun _ => by omega) (fun _ _ z => by simp (disch := omega) only [sset_1, sset_2, sset_e] at z; omega) (fun _ _ _ z => by simp (disch := omega) only [sset_1, sset_2, sset_e] at z; omega) (fun _ _ _ _ _ => ?_)
    simp (disch := omega) only [sset_1, sset_2, sset_e]
    have e : ∀ o k, ¬ ((o = 295 + 2 * t + 1 ∧ k = i) ∨ (o = 349 ∧ k = 60 * t + i)) → (sset (sset v (295 + 2 * t + 1) i (lowB (v 347 t) x)) 349 (60 * t + i) (lowB (v 347 t) x)) o k = v o k := fun o k q => by
      unfold sset
      rw [if_neg (by omega), if_neg (by omega)]
    have w1 : (sset (sset v (295 + 2 * t + 1) i (lowB (v 347 t) x)) 349 (60 * t + i) (lowB (v 347 t) x)) (295 + 2 * t + 1) i = lowB (v 347 t) x := by simp (disch := omega) only [sset_1, sset_2, sset_e]
    have w2 : (sset (sset v (295 + 2 * t + 1) i (lowB (v 347 t) x)) 349 (60 * t + i) (lowB (v 347 t) x)) 349 (60 * t + i) = lowB (v 347 t) x := by simp (disch := omega) only [sset_1, sset_2, sset_e]
    have w3 : ∀ k, k ≠ i → (sset (sset v (295 + 2 * t + 1) i (lowB (v 347 t) x)) 349 (60 * t + i) (lowB (v 347 t) x)) (295 + 2 * t + 1) k = v (295 + 2 * t + 1) k := fun k hk => by simp (disch := omega) only [sset_1, sset_2, sset_e]
    generalize sset (sset v (295 + 2 * t + 1) i (lowB (v 347 t) x)) 349 (60 * t + i) (lowB (v 347 t) x) = W at e w1 w2 w3 ⊢
    refine ⟨by trivial, A, W, rfl, ⟨h0.eq (fun o k q => e o k (by unfold FP0 at q; omega)), h1.eq (fun o k q => e o k (by unfold FP1 at q; omega)), h2.eq (fun o k q => e o k (by unfold FP2 at q; omega)), h3.eq (fun o k q => e o k (by unfold FP3 at q; omega)), h4.eq (fun o k q => e o k (by unfold FP4 at q; omega)), h5.eq (fun o k q => e o k (by unfold FP5 at q; omega)), h6.eq (fun o k q => e o k (by unfold FP6 at q; omega)), h7.eq (fun o k q => e o k (by unfold FP7 at q; omega)), h8.eq h1 (fun o k q => e o k (by unfold FP8 at q; omega)) (fun o k q => e o k (by unfold FP1 at q; omega)), ?_, h10.eq (fun o k q => e o k (by unfold FP10 at q; omega))⟩, GRO.rf, by omega⟩
    · intro t2 g0 g1
      obtain ⟨d1, d2, d3, d4, d5, d6⟩ := h9 t2 g0 g1
      by_cases c : t2 = t
      · subst c
        refine ⟨by rw [e _ _ (by omega), e 347 t2 (by omega)]; exact d1, by rw [e _ _ (by omega), e 348 t2 (by omega)]; exact d2, by rw [e 347 t2 (by omega)]; exact d3, by rw [e 348 t2 (by omega)]; exact d4, fun z => ?_, fun i2 i0 i1 => ?_⟩
        · rw [e 347 t2 (by omega)] at z
          rw [e 348 t2 (by omega)]
          exact d5 z
        · by_cases c2 : i2 = i
          · rw [c2, w1, w2]
          · rw [w3 i2 c2, e 349 (60 * t2 + i2) (by omega)]
            exact d6 i2 i0 i1
      · refine ⟨by rw [e _ _ (by omega), e 347 t2 (by omega)]; exact d1, by rw [e _ _ (by omega), e 348 t2 (by omega)]; exact d2, by rw [e 347 t2 (by omega)]; exact d3, by rw [e 348 t2 (by omega)]; exact d4, fun z => ?_, fun i2 i0 i1 => ?_⟩
        · rw [e 347 t2 (by omega)] at z
          rw [e 348 t2 (by omega)]
          exact d5 z
        · rw [e _ _ (by omega), e 349 (60 * t2 + i2) (by omega)]
          exact d6 i2 i0 i1
theorem p2_tape {A : AHp} {v : Sg} {t s n : Int} (h : RR A v) : PAIR2 A v mX12_tape mX13_tape [vi t, vi s, vi n] := by
  obtain ⟨h0, h1, h2, h3, h4, h5, h6, h7, h8, h9, h10⟩ := id h
  have hX := h0.1.2.1
  have hM := h0.1.2.2
  have hln := h1.1
  have hl12 := h1.2.1
  unfold PAIR2
  have tz : ∀ t, 0 ≤ t → t ≤ 5 → 0 ≤ v 348 t ∧ v 348 t ≤ 60 := fun t t0 t1 => (h9 t t0 t1).2.2.2.1
  have t0z : ∀ t, 0 ≤ t → t ≤ 5 → v (295 + 2 * t) 0 = v 347 t := fun t t0 t1 => (h9 t t0 t1).1
  have t1z : ∀ t, 0 ≤ t → t ≤ 5 → v (295 + 2 * t) 1 = v 348 t := fun t t0 t1 => (h9 t t0 t1).2.1
  have tsz : ∀ t, 0 ≤ t → t ≤ 5 → 0 ≤ v (295 + 2 * t) 1 ∧ v (295 + 2 * t) 1 ≤ 60 := fun t t0 t1 => by rw [t1z t t0 t1]; exact tz t t0 t1
  have tso : ∀ t, 0 ≤ t → t ≤ 5 → -1 ≤ v (295 + 2 * t) 0 ∧ v (295 + 2 * t) 0 ≤ 4 := fun t t0 t1 => by rw [t0z t t0 t1]; exact (h9 t t0 t1).2.2.1
  have hTP := h0.2.2.1
  refine zx_tape (by omega) hX hM hTP (fun t g0 g1 => (tsz t g0 g1).1) (fun q => ?_) (fun q1 q2 q3 => ?_) (fun q1 q2 q3 q4 q5 q6 => ?_) (fun q1 q2 q3 => ?_) (fun q1 q2 q3 q4 q5 q6 => ?_)
  · exact zc_tape (by omega) hM (fun _ => ⟨rfl, A, v, rfl, h, GRO.rf, by omega⟩) (fun _ _ _ => by omega) (fun _ _ _ _ _ _ => by omega) (fun _ _ _ => by omega) (fun _ _ _ _ _ _ => by omega)
  · exact zc_tape (by omega) hM (fun _ => by omega) (fun _ _ _ => ⟨rfl, A, v, rfl, h, GRO.rf, by omega⟩) (fun _ _ _ _ _ _ => by omega) (fun _ _ _ => by omega) (fun _ _ _ _ _ _ => by omega)
  · exact zc_tape (by omega) hM (fun _ => by omega) (fun _ _ _ => by omega) (fun _ _ _ _ _ _ => ⟨rfl, A, v, rfl, h, GRO.rf, by omega⟩) (fun _ _ _ => by omega) (fun _ _ _ _ _ _ => by omega)
  · subst q3
    refine zc_tape (by omega) hM (fun _ => by omega) (fun _ _ _ => by omega) (fun _ _ _ _ _ _ => by omega) (fun _ _ _ => ?_) (fun _ _ _ _ _ _ => by omega)
    have e : ∀ o k, ¬ ((o = 295 + 2 * t ∧ (k = 0 ∨ k = 1)) ∨ (o = 295 + 2 * t + 1) ∨ ((o = 347 ∨ o = 348) ∧ k = t) ∨ (o = 349 ∧ 60 * t ≤ k ∧ k < 60 * t + 60)) → (sfil (sset (sset (sfil (sset (sset v (295 + 2 * t) 0 (-1)) (295 + 2 * t) 1 0) (295 + 2 * t + 1) 0 60 0) 347 t (-1)) 348 t 0) 349 (60 * t) 60 0) o k = v o k := fun o k q => by
      rw [sfil_o (by omega), sset_ne (by omega), sset_ne (by omega), sfil_o (by omega), sset_ne (by omega), sset_ne (by omega)]
    have w1 : (sfil (sset (sset (sfil (sset (sset v (295 + 2 * t) 0 (-1)) (295 + 2 * t) 1 0) (295 + 2 * t + 1) 0 60 0) 347 t (-1)) 348 t 0) 349 (60 * t) 60 0) (295 + 2 * t) 0 = (-1) := by simp (disch := omega) only [sset_1, sset_2, sset_e, sfil_o, sfil_i]
    have w2 : (sfil (sset (sset (sfil (sset (sset v (295 + 2 * t) 0 (-1)) (295 + 2 * t) 1 0) (295 + 2 * t + 1) 0 60 0) 347 t (-1)) 348 t 0) 349 (60 * t) 60 0) 347 t = (-1) := by simp (disch := omega) only [sset_1, sset_2, sset_e, sfil_o, sfil_i]
    have w3 : (sfil (sset (sset (sfil (sset (sset v (295 + 2 * t) 0 (-1)) (295 + 2 * t) 1 0) (295 + 2 * t + 1) 0 60 0) 347 t (-1)) 348 t 0) 349 (60 * t) 60 0) (295 + 2 * t) 1 = 0 := by simp (disch := omega) only [sset_1, sset_2, sset_e, sfil_o, sfil_i]
    have w4 : (sfil (sset (sset (sfil (sset (sset v (295 + 2 * t) 0 (-1)) (295 + 2 * t) 1 0) (295 + 2 * t + 1) 0 60 0) 347 t (-1)) 348 t 0) 349 (60 * t) 60 0) 348 t = 0 := by simp (disch := omega) only [sset_1, sset_2, sset_e, sfil_o, sfil_i]
    have w5 : ∀ i, 0 ≤ i → i < 60 → (sfil (sset (sset (sfil (sset (sset v (295 + 2 * t) 0 (-1)) (295 + 2 * t) 1 0) (295 + 2 * t + 1) 0 60 0) 347 t (-1)) 348 t 0) 349 (60 * t) 60 0) (295 + 2 * t + 1) i = 0 := fun i i0 i1 => by simp (disch := omega) only [sset_1, sset_2, sset_e, sfil_o, sfil_i]
    have w6 : ∀ i, 0 ≤ i → i < 60 → (sfil (sset (sset (sfil (sset (sset v (295 + 2 * t) 0 (-1)) (295 + 2 * t) 1 0) (295 + 2 * t + 1) 0 60 0) 347 t (-1)) 348 t 0) 349 (60 * t) 60 0) 349 (60 * t + i) = 0 := fun i i0 i1 => by simp (disch := omega) only [sset_1, sset_2, sset_e, sfil_o, sfil_i]
    generalize sfil (sset (sset (sfil (sset (sset v (295 + 2 * t) 0 (-1)) (295 + 2 * t) 1 0) (295 + 2 * t + 1) 0 60 0) 347 t (-1)) 348 t 0) 349 (60 * t) 60 0 = W at e w1 w2 w3 w4 w5 w6 ⊢
    refine ⟨by trivial, A, W, rfl, ⟨h0.eq (fun o k q => e o k (by unfold FP0 at q; omega)), h1.eq (fun o k q => e o k (by unfold FP1 at q; omega)), h2.eq (fun o k q => e o k (by unfold FP2 at q; omega)), h3.eq (fun o k q => e o k (by unfold FP3 at q; omega)), h4.eq (fun o k q => e o k (by unfold FP4 at q; omega)), h5.eq (fun o k q => e o k (by unfold FP5 at q; omega)), h6.eq (fun o k q => e o k (by unfold FP6 at q; omega)), h7.eq (fun o k q => e o k (by unfold FP7 at q; omega)), h8.eq h1 (fun o k q => e o k (by unfold FP8 at q; omega)) (fun o k q => e o k (by unfold FP1 at q; omega)), ?_, h10.eq (fun o k q => e o k (by unfold FP10 at q; omega))⟩, GRO.rf, by omega⟩
    · intro t2 g0 g1
      obtain ⟨d1, d2, d3, d4, d5, d6⟩ := h9 t2 g0 g1
      by_cases c : t2 = t
      · subst c
        rw [w1, w2, w3, w4]
        refine ⟨rfl, rfl, by omega, by omega, fun z => by omega, fun i2 i0 i1 => ?_⟩
        rw [w5 i2 i0 i1, w6 i2 i0 i1]
      · refine ⟨by rw [e _ _ (by omega), e 347 t2 (by omega)]; exact d1, by rw [e _ _ (by omega), e 348 t2 (by omega)]; exact d2, by rw [e 347 t2 (by omega)]; exact d3, by rw [e 348 t2 (by omega)]; exact d4, fun z => ?_, fun i2 i0 i1 => ?_⟩
        · rw [e 347 t2 (by omega)] at z
          rw [e 348 t2 (by omega)]
          exact d5 z
        · rw [e _ _ (by omega), e 349 (60 * t2 + i2) (by omega)]
          exact d6 i2 i0 i1
  · refine zc_tape (by omega) hM (fun _ => by omega) (fun _ _ _ => by omega) (fun _ _ _ _ _ _ => by omega) (fun _ _ _ => by omega) (fun _ _ _ _ _ _ => ?_)
    have e : ∀ o k, ¬ ((o = 295 + 2 * t ∧ (k = 0 ∨ k = 1)) ∨ (o = 295 + 2 * t + 1) ∨ ((o = 347 ∨ o = 348) ∧ k = t) ∨ (o = 349 ∧ 60 * t ≤ k ∧ k < 60 * t + 60)) → (sfil (sset (sset (sfil (sset (sset v (295 + 2 * t) 0 s) (295 + 2 * t) 1 n) (295 + 2 * t + 1) 0 60 0) 347 t s) 348 t n) 349 (60 * t) 60 0) o k = v o k := fun o k q => by
      rw [sfil_o (by omega), sset_ne (by omega), sset_ne (by omega), sfil_o (by omega), sset_ne (by omega), sset_ne (by omega)]
    have w1 : (sfil (sset (sset (sfil (sset (sset v (295 + 2 * t) 0 s) (295 + 2 * t) 1 n) (295 + 2 * t + 1) 0 60 0) 347 t s) 348 t n) 349 (60 * t) 60 0) (295 + 2 * t) 0 = s := by simp (disch := omega) only [sset_1, sset_2, sset_e, sfil_o, sfil_i]
    have w2 : (sfil (sset (sset (sfil (sset (sset v (295 + 2 * t) 0 s) (295 + 2 * t) 1 n) (295 + 2 * t + 1) 0 60 0) 347 t s) 348 t n) 349 (60 * t) 60 0) 347 t = s := by simp (disch := omega) only [sset_1, sset_2, sset_e, sfil_o, sfil_i]
    have w3 : (sfil (sset (sset (sfil (sset (sset v (295 + 2 * t) 0 s) (295 + 2 * t) 1 n) (295 + 2 * t + 1) 0 60 0) 347 t s) 348 t n) 349 (60 * t) 60 0) (295 + 2 * t) 1 = n := by simp (disch := omega) only [sset_1, sset_2, sset_e, sfil_o, sfil_i]
    have w4 : (sfil (sset (sset (sfil (sset (sset v (295 + 2 * t) 0 s) (295 + 2 * t) 1 n) (295 + 2 * t + 1) 0 60 0) 347 t s) 348 t n) 349 (60 * t) 60 0) 348 t = n := by simp (disch := omega) only [sset_1, sset_2, sset_e, sfil_o, sfil_i]
    have w5 : ∀ i, 0 ≤ i → i < 60 → (sfil (sset (sset (sfil (sset (sset v (295 + 2 * t) 0 s) (295 + 2 * t) 1 n) (295 + 2 * t + 1) 0 60 0) 347 t s) 348 t n) 349 (60 * t) 60 0) (295 + 2 * t + 1) i = 0 := fun i i0 i1 => by simp (disch := omega) only [sset_1, sset_2, sset_e, sfil_o, sfil_i]
    have w6 : ∀ i, 0 ≤ i → i < 60 → (sfil (sset (sset (sfil (sset (sset v (295 + 2 * t) 0 s) (295 + 2 * t) 1 n) (295 + 2 * t + 1) 0 60 0) 347 t s) 348 t n) 349 (60 * t) 60 0) 349 (60 * t + i) = 0 := fun i i0 i1 => by simp (disch := omega) only [sset_1, sset_2, sset_e, sfil_o, sfil_i]
    generalize sfil (sset (sset (sfil (sset (sset v (295 + 2 * t) 0 s) (295 + 2 * t) 1 n) (295 + 2 * t + 1) 0 60 0) 347 t s) 348 t n) 349 (60 * t) 60 0 = W at e w1 w2 w3 w4 w5 w6 ⊢
    refine ⟨by trivial, A, W, rfl, ⟨h0.eq (fun o k q => e o k (by unfold FP0 at q; omega)), h1.eq (fun o k q => e o k (by unfold FP1 at q; omega)), h2.eq (fun o k q => e o k (by unfold FP2 at q; omega)), h3.eq (fun o k q => e o k (by unfold FP3 at q; omega)), h4.eq (fun o k q => e o k (by unfold FP4 at q; omega)), h5.eq (fun o k q => e o k (by unfold FP5 at q; omega)), h6.eq (fun o k q => e o k (by unfold FP6 at q; omega)), h7.eq (fun o k q => e o k (by unfold FP7 at q; omega)), h8.eq h1 (fun o k q => e o k (by unfold FP8 at q; omega)) (fun o k q => e o k (by unfold FP1 at q; omega)), ?_, h10.eq (fun o k q => e o k (by unfold FP10 at q; omega))⟩, GRO.rf, by omega⟩
    · intro t2 g0 g1
      obtain ⟨d1, d2, d3, d4, d5, d6⟩ := h9 t2 g0 g1
      by_cases c : t2 = t
      · subst c
        rw [w1, w2, w3, w4]
        refine ⟨rfl, rfl, by omega, by omega, fun z => by omega, fun i2 i0 i1 => ?_⟩
        rw [w5 i2 i0 i1, w6 i2 i0 i1]
      · refine ⟨by rw [e _ _ (by omega), e 347 t2 (by omega)]; exact d1, by rw [e _ _ (by omega), e 348 t2 (by omega)]; exact d2, by rw [e 347 t2 (by omega)]; exact d3, by rw [e 348 t2 (by omega)]; exact d4, fun z => ?_, fun i2 i0 i1 => ?_⟩
        · rw [e 347 t2 (by omega)] at z
          rw [e 348 t2 (by omega)]
          exact d5 z
        · rw [e _ _ (by omega), e 349 (60 * t2 + i2) (by omega)]
          exact d6 i2 i0 i1

