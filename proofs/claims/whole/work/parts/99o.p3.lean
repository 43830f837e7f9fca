/-! ===== the pairs again, keeping the script ===== -/
theorem mid_w {A : AHp} {v w : Sg} (hM : MLAY A) (e : ∀ k, w 33 k = v 33 k) : MID A v (cl A w) := ⟨⟨rfl, rfl, e⟩, MO hM⟩
theorem p2_shift {A : AHp} {v : Sg} {t i p j n : Int} (h : RR A v) : PAIR2 A v mX12_shift mX13_shift [vi t, vi i, vi p, vi j, vi n] := by
  obtain ⟨h0, h1, h2, h3, h4, h5, h6, h7, h8, h9, h10⟩ := id h
  have hX := h0.1.2.1
  have hM := h0.1.2.2
  have hln := h1.1
  have hl12 := h1.2.1
  unfold PAIR2
  have tz : ∀ t, 0 ≤ t → t ≤ 5 → 0 ≤ v 348 t ∧ v 348 t ≤ 60 := fun t t0 t1 => (h9 t t0 t1).2.2.2.1
  have t0z : ∀ t, 0 ≤ t → t ≤ 5 → v (295 + 2 * t) 0 = v 347 t := fun t t0 t1 => (h9 t t0 t1).1
  have t1z : ∀ t, 0 ≤ t → t ≤ 5 → v (295 + 2 * t) 1 = v 348 t := fun t t0 t1 => (h9 t t0 t1).2.1
  have tsz : ∀ t, 0 ≤ t → t ≤ 5 → 0 ≤ v (295 + 2 * t) 1 ∧ v (295 + 2 * t) 1 ≤ 60 := fun t t0 t1 => by rw [t1z t t0 t1]; exact tz t t0 t1
  have tso : ∀ t, 0 ≤ t → t ≤ 5 → -1 ≤ v (295 + 2 * t) 0 ∧ v (295 + 2 * t) 0 ≤ 4 := fun t t0 t1 => by rw [t0z t t0 t1]; exact (h9 t t0 t1).2.2.1
  have hTP := h0.2.2.1
  have hs1 : ∀ t, 0 ≤ t → t ≤ 5 → -1 ≤ v (295 + 2 * t) 0 := fun t g0 g1 => (tso t g0 g1).1
  refine zx_shift (by omega) hX hM hTP tsz hs1 (fun q => ?_) (fun q1 q2 q3 q4 q5 => ?_) (fun q1 q2 q3 q4 q5 q6 q7 => ?_) (fun q1 q2 q3 q4 q5 q6 q7 => ?_) (fun q1 q2 q3 q4 q5 q6 q7 q8 q9 q10 q11 => ?_)
  · exact zc_shift (by omega) hM tz (fun _ => ⟨rfl, A, v, rfl, h, GRO.rf, by omega⟩) (fun _ _ _ _ _ => by omega) (fun _ _ _ _ _ _ _ => by omega) (fun _ _ _ _ _ _ _ => by omega) (fun _ _ _ _ _ _ _ _ _ _ _ => by omega)
  · have e1 := t0z t q1 q2
    have e2 := t0z p q3 q4
    rw [e1, e2] at q5
    exact zc_shift (by omega) hM tz (fun _ => by omega) (fun _ _ _ _ _ => ⟨rfl, A, v, rfl, h, GRO.rf, by omega⟩) (fun _ _ _ _ _ _ _ => by omega) (fun _ _ _ _ _ _ _ => by omega) (fun _ _ _ _ _ _ _ _ _ _ _ => by omega)
  · have e1 := t0z t q1 q2
    have e2 := t0z p q3 q4
    rw [e1] at q5 q7
    rw [e2] at q6 q7
    exact zc_shift (by omega) hM tz (fun _ => by omega) (fun _ _ _ _ _ => by omega) (fun _ _ _ _ _ _ _ => ⟨rfl, A, v, rfl, h, GRO.rf, by omega⟩) (fun _ _ _ _ _ _ _ => by omega) (fun _ _ _ _ _ _ _ _ _ _ _ => by omega)
  · have e1 := t0z t q1 q2
    have e2 := t0z p q3 q4
    have e3 := t1z t q1 q2
    have e4 := t1z p q3 q4
    rw [e1] at q5 q6
    rw [e2] at q6
    rw [e3, e4] at q7
    exact zc_shift (by omega) hM tz (fun _ => by omega) (fun _ _ _ _ _ => by omega) (fun _ _ _ _ _ _ _ => by omega) (fun _ _ _ _ _ _ _ => ⟨rfl, A, v, rfl, h, GRO.rf, by omega⟩) (fun _ _ _ _ _ _ _ _ _ _ _ => by omega)
  · have e1 := t0z t q1 q2
    have e2 := t0z p q3 q4
    have e3 := t1z t q1 q2
    have e4 := t1z p q3 q4
    have z1 := tz t q1 q2
    have z2 := tz p q3 q4
    rw [e1] at q5 q6
    rw [e2] at q6
    rw [e3] at q10
    rw [e4] at q11
    have f7 : ∀ t2, (scpy v (295 + 2 * t + 1) i (295 + 2 * p + 1) j n) 347 t2 = v 347 t2 := fun t2 => scpy_n (by omega)
    have f8 : ∀ t2, (scpy v (295 + 2 * t + 1) i (295 + 2 * p + 1) j n) 348 t2 = v 348 t2 := fun t2 => scpy_n (by omega)
    refine zc_shift (by omega) hM (fun t2 g0 g1 => by rw [f8]; exact tz t2 g0 g1) (fun _ => by omega) (fun _ _ _ _ q => by rw [f7, f7] at q; omega) (fun _ _ _ _ _ _ q => by rw [f7, f7] at q; omega) (fun _ _ _ _ _ _ q => by rw [f8, f8] at q; omega) (fun _ _ _ _ _ _ _ _ _ _ _ => ?_)
    have e : ∀ o k, ¬ ((o = 295 + 2 * p + 1 ∧ j ≤ k ∧ k < j + n) ∨ (o = 349 ∧ 60 * p + j ≤ k ∧ k < 60 * p + j + n)) → (scpy (scpy v (295 + 2 * t + 1) i (295 + 2 * p + 1) j n) 349 (60 * t + i) 349 (60 * p + j) n) o k = v o k := fun o k q => by
      rw [scpy_n (by omega), scpy_n (by omega)]
    have w1 : ∀ i2, j ≤ i2 → i2 < j + n → (scpy (scpy v (295 + 2 * t + 1) i (295 + 2 * p + 1) j n) 349 (60 * t + i) 349 (60 * p + j) n) (295 + 2 * p + 1) i2 = v (295 + 2 * t + 1) (i + (i2 - j)) := fun i2 c1 c2 => by rw [scpy_n (by omega), scpy_i ⟨c1, c2⟩]
    have w2 : ∀ i2, j ≤ i2 → i2 < j + n → (scpy (scpy v (295 + 2 * t + 1) i (295 + 2 * p + 1) j n) 349 (60 * t + i) 349 (60 * p + j) n) 349 (60 * p + i2) = v 349 (60 * t + i + (60 * p + i2 - (60 * p + j))) := fun i2 c1 c2 => by rw [scpy_i (by omega), scpy_n (by omega)]
    generalize scpy (scpy v (295 + 2 * t + 1) i (295 + 2 * p + 1) j n) 349 (60 * t + i) 349 (60 * p + j) n = W at e w1 w2 ⊢
    refine ⟨rfl, A, W, rfl, ⟨h0.eq (fun o k q => e o k (by unfold FP0 at q; omega)), h1.eq (fun o k q => e o k (by unfold FP1 at q; omega)), h2.eq (fun o k q => e o k (by unfold FP2 at q; omega)), h3.eq (fun o k q => e o k (by unfold FP3 at q; omega)), h4.eq (fun o k q => e o k (by unfold FP4 at q; omega)), h5.eq (fun o k q => e o k (by unfold FP5 at q; omega)), h6.eq (fun o k q => e o k (by unfold FP6 at q; omega)), h7.eq (fun o k q => e o k (by unfold FP7 at q; omega)), h8.eq h1 (fun o k q => e o k (by unfold FP8 at q; omega)) (fun o k q => e o k (by unfold FP1 at q; omega)), ?_, h10.eq (fun o k q => e o k (by unfold FP10 at q; omega))⟩, GRO.rf, by omega⟩
    · intro t2 g0 g1
      obtain ⟨d1, d2, d3, d4, d5, d6⟩ := h9 t2 g0 g1
      refine ⟨by rw [e _ _ (by omega), e 347 t2 (by omega)]; exact d1, by rw [e _ _ (by omega), e 348 t2 (by omega)]; exact d2, by rw [e 347 t2 (by omega)]; exact d3, by rw [e 348 t2 (by omega)]; exact d4, fun z => ?_, fun i2 i0 i1 => ?_⟩
      · rw [e 347 t2 (by omega)] at z
        rw [e 348 t2 (by omega)]
        exact d5 z
      · by_cases c : t2 = p ∧ j ≤ i2 ∧ i2 < j + n
        · obtain ⟨c1, c2, c3⟩ := c
          subst c1
          rw [w1 i2 c2 c3, w2 i2 c2 c3, (h9 t q1 q2).2.2.2.2.2 (i + (i2 - j)) (by omega) (by omega)]
          congr 1
          omega
        · rw [e _ _ (by omega), e 349 (60 * t2 + i2) (by omega)]
          exact d6 i2 i0 i1
theorem p2_judge {A : AHp} {v : Sg} {t i : Int} (h : RR A v) (hi : in32 i) : PAIR2 A v mX12_judge mX13_judge [vi t, vi i] := by
  obtain ⟨h0, h1, h2, h3, h4, h5, h6, h7, h8, h9, h10⟩ := id h
  have hX := h0.1.2.1
  have hM := h0.1.2.2
  have hln := h1.1
  have hl12 := h1.2.1
  unfold PAIR2
  have tz : ∀ t, 0 ≤ t → t ≤ 5 → 0 ≤ v 348 t ∧ v 348 t ≤ 60 := fun t t0 t1 => (h9 t t0 t1).2.2.2.1
  have t0z : ∀ t, 0 ≤ t → t ≤ 5 → v (295 + 2 * t) 0 = v 347 t := fun t t0 t1 => (h9 t t0 t1).1
  have t1z : ∀ t, 0 ≤ t → t ≤ 5 → v (295 + 2 * t) 1 = v 348 t := fun t t0 t1 => (h9 t t0 t1).2.1
  have tsz : ∀ t, 0 ≤ t → t ≤ 5 → 0 ≤ v (295 + 2 * t) 1 ∧ v (295 + 2 * t) 1 ≤ 60 := fun t t0 t1 => by rw [t1z t t0 t1]; exact tz t t0 t1
  have tso : ∀ t, 0 ≤ t → t ≤ 5 → -1 ≤ v (295 + 2 * t) 0 ∧ v (295 + 2 * t) 0 ≤ 4 := fun t t0 t1 => by rw [t0z t t0 t1]; exact (h9 t t0 t1).2.2.1
  have hTP := h0.2.2.1
  obtain ⟨b1, b2, b3, b4, b5, b6, b7⟩ := id h3
  have e0 : 0 ≤ t → t ≤ 5 → v (295 + 2 * t) 0 = v 347 t := t0z t
  have e1 : 0 ≤ t → t ≤ 5 → v (295 + 2 * t) 1 = v 348 t := t1z t
  have hJ : 0 ≤ t → t ≤ 5 → ∀ j, 0 ≤ j → j < v 307 39 → ((0 ≤ i ∧ i < v (295 + 2 * t) 1 - j ∧ v (295 + 2 * t + 1) (i + j) = v 211 j) ↔ (v 347 t ≠ -1 ∧ 0 ≤ i ∧ j < v 348 t - i ∧ v 349 (60 * t + i + j) = v 332 j)) := fun g0 g1 j j0 j1 => by
    obtain ⟨d1, d2, d3, d4, d5, d6⟩ := h9 t g0 g1
    rw [d2, b5 j j0 j1]
    refine ⟨fun ⟨z1, z2, z3⟩ => ⟨fun z => by have := d5 z; omega, z1, by omega, ?_⟩, fun ⟨_, z1, z2, z3⟩ => ⟨z1, by omega, ?_⟩⟩
    · rw [d6 (i + j) (by omega) (by omega), show 60 * t + (i + j) = 60 * t + i + j by omega] at z3
      exact z3
    · rw [d6 (i + j) (by omega) (by omega), show 60 * t + (i + j) = 60 * t + i + j by omega]
      exact z3
  have hcnt : v 210 1 = v 307 39 := b4.1
  have hd5 : 0 ≤ t → t ≤ 5 → v 347 t = -1 → v 348 t = 0 := fun g0 g1 => (h9 t g0 g1).2.2.2.2.1
  have hd3 : 0 ≤ t → t ≤ 5 → -1 ≤ v 347 t := fun g0 g1 => (h9 t g0 g1).2.2.1.1
  refine zx_judge (by omega) hX hM hTP (by omega) tsz (fun q => ?_) (fun q1 q2 q3 q4 => ?_) (fun q1 q2 q3 q4 => ?_) (fun q1 q2 q3 k k0 k1 qa qb => ?_) (fun q1 q2 q3 k k0 k1 qa qb qc qd => ?_) (fun q1 q2 q3 qa => ?_)
  · exact zc_judge (by omega) hM b4.2 tz hi (fun _ => ⟨rfl, A, v, rfl, h, GRO.rf, by omega⟩) (fun _ _ _ _ => by omega) (fun _ _ _ _ _ _ _ _ => by omega) (fun _ _ _ _ _ _ _ _ _ _ _ => by omega) (fun _ _ _ _ => by omega)
  · have e0 := e0 q1 q2
    exact zc_judge (by omega) hM b4.2 tz hi (fun _ => by omega) (fun _ _ _ _ => ⟨rfl, A, v, rfl, h, GRO.rf, by omega⟩) (fun _ _ z _ _ _ _ _ => by omega) (fun _ _ z _ _ _ _ _ _ _ _ => by omega) (fun _ _ z _ => by omega)
  · have e0 := e0 q1 q2
    exact zc_judge (by omega) hM b4.2 tz hi (fun _ => by omega) (fun _ _ _ _ => by omega) (fun _ _ z _ _ _ _ _ => by omega) (fun _ _ z _ _ _ _ _ _ _ _ => by omega) (fun _ _ z _ => ⟨rfl, A, v, rfl, h, GRO.rf, by omega⟩)
  · have e0 := e0 q1 q2
    have e1 := e1 q1 q2
    have hJ := hJ q1 q2
    have hd5 := hd5 q1 q2
    have hd3 := hd3 q1 q2
    have hno : ¬ (0 ≤ i ∧ i < v (295 + 2 * t) 1 - k ∧ v (295 + 2 * t + 1) (i + k) = v 211 k) := fun z => by omega
    have hck : k < v 307 39 := by omega
    refine zc_judge (by omega) hM b4.2 tz hi (fun _ => by omega) (fun _ _ z1 z2 => by omega) (fun _ _ _ k2 k20 k21 za zb => ?_) (fun _ _ _ k2 k20 k21 za zb zc zd ze => ?_) (fun _ _ _ za => absurd ((hJ k k0 hck).mpr (za k k0 hck)) hno)
    · have ek : k2 = k := by
        rcases Int.lt_trichotomy k2 k with c | c | c
        · have := (hJ k2 k20 k21).mp (qa k2 k20 c)
          omega
        · exact c
        · exact absurd ((hJ k k0 hck).mpr (za k k0 c)) hno
      subst ek
      exact ⟨rfl, A, v, rfl, h, GRO.rf, by omega⟩
    · exfalso
      rcases Int.lt_trichotomy k2 k with c | c | c
      · have := (hJ k2 k20 k21).mp (qa k2 k20 c)
        exact ze this.2.2.2
      · omega
      · exact absurd ((hJ k k0 hck).mpr (za k k0 c)) hno
  · have e0 := e0 q1 q2
    have e1 := e1 q1 q2
    have hJ := hJ q1 q2
    have hd5 := hd5 q1 q2
    have hd3 := hd3 q1 q2
    have hno : ¬ (0 ≤ i ∧ i < v (295 + 2 * t) 1 - k ∧ v (295 + 2 * t + 1) (i + k) = v 211 k) := fun z => qd z.2.2
    have hck : k < v 307 39 := by omega
    refine zc_judge (by omega) hM b4.2 tz hi (fun _ => by omega) (fun _ _ z1 z2 => by omega) (fun _ _ _ k2 k20 k21 za zb => ?_) (fun _ _ _ k2 k20 k21 za zb zc zd ze => ?_) (fun _ _ _ za => absurd ((hJ k k0 hck).mpr (za k k0 hck)) hno)
    · exfalso
      rcases Int.lt_trichotomy k2 k with c | c | c
      · have := (hJ k2 k20 k21).mp (qa k2 k20 c)
        omega
      · rcases zb with zb | zb
        · have := hd5 zb
          omega
        · omega
      · exact absurd ((hJ k k0 hck).mpr (za k k0 c)) hno
    · have ek : k2 = k := by
        rcases Int.lt_trichotomy k2 k with c | c | c
        · have := (hJ k2 k20 k21).mp (qa k2 k20 c)
          exact absurd this.2.2.2 ze
        · exact c
        · exact absurd ((hJ k k0 hck).mpr (za k k0 c)) hno
      subst ek
      exact ⟨rfl, A, v, rfl, h, GRO.rf, by omega⟩
  · have e0 := e0 q1 q2
    have hJ := hJ q1 q2
    refine zc_judge (by omega) hM b4.2 tz hi (fun _ => by omega) (fun _ _ z1 z2 => by omega) (fun _ _ _ k2 k20 k21 za zb => ?_) (fun _ _ _ k2 k20 k21 za zb zc zd ze => ?_) (fun _ _ _ za => ⟨rfl, A, v, rfl, h, GRO.rf, by omega⟩)
    · have := (hJ k2 k20 k21).mp (qa k2 k20 (by omega))
      omega
    · have := (hJ k2 k20 k21).mp (qa k2 k20 (by omega))
      exact absurd this.2.2.2 ze
theorem p2_stop {A : AHp} {v : Sg} {j : Int} (h : RR A v) : PAIR2 A v mX12_stop mX13_stop [vi j] := by
  obtain ⟨h0, h1, h2, h3, h4, h5, h6, h7, h8, h9, h10⟩ := id h
  have hX := h0.1.2.1
  have hM := h0.1.2.2
  have hln := h1.1
  have hl12 := h1.2.1
  unfold PAIR2
  refine zx_stop (by omega) hX hM (fun q => ?_) (fun q1 q2 q3 => ?_)
  · refine zc_stop (by omega) hM (fun _ => ⟨rfl, A, v, rfl, h, GRO.rf, by omega⟩) (fun z1 z2 z3 => ?_)
    rcases h8 j z1 (by omega) with ⟨c1, c2⟩ | ⟨c1, c2, _⟩ <;> omega
  · have hq : 0 ≤ v 333 j ∧ v 264 j = v 333 j := by
      rcases h8 j q1 (by omega) with ⟨c1, c2⟩ | ⟨c1, c2, _⟩
      · omega
      · exact ⟨c1.1, c2⟩
    refine zc_stop (by omega) hM (fun z => by simp (disch := omega) only [sset_1, sset_2, sset_e] at z; omega) (fun z1 z2 z3 => ?_)
    simp (disch := omega) only [sset_1, sset_2, sset_e]
    have e : ∀ o k, ¬ ((o = 264 ∨ o = 333) ∧ k = j) → (sset (sset v 264 j (-5)) 333 j (-1)) o k = v o k := fun o k q => by
      unfold sset
      rw [if_neg (by omega), if_neg (by omega)]
    have w1 : (sset (sset v 264 j (-5)) 333 j (-1)) 264 j = -5 := by simp (disch := omega) only [sset_1, sset_2, sset_e]
    have w2 : (sset (sset v 264 j (-5)) 333 j (-1)) 333 j = -1 := by simp (disch := omega) only [sset_1, sset_2, sset_e]
    generalize sset (sset v 264 j (-5)) 333 j (-1) = W at e w1 w2 ⊢
    refine ⟨by rw [hq.2], A, W, rfl, ⟨h0.eq (fun o k q => e o k (by unfold FP0 at q; omega)), h1.eq (fun o k q => e o k (by unfold FP1 at q; omega)), h2.eq (fun o k q => e o k (by unfold FP2 at q; omega)), h3.eq (fun o k q => e o k (by unfold FP3 at q; omega)), h4.eq (fun o k q => e o k (by unfold FP4 at q; omega)), h5.eq (fun o k q => e o k (by unfold FP5 at q; omega)), h6.eq (fun o k q => e o k (by unfold FP6 at q; omega)), h7.eq (fun o k q => e o k (by unfold FP7 at q; omega)), ?_, h9.eq (fun o k q => e o k (by unfold FP9 at q; omega)), h10.eq (fun o k q => e o k (by unfold FP10 at q; omega))⟩, GRO.rf, by omega⟩
    · intro j2 g0 g1
      by_cases c : j2 = j
      · subst c
        exact Or.inl ⟨w1, w2⟩
      · refine (h8 j2 g0 g1).go ⟨g0, g1⟩ h1 (old_rfl A) (by rw [e 64 1 (by omega)]; omega) (fun o k q => e o k ?_)
        rcases q with q | q | q | ⟨l9, _, _, q⟩
        · unfold FJ at q
          omega
        · omega
        · omega
        · unfold LIN at q
          omega
theorem p2_job {A : AHp} {v : Sg} {l : Int} (h : RR A v) : PAIR2 A v mX12_job mX13_job [vi l] := by
  obtain ⟨h0, h1, h2, h3, h4, h5, h6, h7, h8, h9, h10⟩ := id h
  have hX := h0.1.2.1
  have hM := h0.1.2.2
  have hln := h1.1
  have hl12 := h1.2.1
  unfold PAIR2
  have hL := h1.2.2.2
  have hb : ∀ j, 0 ≤ j → j < 4 → (v 264 j = -5 ↔ v 333 j < 0) := fun j j0 j1 => by
    rcases h8 j j0 j1 with ⟨c1, c2⟩ | ⟨c1, c2, _⟩ <;> omega
  refine x_job (by omega) hX hln (fun j j0 j1 => (hL j j0 j1).1.1) h0.2.1 (fun q => ?_) (fun q1 q2 q3 => ?_) (fun q1 q2 j j0 j1 qa qb => ?_)
  · refine ⟨mid_rf hM, ?_⟩
    exact zc_job (by omega) hM (by omega) (fun _ => ⟨rfl, A, v, rfl, h, GRO.rf, by omega⟩) (fun _ _ _ => by omega) (fun _ _ _ _ _ _ _ => by omega)
  · refine ⟨mid_rf hM, ?_⟩
    refine zc_job (by omega) hM (by omega) (fun _ => by omega) (fun _ _ _ => ⟨rfl, A, v, rfl, h, GRO.rf, by omega⟩) (fun _ _ k k0 k1 za zb => ?_)
    have := q3 k k0 k1
    have := (hb k k0 (by omega)).mpr zb
    omega
  · have hbj := (hb j j0 (by omega)).mp qb
    have r333 : ∀ k, (sset (sset (sset (sset (sset (sset (sset v 264 j l) 265 j 60) (267 + 7 * j) 0 (hp A (v 65 l) 0)) (267 + 7 * j) 1 0) (267 + 7 * j) 2 0) (267 + 7 * j) 3 0) (267 + 7 * j) 4 0) 333 k = v 333 k := fun k => by simp (disch := omega) only [sset_1, sset_2, sset_e]
    refine ⟨mid_w hM (fun k => by simp (disch := omega) only [sset_1]), ?_⟩
    refine zc_job (by omega) hM (by simp (disch := omega) only [sset_1, sset_2, sset_e]; omega) (fun z => by simp (disch := omega) only [sset_1, sset_2, sset_e] at z; omega) (fun _ _ z => ?_) (fun _ _ k k0 k1 za zb => ?_)
    · have := z j j0 j1
      rw [r333] at this
      omega
    · have ek : k = j := by
        rw [r333] at zb
        rcases Int.lt_trichotomy k j with c | c | c
        · have := qa k k0 c
          have := (hb k k0 (by omega)).mpr zb
          omega
        · exact c
        · have := za j j0 c
          rw [r333] at this
          omega
      have ek2 := ek.symm
      subst ek2
      simp (disch := omega) only [sset_1, sset_2, sset_e]
      have e : ∀ o k, ¬ (((o = 264 ∨ o = 265 ∨ (333 ≤ o ∧ o ≤ 337)) ∧ k = j) ∨ (267 + 7 * j ≤ o ∧ o ≤ 267 + 7 * j + 4)) → (sset (sset (sset (sset (sset (sset (sset (sset (sset (sset (sset (sset v 264 j l) 265 j 60) (267 + 7 * j) 0 (hp A (v 65 l) 0)) (267 + 7 * j) 1 0) (267 + 7 * j) 2 0) (267 + 7 * j) 3 0) (267 + 7 * j) 4 0) 333 j l) 334 j 60) 335 j (v 309 (60 * l))) 336 j 0) 337 j 0) o k = v o k := fun o k q => by
        unfold sset
        rw [if_neg (by omega), if_neg (by omega), if_neg (by omega), if_neg (by omega), if_neg (by omega), if_neg (by omega), if_neg (by omega), if_neg (by omega), if_neg (by omega), if_neg (by omega), if_neg (by omega), if_neg (by omega)]
      have w1 : (sset (sset (sset (sset (sset (sset (sset (sset (sset (sset (sset (sset v 264 j l) 265 j 60) (267 + 7 * j) 0 (hp A (v 65 l) 0)) (267 + 7 * j) 1 0) (267 + 7 * j) 2 0) (267 + 7 * j) 3 0) (267 + 7 * j) 4 0) 333 j l) 334 j 60) 335 j (v 309 (60 * l))) 336 j 0) 337 j 0) 264 j = l := by simp (disch := omega) only [sset_1, sset_2, sset_e]
      have w2 : (sset (sset (sset (sset (sset (sset (sset (sset (sset (sset (sset (sset v 264 j l) 265 j 60) (267 + 7 * j) 0 (hp A (v 65 l) 0)) (267 + 7 * j) 1 0) (267 + 7 * j) 2 0) (267 + 7 * j) 3 0) (267 + 7 * j) 4 0) 333 j l) 334 j 60) 335 j (v 309 (60 * l))) 336 j 0) 337 j 0) 333 j = l := by simp (disch := omega) only [sset_1, sset_2, sset_e]
      have w3 : (sset (sset (sset (sset (sset (sset (sset (sset (sset (sset (sset (sset v 264 j l) 265 j 60) (267 + 7 * j) 0 (hp A (v 65 l) 0)) (267 + 7 * j) 1 0) (267 + 7 * j) 2 0) (267 + 7 * j) 3 0) (267 + 7 * j) 4 0) 333 j l) 334 j 60) 335 j (v 309 (60 * l))) 336 j 0) 337 j 0) 265 j = 60 := by simp (disch := omega) only [sset_1, sset_2, sset_e]
      have w4 : (sset (sset (sset (sset (sset (sset (sset (sset (sset (sset (sset (sset v 264 j l) 265 j 60) (267 + 7 * j) 0 (hp A (v 65 l) 0)) (267 + 7 * j) 1 0) (267 + 7 * j) 2 0) (267 + 7 * j) 3 0) (267 + 7 * j) 4 0) 333 j l) 334 j 60) 335 j (v 309 (60 * l))) 336 j 0) 337 j 0) 334 j = 60 := by simp (disch := omega) only [sset_1, sset_2, sset_e]
      have w5 : (sset (sset (sset (sset (sset (sset (sset (sset (sset (sset (sset (sset v 264 j l) 265 j 60) (267 + 7 * j) 0 (hp A (v 65 l) 0)) (267 + 7 * j) 1 0) (267 + 7 * j) 2 0) (267 + 7 * j) 3 0) (267 + 7 * j) 4 0) 333 j l) 334 j 60) 335 j (v 309 (60 * l))) 336 j 0) 337 j 0) 335 j = v 309 (60 * l) := by simp (disch := omega) only [sset_1, sset_2, sset_e]
      have w6 : (sset (sset (sset (sset (sset (sset (sset (sset (sset (sset (sset (sset v 264 j l) 265 j 60) (267 + 7 * j) 0 (hp A (v 65 l) 0)) (267 + 7 * j) 1 0) (267 + 7 * j) 2 0) (267 + 7 * j) 3 0) (267 + 7 * j) 4 0) 333 j l) 334 j 60) 335 j (v 309 (60 * l))) 336 j 0) 337 j 0) 336 j = 0 := by simp (disch := omega) only [sset_1, sset_2, sset_e]
      have w7 : (sset (sset (sset (sset (sset (sset (sset (sset (sset (sset (sset (sset v 264 j l) 265 j 60) (267 + 7 * j) 0 (hp A (v 65 l) 0)) (267 + 7 * j) 1 0) (267 + 7 * j) 2 0) (267 + 7 * j) 3 0) (267 + 7 * j) 4 0) 333 j l) 334 j 60) 335 j (v 309 (60 * l))) 336 j 0) 337 j 0) 337 j = 0 := by simp (disch := omega) only [sset_1, sset_2, sset_e]
      have x0 : (sset (sset (sset (sset (sset (sset (sset (sset (sset (sset (sset (sset v 264 j l) 265 j 60) (267 + 7 * j) 0 (hp A (v 65 l) 0)) (267 + 7 * j) 1 0) (267 + 7 * j) 2 0) (267 + 7 * j) 3 0) (267 + 7 * j) 4 0) 333 j l) 334 j 60) 335 j (v 309 (60 * l))) 336 j 0) 337 j 0) (267 + 7 * j) 0 = hp A (v 65 l) 0 := by simp (disch := omega) only [sset_1, sset_2, sset_e]
      have x1 : (sset (sset (sset (sset (sset (sset (sset (sset (sset (sset (sset (sset v 264 j l) 265 j 60) (267 + 7 * j) 0 (hp A (v 65 l) 0)) (267 + 7 * j) 1 0) (267 + 7 * j) 2 0) (267 + 7 * j) 3 0) (267 + 7 * j) 4 0) 333 j l) 334 j 60) 335 j (v 309 (60 * l))) 336 j 0) 337 j 0) (267 + 7 * j) 1 = 0 := by simp (disch := omega) only [sset_1, sset_2, sset_e]
      have x2 : (sset (sset (sset (sset (sset (sset (sset (sset (sset (sset (sset (sset v 264 j l) 265 j 60) (267 + 7 * j) 0 (hp A (v 65 l) 0)) (267 + 7 * j) 1 0) (267 + 7 * j) 2 0) (267 + 7 * j) 3 0) (267 + 7 * j) 4 0) 333 j l) 334 j 60) 335 j (v 309 (60 * l))) 336 j 0) 337 j 0) (267 + 7 * j) 2 = 0 := by simp (disch := omega) only [sset_1, sset_2, sset_e]
      have x3 : (sset (sset (sset (sset (sset (sset (sset (sset (sset (sset (sset (sset v 264 j l) 265 j 60) (267 + 7 * j) 0 (hp A (v 65 l) 0)) (267 + 7 * j) 1 0) (267 + 7 * j) 2 0) (267 + 7 * j) 3 0) (267 + 7 * j) 4 0) 333 j l) 334 j 60) 335 j (v 309 (60 * l))) 336 j 0) 337 j 0) (267 + 7 * j) 3 = 0 := by simp (disch := omega) only [sset_1, sset_2, sset_e]
      have x4 : (sset (sset (sset (sset (sset (sset (sset (sset (sset (sset (sset (sset v 264 j l) 265 j 60) (267 + 7 * j) 0 (hp A (v 65 l) 0)) (267 + 7 * j) 1 0) (267 + 7 * j) 2 0) (267 + 7 * j) 3 0) (267 + 7 * j) 4 0) 333 j l) 334 j 60) 335 j (v 309 (60 * l))) 336 j 0) 337 j 0) (267 + 7 * j) 4 = 0 := by simp (disch := omega) only [sset_1, sset_2, sset_e]
      generalize sset (sset (sset (sset (sset (sset (sset (sset (sset (sset (sset (sset v 264 j l) 265 j 60) (267 + 7 * j) 0 (hp A (v 65 l) 0)) (267 + 7 * j) 1 0) (267 + 7 * j) 2 0) (267 + 7 * j) 3 0) (267 + 7 * j) 4 0) 333 j l) 334 j 60) 335 j (v 309 (60 * l))) 336 j 0) 337 j 0 = W at e w1 w2 w3 w4 w5 w6 w7 x0 x1 x2 x3 x4 ⊢
      refine ⟨by trivial, A, W, rfl, ⟨h0.eq (fun o k q => e o k (by unfold FP0 at q; omega)), h1.eq (fun o k q => e o k (by unfold FP1 at q; omega)), h2.eq (fun o k q => e o k (by unfold FP2 at q; omega)), h3.eq (fun o k q => e o k (by unfold FP3 at q; omega)), h4.eq (fun o k q => e o k (by unfold FP4 at q; omega)), h5.eq (fun o k q => e o k (by unfold FP5 at q; omega)), h6.eq (fun o k q => e o k (by unfold FP6 at q; omega)), h7.eq (fun o k q => e o k (by unfold FP7 at q; omega)), ?_, h9.eq (fun o k q => e o k (by unfold FP9 at q; omega)), h10.eq (fun o k q => e o k (by unfold FP10 at q; omega))⟩, GRO.rf, by omega⟩
      · intro j2 g0 g1
        by_cases c : j2 = j
        · subst c
          refine Or.inr ⟨⟨by omega, by rw [w2, e 64 1 (by omega)]; exact q2⟩, by rw [w1, w2], by rw [w3, w4], by omega, 0, by omega, ?_, ⟨x3, x4⟩, Or.inl ⟨w6, x1, ?_, ?_⟩⟩
          · rw [w5, w2]
            exact (e 309 _ (by omega)).symm
          · rw [x0, w2]
            show hp A (v 65 l) 0 = hp A (W 65 l) 0
            rw [e 65 l (by omega)]
          · rw [x2, w7]
        · refine (h8 j2 g0 g1).go ⟨g0, g1⟩ h1 (old_rfl A) (by rw [e 64 1 (by omega)]; omega) (fun o k q => e o k ?_)
          rcases q with q | q | q | ⟨l9, _, _, q⟩
          · unfold FJ at q
            omega
          · omega
          · omega
          · unfold LIN at q
            omega

