/-! ===== the pairs again: on, mean, alike, odds, fits ===== -/
theorem mid_z {A : AHp} {v z : Sg} (hM : MLAY A) (h : CZI v z) : MID A v (cl A z) := mid_w hM (fun k => h.1 33 k (by omega))
theorem p2_on {A : AHp} {v : Sg} {l w : Int} (h : RR A v) (hw : in32 w) : PAIR2 A v mX12_on mX13_on [vi l, vi w] := by
  obtain ⟨h0, h1, h2, h3, h4, h5, h6, h7, h8, h9, h10⟩ := id h
  have hX := h0.1.2.1
  have hM := h0.1.2.2
  have hln := h1.1
  have hl12 := h1.2.1
  unfold PAIR2
  refine x_on (by omega) hX ((CZI.rf h).ksz h) hw (fun q => ?_) (fun q1 q2 => ?_)
  · refine ⟨mid_z hM ((CZI.rf h)), ?_⟩
    rw [lift_z (CZI.rf h)]
    exact c_on (n := 139) (by omega) hM hMinC (by omega) hw (fun _ => ⟨fun _ => rfl, rfl, A, v, (lift_z (CZI.rf h)).symm, h, GRO.rf, by omega⟩) (fun _ _ _ => by omega)
  · obtain ⟨k1, k2, k3, k4⟩ := kcv_f (A := A) (z := v) (ko := 235) (by omega)
    obtain ⟨t, g1, g2, g3, _, g4⟩ := think (ko := 235) (z0 := kcv A v 235) h (CZI.rf h) (CSI.rf h) (by omega) ⟨q1, q2⟩ (fun _ _ _ => rfl) (fun n n0 n1 => (k1 n n0 n1).trans (h3.1 n n0 n1))
    have hr := g2.2.1.2.1
    refine g4 _ _ (by omega) (fun z' u1 u2 u3 u4 u5 _ => ⟨z', rfl, rfl, ?_, ?_⟩)
    · have e : z' 238 1 = t 307 36 := u2.1
      rw [e]; exact hr
    · refine ⟨mid_z hM (u1), ?_⟩
      rw [lift_z u1]
      have e38 : z' 238 1 = t 307 36 := u2.1
      have e39 : ∀ i, 0 ≤ i → i < t 307 36 → z' 239 i = t 331 i := u2.2
      refine c_on (n := 139) (by omega) hM hMinC (by omega) hw (fun q3 => ⟨fun _ => rfl, ?_, A, z', (lift_z u1).symm, ?_, GRO.rf, by omega⟩) (fun _ _ _ => ⟨t, g1, hr, ⟨fun _ => rfl, ?_, A, liftV z' t, lift_cl, h.cz u1 g2 g3, GRO.rf, by omega⟩⟩)
      · have hw0 : w < 0 := by omega
        rw [if_neg (by omega)]
        unfold ofX
        rw [if_neg (by omega), if_neg (by omega), if_neg (by omega), if_neg (by omega)]
      · have e : liftV z' v = z' := by
          funext o k
          unfold liftV
          split
          · exact (u1.1 o k (by omega)).symm
          · rfl
        have := h.cz u1 (CSI.rf h) (fun _ _ _ => rfl)
        rw [e] at this
        exact this
      · congr 2
        unfold onV ofX
        by_cases c3 : w = 3
        · rw [if_pos c3, if_neg (by omega), if_neg (by omega), if_neg (by omega), if_pos c3]
          exact u5
        · rw [if_neg c3]
          by_cases c0 : w = 0
          · rw [if_pos c0, if_pos c0]; exact e38
          · rw [if_neg c0, if_neg c0]
            by_cases c1 : w = 1
            · rw [if_pos c1, if_pos c1]; exact u3
            · rw [if_neg c1, if_neg c1]
              by_cases c2 : w = 2
              · rw [if_pos c2, if_pos c2]; exact u4
              · rw [if_neg c2, if_neg c2, if_neg c3, show z' (235 + 3) 1 = t 307 36 from u2.1]
                by_cases c4 : 40 ≤ w ∧ w < 40 + t 307 36
                · rw [if_pos c4, if_pos c4]
                  exact u2.2 _ (by omega) (by omega)
                · rw [if_neg c4, if_neg c4]
theorem p2_mean {A : AHp} {v : Sg} {l p : Int} (h : RR A v) : PAIR2 A v mX12_mean mX13_mean [vi l, vi p] := by
  obtain ⟨h0, h1, h2, h3, h4, h5, h6, h7, h8, h9, h10⟩ := id h
  have hX := h0.1.2.1
  have hM := h0.1.2.2
  have hln := h1.1
  have hl12 := h1.2.1
  unfold PAIR2
  refine x_mean (by omega) hX ((CZI.rf h).ksz h) (fun q => ?_) (fun q1 q2 qp => ?_)
  · refine ⟨mid_z hM ((CZI.rf h)), ?_⟩
    rw [lift_z (CZI.rf h)]
    exact c_mean (n := 139) (by omega) hM hMinC (by omega) (fun _ => ⟨fun _ => rfl, rfl, A, v, (lift_z (CZI.rf h)).symm, h, GRO.rf, by omega⟩) (fun _ _ _ => by omega)
  · obtain ⟨k1, k2, k3, k4⟩ := kcv_f (A := A) (z := v) (ko := 235) (by omega)
    obtain ⟨t, g1, g2, g3, _, g4⟩ := think (ko := 235) (z0 := kcv A v 235) h (CZI.rf h) (CSI.rf h) (by omega) ⟨q1, q2⟩ (fun _ _ _ => rfl) (fun n n0 n1 => (k1 n n0 n1).trans (h3.1 n n0 n1))
    have hr := g2.2.1.2.1
    have h31 := g2.2.2
    refine g4 _ _ (by omega) (fun z' u1 u2 u3 u4 u5 _ => ?_)
    have e38 : z' 238 1 = t 307 36 := u2.1
    have e39 : ∀ i, 0 ≤ i → i < t 307 36 → z' 239 i = t 331 i := u2.2
    refine ⟨z', rfl, rfl, by rw [e38]; exact hr, fun j j0 j1 => by rw [e39 j j0 (by omega)]; exact h31 j, fun c => ?_, fun c => ?_⟩
    · refine ⟨mid_z hM (u1), ?_⟩
      rw [lift_z u1]
      exact c_mean (n := 139) (by omega) hM hMinC (by omega) (fun q => by omega) (fun _ _ _ => ⟨t, g1, hr, h31, fun _ => ⟨fun _ => rfl, rfl, A, liftV z' t, lift_cl, h.cz u1 g2 g3, GRO.rf, by omega⟩, fun _ => by omega⟩)
    · refine ⟨mid_z hM (u1), ?_⟩
      rw [lift_z u1]
      refine c_mean (n := 139) (by omega) hM hMinC (by omega) (fun q => by omega) (fun _ _ _ => ⟨t, g1, hr, h31, fun _ => by omega, fun _ => ⟨fun _ => rfl, ?_, A, liftV z' t, lift_cl, h.cz u1 g2 g3, GRO.rf, by omega⟩⟩)
      have es : sumS z' 239 (t 307 36).toNat = sumS t 331 (t 307 36).toNat := sumS_eq _ (fun i i0 i1 => e39 i i0 (by omega))
      rw [e38, es]
theorem p2_alike {A : AHp} {v : Sg} {l p : Int} (h : RR A v) : PAIR2 A v mX12_alike mX13_alike [vi l, vi p] := by
  obtain ⟨h0, h1, h2, h3, h4, h5, h6, h7, h8, h9, h10⟩ := id h
  have hX := h0.1.2.1
  have hM := h0.1.2.2
  have hln := h1.1
  have hl12 := h1.2.1
  unfold PAIR2
  refine x_alike (by omega) hX ((CZI.rf h).ksz h) (fun q => ?_) (fun q1 q2 q3 q4 => ?_)
  · refine ⟨mid_z hM ((CZI.rf h)), ?_⟩
    rw [lift_z (CZI.rf h)]
    exact c_alike (n := 139) (by omega) hM hMinC (by omega) (fun _ => ⟨fun _ => rfl, rfl, A, v, (lift_z (CZI.rf h)).symm, h, GRO.rf, by omega⟩) (fun _ _ _ _ => by omega)
  · obtain ⟨k1, k2, k3, k4⟩ := kcv_f (A := A) (z := v) (ko := 235) (by omega)
    obtain ⟨t, g1, g2, g3, _, g4⟩ := think (ko := 235) (z0 := kcv A v 235) h (CZI.rf h) (CSI.rf h) (by omega) ⟨q1, q2⟩ (fun _ _ _ => rfl) (fun n n0 n1 => (k1 n n0 n1).trans (h3.1 n n0 n1))
    refine g4 _ _ (by omega) (fun z1 u1 u2 u3 u4 u5 _ => ⟨z1, rfl, rfl, u1.ksz h, ?_⟩)
    obtain ⟨m1, m2, m3, m4⟩ := kcv_f (A := A) (z := z1) (ko := 249) (by omega)
    have so : ∀ o k, o ≠ 340 → (scpy t 331 0 340 0 60) o k = t o k := fun o k q => scpy_n (by omega)
    have s340 : ∀ k, 0 ≤ k → k < 60 → (scpy t 331 0 340 0 60) 340 k = t 331 k := fun k a b => by
      rw [scpy_i (by omega)]
      congr 1
      omega
    have hs2 : CSI v (scpy t 331 0 340 0 60) := by
      obtain ⟨x1, ⟨x2, x3, x4, x5, x6, x7⟩, x8⟩ := id g2
      refine ⟨fun o k q => ?_, ⟨?_, ?_, fun j => ?_, fun j => ?_, fun j => ?_, fun j => ?_⟩, fun j => ?_⟩
      · rw [so o k (by omega)]; exact x1 o k q
      · rw [so _ _ (by omega)]; exact x2
      · rw [so _ _ (by omega)]; exact x3
      · rw [so _ _ (by omega)]; exact x4 j
      · rw [so _ _ (by omega)]; exact x5 j
      · rw [so _ _ (by omega)]; exact x6 j
      · rw [so _ _ (by omega)]; exact x7 j
      · rw [so _ _ (by omega)]; exact x8 j
    obtain ⟨t2, f1, f2, f3, f4, f5⟩ := think (ko := 249) (z0 := kcv A z1 249) h u1 hs2 (by omega) ⟨q3, q4⟩ (fun _ _ _ => rfl) (fun n n0 n1 => by
      rw [so _ _ (by omega), g3 n n0 n1, ← h3.1 n n0 n1, ← u1.1 208 n (by omega)]
      exact m1 n n0 n1)
    have hr := g2.2.1.2.1
    have hr2 := f2.2.1.2.1
    have f3' : ∀ n, 0 ≤ n → n < 5 → t2 320 n = v 320 n := fun n n0 n1 => by
      rw [f3 n n0 n1, so _ _ (by omega)]
      exact g3 n n0 n1
    refine f5 _ _ (by omega) (fun z2 w1 w2 w3 w4 w5 w6 => ⟨z2, rfl, rfl, ?_⟩)
    have a38 : z2 238 1 = t 307 36 := (w6 238 1 (by omega) (by omega) (by omega)).trans u2.1
    have a39 : ∀ i, 0 ≤ i → i < t 307 36 → z2 239 i = t 331 i := fun i i0 i1 => (w6 239 i (by omega) (by omega) (by omega)).trans (u2.2 i i0 i1)
    have a35 : z2 235 4 = t 307 37 := (w6 235 4 (by omega) (by omega) (by omega)).trans u3
    have b52 : z2 252 1 = t2 307 36 := w2.1
    have b53 : ∀ i, 0 ≤ i → i < t2 307 36 → z2 253 i = t2 331 i := w2.2
    have b49 : z2 249 4 = t2 307 37 := w3
    have t340 : ∀ k, 0 ≤ k → k < 60 → t2 340 k = t 331 k := fun k a b => (f4 340 k (by unfold TC2; omega)).trans (s340 k a b)
    have hiff : (z2 235 4 = z2 249 4 ∧ z2 238 1 = z2 252 1 ∧ ∀ j, 0 ≤ j → j < z2 238 1 → z2 239 j = z2 253 j) ↔ (t 307 36 = t2 307 36 ∧ t 307 37 = t2 307 37 ∧ ∀ k, 0 ≤ k → k < t 307 36 → t2 331 k = t2 340 k) := by
      rw [a35, b49, a38, b52]
      refine ⟨fun ⟨x1, x2, x3⟩ => ⟨x2, x1, fun k k0 k1 => ?_⟩, fun ⟨x1, x2, x3⟩ => ⟨x2, x1, fun k k0 k1 => ?_⟩⟩
      · rw [t340 k k0 (by omega), ← a39 k k0 k1, x3 k k0 k1, b53 k k0 (by omega)]
      · rw [a39 k k0 k1, b53 k k0 (by omega), x3 k k0 k1, t340 k k0 (by omega)]
    refine ⟨by rw [a38]; exact hr, fun c => ?_, fun c => ?_⟩
    · refine ⟨mid_z hM (w1), ?_⟩
      rw [lift_z w1]
      exact c_alike (n := 139) (by omega) hM hMinC (by omega) (fun q => by omega) (fun _ _ _ _ => ⟨t, t2, g1, f1, hr, fun _ => ⟨fun _ => rfl, rfl, A, liftV z2 t2, lift_cl, h.cz w1 f2 f3', GRO.rf, by omega⟩, fun c2 => absurd (hiff.mp c) c2⟩)
    · refine ⟨mid_z hM (w1), ?_⟩
      rw [lift_z w1]
      exact c_alike (n := 139) (by omega) hM hMinC (by omega) (fun q => by omega) (fun _ _ _ _ => ⟨t, t2, g1, f1, hr, fun c2 => absurd (hiff.mpr c2) c, fun _ => ⟨fun _ => rfl, rfl, A, liftV z2 t2, lift_cl, h.cz w1 f2 f3', GRO.rf, by omega⟩⟩)

theorem p2_odds {A : AHp} {v : Sg} {l name p : Int} (h : RR A v) : PAIR2 A v mX12_odds mX13_odds [vi l, vi name, vi p] := by
  obtain ⟨h0, h1, h2, h3, h4, h5, h6, h7, h8, h9, h10⟩ := id h
  have hX := h0.1.2.1
  have hM := h0.1.2.2
  have hln := h1.1
  have hl12 := h1.2.1
  have hf : ∀ i : Nat, in32 ((fun i : Nat => if i < 10 then (i : Int) else 0) i) := fun i => by
    dsimp only
    unfold in32
    split <;> omega
  have hff : ∀ B W : Nat → Sg, FAM 139 l name (fun i : Nat => if i < 10 then (i : Int) else 0) 10 v B W → FAM 139 l name (fun i => (i : Int)) 10 v B W := fun B W ⟨q1, q2, q3⟩ => ⟨q1, q2, fun i hi => by rw [q3 i hi]; dsimp only; rw [if_pos hi]⟩
  unfold PAIR2
  refine x_odds (Inv := CZI v) (b := fun i => decide (famW l name (fun i : Nat => if i < 10 then (i : Int) else 0) v i 307 37 = 0)) (by omega) hX (fun q => ?_) (CZI.rf h) (fun q1 q2 q3 q4 i z hi hz => ⟨hz.ksz h, ?_⟩) (fun q1 q2 q3 q4 q5 z hz => ?_)
  · refine ⟨mid_z hM ((CZI.rf h)), ?_⟩
    rw [lift_z (CZI.rf h)]
    exact c_odds (n := 139) (by omega) hM hMinC (by omega) (fun _ => ⟨fun _ => rfl, rfl, A, v, (lift_z (CZI.rf h)).symm, h, GRO.rf, by omega⟩) (fun _ _ _ _ _ _ => by omega)
  · obtain ⟨⟨w1, w2⟩, w3, _⟩ := fam_ok h ⟨q1, q2⟩ ⟨q3, q4⟩ hf i
    have w2' : ∀ n, 0 ≤ n → n < 5 → famB l name (fun i : Nat => if i < 10 then (i : Int) else 0) v i 320 n = if n = name then (i : Int) else v 320 n := fun n n0 n1 => by
      rw [w2 n n0 n1]
      try dsimp only
      rw [if_pos hi]
    obtain ⟨t, g1, g2, g3, g4⟩ := thinkV h hz w1 ⟨q1, q2⟩ w2'
    rw [w3, Option.some.injEq] at g1
    refine g4 _ _ (by omega) (fun z' u1 u2 u3 => ⟨z', rfl, rfl, u1, ?_⟩)
    rw [u3, ← g1]
    exact decide_eq_true_iff.symm
  · refine ⟨mid_z hM (hz), ?_⟩
    rw [lift_z hz]
    exact c_odds (n := 139) (by omega) hM hMinC (by omega) (fun _ => by omega) (fun _ _ _ _ _ _ => ⟨_, _, hff _ _ (fam_fam h ⟨q1, q2⟩ ⟨q3, q4⟩ hf 10), ⟨fun _ => rfl, rfl, A, _, lift_cl, fam_end h hz ⟨q1, q2⟩ ⟨q3, q4⟩ hf 9, GRO.rf, by omega⟩⟩)
theorem p2_fits {A : AHp} {v : Sg} {l name p : Int} (h : RR A v) : PAIR2 A v mX12_fits mX13_fits [vi l, vi name, vi p] := by
  obtain ⟨h0, h1, h2, h3, h4, h5, h6, h7, h8, h9, h10⟩ := id h
  have hX := h0.1.2.1
  have hM := h0.1.2.2
  have hln := h1.1
  have hl12 := h1.2.1
  obtain ⟨a1, a2, a3⟩ := id h4
  have hf : ∀ i : Nat, in32 ((fun i : Nat => if i < 20 then 19 - (i : Int) else 0) i) := fun i => by
    dsimp only
    unfold in32
    split <;> omega
  have hff : ∀ B W : Nat → Sg, FAM 139 l name (fun i : Nat => if i < 20 then 19 - (i : Int) else 0) 20 v B W → FAM 139 l name (fun i => 19 - (i : Int)) 20 v B W := fun B W ⟨q1, q2, q3⟩ => ⟨q1, q2, fun i hi => by rw [q3 i hi]; dsimp only; rw [if_pos hi]⟩
  have w339 : ∀ {t : Sg}, CSI v t → (t 307 49 = v 307 49 ∧ ∀ j, t 339 j = v 339 j) := fun ht => ⟨ht.1 _ _ (by unfold TC2; omega), fun j => ht.1 _ _ (by unfold TC2; omega)⟩
  unfold PAIR2
  refine x_fits (Inv := CZI v) (b := fun i => seenS (famW l name (fun i : Nat => if i < 20 then 19 - (i : Int) else 0) v (19 - i))) (by omega) hX (fun q => ?_) (CZI.rf h) (fun q1 q2 q3 q4 i z hi hz => ⟨hz.ksz h, ?_⟩) (fun q1 q2 q3 q4 q5 q6 z hz => ?_)
  · refine ⟨mid_z hM ((CZI.rf h)), ?_⟩
    rw [lift_z (CZI.rf h)]
    exact c_fits (n := 139) (by omega) hM hMinC (by omega) (fun _ => ⟨fun _ => rfl, rfl, A, v, (lift_z (CZI.rf h)).symm, h, GRO.rf, by omega⟩) (fun _ _ _ _ _ _ => by omega)
  · obtain ⟨⟨w1, w2⟩, w3, _⟩ := fam_ok h ⟨q1, q2⟩ ⟨q3, q4⟩ hf (19 - i)
    have w2' : ∀ n, 0 ≤ n → n < 5 → famB l name (fun i : Nat => if i < 20 then 19 - (i : Int) else 0) v (19 - i) 320 n = if n = name then (i : Int) else v 320 n := fun n n0 n1 => by
      have e19 : (if 19 - i < 20 then (19 : Int) - ((19 - i : Nat) : Int) else 0) = (i : Int) := by
        rw [if_pos (by omega)]
        omega
      rw [w2 n n0 n1]
      try dsimp only
      rw [e19]
    obtain ⟨t, g1, g2, g3, g4⟩ := thinkV h hz w1 ⟨q1, q2⟩ w2'
    rw [w3, Option.some.injEq] at g1
    refine g4 _ _ (by omega) (fun z' u1 u2 u3 => ⟨z', rfl, rfl, u1, ?_, ?_⟩)
    · have e12 : z' 212 2 = v 307 49 := (u1.1 212 2 (by omega)).trans a1
      have e13 : ∀ j, z' 213 j = v 213 j := fun j => u1.1 213 j (by omega)
      have e14 : ∀ j, z' 214 j = v 214 j := fun j => u1.1 214 j (by omega)
      refine ⟨by rw [u2.1]; exact g2.2.1.2.1, by rw [e12]; exact a2, fun j j0 j1 => ?_, fun j j0 j1 => ?_⟩
      · rw [e12] at j1
        rw [e13, (a3 j j0 j1).1]
        exact (a3 j j0 j1).2.2.1
      · rw [e12] at j1
        rw [e14, (a3 j j0 j1).2.1]
        exact (a3 j j0 j1).2.2.2
    · rw [g1]
      have e12 : z' 212 2 = v 307 49 := (u1.1 212 2 (by omega)).trans a1
      have e13 : ∀ j, z' 213 j = v 213 j := fun j => u1.1 213 j (by omega)
      have e14 : ∀ j, z' 214 j = v 214 j := fun j => u1.1 214 j (by omega)
      obtain ⟨t49, t339⟩ := w339 g2
      have hd : (seenS t = true) ↔ (∀ j, 0 ≤ j → j < t 307 49 → t 339 (2 * j) < t 307 36 ∧ t 331 (t 339 (2 * j)) = t 339 (2 * j + 1)) := by
        unfold seenS
        simp only [decide_eq_true_eq]
      rw [hd]
      unfold SNX
      rw [e12, t49]
      have hj : ∀ j, 0 ≤ j → j < v 307 49 → ((0 ≤ z' 213 j ∧ z' 213 j < z' 238 1 ∧ z' 239 (z' 213 j) = z' 214 j) ↔ (t 339 (2 * j) < t 307 36 ∧ t 331 (t 339 (2 * j)) = t 339 (2 * j + 1))) := fun j j0 j1 => by
        obtain ⟨b1, b2, ⟨b3, b4⟩, b5⟩ := a3 j j0 j1
        rw [e13, e14, t339, t339, b1, b2, u2.1]
        refine ⟨fun ⟨y1, y2, y3⟩ => ⟨y2, by rw [← u2.2 _ y1 y2]; exact y3⟩, fun ⟨y1, y2⟩ => ⟨b3, y1, by rw [u2.2 _ b3 y1]; exact y2⟩⟩
      exact ⟨fun y j j0 j1 => (hj j j0 j1).mp (y j j0 j1), fun y j j0 j1 => (hj j j0 j1).mpr (y j j0 j1)⟩
  · refine ⟨mid_z hM (hz), ?_⟩
    rw [lift_z hz]
    refine c_fits (n := 139) (by omega) hM hMinC (by omega) (fun _ => by omega) (fun _ _ _ _ _ _ => ⟨_, _, hff _ _ (fam_fam h ⟨q1, q2⟩ ⟨q3, q4⟩ hf 20), fun i hi => ?_, ⟨fun _ => rfl, ?_, A, _, lift_cl, fam_end h hz ⟨q1, q2⟩ ⟨q3, q4⟩ hf 19, GRO.rf, by omega⟩⟩)
    · obtain ⟨_, _, hW, _⟩ := fam_ok h ⟨q1, q2⟩ ⟨q3, q4⟩ hf i
      obtain ⟨t49, t339⟩ := w339 hW
      refine ⟨by rw [t49]; exact a2, hW.2.1.2.1.2, fun j j0 j1 => ?_⟩
      rw [t49] at j1
      rw [t339]
      exact (a3 j j0 j1).2.2.1
    · have hc := cntB_rev (b := fun i => seenS (famW l name (fun i : Nat => if i < 20 then 19 - (i : Int) else 0) v (19 - i))) (c := fun i => seenS (famW l name (fun i : Nat => if i < 20 then 19 - (i : Int) else 0) v i)) 20 0 (fun i hi => rfl)
      have hc0 : cntB (fun i => seenS (famW l name (fun i : Nat => if i < 20 then 19 - (i : Int) else 0) v i)) 0 = 0 := rfl
      rw [hc0, Int.add_zero] at hc
      rw [hc, fst_lst (c := fun i => seenS (famW l name (fun i : Nat => if i < 20 then 19 - (i : Int) else 0) v i)) (fun i hi => rfl)]

