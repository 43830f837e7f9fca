/-! ===== trials of a line; pairs: on, mean, alike ===== -/
/-- class slots that differ from v's in a trial's places alone -/
def CZI (v z : Sg) : Prop := (∀ o k, ¬ ((o = 64 ∧ (k = 3 ∨ k = 4)) ∨ (67 ≤ o ∧ o < 207) ∨ (235 ≤ o ∧ o ≤ 262)) → z o k = v o k) ∧ in32 (z 64 4)
def GR9 (s : Sg) : Prop := ((0 ≤ s 307 32 ∧ s 307 32 ≤ 60) ∧ (0 ≤ s 307 36 ∧ s 307 36 ≤ 60) ∧ (∀ j, in32 (s 320 j)) ∧ (∀ j, in32 (s 324 j)) ∧ (∀ j, in32 (s 325 j)) ∧ ∀ j, in32 (s 329 j)) ∧ I31 s
def CSI (v s : Sg) : Prop := (∀ o k, ¬ (TC2 o k ∨ o = 338 ∨ o = 340 ∨ o = 343 ∨ o = 344) → s o k = v o k) ∧ GR9 s
theorem RR.gr {A : AHp} {v : Sg} (h : RR A v) : GR9 v := by
  have h10 := h.2.2.2.2.2.2.2.2.2.2
  exact ⟨⟨h10.1.1, h10.1.2, h10.2.1.1, h10.2.1.2.1, h10.2.1.2.2.1, h10.2.1.2.2.2.1⟩, h10.2.1.2.2.2.2⟩
theorem CZI.rf {A : AHp} {v : Sg} (h : RR A v) : CZI v v := ⟨fun _ _ _ => rfl, h.2.2.2.2.2.2.2.2.2.2.2.2⟩
theorem CSI.rf {A : AHp} {v : Sg} (h : RR A v) : CSI v v := ⟨fun _ _ _ => rfl, h.gr⟩
theorem RR.cz {A : AHp} {v z s : Sg} (h : RR A v) (hz : CZI v z) (hs9 : CSI v s) (hv9 : ∀ n, 0 ≤ n → n < 5 → s 320 n = v 320 n) : RR A (liftV z s) := by
  obtain ⟨z1, z2⟩ := hz
  obtain ⟨s1, ⟨s2, s3, s4, s5, s6, s7⟩, s8⟩ := hs9
  have e : ∀ o k, ¬ CW o k → liftV z s o k = v o k := fun o k q => by
    by_cases c : 307 ≤ o ∧ o < 350
    · rw [liftV_i c]
      exact s1 o k (fun w => q (by unfold CW; unfold TC2 at w ⊢; omega))
    · rw [liftV_o c]
      exact z1 o k (fun w => q (by unfold CW; omega))
  have h3 := h.2.2.2.1
  refine h.cw (fun o k q => e o k (fun w => q (Or.inl w))) (h3.eq2 (fun n n0 n1 => by rw [liftV_i (by omega)]; exact hv9 n n0 n1) (fun o k q q2 => e o k ?_)) ⟨⟨?_, ?_⟩, ⟨fun j => ?_, fun j => ?_, fun j => ?_, fun j => ?_, fun j => ?_⟩, ?_⟩
  · unfold FP3 at q
    unfold CW TC2
    omega
  · rw [liftV_i (by omega)]; exact s2
  · rw [liftV_i (by omega)]; exact s3
  · rw [liftV_i (by omega)]; exact s4 j
  · rw [liftV_i (by omega)]; exact s5 j
  · rw [liftV_i (by omega)]; exact s6 j
  · rw [liftV_i (by omega)]; exact s7 j
  · rw [liftV_i (by omega)]; exact s8 j
  · rw [liftV_o (by omega)]; exact z2
theorem CZI.ksz {A : AHp} {v z : Sg} (h : RR A v) (hz : CZI v z) : KSZ (cl A z) 207 := by
  have k := RR.ksz (A := A) h.2.2.2.1 h.2.2.2.2.1 h.2.2.2.2.2.1 h.2.2.2.2.2.2.1
  obtain ⟨k1, k2, k3, k4⟩ := k
  have e1 : z 210 1 = v 210 1 := hz.1 _ _ (by omega)
  have e2 : z 212 2 = v 212 2 := hz.1 _ _ (by omega)
  have e3 : z 215 2 = v 215 2 := hz.1 _ _ (by omega)
  have e4 : z 218 2 = v 218 2 := hz.1 _ _ (by omega)
  refine ⟨?_, ?_, ?_, ?_⟩
  · show 0 ≤ z 210 1 ∧ z 210 1 ≤ 60
    rw [e1]; exact k1
  · show 0 ≤ z 212 2 ∧ z 212 2 ≤ 5
    rw [e2]; exact k2
  · show 0 ≤ z 215 2 ∧ z 215 2 ≤ 10
    rw [e3]; exact k3
  · show 0 ≤ z 218 2 ∧ z 218 2 ≤ 8
    rw [e4]; exact k4
theorem kcv_f {A : AHp} {z : Sg} {ko : Int} (hko : ko = 235 ∨ ko = 249) : (∀ k, 0 ≤ k → k < 5 → kcv A z ko (ko + 1) k = z 208 k) ∧ (∀ k, 0 ≤ k → k < 3 → kcv A z ko (ko + 2) k = z 209 k) ∧ kcv A z ko ko 2 = z 207 2 ∧ ∀ o k, o < ko ∨ ko + 14 ≤ o → kcv A z ko o k = z o k := by
  have hk := keq_n (kcp_eq (A := cl A z) (a := ko) (b := 207) (by omega))
  obtain ⟨k1, k2, k3, _⟩ := hk
  exact ⟨k1, k2, k3, fun o k q => kcp_out (A := cl A z) q⟩
theorem lift_z {A : AHp} {v z : Sg} (hz : CZI v z) : cl A z = lift (cl A z) v := lift_agree (fun o k a b => hz.1 o k (by omega))
theorem think {A : AHp} {v z s z0 : Sg} {ko l : Int} (h : RR A v) (hz : CZI v z) (hs9 : CSI v s) (hko : ko = 235 ∨ ko = 249) (hl9 : 0 ≤ l ∧ l < v 64 1) (hz0 : ∀ o k, o ≠ ko + 1 → z0 o k = kcv A z ko o k) (hv0 : ∀ n, 0 ≤ n → n < 5 → z0 (ko + 1) n = s 320 n) : ∃ t, thinksS 139 l s = some t ∧ CSI v t ∧ (∀ n, 0 ≤ n → n < 5 → t 320 n = s 320 n) ∧ (∀ o k, ¬ (TC2 o k ∨ o = 338) → t o k = s o k) ∧
    ∀ (d : Nat) (Q : Option AV → AHp → Prop), 111 ≤ d → (∀ z', CZI v z' → (z' (ko + 3) 1 = t 307 36 ∧ ∀ i, 0 ≤ i → i < t 307 36 → z' (ko + 3 + 1) i = t 331 i) → z' ko 4 = t 307 37 → z' ko 5 = t 307 34 → z' 64 3 = t 307 32 → (∀ o k, 235 ≤ o → o ≤ 262 → ¬ (ko ≤ o ∧ o ≤ ko + 13) → z' o k = z o k) → Q none (cl A z')) → CALL d mX4_runLine [vr 64, vr ko, vi l] (cl A z0) Q := by
  obtain ⟨h0, h1, h2, h3, h4, h5, h6, h7, h8, h9, h10⟩ := id h
  obtain ⟨z1, z2⟩ := id hz
  obtain ⟨s1, ⟨s2, s3, s4, s5, s6, s7⟩, s8⟩ := id hs9
  obtain ⟨k1, k2, k3, k4⟩ := kcv_f (A := A) (z := z) hko
  have hK : KeptAt A ko := by
    rcases hko with q | q
    · rw [q]; exact XK_trial h0.1.2.1
    · rw [q]; exact XK_rival h0.1.2.1
  have s0 : ∀ o k, o ≠ 338 → (scpy s 320 0 338 0 5) o k = s o k := fun o k q => scpy_n (by omega)
  have s38 : ∀ k, 0 ≤ k → k < 5 → (scpy s 320 0 338 0 5) 338 k = s 320 k := fun k a b => by
    rw [scpy_i (by omega)]
    congr 1
    omega
  have hRS : RS v z0 (scpy s 320 0 338 0 5) ko := by
    refine ⟨fun o k q => ?_, fun o k a b => ?_, fun f f0 f1 => ?_, ?_, fun n n0 n1 => ?_, ⟨?_, ?_, fun j => ?_, fun j => ?_, fun j => ?_, fun j => ?_⟩, fun j => ?_⟩
    · rw [hz0 o k (by omega), k4 o k (by omega)]
      exact z1 o k (by omega)
    · rw [s0 o k (by omega)]
      exact s1 o k (by unfold TC2; omega)
    · rw [hz0 _ _ (by omega), k2 f f0 f1, z1 209 f (by omega), s0 321 f (by omega), s1 321 f (by unfold TC2; omega)]
      exact h3.2.1 f f0 f1
    · rw [hz0 _ _ (by omega), k3, z1 207 2 (by omega), s0 307 15 (by omega), s1 307 15 (by unfold TC2; omega)]
      exact h3.2.2.1
    · rw [s0 320 n (by omega)]
      exact hv0 n n0 n1
    · rw [s0 307 32 (by omega)]; exact s2
    · rw [s0 307 36 (by omega)]; exact s3
    · rw [s0 320 j (by omega)]; exact s4 j
    · rw [s0 324 j (by omega)]; exact s5 j
    · rw [s0 325 j (by omega)]; exact s6 j
    · rw [s0 329 j (by omega)]; exact s7 j
    · rw [s0 331 j (by omega)]; exact s8 j
  obtain ⟨t, g1, ⟨g2, g3, g4, g5, g6, g7, g8⟩, g9, g10, g11⟩ := run_core h1 h0.2.2.2.1 h0.1.2.1 hK (by omega) hRS hl9
  have t0 : ∀ o k, o ≠ 320 → (scpy t 338 0 320 0 5) o k = t o k := fun o k q => scpy_n (by omega)
  have t20 : ∀ k, 0 ≤ k → k < 5 → (scpy t 338 0 320 0 5) 320 k = s 320 k := fun k a b => by
    rw [scpy_i (by omega), show (0 : Int) + (k - 0) = k by omega, g10 338 k (by unfold TC2; omega)]
    exact s38 k a b
  have t20o : ∀ k, k < 0 ∨ 5 ≤ k → (scpy t 338 0 320 0 5) 320 k = t 320 k := fun k a => scpy_n (by omega)
  refine ⟨scpy t 338 0 320 0 5, ?_, ⟨fun o k q => ?_, ⟨?_, ?_, fun j => ?_, fun j => ?_, fun j => ?_, fun j => ?_⟩, fun j => ?_⟩, t20, fun o k q => ?_, fun d Q hd hQ => g11 d Q hd (fun z' u1 u2 u3 u4 u5 => ?_)⟩
  · unfold thinksS
    rw [g1, Option.bind_some]
  · have q1 : ¬ TC2 o k := fun w => q (Or.inl w)
    have q2 : o ≠ 338 := fun w => q (Or.inr (Or.inl w))
    rw [t0 o k (fun w => q1 (Or.inl w)), g10 o k q1, s0 o k q2]
    exact s1 o k q
  · rw [t0 307 32 (by omega)]; exact g3
  · rw [t0 307 36 (by omega)]; exact g4
  · by_cases c : 0 ≤ j ∧ j < 5
    · rw [t20 j c.1 c.2]; exact s4 j
    · rw [t20o j (by omega)]; exact g5 j
  · rw [t0 324 j (by omega)]; exact g6 j
  · rw [t0 325 j (by omega)]; exact g7 j
  · rw [t0 329 j (by omega)]; exact g8 j
  · rw [t0 331 j (by omega)]; exact g9 j
  · have q1 : ¬ TC2 o k := fun w => q (Or.inl w)
    have q2 : o ≠ 338 := fun w => q (Or.inr w)
    rw [t0 o k (fun w => q1 (Or.inl w)), g10 o k q1, s0 o k q2]
  · obtain ⟨w1, ⟨w2, w3, w4⟩, w5⟩ := u1
    have u2' := u2.1 (by omega)
    refine hQ z' ⟨fun o k q => ?_, by rw [w3]; exact w4⟩ ⟨by rw [t0 307 36 (by omega)]; exact u2'.1, fun i i0 i1 => ?_⟩ (by rw [t0 307 37 (by omega)]; exact u3) (by rw [t0 307 34 (by omega)]; exact u4) (by rw [t0 307 32 (by omega)]; exact w2) (fun o k a b c => ?_)
    · rw [u5 o k (by omega), hz0 o k (by omega), k4 o k (by omega)]
      exact z1 o k q
    · rw [t0 307 36 (by omega)] at i1
      rw [t0 331 i (by omega)]
      exact u2'.2 i i0 i1
    · rw [u5 o k (by omega), hz0 o k (by omega), k4 o k (by omega)]
theorem p_on {A : AHp} {v : Sg} {l w : Int} (h : RR A v) (hw : in32 w) : PAIR A v mX12_on mX13_on [vi l, vi w] := by
  obtain ⟨h0, h1, h2, h3, h4, h5, h6, h7, h8, h9, h10⟩ := id h
  have hX := h0.1.2.1
  have hM := h0.1.2.2
  have hln := h1.1
  have hl12 := h1.2.1
  unfold PAIR
  refine x_on (by omega) hX ((CZI.rf h).ksz h) hw (fun q => ?_) (fun q1 q2 => ?_)
  · rw [lift_z (CZI.rf h)]
    exact c_on (n := 139) (by omega) hM hMinC (by omega) hw (fun _ => ⟨rfl, A, v, (lift_z (CZI.rf h)).symm, h, GRO.rf, by omega⟩) (fun _ _ _ => by omega)
  · obtain ⟨k1, k2, k3, k4⟩ := kcv_f (A := A) (z := v) (ko := 235) (by omega)
    obtain ⟨t, g1, g2, g3, _, g4⟩ := think (ko := 235) (z0 := kcv A v 235) h (CZI.rf h) (CSI.rf h) (by omega) ⟨q1, q2⟩ (fun _ _ _ => rfl) (fun n n0 n1 => (k1 n n0 n1).trans (h3.1 n n0 n1))
    have hr := g2.2.1.2.1
    refine g4 _ _ (by omega) (fun z' u1 u2 u3 u4 u5 _ => ⟨z', rfl, rfl, ?_, ?_⟩)
    · have e : z' 238 1 = t 307 36 := u2.1
      rw [e]; exact hr
    · rw [lift_z u1]
      have e38 : z' 238 1 = t 307 36 := u2.1
      have e39 : ∀ i, 0 ≤ i → i < t 307 36 → z' 239 i = t 331 i := u2.2
      refine c_on (n := 139) (by omega) hM hMinC (by omega) hw (fun q3 => ⟨?_, A, z', (lift_z u1).symm, ?_, GRO.rf, by omega⟩) (fun _ _ _ => ⟨t, g1, hr, ⟨?_, A, liftV z' t, lift_cl, h.cz u1 g2 g3, GRO.rf, by omega⟩⟩)
      · have hw0 : w < 0 := by omega
        rw [if_neg (by omega)]
        unfold ofX
        rw [if_neg (by omega), if_neg (by omega), if_neg (by omega), if_neg (by omega)]
      · have e : liftV z' v = z' := by
          funext o k
          unfold liftV
          split
          · exact (u1.1 o k (by omega)).symm
          · rfl
        have := h.cz u1 (CSI.rf h) (fun _ _ _ => rfl)
        rw [e] at this
        exact this
      · congr 2
        unfold onV ofX
        by_cases c3 : w = 3
        · rw [if_pos c3, if_neg (by omega), if_neg (by omega), if_neg (by omega), if_pos c3]
          exact u5
        · rw [if_neg c3]
          by_cases c0 : w = 0
          · rw [if_pos c0, if_pos c0]; exact e38
          · rw [if_neg c0, if_neg c0]
            by_cases c1 : w = 1
            · rw [if_pos c1, if_pos c1]; exact u3
            · rw [if_neg c1, if_neg c1]
              by_cases c2 : w = 2
              · rw [if_pos c2, if_pos c2]; exact u4
              · rw [if_neg c2, if_neg c2, if_neg c3, show z' (235 + 3) 1 = t 307 36 from u2.1]
                by_cases c4 : 40 ≤ w ∧ w < 40 + t 307 36
                · rw [if_pos c4, if_pos c4]
                  exact u2.2 _ (by omega) (by omega)
                · rw [if_neg c4, if_neg c4]
theorem sumS_eq {u t : Sg} {a b : Int} : ∀ n : Nat, (∀ i : Int, 0 ≤ i → i < n → u a i = t b i) → sumS u a n = sumS t b n
  | 0, _ => rfl
  | n + 1, h => by
    have e := sumS_eq (u := u) (t := t) (a := a) (b := b) n (fun i i0 i1 => h i i0 (by omega))
    unfold sumS
    rw [e, h n (by omega) (by omega)]
theorem p_mean {A : AHp} {v : Sg} {l p : Int} (h : RR A v) : PAIR A v mX12_mean mX13_mean [vi l, vi p] := by
  obtain ⟨h0, h1, h2, h3, h4, h5, h6, h7, h8, h9, h10⟩ := id h
  have hX := h0.1.2.1
  have hM := h0.1.2.2
  have hln := h1.1
  have hl12 := h1.2.1
  unfold PAIR
  refine x_mean (by omega) hX ((CZI.rf h).ksz h) (fun q => ?_) (fun q1 q2 qp => ?_)
  · rw [lift_z (CZI.rf h)]
    exact c_mean (n := 139) (by omega) hM hMinC (by omega) (fun _ => ⟨rfl, A, v, (lift_z (CZI.rf h)).symm, h, GRO.rf, by omega⟩) (fun _ _ _ => by omega)
  · obtain ⟨k1, k2, k3, k4⟩ := kcv_f (A := A) (z := v) (ko := 235) (by omega)
    obtain ⟨t, g1, g2, g3, _, g4⟩ := think (ko := 235) (z0 := kcv A v 235) h (CZI.rf h) (CSI.rf h) (by omega) ⟨q1, q2⟩ (fun _ _ _ => rfl) (fun n n0 n1 => (k1 n n0 n1).trans (h3.1 n n0 n1))
    have hr := g2.2.1.2.1
    have h31 := g2.2.2
    refine g4 _ _ (by omega) (fun z' u1 u2 u3 u4 u5 _ => ?_)
    have e38 : z' 238 1 = t 307 36 := u2.1
    have e39 : ∀ i, 0 ≤ i → i < t 307 36 → z' 239 i = t 331 i := u2.2
    refine ⟨z', rfl, rfl, by rw [e38]; exact hr, fun j j0 j1 => by rw [e39 j j0 (by omega)]; exact h31 j, fun c => ?_, fun c => ?_⟩
    · rw [lift_z u1]
      exact c_mean (n := 139) (by omega) hM hMinC (by omega) (fun q => by omega) (fun _ _ _ => ⟨t, g1, hr, h31, fun _ => ⟨rfl, A, liftV z' t, lift_cl, h.cz u1 g2 g3, GRO.rf, by omega⟩, fun _ => by omega⟩)
    · rw [lift_z u1]
      refine c_mean (n := 139) (by omega) hM hMinC (by omega) (fun q => by omega) (fun _ _ _ => ⟨t, g1, hr, h31, fun _ => by omega, fun _ => ⟨?_, A, liftV z' t, lift_cl, h.cz u1 g2 g3, GRO.rf, by omega⟩⟩)
      have es : sumS z' 239 (t 307 36).toNat = sumS t 331 (t 307 36).toNat := sumS_eq _ (fun i i0 i1 => e39 i i0 (by omega))
      rw [e38, es]
theorem p_alike {A : AHp} {v : Sg} {l p : Int} (h : RR A v) : PAIR A v mX12_alike mX13_alike [vi l, vi p] := by
  obtain ⟨h0, h1, h2, h3, h4, h5, h6, h7, h8, h9, h10⟩ := id h
  have hX := h0.1.2.1
  have hM := h0.1.2.2
  have hln := h1.1
  have hl12 := h1.2.1
  unfold PAIR
  refine x_alike (by omega) hX ((CZI.rf h).ksz h) (fun q => ?_) (fun q1 q2 q3 q4 => ?_)
  · rw [lift_z (CZI.rf h)]
    exact c_alike (n := 139) (by omega) hM hMinC (by omega) (fun _ => ⟨rfl, A, v, (lift_z (CZI.rf h)).symm, h, GRO.rf, by omega⟩) (fun _ _ _ _ => by omega)
  · obtain ⟨k1, k2, k3, k4⟩ := kcv_f (A := A) (z := v) (ko := 235) (by omega)
    obtain ⟨t, g1, g2, g3, _, g4⟩ := think (ko := 235) (z0 := kcv A v 235) h (CZI.rf h) (CSI.rf h) (by omega) ⟨q1, q2⟩ (fun _ _ _ => rfl) (fun n n0 n1 => (k1 n n0 n1).trans (h3.1 n n0 n1))
    refine g4 _ _ (by omega) (fun z1 u1 u2 u3 u4 u5 _ => ⟨z1, rfl, rfl, u1.ksz h, ?_⟩)
    obtain ⟨m1, m2, m3, m4⟩ := kcv_f (A := A) (z := z1) (ko := 249) (by omega)
    have so : ∀ o k, o ≠ 340 → (scpy t 331 0 340 0 60) o k = t o k := fun o k q => scpy_n (by omega)
    have s340 : ∀ k, 0 ≤ k → k < 60 → (scpy t 331 0 340 0 60) 340 k = t 331 k := fun k a b => by
      rw [scpy_i (by omega)]
      congr 1
      omega
    have hs2 : CSI v (scpy t 331 0 340 0 60) := by
      obtain ⟨x1, ⟨x2, x3, x4, x5, x6, x7⟩, x8⟩ := id g2
      refine ⟨fun o k q => ?_, ⟨?_, ?_, fun j => ?_, fun j => ?_, fun j => ?_, fun j => ?_⟩, fun j => ?_⟩
      · rw [so o k (by omega)]; exact x1 o k q
      · rw [so _ _ (by omega)]; exact x2
      · rw [so _ _ (by omega)]; exact x3
      · rw [so _ _ (by omega)]; exact x4 j
      · rw [so _ _ (by omega)]; exact x5 j
      · rw [so _ _ (by omega)]; exact x6 j
      · rw [so _ _ (by omega)]; exact x7 j
      · rw [so _ _ (by omega)]; exact x8 j
    obtain ⟨t2, f1, f2, f3, f4, f5⟩ := think (ko := 249) (z0 := kcv A z1 249) h u1 hs2 (by omega) ⟨q3, q4⟩ (fun _ _ _ => rfl) (fun n n0 n1 => by
      rw [so _ _ (by omega), g3 n n0 n1, ← h3.1 n n0 n1, ← u1.1 208 n (by omega)]
      exact m1 n n0 n1)
    have hr := g2.2.1.2.1
    have hr2 := f2.2.1.2.1
    have f3' : ∀ n, 0 ≤ n → n < 5 → t2 320 n = v 320 n := fun n n0 n1 => by
      rw [f3 n n0 n1, so _ _ (by omega)]
      exact g3 n n0 n1
    refine f5 _ _ (by omega) (fun z2 w1 w2 w3 w4 w5 w6 => ⟨z2, rfl, rfl, ?_⟩)
    have a38 : z2 238 1 = t 307 36 := (w6 238 1 (by omega) (by omega) (by omega)).trans u2.1
    have a39 : ∀ i, 0 ≤ i → i < t 307 36 → z2 239 i = t 331 i := fun i i0 i1 => (w6 239 i (by omega) (by omega) (by omega)).trans (u2.2 i i0 i1)
    have a35 : z2 235 4 = t 307 37 := (w6 235 4 (by omega) (by omega) (by omega)).trans u3
    have b52 : z2 252 1 = t2 307 36 := w2.1
    have b53 : ∀ i, 0 ≤ i → i < t2 307 36 → z2 253 i = t2 331 i := w2.2
    have b49 : z2 249 4 = t2 307 37 := w3
    have t340 : ∀ k, 0 ≤ k → k < 60 → t2 340 k = t 331 k := fun k a b => (f4 340 k (by unfold TC2; omega)).trans (s340 k a b)
    have hiff : (z2 235 4 = z2 249 4 ∧ z2 238 1 = z2 252 1 ∧ ∀ j, 0 ≤ j → j < z2 238 1 → z2 239 j = z2 253 j) ↔ (t 307 36 = t2 307 36 ∧ t 307 37 = t2 307 37 ∧ ∀ k, 0 ≤ k → k < t 307 36 → t2 331 k = t2 340 k) := by
      rw [a35, b49, a38, b52]
      refine ⟨fun ⟨x1, x2, x3⟩ => ⟨x2, x1, fun k k0 k1 => ?_⟩, fun ⟨x1, x2, x3⟩ => ⟨x2, x1, fun k k0 k1 => ?_⟩⟩
      · rw [t340 k k0 (by omega), ← a39 k k0 k1, x3 k k0 k1, b53 k k0 (by omega)]
      · rw [a39 k k0 k1, b53 k k0 (by omega), x3 k k0 k1, t340 k k0 (by omega)]
    refine ⟨by rw [a38]; exact hr, fun c => ?_, fun c => ?_⟩
    · rw [lift_z w1]
      exact c_alike (n := 139) (by omega) hM hMinC (by omega) (fun q => by omega) (fun _ _ _ _ => ⟨t, t2, g1, f1, hr, fun _ => ⟨rfl, A, liftV z2 t2, lift_cl, h.cz w1 f2 f3', GRO.rf, by omega⟩, fun c2 => absurd (hiff.mp c) c2⟩)
    · rw [lift_z w1]
      exact c_alike (n := 139) (by omega) hM hMinC (by omega) (fun q => by omega) (fun _ _ _ _ => ⟨t, t2, g1, f1, hr, fun c2 => absurd (hiff.mpr c2) c, fun _ => ⟨rfl, A, liftV z2 t2, lift_cl, h.cz w1 f2 f3', GRO.rf, by omega⟩⟩)
