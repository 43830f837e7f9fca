/-! ===== the pairs again: line ===== -/
theorem mid_g {A B : AHp} {v w : Sg} (hM : MLAY A) (h9 : 350 ≤ hn A) (hG : GRO A B) (e : ∀ k, w 33 k = v 33 k) : MID A v (cl B w) := ⟨⟨(hG.1.2 33 (by omega)).1, (hG.1.2 33 (by omega)).2.1, e⟩, old_O hG.1 (MO hM)⟩
theorem p2_line {A : AHp} {v : Sg} (h : RR A v) : PAIR2 A v mX12_line mX13_line [] := by
  obtain ⟨h0, h1, h2, h3, h4, h5, h6, h7, h8, h9, h10⟩ := id h
  have hX := h0.1.2.1
  have hA := h0.1.1
  obtain ⟨a1, a2, a3, a4⟩ := id h1
  unfold PAIR2
  have hB : v 64 1 < 8 → BDR (rd0 v) 0 := fun q => bdr_rd0 h2.2.1 (by omega) (fun k k0 k1 => (h2.2.2 k k0 k1).2) h0.2.2.2.2.2
  have hT : TSM v v := by
    refine ⟨⟨by rw [h2.1]; exact h2.2.1, fun k k0 => ?_, fun k k0 => ?_⟩, h2.1, h0.2.2.2.2.1⟩
    · unfold btX btS
      rw [h2.1]
      split
      · next z => exact (h2.2.2 k k0 z).1
      · rfl
    · unfold btS
      split
      · next z => have := (h2.2.2 k k0 z).2; omega
      · omega
  have hx : v 64 1 < 8 → ∃ l t, listR 4 0 (rd0 v) = some (l, t) ∧ RQ (rd0 v) t l 1 0 ∧ (0 ≤ l → l = 60 * rd0 v 307 12 + rd0 v 307 20) := fun q => rd_listR_ok 4 0 (by omega) (by omega) _ (hB q)
  by_cases c8 : v 64 1 < 8
  · obtain ⟨l, t, g1, ⟨q1, q2, q3, q4, q5⟩, g3⟩ := hx c8
    have r12 : rd0 v 307 12 = v 307 12 := rd0_k (by omega)
    have r20 : rd0 v 307 20 = 0 := rd0_z (by omega)
    have r21 : rd0 v 307 21 = 0 := rd0_z (by omega)
    have r22 : rd0 v 307 22 = 0 := rd0_z (by omega)
    have r18 : rd0 v 307 18 = 0 := rd0_z (by omega)
    obtain ⟨m1, m2, m3, m4⟩ := id q2
    have t12 : t 307 12 = v 64 1 := by rw [q1.k (by omega), r12, a2]
    have t17 : t 307 17 = v 307 17 := (q1.k (by omega)).trans (rd0_k (by omega))
    have hn7 : N7 t := listR_n7 4 0 _ _ _ g1 (fun j => by rw [rd0_o (by omega)]; exact a3 j)
    have tf : ∀ o i, 307 ≤ o → o < 350 → ¬ ((o = 307 ∧ 17 ≤ i ∧ i ≤ 23) ∨ (309 ≤ o ∧ o ≤ 317)) → t o i = v o i := fun o i z1 z2 z => by
      rw [q1 o i (by unfold INX; omega)]
      by_cases c : o = 307
      · rw [c]; exact rd0_k (by omega)
      · exact rd0_o c
    have tl : ∀ l o i, 0 ≤ l → l < v 64 1 → LIN l o i → t o i = v o i := fun l o i z1 z2 z => by
      have zo : o ≠ 307 := by unfold LIN at z; omega
      rw [q1 o i (fun z3 => ?_)]
      · exact rd0_o zo
      · unfold LIN at z
        unfold INX at z3
        rw [r12, a2, r20, r21, r22] at z3
        rcases z with z | z | z <;> omega
    refine x_line (s := v) (t := t) (l := l) (by omega) hX hA a1 (fun j j0 j1 => (a4 j j0 j1).1.1) (fun _ => by omega) (fun _ => ⟨hT, hB c8, g1, fun z => ⟨(q4 z).1, by have := q4 z; omega⟩, by omega, by omega⟩) (fun _ hfail B w hG hH hXl w2 => ?_) (fun _ hl0 htl B w q po hG hH hXl w2 hq9 hO p0 p1 p2 p3 hJ => ?_)
    · have hM := old_M hG.1 h0.1.2.2
      have hle := hG.1.1
      have hwv : ∀ o k, 307 ≤ o → o < 350 → w o k = v o k := fun o k z1 z2 => hXl o k (by omega) (by omega)
      refine ⟨mid_g h0.1.2.2 hA hG (fun k => by first | exact hXl 33 k (by omega) (by omega) | (simp (disch := omega) only [sset_1]; exact hXl 33 k (by omega) (by omega))), ?_⟩
      rw [lift_agree hwv]
      have fin : ∀ s : Sg, s 307 17 = 0 → N7 s → (∀ o i, 307 ≤ o → o < 350 → ¬ ((o = 307 ∧ 17 ≤ i ∧ i ≤ 23) ∨ (309 ≤ o ∧ o ≤ 317)) → s o i = v o i) → (∀ l o i, 0 ≤ l → l < v 64 1 → LIN l o i → s o i = v o i) → RR B (liftV w s) := fun s s17 s7 s1 s2 => by
        refine h.rdF hG (by rw [liftV_o (by omega)]; exact w2) (by rw [liftV_i (by omega)]; exact s17) (fun j => by rw [liftV_i (by omega)]; exact s7 j) (fun o k z => ?_) (fun l o i z1 z2 z => ?_)
        · by_cases c : 307 ≤ o ∧ o < 350
          · rw [liftV_i c]; exact s1 o k c.1 c.2 (by omega)
          · rw [liftV_o c]; exact hXl o k (by omega) (by omega)
        · rw [liftV_i (by unfold LIN at z; omega)]
          exact s2 l o i z1 z2 z
      refine c_line (n := 4) (by omega) hM (by omega) (fun z => by omega) (fun _ => ⟨l, t, g1, by omega, by omega, fun z => ⟨by have := q4 z; omega, ?_⟩, fun z1 z2 => ?_, fun z1 z2 => ?_⟩)
      · refine ⟨fun _ => rfl, by rw [if_pos z], B, liftV w (sset t 307 17 0), rfl, fin _ sset_e (hn7.o (by omega)) (fun o i z1 z2 z3 => ?_) (fun l o i z1 z2 z3 => ?_), hG, by omega⟩
        · rw [sset_ne (by omega)]; exact tf o i z1 z2 z3
        · rw [sset_1 (by unfold LIN at z3; omega)]; exact tl l o i z1 z2 z3
      · refine ⟨fun _ => rfl, by rw [if_neg (by omega)], B, liftV w (sset (sset t 307 19 (t 307 18)) 307 17 0), rfl, fin _ sset_e ((hn7.o (by omega)).o (by omega)) (fun o i z1 z2 z3 => ?_) (fun l o i z1 z2 z3 => ?_), hG, by omega⟩
        · rw [sset_ne (by omega), sset_ne (by omega)]; exact tf o i z1 z2 z3
        · rw [sset_1 (by unfold LIN at z3; omega), sset_1 (by unfold LIN at z3; omega)]; exact tl l o i z1 z2 z3
      · omega
    · have hM := old_M hG.1 h0.1.2.2
      have hle := hG.1.1
      have hwv : ∀ o k, 307 ≤ o → o < 350 → (sset (sset w 65 (v 64 1) q) 64 1 (v 64 1 + 1)) o k = v o k := fun o k z1 z2 => by
        rw [sset_1 (by omega), sset_1 (by omega)]
        exact hXl o k (by omega) (by omega)
      refine ⟨mid_g h0.1.2.2 hA hG (fun k => by first | exact hXl 33 k (by omega) (by omega) | (simp (disch := omega) only [sset_1]; exact hXl 33 k (by omega) (by omega))), ?_⟩
      rw [lift_agree hwv]
      obtain ⟨t1, t2, t3, t4, t5⟩ := q5 hl0
      have t60 := t1.2.1
      have hl60 := g3 hl0
      rw [r12, r20, a2] at hl60
      refine c_line (n := 4) (by omega) hM (by omega) (fun z => by omega) (fun _ => ⟨l, t, g1, by omega, by omega, fun z => by omega, fun z1 z2 => by omega, fun z1 z2 => ?_⟩)
      have lk : ∀ o i, ¬ ((o = 307 ∧ (i = 17 ∨ i = 12)) ∨ ((o = 318 ∨ o = 319) ∧ i = v 64 1)) → lineOK t o i = t o i := fun o i z => by
        unfold lineOK
        rw [t12]
        rw [sset_ne (by omega), sset_ne (by omega), sset_ne (by omega), sset_ne (by omega)]
      have l17 : lineOK t 307 17 = 0 := by
        unfold lineOK
        rw [sset_2 (by omega), sset_1 (by omega), sset_1 (by omega), sset_e]
      have l12 : lineOK t 307 12 = v 64 1 + 1 := by
        unfold lineOK
        rw [sset_e, t12]
      have l318 : lineOK t 318 (v 64 1) = t 307 22 := by
        unfold lineOK
        rw [t12, sset_1 (by omega), sset_1 (by omega), sset_e]
      have l319 : lineOK t 319 (v 64 1) = t 307 23 := by
        unfold lineOK
        rw [t12, sset_1 (by omega), sset_e]
      have W65 : liftV (sset (sset w 65 (v 64 1) q) 64 1 (v 64 1 + 1)) (lineOK t) 65 (v 64 1) = q := by
        rw [liftV_o (by omega), sset_1 (by omega), sset_e]
      have Wt : ∀ o i, 309 ≤ o → o ≤ 317 → liftV (sset (sset w 65 (v 64 1) q) 64 1 (v 64 1 + 1)) (lineOK t) o i = t o i := fun o i z1 z2 => by
        rw [liftV_i (by omega)]; exact lk o i (by omega)
      have Wh : ∀ o i, 350 ≤ o → liftV (sset (sset w 65 (v 64 1) q) 64 1 (v 64 1 + 1)) (lineOK t) o i = w o i := fun o i z1 => by
        rw [liftV_o (by omega), sset_1 (by omega), sset_1 (by omega)]
      refine ⟨fun _ => rfl, by rw [t12], B, liftV (sset (sset w 65 (v 64 1) q) 64 1 (v 64 1 + 1)) (lineOK t), rfl, h.rdL hG ?_ ?_ (fun j => ?_) c8 ?_ ?_ ⟨⟨?_, ?_, ?_, ?_⟩, fun C x u o1 o2 o3 => ?_⟩ (fun o k z => ?_) (fun l2 o i z1 z2 z => ?_), hG, by omega⟩
      · rw [liftV_o (by omega), sset_1 (by omega), sset_1 (by omega)]; exact w2
      · rw [liftV_i (by omega)]; exact l17
      · rw [Wt _ _ (by omega) (by omega)]; exact hn7 j
      · rw [liftV_o (by omega), sset_e]
      · rw [liftV_i (by omega)]; exact l12
      · rw [W65]; exact hO
      · rw [W65, p0]
        exact (hJ B w t (old_rfl B) (fun _ _ _ _ => rfl) (fun _ _ _ => rfl)).1
      · rw [W65, p2, liftV_i (by omega), l318]
      · rw [W65, p3, liftV_i (by omega), l319]
      · rw [W65, p0, p1]
        have hv1 : AGV A B w x := fun o k z1 z2 => (o2 o k (by omega) z2).trans (Wh o k (by omega))
        have hu1 : AGT (rd0 v) t u := fun o i z => by
          have zt : 309 ≤ o ∧ o ≤ 317 := by unfold INS at z; omega
          rw [o3 o i ?_]
          · exact Wt o i zt.1 zt.2
          · unfold INS at z
            rw [r12, a2, r20, r21, r22] at z
            unfold LIN
            rcases z with z | z | z | z <;> omega
        obtain ⟨_, j1⟩ := hJ C x u o1 hv1 hu1
        obtain ⟨_, j2⟩ := hJ C x t o1 hv1 (fun _ _ _ => rfl)
        rw [r12, a2] at j1
        have el : l = 60 * v 64 1 := by omega
        refine ⟨by rw [← el]; exact j1, ?_⟩
        rw [← el, ← j2.cn]
        exact j1.cn
      · by_cases c : 307 ≤ o ∧ o < 350
        · rw [liftV_i c, lk o k (by omega)]; exact tf o k c.1 c.2 (by omega)
        · rw [liftV_o c, sset_ne (by omega), sset_ne (by omega)]; exact hXl o k (by omega) (by omega)
      · have zt : 309 ≤ o ∧ o ≤ 317 := by unfold LIN at z; omega
        rw [Wt o i zt.1 zt.2]
        exact tl l2 o i z1 z2 z
  · refine x_line (s := v) (t := v) (l := 0) (by omega) hX hA a1 (fun j j0 j1 => (a4 j j0 j1).1.1) (fun _ => ?_) (fun z => absurd z c8) (fun z => absurd z c8) (fun z => absurd z c8)
    refine ⟨mid_rf h0.1.2.2, ?_⟩
    have e := lift_agree (A := A) (w := v) (v := v) (fun _ _ _ _ => rfl)
    rw [e]
    refine c_line (n := 4) (by omega) h0.1.2.2 (by omega) (fun _ => ⟨fun _ => rfl, rfl, A, v, e.symm, h, GRO.rf, by omega⟩) (fun z => by omega)

