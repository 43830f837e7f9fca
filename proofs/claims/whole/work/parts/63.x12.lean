/-! ===== the class: alike, mean, fits, odds, ends, jobs ===== -/
theorem sumI_cl {A : AHp} {v : Sg} {o : Int} : ∀ n : Nat, sumI (cl A v) o n = sumS v o n
  | 0 => rfl
  | n + 1 => by
    unfold sumI sumS
    rw [sumI_cl n, hv_cl]
set_option maxRecDepth 20000 in
theorem x_alike {d : Nat} {l p : Int} {A : AHp} {v : Sg} {Q : Option AV → AHp → Prop} (hd : 6 ≤ d) (hX : XLAY A) (hz : KSZ (cl A v) 207) (hN : ¬ (0 ≤ l ∧ l < v 64 1 ∧ 0 ≤ p ∧ p < v 64 1) → Q (some (vi (-1))) (cl A v))
  (hO : 0 ≤ l → l < v 64 1 → 0 ≤ p → p < v 64 1 → CALL (d - 2) mX4_runLine [vr 64, vr 235, vi l] (cl A (kcv A v 235)) (fun r B => ∃ u, r = none ∧ B = cl A u ∧ KSZ (cl A u) 207 ∧ CALL (d - 2) mX4_runLine [vr 64, vr 249, vi p] (cl A (kcv A u 249)) (fun r B => ∃ u2, r = none ∧ B = cl A u2 ∧ (0 ≤ u2 238 1 ∧ u2 238 1 ≤ 60) ∧ ((u2 235 4 = u2 249 4 ∧ u2 238 1 = u2 252 1 ∧ ∀ j, 0 ≤ j → j < u2 238 1 → u2 239 j = u2 253 j) → Q (some (vi 1)) (cl A u2)) ∧ (¬ (u2 235 4 = u2 249 4 ∧ u2 238 1 = u2 252 1 ∧ ∀ j, 0 ≤ j → j < u2 238 1 → u2 239 j = u2 253 j) → Q (some (vi 0)) (cl A u2))))) : CALL d mX12_alike [vr 60, vi l, vi p] (cl A v) Q := by
  refine CALL.of (by decide) (Nat.le_of_ble_eq_true rfl) ?_
  change AW d mX12_alike 0 [some (vr 60), some (vi l), some (vi p), none] [] (cl A v) Q
  refine aw_aload_n (pc' := 1) rfl dX12_alike_0 rfl ?_
  refine aw_iload_n (pc' := 2) rfl dX12_alike_1 rfl ?_
  refine aw_callV (ci := 10) (d' := d - 1) (as := [_]) (pc' := 5) (by decide) rfl kX12_isLine iX12_isLine sX12_isLine lX12_83 (XO (A := (cl A v)) hX) dX12_alike_2 rfl rfl (Nat.le_of_ble_eq_true rfl) (by omega) ?_
  refine x_isLine (by omega) hX (fun e1_2 e2_2 => ?_) (fun e0_2 => ?_)
  · rw [hv_cl] at e2_2
    refine aw_if_eq (pt := 16) (pf := 8) dX12_alike_5 (by decide) rfl (fun c_5 => absurd c_5 (by decide)) (fun _ => ?_)
    refine aw_aload_n (pc' := 9) rfl dX12_alike_8 rfl ?_
    refine aw_iload_n (pc' := 10) rfl dX12_alike_9 rfl ?_
    refine aw_callV (ci := 10) (d' := d - 1) (as := [_]) (pc' := 13) (by decide) rfl kX12_isLine iX12_isLine sX12_isLine lX12_83 (XO (A := (cl A v)) hX) dX12_alike_10 rfl rfl (Nat.le_of_ble_eq_true rfl) (by omega) ?_
    refine x_isLine (by omega) hX (fun e1_10 e2_10 => ?_) (fun e0_10 => ?_)
    · rw [hv_cl] at e2_10
      refine aw_if_ne (pt := 18) (pf := 16) dX12_alike_13 (by decide) rfl (fun _ => ?_) (fun c_13 => absurd (by decide) c_13)
      refine aw_aload_n (pc' := 19) rfl dX12_alike_18 rfl ?_
      refine aw_aload_n (pc' := 20) rfl dX12_alike_19 rfl ?_
      refine aw_getp (pc' := 23) (k9 := 5) (p := 235) dX12_alike_20 rfl fX12_35 rfl rfl rfl (XO (A := (cl A v)) hX) (X_trial (A := (cl A v)) hX) ?_
      refine aw_iload_n (pc' := 24) rfl dX12_alike_23 rfl ?_
      refine aw_callV (ci := 10) (d' := d - 1) (as := [_, _]) (pc' := 27) (by decide) rfl kX12_tryLine iX12_tryLine sX12_tryLine lX12_166 (XO (A := (cl A v)) hX) dX12_alike_24 rfl rfl (Nat.le_of_ble_eq_true rfl) (by omega) ?_
      refine x_tryLine (by omega) hX (XK_trial (A := cl A v) hX) (by omega) hz ?_
      rw [show d - 1 - 1 = d - 2 by omega]
      refine CALL.mono (hO (by omega) (by omega) (by omega) (by omega)) ?_
      rintro r B ⟨u, rfl, rfl, hQ2⟩
      refine ⟨u, rfl, rfl, ?_⟩
      refine aw_aload_n (pc' := 28) rfl dX12_alike_27 rfl ?_
      refine aw_aload_n (pc' := 29) rfl dX12_alike_28 rfl ?_
      refine aw_getp (pc' := 32) (k9 := 6) (p := 249) dX12_alike_29 rfl fX12_38 rfl rfl rfl (XO (A := (cl A v)) hX) (X_rival (A := (cl A v)) hX) ?_
      refine aw_iload_n (pc' := 33) rfl dX12_alike_32 rfl ?_
      refine aw_callV (ci := 10) (d' := d - 1) (as := [_, _]) (pc' := 36) (by decide) rfl kX12_tryLine iX12_tryLine sX12_tryLine lX12_166 (XO (A := (cl A v)) hX) dX12_alike_33 rfl rfl (Nat.le_of_ble_eq_true rfl) (by omega) ?_
      obtain ⟨hz2, hO2⟩ := hQ2
      refine x_tryLine (by omega) hX (XK_rival (A := cl A v) hX) (by omega) hz2 ?_
      rw [show d - 1 - 1 = d - 2 by omega]
      refine CALL.mono hO2 ?_
      rintro r B ⟨u2, rfl, rfl, hb9, hq1, hq0⟩
      refine ⟨u2, rfl, rfl, ?_⟩
      refine aw_aload_n (pc' := 37) rfl dX12_alike_36 rfl ?_
      refine aw_getp (pc' := 40) (k9 := 5) (p := 235) dX12_alike_37 rfl fX12_35 rfl rfl rfl (XO (A := (cl A v)) hX) (X_trial (A := (cl A v)) hX) ?_
      refine aw_geti (pc' := 43) (k9 := 4) dX12_alike_40 rfl fX12_138 rfl (by decide) rfl (XK_trial (A := (cl A v)) hX).1 ?_
      try simp (disch := omega) only [hv_cl, cl_set, sset_e, sset_1, sset_2]
      refine aw_aload_n (pc' := 44) rfl dX12_alike_43 rfl ?_
      refine aw_getp (pc' := 47) (k9 := 6) (p := 249) dX12_alike_44 rfl fX12_38 rfl rfl rfl (XO (A := (cl A v)) hX) (X_rival (A := (cl A v)) hX) ?_
      refine aw_geti (pc' := 50) (k9 := 4) dX12_alike_47 rfl fX12_138 rfl (by decide) rfl (XK_rival (A := (cl A v)) hX).1 ?_
      try simp (disch := omega) only [hv_cl, cl_set, sset_e, sset_1, sset_2]
      refine aw_icmp_ne (pt := 77) (pf := 53) dX12_alike_50 (by decide) rfl (fun c_50 => ?_) (fun c_50 => ?_)
      · refine aw_iconst (pc' := 78) (by decide) dX12_alike_77 rfl ?_
        refine aw_istore_n (pc' := 79) (lv' := [_, _, _, _]) dX12_alike_78 rfl (by decide) rfl ?_
        refine aw_iload_n (pc' := 80) rfl dX12_alike_79 rfl ?_
        refine aw_if_eq (pt := 87) (pf := 83) dX12_alike_80 (by decide) rfl (fun _ => ?_) (fun c_80 => absurd (by decide) c_80)
        refine aw_iconst (pc' := 88) (by decide) dX12_alike_87 rfl ?_
        refine AW.ret (some (vi _)) dX12_alike_88 trivial ?_
        exact hq0 (fun z => by first | omega | exact k0 ⟨z.2.1, z.2.2⟩)
      · replace c_50 := Classical.not_not.mp c_50
        refine aw_aload_n (pc' := 54) rfl dX12_alike_53 rfl ?_
        refine aw_getp (pc' := 57) (k9 := 5) (p := 235) dX12_alike_54 rfl fX12_35 rfl rfl rfl (XO (A := (cl A v)) hX) (X_trial (A := (cl A v)) hX) ?_
        refine aw_getp (pc' := 60) (k9 := 3) (p := 238) dX12_alike_57 rfl fX12_125 rfl rfl rfl (XK_trial (A := (cl A v)) hX).1 (XK_trial (A := (cl A v)) hX).2.2.2.1.1 ?_
        refine aw_aload_n (pc' := 61) rfl dX12_alike_60 rfl ?_
        refine aw_getp (pc' := 64) (k9 := 6) (p := 249) dX12_alike_61 rfl fX12_38 rfl rfl rfl (XO (A := (cl A v)) hX) (X_rival (A := (cl A v)) hX) ?_
        refine aw_getp (pc' := 67) (k9 := 3) (p := 252) dX12_alike_64 rfl fX12_125 rfl rfl rfl (XK_rival (A := (cl A v)) hX).1 (XK_rival (A := (cl A v)) hX).2.2.2.1.1 ?_
        refine aw_callV (ci := 4) (d' := d - 1) (as := [_]) (pc' := 70) (by decide) rfl kX5_isLike iX5_isLike sX5_isLike lX12_201 (XK_trial (A := (cl A v)) hX).2.2.2.1.2.1 dX12_alike_67 rfl rfl (Nat.le_of_ble_eq_true rfl) (by omega) ?_
        refine x_isLike (a := 238) (b := 252) (by omega) (XK_trial (A := cl A v) hX).2.2.2.1.2 (XK_rival (A := cl A v) hX).2.2.2.1.2 hb9 (fun k1 => ?_) (fun k0 => ?_)
        · refine aw_if_eq (pt := 77) (pf := 73) dX12_alike_70 (by decide) rfl (fun c_70 => absurd c_70 (by decide)) (fun _ => ?_)
          refine aw_iconst (pc' := 74) (by decide) dX12_alike_73 rfl ?_
          refine aw_goto (pc' := 78) dX12_alike_74 (by decide) ?_
          refine aw_istore_n (pc' := 79) (lv' := [_, _, _, _]) dX12_alike_78 rfl (by decide) rfl ?_
          refine aw_iload_n (pc' := 80) rfl dX12_alike_79 rfl ?_
          refine aw_if_eq (pt := 87) (pf := 83) dX12_alike_80 (by decide) rfl (fun c_80 => absurd c_80 (by decide)) (fun _ => ?_)
          refine aw_iconst (pc' := 84) (by decide) dX12_alike_83 rfl ?_
          refine aw_goto (pc' := 88) dX12_alike_84 (by decide) ?_
          refine AW.ret (some (vi _)) dX12_alike_88 trivial ?_
          exact hq1 ⟨by omega, k1.1, k1.2⟩
        · refine aw_if_eq (pt := 77) (pf := 73) dX12_alike_70 (by decide) rfl (fun _ => ?_) (fun c_70 => absurd (by decide) c_70)
          refine aw_iconst (pc' := 78) (by decide) dX12_alike_77 rfl ?_
          refine aw_istore_n (pc' := 79) (lv' := [_, _, _, _]) dX12_alike_78 rfl (by decide) rfl ?_
          refine aw_iload_n (pc' := 80) rfl dX12_alike_79 rfl ?_
          refine aw_if_eq (pt := 87) (pf := 83) dX12_alike_80 (by decide) rfl (fun _ => ?_) (fun c_80 => absurd (by decide) c_80)
          refine aw_iconst (pc' := 88) (by decide) dX12_alike_87 rfl ?_
          refine AW.ret (some (vi _)) dX12_alike_88 trivial ?_
          exact hq0 (fun z => by first | omega | exact k0 ⟨z.2.1, z.2.2⟩)
    · rw [hv_cl] at e0_10
      refine aw_if_ne (pt := 18) (pf := 16) dX12_alike_13 (by decide) rfl (fun c_13 => absurd c_13 (by decide)) (fun _ => ?_)
      refine aw_iconst (pc' := 17) (by decide) dX12_alike_16 rfl ?_
      refine AW.ret (some (vi _)) dX12_alike_17 trivial ?_
      exact hN (by omega)
  · rw [hv_cl] at e0_2
    refine aw_if_eq (pt := 16) (pf := 8) dX12_alike_5 (by decide) rfl (fun _ => ?_) (fun c_5 => absurd (by decide) c_5)
    refine aw_iconst (pc' := 17) (by decide) dX12_alike_16 rfl ?_
    refine AW.ret (some (vi _)) dX12_alike_17 trivial ?_
    exact hN (by omega)

set_option maxRecDepth 20000 in
theorem x_mean {d : Nat} {l p : Int} {A : AHp} {v : Sg} {Q : Option AV → AHp → Prop} (hd : 6 ≤ d) (hX : XLAY A) (hz : KSZ (cl A v) 207) (hN : ¬ (0 ≤ l ∧ l < v 64 1 ∧ (p = 0 ∨ p = 1)) → Q (some (vl (-9223372036854775808))) (cl A v))
  (hO : 0 ≤ l → l < v 64 1 → (p = 0 ∨ p = 1) → CALL (d - 2) mX4_runLine [vr 64, vr 235, vi l] (cl A (kcv A v 235)) (fun r B => ∃ u, r = none ∧ B = cl A u ∧ (0 ≤ u 238 1 ∧ u 238 1 ≤ 60) ∧ (∀ j, 0 ≤ j → j < u 238 1 → in32 (u 239 j)) ∧ (u 238 1 = 0 → Q (some (vl (-9223372036854775808))) (cl A u)) ∧ (0 < u 238 1 → Q (some (vl ((if p = 0 then sumS u 239 (u 238 1).toNat else u 238 1).tdiv (Int.gcd (sumS u 239 (u 238 1).toNat) (u 238 1))))) (cl A u)))) : CALL d mX12_mean [vr 60, vi l, vi p] (cl A v) Q := by
  refine CALL.of (by decide) (Nat.le_of_ble_eq_true rfl) ?_
  change AW d mX12_mean 0 [some (vr 60), some (vi l), some (vi p)] [] (cl A v) Q
  refine aw_aload_n (pc' := 1) rfl dX12_mean_0 rfl ?_
  refine aw_iload_n (pc' := 2) rfl dX12_mean_1 rfl ?_
  refine aw_callV (ci := 10) (d' := d - 1) (as := [_]) (pc' := 5) (by decide) rfl kX12_isLine iX12_isLine sX12_isLine lX12_83 (XO (A := (cl A v)) hX) dX12_mean_2 rfl rfl (Nat.le_of_ble_eq_true rfl) (by omega) ?_
  refine x_isLine (by omega) hX (fun e1_2 e2_2 => ?_) (fun e0_2 => ?_)
  · rw [hv_cl] at e2_2
    refine aw_if_eq (pt := 15) (pf := 8) dX12_mean_5 (by decide) rfl (fun c_5 => absurd c_5 (by decide)) (fun _ => ?_)
    refine aw_iload_n (pc' := 9) rfl dX12_mean_8 rfl ?_
    refine aw_callS (d' := d - 1) (as := [_]) (pc' := 12) kX12_isPart tX12_isPart lX12_204 dX12_mean_9 rfl rfl (Nat.le_of_ble_eq_true rfl) (by omega) ?_
    refine x_isPart (by omega)  (fun e1_9 => ?_) (fun e0_9 => ?_)
    · refine aw_if_ne (pt := 19) (pf := 15) dX12_mean_12 (by decide) rfl (fun _ => ?_) (fun c_12 => absurd (by decide) c_12)
      refine aw_aload_n (pc' := 20) rfl dX12_mean_19 rfl ?_
      refine aw_aload_n (pc' := 21) rfl dX12_mean_20 rfl ?_
      refine aw_getp (pc' := 24) (k9 := 5) (p := 235) dX12_mean_21 rfl fX12_35 rfl rfl rfl (XO (A := (cl A v)) hX) (X_trial (A := (cl A v)) hX) ?_
      refine aw_iload_n (pc' := 25) rfl dX12_mean_24 rfl ?_
      refine aw_callV (ci := 10) (d' := d - 1) (as := [_, _]) (pc' := 28) (by decide) rfl kX12_tryLine iX12_tryLine sX12_tryLine lX12_166 (XO (A := (cl A v)) hX) dX12_mean_25 rfl rfl (Nat.le_of_ble_eq_true rfl) (by omega) ?_
      refine x_tryLine (by omega) hX (XK_trial (A := cl A v) hX) (by omega) hz ?_
      rw [show d - 1 - 1 = d - 2 by omega]
      refine CALL.mono (hO (by omega) (by omega) (by omega)) ?_
      rintro r B ⟨u, rfl, rfl, hQ2⟩
      refine ⟨u, rfl, rfl, ?_⟩
      obtain ⟨hb9, hr9, hq0, hq1⟩ := hQ2
      refine aw_aload_n (pc' := 29) rfl dX12_mean_28 rfl ?_
      refine aw_getp (pc' := 32) (k9 := 5) (p := 235) dX12_mean_29 rfl fX12_35 rfl rfl rfl (XO (A := (cl A v)) hX) (X_trial (A := (cl A v)) hX) ?_
      refine aw_getp (pc' := 35) (k9 := 3) (p := 238) dX12_mean_32 rfl fX12_125 rfl rfl rfl (XK_trial (A := (cl A v)) hX).1 (XK_trial (A := (cl A v)) hX).2.2.2.1.1 ?_
      refine aw_geti (pc' := 38) (k9 := 1) dX12_mean_35 rfl fX12_129 rfl (by decide) rfl (XK_trial (A := (cl A v)) hX).2.2.2.1.2.1 ?_
      try simp (disch := omega) only [hv_cl, cl_set, sset_e, sset_1, sset_2]
      refine aw_if_ne (pt := 45) (pf := 41) dX12_mean_38 (by decide) rfl (fun c_38 => ?_) (fun c_38 => ?_)
      · refine aw_aload_n (pc' := 46) rfl dX12_mean_45 rfl ?_
        refine aw_getp (pc' := 49) (k9 := 5) (p := 235) dX12_mean_46 rfl fX12_35 rfl rfl rfl (XO (A := (cl A v)) hX) (X_trial (A := (cl A v)) hX) ?_
        refine aw_getp (pc' := 52) (k9 := 3) (p := 238) dX12_mean_49 rfl fX12_125 rfl rfl rfl (XK_trial (A := (cl A v)) hX).1 (XK_trial (A := (cl A v)) hX).2.2.2.1.1 ?_
        refine aw_callV (ci := 4) (d' := d - 1) (as := []) (pc' := 55) (by decide) rfl kX5_sum iX5_sum sX5_sum lX12_211 (XK_trial (A := (cl A v)) hX).2.2.2.1.2.1 dX12_mean_52 rfl rfl (Nat.le_of_ble_eq_true rfl) (by omega) ?_
        have hsb := sumI_b (A := cl A u) (o := 239) (u 238 1).toNat (fun k g1 g2 => hr9 k g1 (by omega))
        refine x_sum (a := 238) (by omega) (XK_trial (A := cl A v) hX).2.2.2.1.2 hb9 hr9 ?_
        simp only [hv_cl, Int.reduceAdd]
        rw [sumI_cl] at hsb ⊢
        refine aw_aload_n (pc' := 56) rfl dX12_mean_55 rfl ?_
        refine aw_getp (pc' := 59) (k9 := 5) (p := 235) dX12_mean_56 rfl fX12_35 rfl rfl rfl (XO (A := (cl A v)) hX) (X_trial (A := (cl A v)) hX) ?_
        refine aw_getp (pc' := 62) (k9 := 3) (p := 238) dX12_mean_59 rfl fX12_125 rfl rfl rfl (XK_trial (A := (cl A v)) hX).1 (XK_trial (A := (cl A v)) hX).2.2.2.1.1 ?_
        refine aw_geti (pc' := 65) (k9 := 1) dX12_mean_62 rfl fX12_129 rfl (by decide) rfl (XK_trial (A := (cl A v)) hX).2.2.2.1.2.1 ?_
        try simp (disch := omega) only [hv_cl, cl_set, sset_e, sset_1, sset_2]
        refine aw_iload_n (pc' := 66) rfl dX12_mean_65 rfl ?_
        refine aw_callS (d' := d - 1) (as := [_, _, _]) (pc' := 69) kX12_lowest tX12_lowest lX12_207 dX12_mean_66 rfl rfl (Nat.le_of_ble_eq_true rfl) (by omega) ?_
        refine x_lowest (by omega) (by omega) (by omega) (by omega) (by omega) ?_
        refine AW.ret (some (vl _)) dX12_mean_69 trivial ?_
        exact hq1 (by omega)
      · replace c_38 := Classical.not_not.mp c_38
        refine aw_ldc2 (x := (-9223372036854775808)) (pc' := 44) qX12_116 (by decide) dX12_mean_41 rfl ?_
        refine AW.ret (some (vl _)) dX12_mean_44 trivial ?_
        exact hq0 (by omega)
    · refine aw_if_ne (pt := 19) (pf := 15) dX12_mean_12 (by decide) rfl (fun c_12 => absurd c_12 (by decide)) (fun _ => ?_)
      refine aw_ldc2 (x := (-9223372036854775808)) (pc' := 18) qX12_116 (by decide) dX12_mean_15 rfl ?_
      refine AW.ret (some (vl _)) dX12_mean_18 trivial ?_
      exact hN (by omega)
  · rw [hv_cl] at e0_2
    refine aw_if_eq (pt := 15) (pf := 8) dX12_mean_5 (by decide) rfl (fun _ => ?_) (fun c_5 => absurd (by decide) c_5)
    refine aw_ldc2 (x := (-9223372036854775808)) (pc' := 18) qX12_116 (by decide) dX12_mean_15 rfl ?_
    refine AW.ret (some (vl _)) dX12_mean_18 trivial ?_
    exact hN (by omega)

def fstB (b : Nat → Bool) : Nat → Int
  | 0 => -5
  | n + 1 => if fstB b n = -5 then (if b n then (n : Int) else -5) else fstB b n
theorem fstB_b {b : Nat → Bool} : ∀ n : Nat, -5 ≤ fstB b n ∧ fstB b n ≤ n
  | 0 => by simp [fstB]
  | n + 1 => by
    have := fstB_b (b := b) n
    unfold fstB
    (repeat' split) <;> omega
def SNX (u : Sg) : Prop := ∀ j, 0 ≤ j → j < u 212 2 → (0 ≤ u 213 j ∧ u 213 j < u 238 1 ∧ u 239 (u 213 j) = u 214 j)
set_option maxRecDepth 20000 in
theorem lx_fits {d : Nat} {A : AHp} {l name p : Int} {Inv : Sg → Prop} {b : Nat → Bool} {Q : Option AV → AHp → Prop} : ∀ (m : Nat) (i : Nat) (v : Sg) (c e k : Int), 20 - i = m → 7 ≤ d → XLAY A → i ≤ 20 → k = (i : Int) → (0 ≤ name ∧ name ≤ 4) → Inv v → (∀ (i : Nat) (v : Sg), i < 20 → Inv v → KSZ (cl A v) 207 ∧ CALL (d - 2) mX4_runLine [vr 64, vr 235, vi l] (cl A (sset (kcv A v 235) 236 name (i : Int))) (fun r B => ∃ u, r = none ∧ B = cl A u ∧ Inv u ∧ ((0 ≤ u 238 1 ∧ u 238 1 ≤ 60) ∧ (0 ≤ u 212 2 ∧ u 212 2 ≤ 5) ∧ (∀ j, 0 ≤ j → j < u 212 2 → 0 ≤ u 213 j ∧ u 213 j ≤ 59) ∧ ∀ j, 0 ≤ j → j < u 212 2 → in32 (u 214 j)) ∧ (SNX u ↔ b i = true))) → c = cntB b i → e = fstB b i → (∀ v, Inv v → Q (some (vi (if p = 0 then cntB b 20 else fstB b 20))) (cl A v)) → AW d mX12_fits 36 [some (vr 60), some (vi l), some (vi name), some (vi p), some (vi c), some (vi e), some (vi k)] [] (cl A v) Q := by
  intro m
  induction m using Nat.strongRecOn with
  | _ m ih =>
    intro i v c e k hm hd hX hi ek hnm hI hst ec ee hQ
    have hcb := cntB_b (b := b) i
    have hfb := fstB_b (b := b) i
    rw [← ec] at hcb
    rw [← ee] at hfb
    refine aw_iload (pc' := 38) rfl dX12_fits_36 rfl ?_
    refine aw_bipush (pc' := 40) (by decide +kernel) dX12_fits_38 rfl ?_
    refine aw_icmp_ge (pt := 85) (pf := 43) dX12_fits_40 (by decide) rfl (fun c_40 => ?_) (fun c_40 => ?_)
    · refine aw_iload_n (pc' := 86) rfl dX12_fits_85 rfl ?_
      refine aw_if_ne (pt := 94) (pf := 89) dX12_fits_86 (by decide) rfl (fun c_86 => ?_) (fun c_86 => ?_)
      · refine aw_iload (pc' := 96) rfl dX12_fits_94 rfl ?_
        refine AW.ret (some (vi _)) dX12_fits_96 trivial ?_
        rw [show i = 20 by omega] at ec ee
        have hQ3 := hQ v hI
        rw [← ec, ← ee] at hQ3
        rw [if_neg (by omega)] at hQ3
        exact hQ3
      · replace c_86 := Classical.not_not.mp c_86
        refine aw_iload (pc' := 91) rfl dX12_fits_89 rfl ?_
        refine aw_goto (pc' := 96) dX12_fits_91 (by decide) ?_
        refine AW.ret (some (vi _)) dX12_fits_96 trivial ?_
        rw [show i = 20 by omega] at ec ee
        have hQ3 := hQ v hI
        rw [← ec, ← ee] at hQ3
        rw [if_pos (by omega)] at hQ3
        exact hQ3
    · refine aw_aload_n (pc' := 44) rfl dX12_fits_43 rfl ?_
      refine aw_iload_n (pc' := 45) rfl dX12_fits_44 rfl ?_
      refine aw_iload_n (pc' := 46) rfl dX12_fits_45 rfl ?_
      refine aw_iload (pc' := 48) rfl dX12_fits_46 rfl ?_
      refine aw_callV (ci := 10) (d' := d - 1) (as := [_, _, _]) (pc' := 51) (by decide) rfl kX12_tryLineWith iX12_tryLineWith sX12_tryLineWith lX12_186 (XO (A := (cl A v)) hX) dX12_fits_48 rfl rfl (Nat.le_of_ble_eq_true rfl) (by omega) ?_
      obtain ⟨hz3, hst3⟩ := hst i v (by omega) hI
      refine x_tryLineWith (by omega) hX hz3 hnm ?_
      rw [show d - 1 - 1 = d - 2 by omega]
      rw [← ek] at hst3
      refine CALL.mono hst3 ?_
      rintro r B ⟨u, rfl, rfl, hQ2⟩
      refine ⟨u, rfl, rfl, ?_⟩
      obtain ⟨hI2, ⟨hb1, hb2, hb3, hb4⟩, hsx⟩ := hQ2
      refine aw_aload_n (pc' := 52) rfl dX12_fits_51 rfl ?_
      refine aw_aload_n (pc' := 53) rfl dX12_fits_52 rfl ?_
      refine aw_getp (pc' := 56) (k9 := 5) (p := 235) dX12_fits_53 rfl fX12_35 rfl rfl rfl (XO (A := (cl A v)) hX) (X_trial (A := (cl A v)) hX) ?_
      refine aw_getp (pc' := 59) (k9 := 3) (p := 238) dX12_fits_56 rfl fX12_125 rfl rfl rfl (XK_trial (A := (cl A v)) hX).1 (XK_trial (A := (cl A v)) hX).2.2.2.1.1 ?_
      refine aw_callV (ci := 10) (d' := d - 1) (as := [_]) (pc' := 62) (by decide) rfl kX12_hasAllSeen iX12_hasAllSeen sX12_hasAllSeen lX12_190 (XO (A := (cl A v)) hX) dX12_fits_59 rfl rfl (Nat.le_of_ble_eq_true rfl) (by omega) ?_
      refine x_seenAll (a := 238) (A := cl A u) (by omega) hX (XK_trial (A := cl A v) hX).2.2.2.1.2 hb1.2 hb2 hb3 hb4 (fun k0 g1 g2 g3 => ?_) (fun g => ?_)
      · have hsn : ¬ b i = true := fun z => g3 (hsx.mpr z k0 g1 g2)
        refine aw_if_eq (pt := 79) (pf := 65) dX12_fits_62 (by decide) rfl (fun _ => ?_) (fun c_62 => absurd (by decide) c_62)
        refine aw_iinc (pc' := 82) (lv' := [_, _, _, _, _, _, _]) dX12_fits_79 rfl rfl (by decide) (by first | exact w32_id (by omega) (by omega) | rfl) rfl ?_
        refine aw_goto (pc' := 36) dX12_fits_82 (by decide) ?_
        first
        | refine ih _ (by omega) (i + 1) u (c + 1) k (k + 1) rfl hd hX (by omega) (by omega) hnm hI2 hst ?_ ?_ hQ
        | refine ih _ (by omega) (i + 1) u (c + 1) e (k + 1) rfl hd hX (by omega) (by omega) hnm hI2 hst ?_ ?_ hQ
        | refine ih _ (by omega) (i + 1) u c e (k + 1) rfl hd hX (by omega) (by omega) hnm hI2 hst ?_ ?_ hQ
        · rw [ec]
          conv => rhs; unfold cntB
          first | rw [if_pos hsn] | rw [if_neg hsn, Int.add_zero]
        · unfold fstB
          rw [← ee]
          first | (rw [if_neg (by omega)]; done) | (rw [if_pos (by omega), if_pos hsn]; omega) | (rw [if_neg hsn]; split <;> omega)
      · have hsn : b i = true := hsx.mp g
        refine aw_if_eq (pt := 79) (pf := 65) dX12_fits_62 (by decide) rfl (fun c_62 => absurd c_62 (by decide)) (fun _ => ?_)
        refine aw_iinc (pc' := 68) (lv' := [_, _, _, _, _, _, _]) dX12_fits_65 rfl rfl (by decide) (by first | exact w32_id (by omega) (by omega) | rfl) rfl ?_
        refine aw_iload (pc' := 70) rfl dX12_fits_68 rfl ?_
        refine aw_bipush (pc' := 72) (by decide +kernel) dX12_fits_70 rfl ?_
        refine aw_icmp_ne (pt := 79) (pf := 75) dX12_fits_72 (by decide) rfl (fun c_72 => ?_) (fun c_72 => ?_)
        · refine aw_iinc (pc' := 82) (lv' := [_, _, _, _, _, _, _]) dX12_fits_79 rfl rfl (by decide) (by first | exact w32_id (by omega) (by omega) | rfl) rfl ?_
          refine aw_goto (pc' := 36) dX12_fits_82 (by decide) ?_
          first
          | refine ih _ (by omega) (i + 1) u (c + 1) k (k + 1) rfl hd hX (by omega) (by omega) hnm hI2 hst ?_ ?_ hQ
          | refine ih _ (by omega) (i + 1) u (c + 1) e (k + 1) rfl hd hX (by omega) (by omega) hnm hI2 hst ?_ ?_ hQ
          | refine ih _ (by omega) (i + 1) u c e (k + 1) rfl hd hX (by omega) (by omega) hnm hI2 hst ?_ ?_ hQ
          · rw [ec]
            conv => rhs; unfold cntB
            first | rw [if_pos hsn] | rw [if_neg hsn, Int.add_zero]
          · unfold fstB
            rw [← ee]
            first | (rw [if_neg (by omega)]; done) | (rw [if_pos (by omega), if_pos hsn]; omega) | (rw [if_neg hsn]; split <;> omega)
        · replace c_72 := Classical.not_not.mp c_72
          refine aw_iload (pc' := 77) rfl dX12_fits_75 rfl ?_
          refine aw_istore (pc' := 79) (lv' := [_, _, _, _, _, _, _]) dX12_fits_77 rfl (by decide) rfl ?_
          refine aw_iinc (pc' := 82) (lv' := [_, _, _, _, _, _, _]) dX12_fits_79 rfl rfl (by decide) (by first | exact w32_id (by omega) (by omega) | rfl) rfl ?_
          refine aw_goto (pc' := 36) dX12_fits_82 (by decide) ?_
          first
          | refine ih _ (by omega) (i + 1) u (c + 1) k (k + 1) rfl hd hX (by omega) (by omega) hnm hI2 hst ?_ ?_ hQ
          | refine ih _ (by omega) (i + 1) u (c + 1) e (k + 1) rfl hd hX (by omega) (by omega) hnm hI2 hst ?_ ?_ hQ
          | refine ih _ (by omega) (i + 1) u c e (k + 1) rfl hd hX (by omega) (by omega) hnm hI2 hst ?_ ?_ hQ
          · rw [ec]
            conv => rhs; unfold cntB
            first | rw [if_pos hsn] | rw [if_neg hsn, Int.add_zero]
          · unfold fstB
            rw [← ee]
            first | (rw [if_neg (by omega)]; done) | (rw [if_pos (by omega), if_pos hsn]; omega) | (rw [if_neg hsn]; split <;> omega)

set_option maxRecDepth 20000 in
theorem x_fits {d : Nat} {l name p : Int} {Inv : Sg → Prop} {b : Nat → Bool} {A : AHp} {v : Sg} {Q : Option AV → AHp → Prop} (hd : 7 ≤ d) (hX : XLAY A) (hN : ¬ (0 ≤ l ∧ l < v 64 1 ∧ 0 ≤ name ∧ name ≤ 4 ∧ 0 ≤ p ∧ p ≤ 1) → Q (some (vi (-1))) (cl A v))
  (hI : Inv v) (hst : 0 ≤ l → l < v 64 1 → 0 ≤ name → name ≤ 4 → (∀ (i : Nat) (v : Sg), i < 20 → Inv v → KSZ (cl A v) 207 ∧ CALL (d - 2) mX4_runLine [vr 64, vr 235, vi l] (cl A (sset (kcv A v 235) 236 name (i : Int))) (fun r B => ∃ u, r = none ∧ B = cl A u ∧ Inv u ∧ ((0 ≤ u 238 1 ∧ u 238 1 ≤ 60) ∧ (0 ≤ u 212 2 ∧ u 212 2 ≤ 5) ∧ (∀ j, 0 ≤ j → j < u 212 2 → 0 ≤ u 213 j ∧ u 213 j ≤ 59) ∧ ∀ j, 0 ≤ j → j < u 212 2 → in32 (u 214 j)) ∧ (SNX u ↔ b i = true)))) (hQ : 0 ≤ l → l < v 64 1 → 0 ≤ name → name ≤ 4 → 0 ≤ p → p ≤ 1 → ∀ v, Inv v → Q (some (vi (if p = 0 then cntB b 20 else fstB b 20))) (cl A v)) : CALL d mX12_fits [vr 60, vi l, vi name, vi p] (cl A v) Q := by
  refine CALL.of (by decide) (Nat.le_of_ble_eq_true rfl) ?_
  change AW d mX12_fits 0 [some (vr 60), some (vi l), some (vi name), some (vi p), none, none, none] [] (cl A v) Q
  refine aw_aload_n (pc' := 1) rfl dX12_fits_0 rfl ?_
  refine aw_iload_n (pc' := 2) rfl dX12_fits_1 rfl ?_
  refine aw_callV (ci := 10) (d' := d - 1) (as := [_]) (pc' := 5) (by decide) rfl kX12_isLine iX12_isLine sX12_isLine lX12_83 (XO (A := (cl A v)) hX) dX12_fits_2 rfl rfl (Nat.le_of_ble_eq_true rfl) (by omega) ?_
  refine x_isLine (by omega) hX (fun e1_2 e2_2 => ?_) (fun e0_2 => ?_)
  · rw [hv_cl] at e2_2
    refine aw_if_eq (pt := 24) (pf := 8) dX12_fits_5 (by decide) rfl (fun c_5 => absurd c_5 (by decide)) (fun _ => ?_)
    refine aw_iload_n (pc' := 9) rfl dX12_fits_8 rfl ?_
    refine aw_callS (d' := d - 1) (as := [_]) (pc' := 12) kX12_isName tX12_isName lX12_113 dX12_fits_9 rfl rfl (Nat.le_of_ble_eq_true rfl) (by omega) ?_
    refine x_isName (by omega)  (fun e1_9 => ?_) (fun e0_9 => ?_)
    · refine aw_if_eq (pt := 24) (pf := 15) dX12_fits_12 (by decide) rfl (fun c_12 => absurd c_12 (by decide)) (fun _ => ?_)
      refine aw_iload_n (pc' := 16) rfl dX12_fits_15 rfl ?_
      refine aw_if_lt (pt := 24) (pf := 19) dX12_fits_16 (by decide) rfl (fun c_16 => ?_) (fun c_16 => ?_)
      · refine aw_iconst (pc' := 25) (by decide) dX12_fits_24 rfl ?_
        refine AW.ret (some (vi _)) dX12_fits_25 trivial ?_
        exact hN (by omega)
      · refine aw_iload_n (pc' := 20) rfl dX12_fits_19 rfl ?_
        refine aw_iconst (pc' := 21) (by decide) dX12_fits_20 rfl ?_
        refine aw_icmp_le (pt := 26) (pf := 24) dX12_fits_21 (by decide) rfl (fun c_21 => ?_) (fun c_21 => ?_)
        · refine aw_iconst (pc' := 27) (by decide) dX12_fits_26 rfl ?_
          refine aw_istore (pc' := 29) (lv' := [_, _, _, _, _, _, _]) dX12_fits_27 rfl (by decide) rfl ?_
          refine aw_bipush (pc' := 31) (by decide +kernel) dX12_fits_29 rfl ?_
          refine aw_istore (pc' := 33) (lv' := [_, _, _, _, _, _, _]) dX12_fits_31 rfl (by decide) rfl ?_
          refine aw_iconst (pc' := 34) (by decide) dX12_fits_33 rfl ?_
          refine aw_istore (pc' := 36) (lv' := [_, _, _, _, _, _, _]) dX12_fits_34 rfl (by decide) rfl ?_
          exact lx_fits (b := b) (Inv := Inv) _ 0 v 0 (-5) 0 rfl hd hX (by omega) rfl (by omega) hI (hst (by omega) (by omega) (by omega) (by omega)) rfl rfl (hQ (by omega) (by omega) (by omega) (by omega) (by omega) (by omega))
        · refine aw_iconst (pc' := 25) (by decide) dX12_fits_24 rfl ?_
          refine AW.ret (some (vi _)) dX12_fits_25 trivial ?_
          exact hN (by omega)
    · refine aw_if_eq (pt := 24) (pf := 15) dX12_fits_12 (by decide) rfl (fun _ => ?_) (fun c_12 => absurd (by decide) c_12)
      refine aw_iconst (pc' := 25) (by decide) dX12_fits_24 rfl ?_
      refine AW.ret (some (vi _)) dX12_fits_25 trivial ?_
      exact hN (by omega)
  · rw [hv_cl] at e0_2
    refine aw_if_eq (pt := 24) (pf := 8) dX12_fits_5 (by decide) rfl (fun _ => ?_) (fun c_5 => absurd (by decide) c_5)
    refine aw_iconst (pc' := 25) (by decide) dX12_fits_24 rfl ?_
    refine AW.ret (some (vi _)) dX12_fits_25 trivial ?_
    exact hN (by omega)

set_option maxRecDepth 20000 in
theorem lx_odds {d : Nat} {A : AHp} {l name p : Int} {Inv : Sg → Prop} {b : Nat → Bool} {Q : Option AV → AHp → Prop} : ∀ (m : Nat) (i : Nat) (v : Sg) (c k : Int), 10 - i = m → 7 ≤ d → XLAY A → i ≤ 10 → k = (i : Int) → (0 ≤ name ∧ name ≤ 4) → Inv v → (∀ (i : Nat) (v : Sg), i < 10 → Inv v → KSZ (cl A v) 207 ∧ CALL (d - 2) mX4_runLine [vr 64, vr 235, vi l] (cl A (sset (kcv A v 235) 236 name (i : Int))) (fun r B => ∃ u, r = none ∧ B = cl A u ∧ Inv u ∧ (u 235 4 = 0 ↔ b i = true))) → c = cntB b i → (∀ v, Inv v → Q (some (vl ((if p = 0 then cntB b 10 else 10).tdiv (Int.gcd (cntB b 10) 10)))) (cl A v)) → AW d mX12_odds 32 [some (vr 60), some (vi l), some (vi name), some (vi p), some (vi c), some (vi k)] [] (cl A v) Q := by
  intro m
  induction m using Nat.strongRecOn with
  | _ m ih =>
    intro i v c k hm hd hX hi ek hnm hI hst ec hQ
    have hcb := cntB_b (b := b) i
    rw [← ec] at hcb
    refine aw_iload (pc' := 34) rfl dX12_odds_32 rfl ?_
    refine aw_bipush (pc' := 36) (by decide +kernel) dX12_odds_34 rfl ?_
    refine aw_icmp_ge (pt := 66) (pf := 39) dX12_odds_36 (by decide) rfl (fun c_36 => ?_) (fun c_36 => ?_)
    · refine aw_iload (pc' := 68) rfl dX12_odds_66 rfl ?_
      refine aw_i2l (pc' := 69) dX12_odds_68 rfl ?_
      refine aw_bipush (pc' := 71) (by decide +kernel) dX12_odds_69 rfl ?_
      refine aw_iload_n (pc' := 72) rfl dX12_odds_71 rfl ?_
      refine aw_callS (d' := d - 1) (as := [_, _, _]) (pc' := 75) kX12_lowest tX12_lowest lX12_207 dX12_odds_72 rfl rfl (Nat.le_of_ble_eq_true rfl) (by omega) ?_
      rw [show i = 10 by omega] at ec
      have hQ3 := hQ v hI
      rw [← ec] at hQ3
      refine x_lowest (by omega) (by omega) (by omega) (by omega) (by omega) ?_
      refine AW.ret (some (vl _)) dX12_odds_75 trivial ?_
      exact hQ3
    · refine aw_aload_n (pc' := 40) rfl dX12_odds_39 rfl ?_
      refine aw_iload_n (pc' := 41) rfl dX12_odds_40 rfl ?_
      refine aw_iload_n (pc' := 42) rfl dX12_odds_41 rfl ?_
      refine aw_iload (pc' := 44) rfl dX12_odds_42 rfl ?_
      refine aw_callV (ci := 10) (d' := d - 1) (as := [_, _, _]) (pc' := 47) (by decide) rfl kX12_tryLineWith iX12_tryLineWith sX12_tryLineWith lX12_186 (XO (A := (cl A v)) hX) dX12_odds_44 rfl rfl (Nat.le_of_ble_eq_true rfl) (by omega) ?_
      obtain ⟨hz3, hst3⟩ := hst i v (by omega) hI
      refine x_tryLineWith (by omega) hX hz3 hnm ?_
      rw [show d - 1 - 1 = d - 2 by omega]
      rw [← ek] at hst3
      refine CALL.mono hst3 ?_
      rintro r B ⟨u, rfl, rfl, hQ2⟩
      refine ⟨u, rfl, rfl, ?_⟩
      obtain ⟨hI2, hsx⟩ := hQ2
      refine aw_aload_n (pc' := 48) rfl dX12_odds_47 rfl ?_
      refine aw_getp (pc' := 51) (k9 := 5) (p := 235) dX12_odds_48 rfl fX12_35 rfl rfl rfl (XO (A := (cl A v)) hX) (X_trial (A := (cl A v)) hX) ?_
      refine aw_geti (pc' := 54) (k9 := 4) dX12_odds_51 rfl fX12_138 rfl (by decide) rfl (XK_trial (A := (cl A v)) hX).1 ?_
      try simp (disch := omega) only [hv_cl, cl_set, sset_e, sset_1, sset_2]
      refine aw_if_ne (pt := 60) (pf := 57) dX12_odds_54 (by decide) rfl (fun c_54 => ?_) (fun c_54 => ?_)
      · refine aw_iinc (pc' := 63) (lv' := [_, _, _, _, _, _]) dX12_odds_60 rfl rfl (by decide) (by first | exact w32_id (by omega) (by omega) | rfl) rfl ?_
        refine aw_goto (pc' := 32) dX12_odds_63 (by decide) ?_
        first
        | refine ih _ (by omega) (i + 1) u (c + 1) (k + 1) rfl hd hX (by omega) (by omega) hnm hI2 hst ?_ hQ
        | refine ih _ (by omega) (i + 1) u c (k + 1) rfl hd hX (by omega) (by omega) hnm hI2 hst ?_ hQ
        rw [ec]
        conv => rhs; unfold cntB
        first | rw [if_pos (hsx.mp (by omega))] | rw [if_neg (fun z => by have := hsx.mpr z; omega), Int.add_zero]
      · replace c_54 := Classical.not_not.mp c_54
        refine aw_iinc (pc' := 60) (lv' := [_, _, _, _, _, _]) dX12_odds_57 rfl rfl (by decide) (by first | exact w32_id (by omega) (by omega) | rfl) rfl ?_
        refine aw_iinc (pc' := 63) (lv' := [_, _, _, _, _, _]) dX12_odds_60 rfl rfl (by decide) (by first | exact w32_id (by omega) (by omega) | rfl) rfl ?_
        refine aw_goto (pc' := 32) dX12_odds_63 (by decide) ?_
        first
        | refine ih _ (by omega) (i + 1) u (c + 1) (k + 1) rfl hd hX (by omega) (by omega) hnm hI2 hst ?_ hQ
        | refine ih _ (by omega) (i + 1) u c (k + 1) rfl hd hX (by omega) (by omega) hnm hI2 hst ?_ hQ
        rw [ec]
        conv => rhs; unfold cntB
        first | rw [if_pos (hsx.mp (by omega))] | rw [if_neg (fun z => by have := hsx.mpr z; omega), Int.add_zero]

set_option maxRecDepth 20000 in
theorem x_odds {d : Nat} {l name p : Int} {Inv : Sg → Prop} {b : Nat → Bool} {A : AHp} {v : Sg} {Q : Option AV → AHp → Prop} (hd : 7 ≤ d) (hX : XLAY A) (hN : ¬ (0 ≤ l ∧ l < v 64 1 ∧ 0 ≤ name ∧ name ≤ 4 ∧ (p = 0 ∨ p = 1)) → Q (some (vl (-9223372036854775808))) (cl A v))
  (hI : Inv v) (hst : 0 ≤ l → l < v 64 1 → 0 ≤ name → name ≤ 4 → (∀ (i : Nat) (v : Sg), i < 10 → Inv v → KSZ (cl A v) 207 ∧ CALL (d - 2) mX4_runLine [vr 64, vr 235, vi l] (cl A (sset (kcv A v 235) 236 name (i : Int))) (fun r B => ∃ u, r = none ∧ B = cl A u ∧ Inv u ∧ (u 235 4 = 0 ↔ b i = true)))) (hQ : 0 ≤ l → l < v 64 1 → 0 ≤ name → name ≤ 4 → (p = 0 ∨ p = 1) → ∀ v, Inv v → Q (some (vl ((if p = 0 then cntB b 10 else 10).tdiv (Int.gcd (cntB b 10) 10)))) (cl A v)) : CALL d mX12_odds [vr 60, vi l, vi name, vi p] (cl A v) Q := by
  refine CALL.of (by decide) (Nat.le_of_ble_eq_true rfl) ?_
  change AW d mX12_odds 0 [some (vr 60), some (vi l), some (vi name), some (vi p), none, none] [] (cl A v) Q
  refine aw_aload_n (pc' := 1) rfl dX12_odds_0 rfl ?_
  refine aw_iload_n (pc' := 2) rfl dX12_odds_1 rfl ?_
  refine aw_callV (ci := 10) (d' := d - 1) (as := [_]) (pc' := 5) (by decide) rfl kX12_isLine iX12_isLine sX12_isLine lX12_83 (XO (A := (cl A v)) hX) dX12_odds_2 rfl rfl (Nat.le_of_ble_eq_true rfl) (by omega) ?_
  refine x_isLine (by omega) hX (fun e1_2 e2_2 => ?_) (fun e0_2 => ?_)
  · rw [hv_cl] at e2_2
    refine aw_if_eq (pt := 22) (pf := 8) dX12_odds_5 (by decide) rfl (fun c_5 => absurd c_5 (by decide)) (fun _ => ?_)
    refine aw_iload_n (pc' := 9) rfl dX12_odds_8 rfl ?_
    refine aw_callS (d' := d - 1) (as := [_]) (pc' := 12) kX12_isName tX12_isName lX12_113 dX12_odds_9 rfl rfl (Nat.le_of_ble_eq_true rfl) (by omega) ?_
    refine x_isName (by omega)  (fun e1_9 => ?_) (fun e0_9 => ?_)
    · refine aw_if_eq (pt := 22) (pf := 15) dX12_odds_12 (by decide) rfl (fun c_12 => absurd c_12 (by decide)) (fun _ => ?_)
      refine aw_iload_n (pc' := 16) rfl dX12_odds_15 rfl ?_
      refine aw_callS (d' := d - 1) (as := [_]) (pc' := 19) kX12_isPart tX12_isPart lX12_204 dX12_odds_16 rfl rfl (Nat.le_of_ble_eq_true rfl) (by omega) ?_
      refine x_isPart (by omega)  (fun e1_16 => ?_) (fun e0_16 => ?_)
      · refine aw_if_ne (pt := 26) (pf := 22) dX12_odds_19 (by decide) rfl (fun _ => ?_) (fun c_19 => absurd (by decide) c_19)
        refine aw_iconst (pc' := 27) (by decide) dX12_odds_26 rfl ?_
        refine aw_istore (pc' := 29) (lv' := [_, _, _, _, _, _]) dX12_odds_27 rfl (by decide) rfl ?_
        refine aw_iconst (pc' := 30) (by decide) dX12_odds_29 rfl ?_
        refine aw_istore (pc' := 32) (lv' := [_, _, _, _, _, _]) dX12_odds_30 rfl (by decide) rfl ?_
        exact lx_odds (b := b) (Inv := Inv) _ 0 v 0 0 rfl hd hX (by omega) rfl (by omega) hI (hst (by omega) (by omega) (by omega) (by omega)) rfl (hQ (by omega) (by omega) (by omega) (by omega) (by omega))
      · refine aw_if_ne (pt := 26) (pf := 22) dX12_odds_19 (by decide) rfl (fun c_19 => absurd c_19 (by decide)) (fun _ => ?_)
        refine aw_ldc2 (x := (-9223372036854775808)) (pc' := 25) qX12_116 (by decide) dX12_odds_22 rfl ?_
        refine AW.ret (some (vl _)) dX12_odds_25 trivial ?_
        exact hN (by omega)
    · refine aw_if_eq (pt := 22) (pf := 15) dX12_odds_12 (by decide) rfl (fun _ => ?_) (fun c_12 => absurd (by decide) c_12)
      refine aw_ldc2 (x := (-9223372036854775808)) (pc' := 25) qX12_116 (by decide) dX12_odds_22 rfl ?_
      refine AW.ret (some (vl _)) dX12_odds_25 trivial ?_
      exact hN (by omega)
  · rw [hv_cl] at e0_2
    refine aw_if_eq (pt := 22) (pf := 8) dX12_odds_5 (by decide) rfl (fun _ => ?_) (fun c_5 => absurd (by decide) c_5)
    refine aw_ldc2 (x := (-9223372036854775808)) (pc' := 25) qX12_116 (by decide) dX12_odds_22 rfl ?_
    refine AW.ret (some (vl _)) dX12_odds_25 trivial ?_
    exact hN (by omega)
