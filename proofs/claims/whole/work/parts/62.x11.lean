/-! ===== the class: what asks for runs ===== -/
theorem kcp_cl {A : AHp} {v : Sg} {a b : Int} : kcp (cl A v) a b = cl A (hv (kcp (cl A v) a b)) := rfl
def kcv (A : AHp) (v : Sg) (a : Int) : Sg := hv (kcp (cl A v) a 207)
theorem kcv_cl {A : AHp} {v : Sg} {a : Int} : kcp (cl A v) a 207 = cl A (kcv A v a) := rfl
set_option maxRecDepth 20000 in
theorem x_run {d : Nat} {l : Int} {A : AHp} {v : Sg} {Q : Option AV → AHp → Prop} (hd : 2 ≤ d) (hX : XLAY A) (hN : ¬ (0 ≤ l ∧ l < v 64 1) → Q (some (vi (-1))) (cl A v)) (hO : 0 ≤ l → l < v 64 1 → CALL (d - 1) mX4_runLine [vr 64, vr 207, vi l] (cl A v) (fun r B => ∃ u, r = none ∧ B = cl A u ∧ Q (some (vi (u 210 1))) (cl A u))) : CALL d mX12_run [vr 60, vi l] (cl A v) Q := by
  refine CALL.of (by decide) (Nat.le_of_ble_eq_true rfl) ?_
  change AW d mX12_run 0 [some (vr 60), some (vi l)] [] (cl A v) Q
  refine aw_aload_n (pc' := 1) rfl dX12_run_0 rfl ?_
  refine aw_iload_n (pc' := 2) rfl dX12_run_1 rfl ?_
  refine aw_callV (ci := 10) (d' := d - 1) (as := [_]) (pc' := 5) (by decide) rfl kX12_isLine iX12_isLine sX12_isLine lX12_83 (XO (A := (cl A v)) hX) dX12_run_2 rfl rfl (Nat.le_of_ble_eq_true rfl) (by omega) ?_
  refine x_isLine (by omega) hX (fun e1_2 e2_2 => ?_) (fun e0_2 => ?_)
  · rw [hv_cl] at e2_2
    refine aw_if_ne (pt := 10) (pf := 8) dX12_run_5 (by decide) rfl (fun _ => ?_) (fun c_5 => absurd (by decide) c_5)
    refine aw_aload_n (pc' := 11) rfl dX12_run_10 rfl ?_
    refine aw_getp (pc' := 14) (k9 := 1) (p := 64) dX12_run_11 rfl fX12_21 rfl rfl rfl (XO (A := (cl A v)) hX) (X_machine (A := (cl A v)) hX) ?_
    refine aw_aload_n (pc' := 15) rfl dX12_run_14 rfl ?_
    refine aw_getp (pc' := 18) (k9 := 2) (p := 207) dX12_run_15 rfl fX12_28 rfl rfl rfl (XO (A := (cl A v)) hX) (X_now (A := (cl A v)) hX) ?_
    refine aw_iload_n (pc' := 19) rfl dX12_run_18 rfl ?_
    refine aw_callV (ci := 3) (d' := d - 1) (as := [_, _]) (pc' := 22) (by decide) rfl kX4_runLine iX4_runLine sX4_runLine lX12_121 (XO_machine (A := (cl A v)) hX) dX12_run_19 rfl rfl (Nat.le_of_ble_eq_true rfl) (by omega) ?_
    refine CALL.mono (hO (by omega) (by omega)) ?_
    rintro r B ⟨u, rfl, rfl, hQ2⟩
    refine aw_aload_n (pc' := 23) rfl dX12_run_22 rfl ?_
    refine aw_getp (pc' := 26) (k9 := 2) (p := 207) dX12_run_23 rfl fX12_28 rfl rfl rfl (XO (A := (cl A v)) hX) (X_now (A := (cl A v)) hX) ?_
    refine aw_getp (pc' := 29) (k9 := 3) (p := 210) dX12_run_26 rfl fX12_125 rfl rfl rfl (XK_now (A := (cl A v)) hX).1 (XK_now (A := (cl A v)) hX).2.2.2.1.1 ?_
    refine aw_geti (pc' := 32) (k9 := 1) dX12_run_29 rfl fX12_129 rfl (by decide) rfl (XK_now (A := (cl A v)) hX).2.2.2.1.2.1 ?_
    try simp (disch := omega) only [hv_cl, cl_set, sset_e, sset_1, sset_2]
    refine AW.ret (some (vi _)) dX12_run_32 trivial ?_
    exact hQ2
  · rw [hv_cl] at e0_2
    refine aw_if_ne (pt := 10) (pf := 8) dX12_run_5 (by decide) rfl (fun c_5 => absurd c_5 (by decide)) (fun _ => ?_)
    refine aw_iconst (pc' := 9) (by decide) dX12_run_8 rfl ?_
    refine AW.ret (some (vi _)) dX12_run_9 trivial ?_
    exact hN (by omega)

set_option maxRecDepth 20000 in
theorem x_tryLine {d : Nat} {ko l : Int} {A : AHp} {v : Sg} {Q : Option AV → AHp → Prop} (hd : 4 ≤ d) (hX : XLAY A) (hK : KeptAt A ko) (hko : 221 ≤ ko) (hz : KSZ (cl A v) 207) (hO : CALL (d - 1) mX4_runLine [vr 64, vr ko, vi l] (cl A (kcv A v ko)) (fun r B => ∃ u, r = none ∧ B = cl A u ∧ Q none (cl A u))) : CALL d mX12_tryLine [vr 60, vr ko, vi l] (cl A v) Q := by
  refine CALL.of (by decide) (Nat.le_of_ble_eq_true rfl) ?_
  change AW d mX12_tryLine 0 [some (vr 60), some (vr ko), some (vi l)] [] (cl A v) Q
  refine aw_aload_n (pc' := 1) rfl dX12_tryLine_0 rfl ?_
  refine aw_aload_n (pc' := 2) rfl dX12_tryLine_1 rfl ?_
  refine aw_getp (pc' := 5) (k9 := 2) (p := 207) dX12_tryLine_2 rfl fX12_28 rfl rfl rfl (XO (A := (cl A v)) hX) (X_now (A := (cl A v)) hX) ?_
  refine aw_callV (ci := 1) (d' := d - 1) (as := [_]) (pc' := 8) (by decide) rfl kX2_copyFrom iX2_copyFrom sX2_copyFrom lX12_169 hK.1 dX12_tryLine_5 rfl rfl (Nat.le_of_ble_eq_true rfl) (by omega) ?_
  refine x_kcopy (by omega) hK (XK_now (A := cl A v) hX) hz (by omega) ?_
  rw [kcv_cl]
  refine aw_aload_n (pc' := 9) rfl dX12_tryLine_8 rfl ?_
  refine aw_getp (pc' := 12) (k9 := 1) (p := 64) dX12_tryLine_9 rfl fX12_21 rfl rfl rfl (XO (A := (cl A v)) hX) (X_machine (A := (cl A v)) hX) ?_
  refine aw_aload_n (pc' := 13) rfl dX12_tryLine_12 rfl ?_
  refine aw_iload_n (pc' := 14) rfl dX12_tryLine_13 rfl ?_
  refine aw_callV (ci := 3) (d' := d - 1) (as := [_, _]) (pc' := 17) (by decide) rfl kX4_runLine iX4_runLine sX4_runLine lX12_121 (XO_machine (A := (cl A v)) hX) dX12_tryLine_14 rfl rfl (Nat.le_of_ble_eq_true rfl) (by omega) ?_
  refine CALL.mono hO ?_
  rintro r B ⟨u, rfl, rfl, hQ2⟩
  refine AW.ret none dX12_tryLine_17 trivial ?_
  exact hQ2

set_option maxRecDepth 20000 in
theorem x_tryLineWith {d : Nat} {l name x : Int} {A : AHp} {v : Sg} {Q : Option AV → AHp → Prop} (hd : 4 ≤ d) (hX : XLAY A) (hz : KSZ (cl A v) 207) (hnm : 0 ≤ name ∧ name ≤ 4) (hO : CALL (d - 1) mX4_runLine [vr 64, vr 235, vi l] (cl A (sset (kcv A v 235) 236 name x)) (fun r B => ∃ u, r = none ∧ B = cl A u ∧ Q none (cl A u))) : CALL d mX12_tryLineWith [vr 60, vi l, vi name, vi x] (cl A v) Q := by
  refine CALL.of (by decide) (Nat.le_of_ble_eq_true rfl) ?_
  change AW d mX12_tryLineWith 0 [some (vr 60), some (vi l), some (vi name), some (vi x)] [] (cl A v) Q
  refine aw_aload_n (pc' := 1) rfl dX12_tryLineWith_0 rfl ?_
  refine aw_getp (pc' := 4) (k9 := 5) (p := 235) dX12_tryLineWith_1 rfl fX12_35 rfl rfl rfl (XO (A := (cl A v)) hX) (X_trial (A := (cl A v)) hX) ?_
  refine aw_aload_n (pc' := 5) rfl dX12_tryLineWith_4 rfl ?_
  refine aw_getp (pc' := 8) (k9 := 2) (p := 207) dX12_tryLineWith_5 rfl fX12_28 rfl rfl rfl (XO (A := (cl A v)) hX) (X_now (A := (cl A v)) hX) ?_
  refine aw_callV (ci := 1) (d' := d - 1) (as := [_]) (pc' := 11) (by decide) rfl kX2_copyFrom iX2_copyFrom sX2_copyFrom lX12_169 (XK_trial (A := (cl A v)) hX).1 dX12_tryLineWith_8 rfl rfl (Nat.le_of_ble_eq_true rfl) (by omega) ?_
  refine x_kcopy (by omega) (XK_trial (A := cl A v) hX) (XK_now (A := cl A v) hX) hz (by omega) ?_
  rw [kcv_cl]
  refine aw_aload_n (pc' := 12) rfl dX12_tryLineWith_11 rfl ?_
  refine aw_getp (pc' := 15) (k9 := 5) (p := 235) dX12_tryLineWith_12 rfl fX12_35 rfl rfl rfl (XO (A := (cl A v)) hX) (X_trial (A := (cl A v)) hX) ?_
  refine aw_getp (pc' := 18) (k9 := 0) (p := 236) dX12_tryLineWith_15 rfl fX12_118 rfl rfl rfl (XK_trial (A := (cl A v)) hX).1 (XK_trial (A := (cl A v)) hX).2.1.1 ?_
  refine aw_iload_n (pc' := 19) rfl dX12_tryLineWith_18 rfl ?_
  refine aw_iload_n (pc' := 20) rfl dX12_tryLineWith_19 rfl ?_
  refine aw_iast (pc' := 21) dX12_tryLineWith_20 rfl (XK_trial (A := (cl A v)) hX).2.1.2 (by omega) (by omega) ?_
  refine aw_aload_n (pc' := 22) rfl dX12_tryLineWith_21 rfl ?_
  refine aw_getp (pc' := 25) (k9 := 1) (p := 64) dX12_tryLineWith_22 rfl fX12_21 rfl rfl rfl (XO (A := (cl A v)) hX) (X_machine (A := (cl A v)) hX) ?_
  refine aw_aload_n (pc' := 26) rfl dX12_tryLineWith_25 rfl ?_
  refine aw_getp (pc' := 29) (k9 := 5) (p := 235) dX12_tryLineWith_26 rfl fX12_35 rfl rfl rfl (XO (A := (cl A v)) hX) (X_trial (A := (cl A v)) hX) ?_
  refine aw_iload_n (pc' := 30) rfl dX12_tryLineWith_29 rfl ?_
  refine aw_callV (ci := 3) (d' := d - 1) (as := [_, _]) (pc' := 33) (by decide) rfl kX4_runLine iX4_runLine sX4_runLine lX12_121 (XO_machine (A := (cl A v)) hX) dX12_tryLineWith_30 rfl rfl (Nat.le_of_ble_eq_true rfl) (by omega) ?_
  refine CALL.mono hO ?_
  rintro r B ⟨u, rfl, rfl, hQ2⟩
  refine AW.ret none dX12_tryLineWith_33 trivial ?_
  exact hQ2

def ofX (v : Sg) (a w : Int) : Int := if w = 0 then v (a + 3) 1 else if w = 1 then v a 4 else if w = 2 then v a 5 else if 40 ≤ w ∧ w < 40 + v (a + 3) 1 then v (a + 3 + 1) (w - 40) else (-9223372036854775808)
theorem x_ofRunc {d : Nat} {a w : Int} {A : AHp} {v : Sg} {Q : Option AV → AHp → Prop} (hd : 1 ≤ d) (hK : KeptAt A a) (hm : 0 ≤ v (a + 3) 1 ∧ v (a + 3) 1 ≤ 60) (hw9 : in32 w) (hQ : Q (some (vl (ofX v a w))) (cl A v)) : CALL d mX12_ofRun [vr a, vi w] (cl A v) Q := by
  unfold ofX at hQ
  refine x_ofRun (A := cl A v) hd hK hm hw9 (fun q => ?_) (fun q => ?_) (fun q => ?_) (fun q q2 => ?_) (fun q q2 => ?_)
  · rw [if_pos q] at hQ; exact hQ
  · rw [if_neg (by omega), if_pos q] at hQ; exact hQ
  · rw [if_neg (by omega), if_neg (by omega), if_pos q] at hQ; exact hQ
  · simp only [hv_cl] at q2
    rw [if_neg (by omega), if_neg (by omega), if_neg (by omega), if_pos ⟨q, q2⟩] at hQ; exact hQ
  · simp only [hv_cl] at q2
    rw [if_neg (by omega), if_neg (by omega), if_neg (by omega), if_neg q2] at hQ; exact hQ
set_option maxRecDepth 20000 in
theorem x_on {d : Nat} {l w : Int} {A : AHp} {v : Sg} {Q : Option AV → AHp → Prop} (hd : 6 ≤ d) (hX : XLAY A) (hz : KSZ (cl A v) 207) (hw9 : in32 w) (hN : ¬ (0 ≤ l ∧ l < v 64 1) → Q (some (vl (-9223372036854775808))) (cl A v))
  (hO : 0 ≤ l → l < v 64 1 → CALL (d - 2) mX4_runLine [vr 64, vr 235, vi l] (cl A (kcv A v 235)) (fun r B => ∃ u, r = none ∧ B = cl A u ∧ (0 ≤ u 238 1 ∧ u 238 1 ≤ 60) ∧ Q (some (vl (if w = 3 then u 64 3 else ofX u 235 w))) (cl A u))) : CALL d mX12_on [vr 60, vi l, vi w] (cl A v) Q := by
  refine CALL.of (by decide) (Nat.le_of_ble_eq_true rfl) ?_
  change AW d mX12_on 0 [some (vr 60), some (vi l), some (vi w)] [] (cl A v) Q
  refine aw_aload_n (pc' := 1) rfl dX12_on_0 rfl ?_
  refine aw_iload_n (pc' := 2) rfl dX12_on_1 rfl ?_
  refine aw_callV (ci := 10) (d' := d - 1) (as := [_]) (pc' := 5) (by decide) rfl kX12_isLine iX12_isLine sX12_isLine lX12_83 (XO (A := (cl A v)) hX) dX12_on_2 rfl rfl (Nat.le_of_ble_eq_true rfl) (by omega) ?_
  refine x_isLine (by omega) hX (fun e1_2 e2_2 => ?_) (fun e0_2 => ?_)
  · rw [hv_cl] at e2_2
    refine aw_if_ne (pt := 12) (pf := 8) dX12_on_5 (by decide) rfl (fun _ => ?_) (fun c_5 => absurd (by decide) c_5)
    refine aw_aload_n (pc' := 13) rfl dX12_on_12 rfl ?_
    refine aw_aload_n (pc' := 14) rfl dX12_on_13 rfl ?_
    refine aw_getp (pc' := 17) (k9 := 5) (p := 235) dX12_on_14 rfl fX12_35 rfl rfl rfl (XO (A := (cl A v)) hX) (X_trial (A := (cl A v)) hX) ?_
    refine aw_iload_n (pc' := 18) rfl dX12_on_17 rfl ?_
    refine aw_callV (ci := 10) (d' := d - 1) (as := [_, _]) (pc' := 21) (by decide) rfl kX12_tryLine iX12_tryLine sX12_tryLine lX12_166 (XO (A := (cl A v)) hX) dX12_on_18 rfl rfl (Nat.le_of_ble_eq_true rfl) (by omega) ?_
    refine x_tryLine (by omega) hX (XK_trial (A := cl A v) hX) (by omega) hz ?_
    rw [show d - 1 - 1 = d - 2 by omega]
    refine CALL.mono (hO (by omega) (by omega)) ?_
    rintro r B ⟨u, rfl, rfl, hQ2⟩
    refine ⟨u, rfl, rfl, ?_⟩
    refine aw_iload_n (pc' := 22) rfl dX12_on_21 rfl ?_
    refine aw_iconst (pc' := 23) (by decide) dX12_on_22 rfl ?_
    refine aw_icmp_ne (pt := 37) (pf := 26) dX12_on_23 (by decide) rfl (fun c_23 => ?_) (fun c_23 => ?_)
    · refine aw_aload_n (pc' := 38) rfl dX12_on_37 rfl ?_
      refine aw_getp (pc' := 41) (k9 := 5) (p := 235) dX12_on_38 rfl fX12_35 rfl rfl rfl (XO (A := (cl A v)) hX) (X_trial (A := (cl A v)) hX) ?_
      refine aw_iload_n (pc' := 42) rfl dX12_on_41 rfl ?_
      refine aw_callS (d' := d - 1) (as := [_, _]) (pc' := 45) kX12_ofRun tX12_ofRun lX12_134 dX12_on_42 rfl rfl (Nat.le_of_ble_eq_true rfl) (by omega) ?_
      obtain ⟨hb9, hQ2⟩ := hQ2
      rw [if_neg (by omega)] at hQ2
      refine x_ofRunc (by omega) (XK_trial (A := cl A v) hX) hb9 hw9 ?_
      refine AW.ret (some (vl _)) dX12_on_45 trivial ?_
      exact hQ2
    · replace c_23 := Classical.not_not.mp c_23
      refine aw_aload_n (pc' := 27) rfl dX12_on_26 rfl ?_
      refine aw_getp (pc' := 30) (k9 := 1) (p := 64) dX12_on_27 rfl fX12_21 rfl rfl rfl (XO (A := (cl A v)) hX) (X_machine (A := (cl A v)) hX) ?_
      refine aw_geti (pc' := 33) (k9 := 3) dX12_on_30 rfl fX12_159 rfl (by decide) rfl (XO_machine (A := (cl A v)) hX) ?_
      try simp (disch := omega) only [hv_cl, cl_set, sset_e, sset_1, sset_2]
      refine aw_i2l (pc' := 34) dX12_on_33 rfl ?_
      refine aw_goto (pc' := 45) dX12_on_34 (by decide) ?_
      refine AW.ret (some (vl _)) dX12_on_45 trivial ?_
      obtain ⟨hb9, hQ2⟩ := hQ2
      rw [if_pos (by omega)] at hQ2
      exact hQ2
  · rw [hv_cl] at e0_2
    refine aw_if_ne (pt := 12) (pf := 8) dX12_on_5 (by decide) rfl (fun c_5 => absurd c_5 (by decide)) (fun _ => ?_)
    refine aw_ldc2 (x := (-9223372036854775808)) (pc' := 11) qX12_116 (by decide) dX12_on_8 rfl ?_
    refine AW.ret (some (vl _)) dX12_on_11 trivial ?_
    exact hN (by omega)
