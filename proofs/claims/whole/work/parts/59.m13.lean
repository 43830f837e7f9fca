/-! ===== the reference: what asks for runs ===== -/
def onV (t : Sg) (w : Int) : Int := if w = 0 then t 307 36 else if w = 1 then t 307 37 else if w = 2 then t 307 34 else if w = 3 then t 307 32 else if 40 ≤ w ∧ w < 40 + t 307 36 then t 331 (w - 40) else (-9223372036854775808)
def sumS (t : Sg) (o : Int) : Nat → Int
  | 0 => 0
  | n + 1 => sumS t o n + t o n
theorem sumS_b {t : Sg} {o : Int} : ∀ n : Nat, (∀ k : Int, in32 (t o k)) → -2147483648 * (n : Int) ≤ sumS t o n ∧ sumS t o n ≤ 2147483648 * (n : Int)
  | 0, _ => by simp [sumS]
  | n + 1, h => by
    have h1 := sumS_b n h
    obtain ⟨h2, h3⟩ := h n
    unfold sumS
    omega
set_option maxRecDepth 20000 in
theorem c_run {d : Nat} {n : Nat} {l : Int} {A : AHp} {s : Sg} {Q : Option AV → AHp → Prop} (hd : 6 * n + 5 ≤ d) (hM : MLAY A) (hMin : ∀ (d : Nat) (A : AHp) (a b : Int) (Q : Option AV → AHp → Prop), Q (some (vi (min a b))) A → CALL d mJ9_min_7cf53 [vi a, vi b] A Q) (hln : 0 ≤ s 307 12 ∧ s 307 12 ≤ 8)
  (hN : ¬ (0 ≤ l ∧ l < s 307 12) → Q (some (vi (-1))) (lift A s)) (hO : 0 ≤ l → l < s 307 12 → ∃ t, runS n l s = some t ∧ Q (some (vi (t 307 39))) (lift A t)) : CALL d mX13_run [vr 307, vi l] (lift A s) Q := by
  refine CALL.of (by decide) (Nat.le_of_ble_eq_true rfl) ?_
  change AW d mX13_run 0 [some (vr 307), some (vi l)] [] (lift A s) Q
  refine aw_aload_n (pc' := 1) rfl dX13_run_0 rfl ?_
  refine aw_iload_n (pc' := 2) rfl dX13_run_1 rfl ?_
  refine aw_callV (ci := 11) (d' := d - 1) (as := [_]) (pc' := 5) (by decide) rfl kX13_isLine iX13_isLine sX13_isLine lX13_260 (MO (A := (lift A s)) hM) dX13_run_2 rfl rfl (Nat.le_of_ble_eq_true rfl) (by omega) ?_
  refine c_isLine (by omega) hM (by rw [hv_in (by decide)]; exact hln) (fun e1_2 e2_2 => ?_) (fun e0_2 => ?_)
  · rw [hv_in (by decide)] at e2_2
    obtain ⟨t, h, hQ⟩ := hO e1_2 e2_2
    unfold runS at h
    obtain ⟨t1, g1, g2⟩ := Option.bind_eq_some_iff.mp h
    rw [Option.some.injEq] at g2
    subst g2
    refine aw_if_ne (pt := 10) (pf := 8) dX13_run_5 (by decide) rfl (fun _ => ?_) (fun c_5 => absurd (by decide) c_5)
    refine aw_aload_n (pc' := 11) rfl dX13_run_10 rfl ?_
    refine aw_iload_n (pc' := 12) rfl dX13_run_11 rfl ?_
    refine aw_callV (ci := 11) (d' := d - 1) (as := [_]) (pc' := 15) (by decide) rfl kX13_runs iX13_runs sX13_runs lX13_332 (MO (A := (lift A s)) hM) dX13_run_12 rfl rfl (Nat.le_of_ble_eq_true rfl) (by omega) ?_
    refine c_runs (by omega) hM hMin (by omega) g1 ?_
    refine aw_aload_n (pc' := 16) rfl dX13_run_15 rfl ?_
    refine aw_getp (pc' := 19) (k9 := 35) (p := 331) dX13_run_16 rfl fX13_117 rfl rfl rfl (MO (A := (lift A s)) hM) (M_out (A := (lift A s)) hM) ?_
    refine aw_aload_n (pc' := 20) rfl dX13_run_19 rfl ?_
    refine aw_getp (pc' := 23) (k9 := 38) (p := 332) dX13_run_20 rfl fX13_120 rfl rfl rfl (MO (A := (lift A s)) hM) (M_lastOut (A := (lift A s)) hM) ?_
    refine aw_callS (d' := d - 1) (as := [_, _]) (pc' := 26) kX13_copies tX13_copies lX13_336 dX13_run_23 rfl rfl (Nat.le_of_ble_eq_true rfl) (by omega) ?_
    refine c_copies (n := 60) (by omega) (MA_out (A := (lift A _)) hM) (MA_lastOut (A := (lift A _)) hM) (by decide) (by decide) (by decide) ?_
    rw [lift_cpy (by decide) (by decide)]
    refine aw_aload_n (pc' := 27) rfl dX13_run_26 rfl ?_
    refine aw_aload_n (pc' := 28) rfl dX13_run_27 rfl ?_
    refine aw_geti (pc' := 31) (k9 := 36) dX13_run_28 rfl fX13_269 rfl (by decide) rfl (MO (A := (lift A s)) hM) ?_
    try simp (disch := omega) only [hv_in, lift_set, sset_e, sset_1, sset_2, workS_o, stagesS_o, beginsS_o, scpy_o, lift_cpy]
    refine aw_puti (pc' := 34) (k9 := 39) dX13_run_31 rfl fX13_340 rfl rfl rfl (MO (A := (lift A s)) hM) ?_
    refine aw_aload_n (pc' := 35) rfl dX13_run_34 rfl ?_
    refine aw_aload_n (pc' := 36) rfl dX13_run_35 rfl ?_
    refine aw_geti (pc' := 39) (k9 := 37) dX13_run_36 rfl fX13_329 rfl (by decide) rfl (MO (A := (lift A s)) hM) ?_
    try simp (disch := omega) only [hv_in, lift_set, sset_e, sset_1, sset_2, workS_o, stagesS_o, beginsS_o, scpy_o, lift_cpy]
    refine aw_puti (pc' := 42) (k9 := 40) dX13_run_39 rfl fX13_343 rfl rfl rfl (MO (A := (lift A s)) hM) ?_
    refine aw_aload_n (pc' := 43) rfl dX13_run_42 rfl ?_
    refine aw_aload_n (pc' := 44) rfl dX13_run_43 rfl ?_
    refine aw_geti (pc' := 47) (k9 := 34) dX13_run_44 rfl fX13_279 rfl (by decide) rfl (MO (A := (lift A s)) hM) ?_
    try simp (disch := omega) only [hv_in, lift_set, sset_e, sset_1, sset_2, workS_o, stagesS_o, beginsS_o, scpy_o, lift_cpy]
    refine aw_puti (pc' := 50) (k9 := 41) dX13_run_47 rfl fX13_346 rfl rfl rfl (MO (A := (lift A s)) hM) ?_
    refine aw_aload_n (pc' := 51) rfl dX13_run_50 rfl ?_
    refine aw_geti (pc' := 54) (k9 := 39) dX13_run_51 rfl fX13_340 rfl (by decide) rfl (MO (A := (lift A s)) hM) ?_
    try simp (disch := omega) only [hv_in, lift_set, sset_e, sset_1, sset_2, workS_o, stagesS_o, beginsS_o, scpy_o, lift_cpy]
    refine AW.ret (some (vi _)) dX13_run_54 trivial ?_
    try simp (disch := omega) only [hv_in, lift_set, sset_e, sset_1, sset_2, workS_o, stagesS_o, beginsS_o, scpy_o, lift_cpy]
    simp (disch := omega) only [hv_in, lift_set, sset_e, sset_1, sset_2, workS_o, stagesS_o, beginsS_o, scpy_o, lift_cpy] at hQ
    exact hQ
  · rw [hv_in (by decide)] at e0_2
    refine aw_if_ne (pt := 10) (pf := 8) dX13_run_5 (by decide) rfl (fun c_5 => absurd c_5 (by decide)) (fun _ => ?_)
    refine aw_iconst (pc' := 9) (by decide) dX13_run_8 rfl ?_
    refine AW.ret (some (vi _)) dX13_run_9 trivial ?_
    exact hN (by omega)

set_option maxRecDepth 20000 in
theorem c_on {d : Nat} {n : Nat} {l w : Int} {A : AHp} {s : Sg} {Q : Option AV → AHp → Prop} (hd : 6 * n + 6 ≤ d) (hM : MLAY A) (hMin : ∀ (d : Nat) (A : AHp) (a b : Int) (Q : Option AV → AHp → Prop), Q (some (vi (min a b))) A → CALL d mJ9_min_7cf53 [vi a, vi b] A Q) (hln : 0 ≤ s 307 12 ∧ s 307 12 ≤ 8) (hw9 : in32 w)
  (hN : ¬ (0 ≤ l ∧ l < s 307 12 ∧ 0 ≤ w) → Q (some (vl (-9223372036854775808))) (lift A s)) (hO : 0 ≤ l → l < s 307 12 → 0 ≤ w → ∃ t, thinksS n l s = some t ∧ (0 ≤ t 307 36 ∧ t 307 36 ≤ 60) ∧ Q (some (vl (onV t w))) (lift A t)) : CALL d mX13_on [vr 307, vi l, vi w] (lift A s) Q := by
  refine CALL.of (by decide) (Nat.le_of_ble_eq_true rfl) ?_
  change AW d mX13_on 0 [some (vr 307), some (vi l), some (vi w)] [] (lift A s) Q
  refine aw_aload_n (pc' := 1) rfl dX13_on_0 rfl ?_
  refine aw_iload_n (pc' := 2) rfl dX13_on_1 rfl ?_
  refine aw_callV (ci := 11) (d' := d - 1) (as := [_]) (pc' := 5) (by decide) rfl kX13_isLine iX13_isLine sX13_isLine lX13_260 (MO (A := (lift A s)) hM) dX13_on_2 rfl rfl (Nat.le_of_ble_eq_true rfl) (by omega) ?_
  refine c_isLine (by omega) hM (by rw [hv_in (by decide)]; exact hln) (fun e1_2 e2_2 => ?_) (fun e0_2 => ?_)
  · rw [hv_in (by decide)] at e2_2
    refine aw_if_eq (pt := 12) (pf := 8) dX13_on_5 (by decide) rfl (fun c_5 => absurd c_5 (by decide)) (fun _ => ?_)
    refine aw_iload_n (pc' := 9) rfl dX13_on_8 rfl ?_
    refine aw_if_ge (pt := 16) (pf := 12) dX13_on_9 (by decide) rfl (fun c_9 => ?_) (fun c_9 => ?_)
    · refine aw_aload_n (pc' := 17) rfl dX13_on_16 rfl ?_
      refine aw_iload_n (pc' := 18) rfl dX13_on_17 rfl ?_
      refine aw_callV (ci := 11) (d' := d - 1) (as := [_]) (pc' := 21) (by decide) rfl kX13_thinks iX13_thinks sX13_thinks lX13_364 (MO (A := (lift A s)) hM) dX13_on_18 rfl rfl (Nat.le_of_ble_eq_true rfl) (by omega) ?_
      obtain ⟨t, h, hb9, hQ⟩ := hO (by omega) (by omega) (by omega)
      unfold onV at hQ
      refine c_thinks (by omega) hM hMin (by omega) h ?_
      refine aw_iload_n (pc' := 22) rfl dX13_on_21 rfl ?_
      by_cases z_22_0 : w = 0
      · refine aw_tabIn (pc' := 52) dX13_on_22 (by omega) (by omega) (off := 30) (by rw [z_22_0]; rfl) (by decide) ?_
        refine aw_aload_n (pc' := 53) rfl dX13_on_52 rfl ?_
        refine aw_geti (pc' := 56) (k9 := 36) dX13_on_53 rfl fX13_269 rfl (by decide) rfl (MO (A := (lift A s)) hM) ?_
        try simp (disch := omega) only [hv_in, lift_set, sset_e, sset_1, sset_2, workS_o, stagesS_o, beginsS_o, scpy_o, lift_cpy]
        refine aw_i2l (pc' := 57) dX13_on_56 rfl ?_
        refine AW.ret (some (vl _)) dX13_on_57 trivial ?_
        try simp (disch := omega) only [hv_in, lift_set, sset_e, sset_1, sset_2, workS_o, stagesS_o, beginsS_o, scpy_o, lift_cpy]
        simp (disch := omega) only [if_pos, if_neg] at hQ
        exact hQ
      by_cases z_22_1 : w = 1
      · refine aw_tabIn (pc' := 58) dX13_on_22 (by omega) (by omega) (off := 36) (by rw [z_22_1]; rfl) (by decide) ?_
        refine aw_aload_n (pc' := 59) rfl dX13_on_58 rfl ?_
        refine aw_geti (pc' := 62) (k9 := 37) dX13_on_59 rfl fX13_329 rfl (by decide) rfl (MO (A := (lift A s)) hM) ?_
        try simp (disch := omega) only [hv_in, lift_set, sset_e, sset_1, sset_2, workS_o, stagesS_o, beginsS_o, scpy_o, lift_cpy]
        refine aw_i2l (pc' := 63) dX13_on_62 rfl ?_
        refine AW.ret (some (vl _)) dX13_on_63 trivial ?_
        try simp (disch := omega) only [hv_in, lift_set, sset_e, sset_1, sset_2, workS_o, stagesS_o, beginsS_o, scpy_o, lift_cpy]
        simp (disch := omega) only [if_pos, if_neg] at hQ
        exact hQ
      by_cases z_22_2 : w = 2
      · refine aw_tabIn (pc' := 64) dX13_on_22 (by omega) (by omega) (off := 42) (by rw [z_22_2]; rfl) (by decide) ?_
        refine aw_aload_n (pc' := 65) rfl dX13_on_64 rfl ?_
        refine aw_geti (pc' := 68) (k9 := 34) dX13_on_65 rfl fX13_279 rfl (by decide) rfl (MO (A := (lift A s)) hM) ?_
        try simp (disch := omega) only [hv_in, lift_set, sset_e, sset_1, sset_2, workS_o, stagesS_o, beginsS_o, scpy_o, lift_cpy]
        refine aw_i2l (pc' := 69) dX13_on_68 rfl ?_
        refine AW.ret (some (vl _)) dX13_on_69 trivial ?_
        try simp (disch := omega) only [hv_in, lift_set, sset_e, sset_1, sset_2, workS_o, stagesS_o, beginsS_o, scpy_o, lift_cpy]
        simp (disch := omega) only [if_pos, if_neg] at hQ
        exact hQ
      by_cases z_22_3 : w = 3
      · refine aw_tabIn (pc' := 70) dX13_on_22 (by omega) (by omega) (off := 48) (by rw [z_22_3]; rfl) (by decide) ?_
        refine aw_aload_n (pc' := 71) rfl dX13_on_70 rfl ?_
        refine aw_geti (pc' := 74) (k9 := 32) dX13_on_71 rfl fX13_315 rfl (by decide) rfl (MO (A := (lift A s)) hM) ?_
        try simp (disch := omega) only [hv_in, lift_set, sset_e, sset_1, sset_2, workS_o, stagesS_o, beginsS_o, scpy_o, lift_cpy]
        refine aw_i2l (pc' := 75) dX13_on_74 rfl ?_
        refine AW.ret (some (vl _)) dX13_on_75 trivial ?_
        try simp (disch := omega) only [hv_in, lift_set, sset_e, sset_1, sset_2, workS_o, stagesS_o, beginsS_o, scpy_o, lift_cpy]
        simp (disch := omega) only [if_pos, if_neg] at hQ
        exact hQ
      refine aw_tabOut (pc' := 76) dX13_on_22 (by omega) (by decide) ?_
      refine aw_iload_n (pc' := 77) rfl dX13_on_76 rfl ?_
      refine aw_i2l (pc' := 78) dX13_on_77 rfl ?_
      refine aw_ldc2 (x := (40)) (pc' := 81) qX13_357 (by decide) dX13_on_78 rfl ?_
      refine aw_bipush (pc' := 83) (by decide +kernel) dX13_on_81 rfl ?_
      refine aw_aload_n (pc' := 84) rfl dX13_on_83 rfl ?_
      refine aw_geti (pc' := 87) (k9 := 36) dX13_on_84 rfl fX13_269 rfl (by decide) rfl (MO (A := (lift A s)) hM) ?_
      try simp (disch := omega) only [hv_in, lift_set, sset_e, sset_1, sset_2, workS_o, stagesS_o, beginsS_o, scpy_o, lift_cpy]
      refine aw_iadd (pc' := 88) (by first | exact w32_id (by omega) (by omega) | rfl) dX13_on_87 rfl ?_
      refine aw_i2l (pc' := 89) dX13_on_88 rfl ?_
      refine aw_callS (d' := d - 1) (as := [_, _, _]) (pc' := 92) kX13_in tX13_in lX13_177 dX13_on_89 rfl rfl (Nat.le_of_ble_eq_true rfl) (by omega) ?_
      refine c_in (by omega) (fun g1_89 g2_89 => ?_) (fun g0_89 => ?_)
      · refine aw_if_eq (pt := 108) (pf := 95) dX13_on_92 (by decide) rfl (fun c_92 => absurd c_92 (by decide)) (fun _ => ?_)
        refine aw_aload_n (pc' := 96) rfl dX13_on_95 rfl ?_
        refine aw_getp (pc' := 99) (k9 := 35) (p := 331) dX13_on_96 rfl fX13_117 rfl rfl rfl (MO (A := (lift A s)) hM) (M_out (A := (lift A s)) hM) ?_
        refine aw_iload_n (pc' := 100) rfl dX13_on_99 rfl ?_
        refine aw_bipush (pc' := 102) (by decide +kernel) dX13_on_100 rfl ?_
        refine aw_isub (pc' := 103) (by first | exact w32_id (by omega) (by omega) | rfl) dX13_on_102 rfl ?_
        refine aw_iald (pc' := 104) dX13_on_103 rfl (MA_out (A := (lift A s)) hM) (by omega) (by omega) ?_
        try simp (disch := omega) only [hv_in, lift_set, sset_e, sset_1, sset_2, workS_o, stagesS_o, beginsS_o, scpy_o, lift_cpy]
        refine aw_i2l (pc' := 105) dX13_on_104 rfl ?_
        refine aw_goto (pc' := 111) dX13_on_105 (by decide) ?_
        refine AW.ret (some (vl _)) dX13_on_111 trivial ?_
        try simp (disch := omega) only [hv_in, lift_set, sset_e, sset_1, sset_2, workS_o, stagesS_o, beginsS_o, scpy_o, lift_cpy]
        simp (disch := omega) only [if_pos, if_neg] at hQ
        exact hQ
      · refine aw_if_eq (pt := 108) (pf := 95) dX13_on_92 (by decide) rfl (fun _ => ?_) (fun c_92 => absurd (by decide) c_92)
        refine aw_ldc2 (x := (-9223372036854775808)) (pc' := 111) qX13_267 (by decide) dX13_on_108 rfl ?_
        refine AW.ret (some (vl _)) dX13_on_111 trivial ?_
        try simp (disch := omega) only [hv_in, lift_set, sset_e, sset_1, sset_2, workS_o, stagesS_o, beginsS_o, scpy_o, lift_cpy]
        simp (disch := omega) only [if_pos, if_neg] at hQ
        exact hQ
    · refine aw_ldc2 (x := (-9223372036854775808)) (pc' := 15) qX13_267 (by decide) dX13_on_12 rfl ?_
      refine AW.ret (some (vl _)) dX13_on_15 trivial ?_
      exact hN (by omega)
  · rw [hv_in (by decide)] at e0_2
    refine aw_if_eq (pt := 12) (pf := 8) dX13_on_5 (by decide) rfl (fun _ => ?_) (fun c_5 => absurd (by decide) c_5)
    refine aw_ldc2 (x := (-9223372036854775808)) (pc' := 15) qX13_267 (by decide) dX13_on_12 rfl ?_
    refine AW.ret (some (vl _)) dX13_on_15 trivial ?_
    exact hN (by omega)

set_option maxRecDepth 20000 in
theorem l_mean {d : Nat} {A : AHp} {t : Sg} {l p : Int} {Q : Option AV → AHp → Prop} : ∀ (m : Nat) (k x : Int) (n : Nat), (t 307 36 - k).toNat = m → MLAY A → 1 ≤ d → 0 ≤ k → k ≤ t 307 36 → (0 ≤ t 307 36 ∧ t 307 36 ≤ 60) → (∀ j, in32 (t 331 j)) → k = n → x = sumS t 331 n →
  (t 307 36 = 0 → Q (some (vl (-9223372036854775808))) (lift A t)) → (0 < t 307 36 → Q (some (vl ((if p = 0 then sumS t 331 (t 307 36).toNat else t 307 36).tdiv (Int.gcd (sumS t 331 (t 307 36).toNat) (t 307 36))))) (lift A t)) → AW d mX13_mean 32 [some (vr 307), some (vi l), some (vi p), some (vl x), none, some (vi k)] [] (lift A t) Q := by
  intro m
  induction m using Nat.strongRecOn with
  | _ m ih =>
    intro k x n hm hM hd hk0 hkn hb hr ek ex h0 h1
    have hb9 := sumS_b (t := t) (o := 331) n hr
    rw [← ex] at hb9
    obtain ⟨hr1, hr2⟩ := hr k
    refine aw_iload (pc' := 34) rfl dX13_mean_32 rfl ?_
    refine aw_aload_n (pc' := 35) rfl dX13_mean_34 rfl ?_
    refine aw_geti (pc' := 38) (k9 := 36) dX13_mean_35 rfl fX13_269 rfl (by decide) rfl (MO (A := (lift A t)) hM) ?_
    try simp (disch := omega) only [hv_in, lift_set, sset_e, sset_1, sset_2, workS_o, stagesS_o, beginsS_o, scpy_o, lift_cpy]
    refine aw_icmp_ge (pt := 58) (pf := 41) dX13_mean_38 (by decide) rfl (fun c_38 => ?_) (fun c_38 => ?_)
    · refine aw_aload_n (pc' := 59) rfl dX13_mean_58 rfl ?_
      refine aw_geti (pc' := 62) (k9 := 36) dX13_mean_59 rfl fX13_269 rfl (by decide) rfl (MO (A := (lift A t)) hM) ?_
      try simp (disch := omega) only [hv_in, lift_set, sset_e, sset_1, sset_2, workS_o, stagesS_o, beginsS_o, scpy_o, lift_cpy]
      refine aw_if_ne (pt := 71) (pf := 65) dX13_mean_62 (by decide) rfl (fun c_62 => ?_) (fun c_62 => ?_)
      · refine aw_lload_n (pc' := 72) rfl dX13_mean_71 rfl ?_
        refine aw_aload_n (pc' := 73) rfl dX13_mean_72 rfl ?_
        refine aw_geti (pc' := 76) (k9 := 36) dX13_mean_73 rfl fX13_269 rfl (by decide) rfl (MO (A := (lift A t)) hM) ?_
        try simp (disch := omega) only [hv_in, lift_set, sset_e, sset_1, sset_2, workS_o, stagesS_o, beginsS_o, scpy_o, lift_cpy]
        refine aw_i2l (pc' := 77) dX13_mean_76 rfl ?_
        refine aw_iload_n (pc' := 78) rfl dX13_mean_77 rfl ?_
        refine aw_callS (d' := d - 1) (as := [_, _, _]) (pc' := 81) kX13_lowest tX13_lowest lX13_379 dX13_mean_78 rfl rfl (Nat.le_of_ble_eq_true rfl) (by omega) ?_
        rw [show (t 307 36).toNat = n by omega, ← ex] at h1
        refine c_lowest (by omega) (by omega) (by omega) (by omega) (by omega) ?_
        refine AW.ret (some (vl _)) dX13_mean_81 trivial ?_
        exact h1 (by omega)
      · replace c_62 := Classical.not_not.mp c_62
        refine aw_ldc2 (x := (-9223372036854775808)) (pc' := 68) qX13_267 (by decide) dX13_mean_65 rfl ?_
        refine aw_goto (pc' := 81) dX13_mean_68 (by decide) ?_
        refine AW.ret (some (vl _)) dX13_mean_81 trivial ?_
        exact h0 (by omega)
    · refine aw_lload_n (pc' := 42) rfl dX13_mean_41 rfl ?_
      refine aw_aload_n (pc' := 43) rfl dX13_mean_42 rfl ?_
      refine aw_getp (pc' := 46) (k9 := 35) (p := 331) dX13_mean_43 rfl fX13_117 rfl rfl rfl (MO (A := (lift A t)) hM) (M_out (A := (lift A t)) hM) ?_
      refine aw_iload (pc' := 48) rfl dX13_mean_46 rfl ?_
      refine aw_iald (pc' := 49) dX13_mean_48 rfl (MA_out (A := (lift A t)) hM) (by omega) (by omega) ?_
      try simp (disch := omega) only [hv_in, lift_set, sset_e, sset_1, sset_2, workS_o, stagesS_o, beginsS_o, scpy_o, lift_cpy]
      refine aw_i2l (pc' := 50) dX13_mean_49 rfl ?_
      refine aw_ladd (pc' := 51) (by first | exact w64_id (by omega) (by omega) | rfl) dX13_mean_50 rfl ?_
      refine aw_lstore_n (pc' := 52) (lv' := [_, _, _, _, _, _]) dX13_mean_51 rfl (by decide) rfl ?_
      refine aw_iinc (pc' := 55) (lv' := [_, _, _, _, _, _]) dX13_mean_52 rfl rfl (by decide) (by first | exact w32_id (by omega) (by omega) | rfl) rfl ?_
      refine aw_goto (pc' := 32) dX13_mean_55 (by decide) ?_
      exact ih _ (by omega) (k + 1) _ (n + 1) rfl hM hd (by omega) (by omega) hb hr (by omega) (by rw [ex, ek]; rfl) h0 h1

set_option maxRecDepth 20000 in
theorem c_mean {d : Nat} {n : Nat} {l p : Int} {A : AHp} {s : Sg} {Q : Option AV → AHp → Prop} (hd : 6 * n + 6 ≤ d) (hM : MLAY A) (hMin : ∀ (d : Nat) (A : AHp) (a b : Int) (Q : Option AV → AHp → Prop), Q (some (vi (min a b))) A → CALL d mJ9_min_7cf53 [vi a, vi b] A Q) (hln : 0 ≤ s 307 12 ∧ s 307 12 ≤ 8)
  (hN : ¬ (0 ≤ l ∧ l < s 307 12 ∧ (p = 0 ∨ p = 1)) → Q (some (vl (-9223372036854775808))) (lift A s)) (hO : 0 ≤ l → l < s 307 12 → (p = 0 ∨ p = 1) → ∃ t, thinksS n l s = some t ∧ (0 ≤ t 307 36 ∧ t 307 36 ≤ 60) ∧ (∀ j, in32 (t 331 j)) ∧
   (t 307 36 = 0 → Q (some (vl (-9223372036854775808))) (lift A t)) ∧ (0 < t 307 36 → Q (some (vl ((if p = 0 then sumS t 331 (t 307 36).toNat else t 307 36).tdiv (Int.gcd (sumS t 331 (t 307 36).toNat) (t 307 36))))) (lift A t))) : CALL d mX13_mean [vr 307, vi l, vi p] (lift A s) Q := by
  refine CALL.of (by decide) (Nat.le_of_ble_eq_true rfl) ?_
  change AW d mX13_mean 0 [some (vr 307), some (vi l), some (vi p), none, none, none] [] (lift A s) Q
  refine aw_aload_n (pc' := 1) rfl dX13_mean_0 rfl ?_
  refine aw_iload_n (pc' := 2) rfl dX13_mean_1 rfl ?_
  refine aw_callV (ci := 11) (d' := d - 1) (as := [_]) (pc' := 5) (by decide) rfl kX13_isLine iX13_isLine sX13_isLine lX13_260 (MO (A := (lift A s)) hM) dX13_mean_2 rfl rfl (Nat.le_of_ble_eq_true rfl) (by omega) ?_
  refine c_isLine (by omega) hM (by rw [hv_in (by decide)]; exact hln) (fun e1_2 e2_2 => ?_) (fun e0_2 => ?_)
  · rw [hv_in (by decide)] at e2_2
    refine aw_if_eq (pt := 18) (pf := 8) dX13_mean_5 (by decide) rfl (fun c_5 => absurd c_5 (by decide)) (fun _ => ?_)
    refine aw_iload_n (pc' := 9) rfl dX13_mean_8 rfl ?_
    refine aw_i2l (pc' := 10) dX13_mean_9 rfl ?_
    refine aw_lconst (x := 0) (pc' := 11) (by decide +kernel) dX13_mean_10 rfl ?_
    refine aw_lconst (x := 1) (pc' := 12) (by decide +kernel) dX13_mean_11 rfl ?_
    refine aw_callS (d' := d - 1) (as := [_, _, _]) (pc' := 15) kX13_in tX13_in lX13_177 dX13_mean_12 rfl rfl (Nat.le_of_ble_eq_true rfl) (by omega) ?_
    refine c_in (by omega) (fun g1_12 g2_12 => ?_) (fun g0_12 => ?_)
    · refine aw_if_ne (pt := 22) (pf := 18) dX13_mean_15 (by decide) rfl (fun _ => ?_) (fun c_15 => absurd (by decide) c_15)
      refine aw_aload_n (pc' := 23) rfl dX13_mean_22 rfl ?_
      refine aw_iload_n (pc' := 24) rfl dX13_mean_23 rfl ?_
      refine aw_callV (ci := 11) (d' := d - 1) (as := [_]) (pc' := 27) (by decide) rfl kX13_thinks iX13_thinks sX13_thinks lX13_364 (MO (A := (lift A s)) hM) dX13_mean_24 rfl rfl (Nat.le_of_ble_eq_true rfl) (by omega) ?_
      obtain ⟨t, h, hb9, hr9, hq0, hq1⟩ := hO (by omega) (by omega) (by omega)
      refine c_thinks (by omega) hM hMin (by omega) h ?_
      refine aw_lconst (x := 0) (pc' := 28) (by decide +kernel) dX13_mean_27 rfl ?_
      refine aw_lstore_n (pc' := 29) (lv' := [_, _, _, _, _, _]) dX13_mean_28 rfl (by decide) rfl ?_
      refine aw_iconst (pc' := 30) (by decide) dX13_mean_29 rfl ?_
      refine aw_istore (pc' := 32) (lv' := [_, _, _, _, _, _]) dX13_mean_30 rfl (by decide) rfl ?_
      exact l_mean _ 0 0 0 rfl hM (by omega) (by omega) hb9.1 hb9 hr9 rfl rfl hq0 hq1
    · refine aw_if_ne (pt := 22) (pf := 18) dX13_mean_15 (by decide) rfl (fun c_15 => absurd c_15 (by decide)) (fun _ => ?_)
      refine aw_ldc2 (x := (-9223372036854775808)) (pc' := 21) qX13_267 (by decide) dX13_mean_18 rfl ?_
      refine AW.ret (some (vl _)) dX13_mean_21 trivial ?_
      exact hN (by omega)
  · rw [hv_in (by decide)] at e0_2
    refine aw_if_eq (pt := 18) (pf := 8) dX13_mean_5 (by decide) rfl (fun _ => ?_) (fun c_5 => absurd (by decide) c_5)
    refine aw_ldc2 (x := (-9223372036854775808)) (pc' := 21) qX13_267 (by decide) dX13_mean_18 rfl ?_
    refine AW.ret (some (vl _)) dX13_mean_21 trivial ?_
    exact hN (by omega)

set_option maxRecDepth 20000 in
theorem l_alike {d : Nat} {A : AHp} {u : Sg} {l p t1 t2 : Int} {Q : Option AV → AHp → Prop} : ∀ (m : Nat) (k : Int), (t1 - k).toNat = m → MLAY A → 0 ≤ k → k ≤ t1 → t1 ≤ 60 → t1 = u 307 36 ∧ t2 = u 307 37 → (∀ j, 0 ≤ j → j < k → u 331 j = u 340 j) → ((t1 = u 307 36 ∧ t2 = u 307 37 ∧ ∀ k, 0 ≤ k → k < t1 → u 331 k = u 340 k) → Q (some (vi 1)) (lift A u)) → (¬ (t1 = u 307 36 ∧ t2 = u 307 37 ∧ ∀ k, 0 ≤ k → k < t1 → u 331 k = u 340 k) → Q (some (vi 0)) (lift A u)) → AW d mX13_alike 77 [some (vr 307), some (vi l), some (vi p), some (vi t1), some (vi t2), some (vi 1), some (vi k)] [] (lift A u) Q := by
  intro m
  induction m using Nat.strongRecOn with
  | _ m ih =>
    intro k hm hM hk0 hkn h60 he hall h1 h0
    refine aw_iload (pc' := 79) rfl dX13_alike_77 rfl ?_
    refine aw_iload_n (pc' := 80) rfl dX13_alike_79 rfl ?_
    refine aw_icmp_ge (pt := 118) (pf := 83) dX13_alike_80 (by decide) rfl (fun c_80 => ?_) (fun c_80 => ?_)
    · refine aw_iload (pc' := 120) rfl dX13_alike_118 rfl ?_
      refine aw_if_eq (pt := 127) (pf := 123) dX13_alike_120 (by decide) rfl (fun c_120 => absurd c_120 (by decide)) (fun _ => ?_)
      refine aw_iconst (pc' := 124) (by decide) dX13_alike_123 rfl ?_
      refine aw_goto (pc' := 128) dX13_alike_124 (by decide) ?_
      refine AW.ret (some (vi _)) dX13_alike_128 trivial ?_
      exact h1 ⟨he.1, he.2, fun j g1 g2 => hall j g1 (by omega)⟩
    · refine aw_iload (pc' := 85) rfl dX13_alike_83 rfl ?_
      refine aw_if_eq (pt := 118) (pf := 88) dX13_alike_85 (by decide) rfl (fun c_85 => absurd c_85 (by decide)) (fun _ => ?_)
      refine aw_aload_n (pc' := 89) rfl dX13_alike_88 rfl ?_
      refine aw_getp (pc' := 92) (k9 := 35) (p := 331) dX13_alike_89 rfl fX13_117 rfl rfl rfl (MO (A := (lift A u)) hM) (M_out (A := (lift A u)) hM) ?_
      refine aw_iload (pc' := 94) rfl dX13_alike_92 rfl ?_
      refine aw_iald (pc' := 95) dX13_alike_94 rfl (MA_out (A := (lift A u)) hM) (by omega) (by omega) ?_
      try simp (disch := omega) only [hv_in, lift_set, sset_e, sset_1, sset_2, workS_o, stagesS_o, beginsS_o, scpy_o, lift_cpy]
      refine aw_aload_n (pc' := 96) rfl dX13_alike_95 rfl ?_
      refine aw_getp (pc' := 99) (k9 := 50) (p := 340) dX13_alike_96 rfl fX13_144 rfl rfl rfl (MO (A := (lift A u)) hM) (M_otherOut (A := (lift A u)) hM) ?_
      refine aw_iload (pc' := 101) rfl dX13_alike_99 rfl ?_
      refine aw_iald (pc' := 102) dX13_alike_101 rfl (MA_otherOut (A := (lift A u)) hM) (by omega) (by omega) ?_
      try simp (disch := omega) only [hv_in, lift_set, sset_e, sset_1, sset_2, workS_o, stagesS_o, beginsS_o, scpy_o, lift_cpy]
      refine aw_icmp_ne (pt := 109) (pf := 105) dX13_alike_102 (by decide) rfl (fun c_102 => ?_) (fun c_102 => ?_)
      · refine aw_iconst (pc' := 110) (by decide) dX13_alike_109 rfl ?_
        refine aw_istore (pc' := 112) (lv' := [_, _, _, _, _, _, _]) dX13_alike_110 rfl (by decide) rfl ?_
        refine aw_iinc (pc' := 115) (lv' := [_, _, _, _, _, _, _]) dX13_alike_112 rfl rfl (by decide) (by first | exact w32_id (by omega) (by omega) | rfl) rfl ?_
        refine aw_goto (pc' := 77) dX13_alike_115 (by decide) ?_
        refine aw_iload (pc' := 79) rfl dX13_alike_77 rfl ?_
        refine aw_iload_n (pc' := 80) rfl dX13_alike_79 rfl ?_
        refine aw_icmp_ge (pt := 118) (pf := 83) dX13_alike_80 (by decide) rfl (fun c_80 => ?_) (fun c_80 => ?_)
        · refine aw_iload (pc' := 120) rfl dX13_alike_118 rfl ?_
          refine aw_if_eq (pt := 127) (pf := 123) dX13_alike_120 (by decide) rfl (fun _ => ?_) (fun c_120 => absurd (by decide) c_120)
          refine aw_iconst (pc' := 128) (by decide) dX13_alike_127 rfl ?_
          refine AW.ret (some (vi _)) dX13_alike_128 trivial ?_
          exact h0 (fun z => c_102 (z.2.2 k hk0 (by omega)))
        · refine aw_iload (pc' := 85) rfl dX13_alike_83 rfl ?_
          refine aw_if_eq (pt := 118) (pf := 88) dX13_alike_85 (by decide) rfl (fun _ => ?_) (fun c_85 => absurd (by decide) c_85)
          refine aw_iload (pc' := 120) rfl dX13_alike_118 rfl ?_
          refine aw_if_eq (pt := 127) (pf := 123) dX13_alike_120 (by decide) rfl (fun _ => ?_) (fun c_120 => absurd (by decide) c_120)
          refine aw_iconst (pc' := 128) (by decide) dX13_alike_127 rfl ?_
          refine AW.ret (some (vi _)) dX13_alike_128 trivial ?_
          exact h0 (fun z => c_102 (z.2.2 k hk0 (by omega)))
      · replace c_102 := Classical.not_not.mp c_102
        refine aw_iconst (pc' := 106) (by decide) dX13_alike_105 rfl ?_
        refine aw_goto (pc' := 110) dX13_alike_106 (by decide) ?_
        refine aw_istore (pc' := 112) (lv' := [_, _, _, _, _, _, _]) dX13_alike_110 rfl (by decide) rfl ?_
        refine aw_iinc (pc' := 115) (lv' := [_, _, _, _, _, _, _]) dX13_alike_112 rfl rfl (by decide) (by first | exact w32_id (by omega) (by omega) | rfl) rfl ?_
        refine aw_goto (pc' := 77) dX13_alike_115 (by decide) ?_
        exact ih _ (by omega) (k + 1) rfl hM (by omega) (by omega) h60 he (fun j g1 g2 => by by_cases e : j = k; subst e; exact c_102; exact hall j g1 (by omega)) h1 h0

set_option maxRecDepth 20000 in
theorem c_alike {d : Nat} {n : Nat} {l p : Int} {A : AHp} {s : Sg} {Q : Option AV → AHp → Prop} (hd : 6 * n + 6 ≤ d) (hM : MLAY A) (hMin : ∀ (d : Nat) (A : AHp) (a b : Int) (Q : Option AV → AHp → Prop), Q (some (vi (min a b))) A → CALL d mJ9_min_7cf53 [vi a, vi b] A Q) (hln : 0 ≤ s 307 12 ∧ s 307 12 ≤ 8)
  (hN : ¬ (0 ≤ l ∧ l < s 307 12 ∧ 0 ≤ p ∧ p < s 307 12) → Q (some (vi (-1))) (lift A s)) (hO : 0 ≤ l → l < s 307 12 → 0 ≤ p → p < s 307 12 → ∃ t u, thinksS n l s = some t ∧ thinksS n p (scpy t 331 0 340 0 60) = some u ∧ (0 ≤ t 307 36 ∧ t 307 36 ≤ 60) ∧
   ((t 307 36 = u 307 36 ∧ t 307 37 = u 307 37 ∧ ∀ k, 0 ≤ k → k < t 307 36 → u 331 k = u 340 k) → Q (some (vi 1)) (lift A u)) ∧ (¬ (t 307 36 = u 307 36 ∧ t 307 37 = u 307 37 ∧ ∀ k, 0 ≤ k → k < t 307 36 → u 331 k = u 340 k) → Q (some (vi 0)) (lift A u))) : CALL d mX13_alike [vr 307, vi l, vi p] (lift A s) Q := by
  refine CALL.of (by decide) (Nat.le_of_ble_eq_true rfl) ?_
  change AW d mX13_alike 0 [some (vr 307), some (vi l), some (vi p), none, none, none, none] [] (lift A s) Q
  refine aw_aload_n (pc' := 1) rfl dX13_alike_0 rfl ?_
  refine aw_iload_n (pc' := 2) rfl dX13_alike_1 rfl ?_
  refine aw_callV (ci := 11) (d' := d - 1) (as := [_]) (pc' := 5) (by decide) rfl kX13_isLine iX13_isLine sX13_isLine lX13_260 (MO (A := (lift A s)) hM) dX13_alike_2 rfl rfl (Nat.le_of_ble_eq_true rfl) (by omega) ?_
  refine c_isLine (by omega) hM (by rw [hv_in (by decide)]; exact hln) (fun e1_2 e2_2 => ?_) (fun e0_2 => ?_)
  · rw [hv_in (by decide)] at e2_2
    refine aw_if_eq (pt := 16) (pf := 8) dX13_alike_5 (by decide) rfl (fun c_5 => absurd c_5 (by decide)) (fun _ => ?_)
    refine aw_aload_n (pc' := 9) rfl dX13_alike_8 rfl ?_
    refine aw_iload_n (pc' := 10) rfl dX13_alike_9 rfl ?_
    refine aw_callV (ci := 11) (d' := d - 1) (as := [_]) (pc' := 13) (by decide) rfl kX13_isLine iX13_isLine sX13_isLine lX13_260 (MO (A := (lift A s)) hM) dX13_alike_10 rfl rfl (Nat.le_of_ble_eq_true rfl) (by omega) ?_
    refine c_isLine (by omega) hM (by rw [hv_in (by decide)]; exact hln) (fun e1_10 e2_10 => ?_) (fun e0_10 => ?_)
    · rw [hv_in (by decide)] at e2_10
      refine aw_if_ne (pt := 18) (pf := 16) dX13_alike_13 (by decide) rfl (fun _ => ?_) (fun c_13 => absurd (by decide) c_13)
      refine aw_aload_n (pc' := 19) rfl dX13_alike_18 rfl ?_
      refine aw_iload_n (pc' := 20) rfl dX13_alike_19 rfl ?_
      refine aw_callV (ci := 11) (d' := d - 1) (as := [_]) (pc' := 23) (by decide) rfl kX13_thinks iX13_thinks sX13_thinks lX13_364 (MO (A := (lift A s)) hM) dX13_alike_20 rfl rfl (Nat.le_of_ble_eq_true rfl) (by omega) ?_
      obtain ⟨t, u, h, h2, hb9, hq1, hq0⟩ := hO (by omega) (by omega) (by omega) (by omega)
      refine c_thinks (by omega) hM hMin (by omega) h ?_
      refine aw_aload_n (pc' := 24) rfl dX13_alike_23 rfl ?_
      refine aw_getp (pc' := 27) (k9 := 35) (p := 331) dX13_alike_24 rfl fX13_117 rfl rfl rfl (MO (A := (lift A s)) hM) (M_out (A := (lift A s)) hM) ?_
      refine aw_aload_n (pc' := 28) rfl dX13_alike_27 rfl ?_
      refine aw_getp (pc' := 31) (k9 := 50) (p := 340) dX13_alike_28 rfl fX13_144 rfl rfl rfl (MO (A := (lift A s)) hM) (M_otherOut (A := (lift A s)) hM) ?_
      refine aw_callS (d' := d - 1) (as := [_, _]) (pc' := 34) kX13_copies tX13_copies lX13_336 dX13_alike_31 rfl rfl (Nat.le_of_ble_eq_true rfl) (by omega) ?_
      refine c_copies (n := 60) (by omega) (MA_out (A := (lift A _)) hM) (MA_otherOut (A := (lift A _)) hM) (by decide) (by decide) (by decide) ?_
      rw [lift_cpy (by decide) (by decide)]
      refine aw_aload_n (pc' := 35) rfl dX13_alike_34 rfl ?_
      refine aw_geti (pc' := 38) (k9 := 36) dX13_alike_35 rfl fX13_269 rfl (by decide) rfl (MO (A := (lift A s)) hM) ?_
      try simp (disch := omega) only [hv_in, lift_set, sset_e, sset_1, sset_2, workS_o, stagesS_o, beginsS_o, scpy_o, lift_cpy]
      refine aw_istore_n (pc' := 39) (lv' := [_, _, _, _, _, _, _]) dX13_alike_38 rfl (by decide) rfl ?_
      refine aw_aload_n (pc' := 40) rfl dX13_alike_39 rfl ?_
      refine aw_geti (pc' := 43) (k9 := 37) dX13_alike_40 rfl fX13_329 rfl (by decide) rfl (MO (A := (lift A s)) hM) ?_
      try simp (disch := omega) only [hv_in, lift_set, sset_e, sset_1, sset_2, workS_o, stagesS_o, beginsS_o, scpy_o, lift_cpy]
      refine aw_istore (pc' := 45) (lv' := [_, _, _, _, _, _, _]) dX13_alike_43 rfl (by decide) rfl ?_
      refine aw_aload_n (pc' := 46) rfl dX13_alike_45 rfl ?_
      refine aw_iload_n (pc' := 47) rfl dX13_alike_46 rfl ?_
      refine aw_callV (ci := 11) (d' := d - 1) (as := [_]) (pc' := 50) (by decide) rfl kX13_thinks iX13_thinks sX13_thinks lX13_364 (MO (A := (lift A s)) hM) dX13_alike_47 rfl rfl (Nat.le_of_ble_eq_true rfl) (by omega) ?_
      refine c_thinks (by omega) hM hMin (by omega) h2 ?_
      refine aw_iload_n (pc' := 51) rfl dX13_alike_50 rfl ?_
      refine aw_aload_n (pc' := 52) rfl dX13_alike_51 rfl ?_
      refine aw_geti (pc' := 55) (k9 := 36) dX13_alike_52 rfl fX13_269 rfl (by decide) rfl (MO (A := (lift A s)) hM) ?_
      try simp (disch := omega) only [hv_in, lift_set, sset_e, sset_1, sset_2, workS_o, stagesS_o, beginsS_o, scpy_o, lift_cpy]
      refine aw_icmp_ne (pt := 71) (pf := 58) dX13_alike_55 (by decide) rfl (fun c_55 => ?_) (fun c_55 => ?_)
      · refine aw_iconst (pc' := 72) (by decide) dX13_alike_71 rfl ?_
        refine aw_istore (pc' := 74) (lv' := [_, _, _, _, _, _, _]) dX13_alike_72 rfl (by decide) rfl ?_
        refine aw_iconst (pc' := 75) (by decide) dX13_alike_74 rfl ?_
        refine aw_istore (pc' := 77) (lv' := [_, _, _, _, _, _, _]) dX13_alike_75 rfl (by decide) rfl ?_
        refine aw_iload (pc' := 79) rfl dX13_alike_77 rfl ?_
        refine aw_iload_n (pc' := 80) rfl dX13_alike_79 rfl ?_
        refine aw_icmp_ge (pt := 118) (pf := 83) dX13_alike_80 (by decide) rfl (fun c_80 => ?_) (fun c_80 => ?_)
        · refine aw_iload (pc' := 120) rfl dX13_alike_118 rfl ?_
          refine aw_if_eq (pt := 127) (pf := 123) dX13_alike_120 (by decide) rfl (fun _ => ?_) (fun c_120 => absurd (by decide) c_120)
          refine aw_iconst (pc' := 128) (by decide) dX13_alike_127 rfl ?_
          refine AW.ret (some (vi _)) dX13_alike_128 trivial ?_
          try simp (disch := omega) only [hv_in, lift_set, sset_e, sset_1, sset_2, workS_o, stagesS_o, beginsS_o, scpy_o, lift_cpy]
          exact hq0 (fun z => by omega)
        · refine aw_iload (pc' := 85) rfl dX13_alike_83 rfl ?_
          refine aw_if_eq (pt := 118) (pf := 88) dX13_alike_85 (by decide) rfl (fun _ => ?_) (fun c_85 => absurd (by decide) c_85)
          refine aw_iload (pc' := 120) rfl dX13_alike_118 rfl ?_
          refine aw_if_eq (pt := 127) (pf := 123) dX13_alike_120 (by decide) rfl (fun _ => ?_) (fun c_120 => absurd (by decide) c_120)
          refine aw_iconst (pc' := 128) (by decide) dX13_alike_127 rfl ?_
          refine AW.ret (some (vi _)) dX13_alike_128 trivial ?_
          try simp (disch := omega) only [hv_in, lift_set, sset_e, sset_1, sset_2, workS_o, stagesS_o, beginsS_o, scpy_o, lift_cpy]
          exact hq0 (fun z => by omega)
      · replace c_55 := Classical.not_not.mp c_55
        refine aw_iload (pc' := 60) rfl dX13_alike_58 rfl ?_
        refine aw_aload_n (pc' := 61) rfl dX13_alike_60 rfl ?_
        refine aw_geti (pc' := 64) (k9 := 37) dX13_alike_61 rfl fX13_329 rfl (by decide) rfl (MO (A := (lift A s)) hM) ?_
        try simp (disch := omega) only [hv_in, lift_set, sset_e, sset_1, sset_2, workS_o, stagesS_o, beginsS_o, scpy_o, lift_cpy]
        refine aw_icmp_ne (pt := 71) (pf := 67) dX13_alike_64 (by decide) rfl (fun c_64 => ?_) (fun c_64 => ?_)
        · refine aw_iconst (pc' := 72) (by decide) dX13_alike_71 rfl ?_
          refine aw_istore (pc' := 74) (lv' := [_, _, _, _, _, _, _]) dX13_alike_72 rfl (by decide) rfl ?_
          refine aw_iconst (pc' := 75) (by decide) dX13_alike_74 rfl ?_
          refine aw_istore (pc' := 77) (lv' := [_, _, _, _, _, _, _]) dX13_alike_75 rfl (by decide) rfl ?_
          refine aw_iload (pc' := 79) rfl dX13_alike_77 rfl ?_
          refine aw_iload_n (pc' := 80) rfl dX13_alike_79 rfl ?_
          refine aw_icmp_ge (pt := 118) (pf := 83) dX13_alike_80 (by decide) rfl (fun c_80 => ?_) (fun c_80 => ?_)
          · refine aw_iload (pc' := 120) rfl dX13_alike_118 rfl ?_
            refine aw_if_eq (pt := 127) (pf := 123) dX13_alike_120 (by decide) rfl (fun _ => ?_) (fun c_120 => absurd (by decide) c_120)
            refine aw_iconst (pc' := 128) (by decide) dX13_alike_127 rfl ?_
            refine AW.ret (some (vi _)) dX13_alike_128 trivial ?_
            try simp (disch := omega) only [hv_in, lift_set, sset_e, sset_1, sset_2, workS_o, stagesS_o, beginsS_o, scpy_o, lift_cpy]
            exact hq0 (fun z => by omega)
          · refine aw_iload (pc' := 85) rfl dX13_alike_83 rfl ?_
            refine aw_if_eq (pt := 118) (pf := 88) dX13_alike_85 (by decide) rfl (fun _ => ?_) (fun c_85 => absurd (by decide) c_85)
            refine aw_iload (pc' := 120) rfl dX13_alike_118 rfl ?_
            refine aw_if_eq (pt := 127) (pf := 123) dX13_alike_120 (by decide) rfl (fun _ => ?_) (fun c_120 => absurd (by decide) c_120)
            refine aw_iconst (pc' := 128) (by decide) dX13_alike_127 rfl ?_
            refine AW.ret (some (vi _)) dX13_alike_128 trivial ?_
            try simp (disch := omega) only [hv_in, lift_set, sset_e, sset_1, sset_2, workS_o, stagesS_o, beginsS_o, scpy_o, lift_cpy]
            exact hq0 (fun z => by omega)
        · replace c_64 := Classical.not_not.mp c_64
          refine aw_iconst (pc' := 68) (by decide) dX13_alike_67 rfl ?_
          refine aw_goto (pc' := 72) dX13_alike_68 (by decide) ?_
          refine aw_istore (pc' := 74) (lv' := [_, _, _, _, _, _, _]) dX13_alike_72 rfl (by decide) rfl ?_
          refine aw_iconst (pc' := 75) (by decide) dX13_alike_74 rfl ?_
          refine aw_istore (pc' := 77) (lv' := [_, _, _, _, _, _, _]) dX13_alike_75 rfl (by decide) rfl ?_
          try simp (disch := omega) only [hv_in, lift_set, sset_e, sset_1, sset_2, workS_o, stagesS_o, beginsS_o, scpy_o, lift_cpy]
          exact l_alike _ 0 rfl hM (by omega) hb9.1 hb9.2 ⟨by omega, by omega⟩ (fun j g1 g2 => by omega) hq1 hq0
    · rw [hv_in (by decide)] at e0_10
      refine aw_if_ne (pt := 18) (pf := 16) dX13_alike_13 (by decide) rfl (fun c_13 => absurd c_13 (by decide)) (fun _ => ?_)
      refine aw_iconst (pc' := 17) (by decide) dX13_alike_16 rfl ?_
      refine AW.ret (some (vi _)) dX13_alike_17 trivial ?_
      exact hN (by omega)
  · rw [hv_in (by decide)] at e0_2
    refine aw_if_eq (pt := 16) (pf := 8) dX13_alike_5 (by decide) rfl (fun _ => ?_) (fun c_5 => absurd (by decide) c_5)
    refine aw_iconst (pc' := 17) (by decide) dX13_alike_16 rfl ?_
    refine AW.ret (some (vi _)) dX13_alike_17 trivial ?_
    exact hN (by omega)
