/-! ===== the reference: next, runs ===== -/
theorem next_s {m : Nat} {s t : Sg} {fr k x : Int} (h : nextS (m + 1) s fr k = some (x, t)) : ((0 ≤ fr ∧ fr < 28) ∧ (0 ≤ k ∧ k < s 313 (s 323 fr)) ∧ PTB s (s 323 fr) ∧ (s 327 (6 * fr + k) = 0 ∨ s 327 (6 * fr + k) = 1)) ∧ (s 327 (6 * fr + k) ≠ 0 ∧ x = (-9223372036854775808) ∧ t = s ∨ s 327 (6 * fr + k) = 0 ∧ ∃ r, askedS (nextS m) fr k (stAt s (s 323 fr) k) (s 325 (24 * fr + 4 * k)) s = some (x, r) ∧ t = sset r 327 (6 * fr + k) (if x = (-9223372036854775808) then 1 else 0)) := by
  unfold nextS at h
  obtain ⟨h1, h2⟩ := grd_some h
  refine ⟨h1, ?_⟩
  by_cases e : s 327 (6 * fr + k) = 0
  · rw [if_neg (by omega)] at h2
    obtain ⟨⟨a, r⟩, h3, h4⟩ := Option.bind_eq_some_iff.mp h2
    simp only [Option.some.injEq, Prod.mk.injEq] at h4
    obtain ⟨h5, h6⟩ := h4
    subst h5 h6
    exact Or.inr ⟨e, r, h3, rfl⟩
  · rw [if_pos e, Option.some.injEq, Prod.mk.injEq] at h2
    exact Or.inl ⟨e, h2.1.symm, h2.2.symm⟩
set_option maxRecDepth 20000 in
theorem c_next {d : Nat} {m K : Nat} {fr k x : Int} {t : Sg} {A : AHp} {s : Sg} {Q : Option AV → AHp → Prop} (hd : K + 6 ≤ d) (hM : MLAY A) (hMin : ∀ (d : Nat) (A : AHp) (a b : Int) (Q : Option AV → AHp → Prop), Q (some (vi (min a b))) A → CALL d mJ9_min_7cf53 [vi a, vi b] A Q) (hN : NXC (nextS m) K) (h : nextS (m + 1) s fr k = some (x, t)) (hQ : Q (some (vl x)) (lift A t)) : CALL d mX13_next [vr 307, vi fr, vi k] (lift A s) Q := by
  refine CALL.of (by decide) (Nat.le_of_ble_eq_true rfl) ?_
  change AW d mX13_next 0 [some (vr 307), some (vi fr), some (vi k), none, none, none] [] (lift A s) Q
  obtain ⟨⟨hfr, hk, hP, hb⟩, h9⟩ := next_s h
  have hb2 : hv (lift A s) 327 (6 * fr + k) = 0 ∨ hv (lift A s) 327 (6 * fr + k) = 1 := by
    rw [hv_in (by omega)]
    exact hb
  have h1 := hP.1
  have h2 := hP.2.1
  have h4 := hP.2.2.2.1
  have est := stAt_id hP hk
  have h5 := hP.2.2.2.2.1
  have h6 := hP.2.2.2.2.2.1
  obtain ⟨w1, w2, w3, w4, _⟩ := hP.2.2.2.2.2.2 k hk.1 hk.2
  rw [← est] at w1 w2 w3 w4
  refine aw_bipush (pc' := 2) (by decide +kernel) dX13_next_0 rfl ?_
  refine aw_iload_n (pc' := 3) rfl dX13_next_2 rfl ?_
  refine aw_imul (pc' := 4) (by first | exact w32_id (by omega) (by omega) | rfl) dX13_next_3 rfl ?_
  refine aw_iload_n (pc' := 5) rfl dX13_next_4 rfl ?_
  refine aw_iadd (pc' := 6) (by first | exact w32_id (by omega) (by omega) | rfl) dX13_next_5 rfl ?_
  refine aw_istore_n (pc' := 7) (lv' := [_, _, _, _, _, _]) dX13_next_6 rfl (by decide) rfl ?_
  refine aw_aload_n (pc' := 8) rfl dX13_next_7 rfl ?_
  refine aw_getp (pc' := 11) (k9 := 28) (p := 327) dX13_next_8 rfl fX13_104 rfl rfl rfl (MO (A := (lift A s)) hM) (M_ended (A := (lift A s)) hM) ?_
  refine aw_iload_n (pc' := 12) rfl dX13_next_11 rfl ?_
  refine aw_zald (pc' := 13) dX13_next_12 rfl (MA_ended (A := (lift A s)) hM) (by omega) (by omega) (fun _ => ?_) (by omega)
  try simp (disch := omega) only [hv_in, lift_set, sset_e, sset_1, sset_2, workS_o, stagesS_o, beginsS_o]
  refine aw_if_eq (pt := 20) (pf := 16) dX13_next_13 (by decide) rfl (fun c_13 => ?_) (fun c_13 => ?_)
  · refine aw_aload_n (pc' := 21) rfl dX13_next_20 rfl ?_
    refine aw_iload_n (pc' := 22) rfl dX13_next_21 rfl ?_
    refine aw_iload_n (pc' := 23) rfl dX13_next_22 rfl ?_
    refine aw_aload_n (pc' := 24) rfl dX13_next_23 rfl ?_
    refine aw_aload_n (pc' := 25) rfl dX13_next_24 rfl ?_
    refine aw_getp (pc' := 28) (k9 := 24) (p := 323) dX13_next_25 rfl fX13_92 rfl rfl rfl (MO (A := (lift A s)) hM) (M_pipeOf (A := (lift A s)) hM) ?_
    refine aw_iload_n (pc' := 29) rfl dX13_next_28 rfl ?_
    refine aw_iald (pc' := 30) dX13_next_29 rfl (MA_pipeOf (A := (lift A s)) hM) (by omega) (by omega) ?_
    try simp (disch := omega) only [hv_in, lift_set, sset_e, sset_1, sset_2, workS_o, stagesS_o, beginsS_o]
    refine aw_iload_n (pc' := 31) rfl dX13_next_30 rfl ?_
    refine aw_callV (ci := 11) (d' := d - 1) (as := [_, _]) (pc' := 34) (by decide) rfl kX13_stageAt iX13_stageAt sX13_stageAt lX13_272 (MO (A := (lift A s)) hM) dX13_next_31 rfl rfl (Nat.le_of_ble_eq_true rfl) (by omega) ?_
    try simp (disch := omega) only [hv_in, lift_set, sset_e, sset_1, sset_2, workS_o, stagesS_o, beginsS_o]
    refine c_stageAt (by omega) hM (by omega) ?_
    refine aw_aload_n (pc' := 35) rfl dX13_next_34 rfl ?_
    refine aw_getp (pc' := 38) (k9 := 26) (p := 325) dX13_next_35 rfl fX13_98 rfl rfl rfl (MO (A := (lift A s)) hM) (M_worked (A := (lift A s)) hM) ?_
    refine aw_bipush (pc' := 40) (by decide +kernel) dX13_next_38 rfl ?_
    refine aw_iload_n (pc' := 41) rfl dX13_next_40 rfl ?_
    refine aw_imul (pc' := 42) (by first | exact w32_id (by omega) (by omega) | rfl) dX13_next_41 rfl ?_
    refine aw_iconst (pc' := 43) (by decide) dX13_next_42 rfl ?_
    refine aw_iload_n (pc' := 44) rfl dX13_next_43 rfl ?_
    refine aw_imul (pc' := 45) (by first | exact w32_id (by omega) (by omega) | rfl) dX13_next_44 rfl ?_
    refine aw_iadd (pc' := 46) (by first | exact w32_id (by omega) (by omega) | rfl) dX13_next_45 rfl ?_
    refine aw_iald (pc' := 47) dX13_next_46 rfl (MA_worked (A := (lift A s)) hM) (by omega) (by omega) ?_
    try simp (disch := omega) only [hv_in, lift_set, sset_e, sset_1, sset_2, workS_o, stagesS_o, beginsS_o]
    refine aw_callV (ci := 11) (d' := d - 1) (as := [_, _, _, _]) (pc' := 50) (by decide) rfl kX13_asked iX13_asked sX13_asked lX13_282 (MO (A := (lift A s)) hM) dX13_next_47 rfl rfl (Nat.le_of_ble_eq_true rfl) (by omega) ?_
    obtain ⟨r, g1, g2⟩ : ∃ r, askedS (nextS m) fr k (stAt s (s 323 fr) k) (s 325 (24 * fr + 4 * k)) s = some (x, r) ∧ t = sset r 327 (6 * fr + k) (if x = (-9223372036854775808) then 1 else 0) := by
      rcases h9 with ⟨q, _⟩ | ⟨_, q⟩
      · omega
      · exact q
    subst g2
    refine c_asked (by omega) hM hMin hN hfr (by omega) (by omega) ⟨w3, w4⟩ ⟨w1, w2⟩ g1 ?_
    refine aw_lstore (pc' := 52) (lv' := [_, _, _, _, _, _]) dX13_next_50 rfl (by decide) rfl ?_
    refine aw_aload_n (pc' := 53) rfl dX13_next_52 rfl ?_
    refine aw_getp (pc' := 56) (k9 := 28) (p := 327) dX13_next_53 rfl fX13_104 rfl rfl rfl (MO (A := (lift A s)) hM) (M_ended (A := (lift A s)) hM) ?_
    refine aw_iload_n (pc' := 57) rfl dX13_next_56 rfl ?_
    refine aw_lload (pc' := 59) rfl dX13_next_57 rfl ?_
    refine aw_ldc2 (x := (-9223372036854775808)) (pc' := 62) qX13_267 (by decide) dX13_next_59 rfl ?_
    refine aw_lcmp (pc' := 63) dX13_next_62 rfl ?_
    refine aw_if_ne (pt := 70) (pf := 66) dX13_next_63 (by decide) rfl (fun c_63 => ?_) (fun c_63 => ?_)
    · replace c_63 := (not_congr cmp_eq).mp c_63
      refine aw_iconst (pc' := 71) (by decide) dX13_next_70 rfl ?_
      refine aw_zast (pc' := 72) dX13_next_71 rfl (MA_ended (A := (lift A s)) hM) (by omega) (by omega) (by omega) ?_
      refine aw_lload (pc' := 74) rfl dX13_next_72 rfl ?_
      refine AW.ret (some (vl _)) dX13_next_74 trivial ?_
      try simp (disch := omega) only [hv_in, lift_set, sset_e, sset_1, sset_2, workS_o, stagesS_o, beginsS_o]
      simp (disch := omega) only [if_pos, if_neg] at hQ
      exact hQ
    · replace c_63 := Classical.not_not.mp c_63
      replace c_63 := (cmp_eq).mp c_63
      refine aw_iconst (pc' := 67) (by decide) dX13_next_66 rfl ?_
      refine aw_goto (pc' := 71) dX13_next_67 (by decide) ?_
      refine aw_zast (pc' := 72) dX13_next_71 rfl (MA_ended (A := (lift A s)) hM) (by omega) (by omega) (by omega) ?_
      refine aw_lload (pc' := 74) rfl dX13_next_72 rfl ?_
      refine AW.ret (some (vl _)) dX13_next_74 trivial ?_
      try simp (disch := omega) only [hv_in, lift_set, sset_e, sset_1, sset_2, workS_o, stagesS_o, beginsS_o]
      simp (disch := omega) only [if_pos, if_neg] at hQ
      exact hQ
  · refine aw_ldc2 (x := (-9223372036854775808)) (pc' := 19) qX13_267 (by decide) dX13_next_16 rfl ?_
    refine AW.ret (some (vl _)) dX13_next_19 trivial ?_
    rcases h9 with ⟨_, q1, q2⟩ | ⟨q, _⟩
    · subst q1 q2
      exact hQ
    · omega

theorem c_nexts (hMin : ∀ (d : Nat) (A : AHp) (a b : Int) (Q : Option AV → AHp → Prop), Q (some (vi (min a b))) A → CALL d mJ9_min_7cf53 [vi a, vi b] A Q) : ∀ n : Nat, NXC (nextS n) (6 * n)
  | 0 => fun d A s fr k x t Q hd hM h hQ => by simp [nextS] at h
  | n + 1 => fun d A s fr k x t Q hd hM h hQ => c_next (by omega) hM hMin (c_nexts hMin n) h hQ