theorem runs_s {n : Nat} {l : Int} {s t : Sg} (h : runsS n l s = some t) : ∃ z1 r1, goesS (nextS n) (60 * l) 0 0 (-1) (sset (sset (sset (sset s 307 32 60) 307 33 0) 307 34 0) 307 36 0) = some (z1, r1) ∧
    ((z1 = 0 ∨ r1 307 15 < 0) ∧ t = sset r1 307 37 z1 ∨ z1 ≠ 0 ∧ 0 ≤ r1 307 15 ∧ ∃ z2, goesS (nextS n) (60 * r1 307 15) 0 0 (-1) (sset r1 307 37 z1) = some (z2, t)) := by
  unfold runsS at h
  obtain ⟨⟨z1, r1⟩, h1, h2⟩ := Option.bind_eq_some_iff.mp h
  refine ⟨z1, r1, h1, ?_⟩
  simp (disch := omega) only [sset_e, sset_2] at h2
  by_cases e : z1 ≠ 0 ∧ 0 ≤ r1 307 15
  · rw [if_pos e] at h2
    obtain ⟨⟨z2, r2⟩, h3, h4⟩ := Option.bind_eq_some_iff.mp h2
    simp only [Option.some.injEq] at h4
    subst h4
    exact Or.inr ⟨e.1, e.2, z2, h3⟩
  · rw [if_neg e, Option.some.injEq] at h2
    exact Or.inl ⟨by omega, h2.symm⟩
set_option maxRecDepth 20000 in
theorem c_runs {d : Nat} {n : Nat} {l : Int} {t : Sg} {A : AHp} {s : Sg} {Q : Option AV → AHp → Prop} (hd : 6 * n + 4 ≤ d) (hM : MLAY A) (hMin : ∀ (d : Nat) (A : AHp) (a b : Int) (Q : Option AV → AHp → Prop), Q (some (vi (min a b))) A → CALL d mJ9_min_7cf53 [vi a, vi b] A Q) (hl : 0 ≤ l ∧ l < 8) (h : runsS n l s = some t) (hQ : Q none (lift A t)) : CALL d mX13_runs [vr 307, vi l] (lift A s) Q := by
  refine CALL.of (by decide) (Nat.le_of_ble_eq_true rfl) ?_
  change AW d mX13_runs 0 [some (vr 307), some (vi l), none] [] (lift A s) Q
  obtain ⟨z1, r1, g1, g2⟩ := runs_s h
  refine aw_aload_n (pc' := 1) rfl dX13_runs_0 rfl ?_
  refine aw_bipush (pc' := 3) (by decide +kernel) dX13_runs_1 rfl ?_
  refine aw_puti (pc' := 6) (k9 := 32) dX13_runs_3 rfl fX13_315 rfl rfl rfl (MO (A := (lift A s)) hM) ?_
  refine aw_aload_n (pc' := 7) rfl dX13_runs_6 rfl ?_
  refine aw_iconst (pc' := 8) (by decide) dX13_runs_7 rfl ?_
  refine aw_puti (pc' := 11) (k9 := 33) dX13_runs_8 rfl fX13_309 rfl rfl rfl (MO (A := (lift A s)) hM) ?_
  refine aw_aload_n (pc' := 12) rfl dX13_runs_11 rfl ?_
  refine aw_iconst (pc' := 13) (by decide) dX13_runs_12 rfl ?_
  refine aw_puti (pc' := 16) (k9 := 34) dX13_runs_13 rfl fX13_279 rfl rfl rfl (MO (A := (lift A s)) hM) ?_
  refine aw_aload_n (pc' := 17) rfl dX13_runs_16 rfl ?_
  refine aw_iconst (pc' := 18) (by decide) dX13_runs_17 rfl ?_
  refine aw_puti (pc' := 21) (k9 := 36) dX13_runs_18 rfl fX13_269 rfl rfl rfl (MO (A := (lift A s)) hM) ?_
  refine aw_aload_n (pc' := 22) rfl dX13_runs_21 rfl ?_
  refine aw_aload_n (pc' := 23) rfl dX13_runs_22 rfl ?_
  refine aw_bipush (pc' := 25) (by decide +kernel) dX13_runs_23 rfl ?_
  refine aw_iload_n (pc' := 26) rfl dX13_runs_25 rfl ?_
  refine aw_imul (pc' := 27) (by first | exact w32_id (by omega) (by omega) | rfl) dX13_runs_26 rfl ?_
  refine aw_iconst (pc' := 28) (by decide) dX13_runs_27 rfl ?_
  refine aw_iconst (pc' := 29) (by decide) dX13_runs_28 rfl ?_
  refine aw_iconst (pc' := 30) (by decide) dX13_runs_29 rfl ?_
  refine aw_callV (ci := 11) (d' := d - 1) (as := [_, _, _, _]) (pc' := 33) (by decide) rfl kX13_goes iX13_goes sX13_goes lX13_305 (MO (A := (lift A s)) hM) dX13_runs_30 rfl rfl (Nat.le_of_ble_eq_true rfl) (by omega) ?_
  try simp (disch := omega) only [hv_in, lift_set, sset_e, sset_1, sset_2, workS_o, stagesS_o, beginsS_o]
  refine c_goes (by omega) hM (c_nexts hMin n) g1 ?_
  refine aw_puti (pc' := 36) (k9 := 37) dX13_runs_33 rfl fX13_329 rfl rfl rfl (MO (A := (lift A s)) hM) ?_
  refine aw_aload_n (pc' := 37) rfl dX13_runs_36 rfl ?_
  refine aw_geti (pc' := 40) (k9 := 37) dX13_runs_37 rfl fX13_329 rfl (by decide) rfl (MO (A := (lift A s)) hM) ?_
  try simp (disch := omega) only [hv_in, lift_set, sset_e, sset_1, sset_2, workS_o, stagesS_o, beginsS_o]
  refine aw_if_eq (pt := 65) (pf := 43) dX13_runs_40 (by decide) rfl (fun c_40 => ?_) (fun c_40 => ?_)
  · refine AW.ret none dX13_runs_65 trivial ?_
    try simp (disch := omega) only [hv_in, lift_set, sset_e, sset_1, sset_2, workS_o, stagesS_o, beginsS_o]
    rcases g2 with ⟨_, g2⟩ | ⟨q1, q2, _⟩
    · subst g2
      exact hQ
    · omega
  · refine aw_aload_n (pc' := 44) rfl dX13_runs_43 rfl ?_
    refine aw_geti (pc' := 47) (k9 := 15) dX13_runs_44 rfl fX13_85 rfl (by decide) rfl (MO (A := (lift A s)) hM) ?_
    try simp (disch := omega) only [hv_in, lift_set, sset_e, sset_1, sset_2, workS_o, stagesS_o, beginsS_o]
    refine aw_if_lt (pt := 65) (pf := 50) dX13_runs_47 (by decide) rfl (fun c_47 => ?_) (fun c_47 => ?_)
    · refine AW.ret none dX13_runs_65 trivial ?_
      try simp (disch := omega) only [hv_in, lift_set, sset_e, sset_1, sset_2, workS_o, stagesS_o, beginsS_o]
      rcases g2 with ⟨_, g2⟩ | ⟨q1, q2, _⟩
      · subst g2
        exact hQ
      · omega
    · obtain ⟨z2, g3⟩ : ∃ z2, goesS (nextS n) (60 * r1 307 15) 0 0 (-1) (sset r1 307 37 z1) = some (z2, t) := by
        rcases g2 with ⟨g2, _⟩ | ⟨_, _, g2⟩
        · omega
        · exact g2
      have hg9 := (goes_s g3).1
      refine aw_aload_n (pc' := 51) rfl dX13_runs_50 rfl ?_
      refine aw_bipush (pc' := 53) (by decide +kernel) dX13_runs_51 rfl ?_
      refine aw_aload_n (pc' := 54) rfl dX13_runs_53 rfl ?_
      refine aw_geti (pc' := 57) (k9 := 15) dX13_runs_54 rfl fX13_85 rfl (by decide) rfl (MO (A := (lift A s)) hM) ?_
      try simp (disch := omega) only [hv_in, lift_set, sset_e, sset_1, sset_2, workS_o, stagesS_o, beginsS_o]
      refine aw_imul (pc' := 58) (by first | exact w32_id (by omega) (by omega) | rfl) dX13_runs_57 rfl ?_
      refine aw_iconst (pc' := 59) (by decide) dX13_runs_58 rfl ?_
      refine aw_iconst (pc' := 60) (by decide) dX13_runs_59 rfl ?_
      refine aw_iconst (pc' := 61) (by decide) dX13_runs_60 rfl ?_
      refine aw_callV (ci := 11) (d' := d - 1) (as := [_, _, _, _]) (pc' := 64) (by decide) rfl kX13_goes iX13_goes sX13_goes lX13_305 (MO (A := (lift A s)) hM) dX13_runs_61 rfl rfl (Nat.le_of_ble_eq_true rfl) (by omega) ?_
      try simp (disch := omega) only [hv_in, lift_set, sset_e, sset_1, sset_2, workS_o, stagesS_o, beginsS_o]
      refine c_goes (by omega) hM (c_nexts hMin n) g3 ?_
      refine aw_istore_n (pc' := 65) (lv' := [_, _, _]) dX13_runs_64 rfl (by decide) rfl ?_
      refine AW.ret none dX13_runs_65 trivial ?_
      exact hQ
