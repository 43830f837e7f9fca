/-! ===== the reference: a job's pipe begins ===== -/
def jobBegS (s : Sg) (j : Int) : Sg :=
  if onS (s 311 (s 335 j)) (s 337 j) = false then sset s 335 j (s 310 (s 335 j)) else
  if s 307 32 = 0 then sset (sset s 337 j 8) 335 j (s 310 (s 335 j)) else
  sset (beginsS (sset s 307 32 (w32 (s 307 32 - 1))) (24 + j) (s 335 j) 0) 336 j 1
set_option maxRecDepth 20000 in
theorem c_jobBegins {d : Nat} {j : Int} {A : AHp} {s : Sg} {Q : Option AV → AHp → Prop} (hd : 2 ≤ d) (hM : MLAY A) (hj : 0 ≤ j ∧ j ≤ 3) (hP : PTB s (s 335 j)) (hQ : Q none (lift A (jobBegS s j))) : CALL d mX13_jobBegins [vr 307, vi j] (lift A s) Q := by
  refine CALL.of (by decide) (Nat.le_of_ble_eq_true rfl) ?_
  change AW d mX13_jobBegins 0 [some (vr 307), some (vi j), none] [] (lift A s) Q
  have h1 := hP.1
  have h2 := hP.2.1
  unfold jobBegS at hQ
  refine aw_aload_n (pc' := 1) rfl dX13_jobBegins_0 rfl ?_
  refine aw_getp (pc' := 4) (k9 := 44) (p := 335) dX13_jobBegins_1 rfl fX13_129 rfl rfl rfl (MO (A := (lift A s)) hM) (M_jobPipe (A := (lift A s)) hM) ?_
  refine aw_iload_n (pc' := 5) rfl dX13_jobBegins_4 rfl ?_
  refine aw_iald (pc' := 6) dX13_jobBegins_5 rfl (MA_jobPipe (A := (lift A s)) hM) (by omega) (by omega) ?_
  try simp (disch := omega) only [hv_in, lift_set, sset_e, sset_1, sset_2, workS_o, stagesS_o, beginsS_o]
  refine aw_istore_n (pc' := 7) (lv' := [_, _, _]) dX13_jobBegins_6 rfl (by decide) rfl ?_
  refine aw_aload_n (pc' := 8) rfl dX13_jobBegins_7 rfl ?_
  refine aw_getp (pc' := 11) (k9 := 3) (p := 311) dX13_jobBegins_8 rfl fX13_52 rfl rfl rfl (MO (A := (lift A s)) hM) (M_joint (A := (lift A s)) hM) ?_
  refine aw_iload_n (pc' := 12) rfl dX13_jobBegins_11 rfl ?_
  refine aw_iald (pc' := 13) dX13_jobBegins_12 rfl (MA_joint (A := (lift A s)) hM) (by omega) (by omega) ?_
  try simp (disch := omega) only [hv_in, lift_set, sset_e, sset_1, sset_2, workS_o, stagesS_o, beginsS_o]
  refine aw_aload_n (pc' := 14) rfl dX13_jobBegins_13 rfl ?_
  refine aw_getp (pc' := 17) (k9 := 46) (p := 337) dX13_jobBegins_14 rfl fX13_135 rfl rfl rfl (MO (A := (lift A s)) hM) (M_jobStatus (A := (lift A s)) hM) ?_
  refine aw_iload_n (pc' := 18) rfl dX13_jobBegins_17 rfl ?_
  refine aw_iald (pc' := 19) dX13_jobBegins_18 rfl (MA_jobStatus (A := (lift A s)) hM) (by omega) (by omega) ?_
  try simp (disch := omega) only [hv_in, lift_set, sset_e, sset_1, sset_2, workS_o, stagesS_o, beginsS_o]
  refine aw_callS (d' := d - 1) (as := [_, _]) (pc' := 22) kX13_isOn tX13_isOn lX13_312 dX13_jobBegins_19 rfl rfl (Nat.le_of_ble_eq_true rfl) (by omega) ?_
  refine c_isOn (by omega) (fun gon => ?_) (fun gon => ?_)
  · refine aw_if_ne (pt := 40) (pf := 25) dX13_jobBegins_22 (by decide) rfl (fun _ => ?_) (fun c_22 => absurd (by decide) c_22)
    refine aw_aload_n (pc' := 41) rfl dX13_jobBegins_40 rfl ?_
    refine aw_geti (pc' := 44) (k9 := 32) dX13_jobBegins_41 rfl fX13_315 rfl (by decide) rfl (MO (A := (lift A s)) hM) ?_
    try simp (disch := omega) only [hv_in, lift_set, sset_e, sset_1, sset_2, workS_o, stagesS_o, beginsS_o]
    refine aw_if_ne (pt := 70) (pf := 47) dX13_jobBegins_44 (by decide) rfl (fun c_44 => ?_) (fun c_44 => ?_)
    · refine aw_aload_n (pc' := 71) rfl dX13_jobBegins_70 rfl ?_
      refine aw_dup (pc' := 72) rfl dX13_jobBegins_71 rfl ?_
      refine aw_geti (pc' := 75) (k9 := 32) dX13_jobBegins_72 rfl fX13_315 rfl (by decide) rfl (MO (A := (lift A s)) hM) ?_
      try simp (disch := omega) only [hv_in, lift_set, sset_e, sset_1, sset_2, workS_o, stagesS_o, beginsS_o]
      refine aw_iconst (pc' := 76) (by decide) dX13_jobBegins_75 rfl ?_
      refine aw_isub (pc' := 77) rfl dX13_jobBegins_76 rfl ?_
      refine aw_puti (pc' := 80) (k9 := 32) dX13_jobBegins_77 rfl fX13_315 rfl rfl rfl (MO (A := (lift A s)) hM) ?_
      refine aw_aload_n (pc' := 81) rfl dX13_jobBegins_80 rfl ?_
      refine aw_bipush (pc' := 83) (by decide +kernel) dX13_jobBegins_81 rfl ?_
      refine aw_iload_n (pc' := 84) rfl dX13_jobBegins_83 rfl ?_
      refine aw_iadd (pc' := 85) (by first | exact w32_id (by omega) (by omega) | rfl) dX13_jobBegins_84 rfl ?_
      refine aw_iload_n (pc' := 86) rfl dX13_jobBegins_85 rfl ?_
      refine aw_iconst (pc' := 87) (by decide) dX13_jobBegins_86 rfl ?_
      refine aw_callV (ci := 11) (d' := d - 1) (as := [_, _, _]) (pc' := 90) (by decide) rfl kX13_begins iX13_begins sX13_begins lX13_321 (MO (A := (lift A s)) hM) dX13_jobBegins_87 rfl rfl (Nat.le_of_ble_eq_true rfl) (by omega) ?_
      try simp (disch := omega) only [hv_in, lift_set, sset_e, sset_1, sset_2, workS_o, stagesS_o, beginsS_o]
      have hP2 : PTB (sset s 307 32 (w32 (s 307 32 - 1))) (s 335 j) := by
        unfold PTB at hP ⊢
        simp (disch := omega) only [sset_1]
        exact hP
      refine c_begins (by omega) hM (by omega) hP2 ?_
      refine aw_aload_n (pc' := 91) rfl dX13_jobBegins_90 rfl ?_
      refine aw_getp (pc' := 94) (k9 := 45) (p := 336) dX13_jobBegins_91 rfl fX13_132 rfl rfl rfl (MO (A := (lift A s)) hM) (M_jobGoes (A := (lift A s)) hM) ?_
      refine aw_iload_n (pc' := 95) rfl dX13_jobBegins_94 rfl ?_
      refine aw_iconst (pc' := 96) (by decide) dX13_jobBegins_95 rfl ?_
      refine aw_zast (pc' := 97) dX13_jobBegins_96 rfl (MA_jobGoes (A := (lift A s)) hM) (by omega) (by omega) (by omega) ?_
      refine AW.ret none dX13_jobBegins_97 trivial ?_
      try simp (disch := omega) only [hv_in, lift_set, sset_e, sset_1, sset_2, workS_o, stagesS_o, beginsS_o]
      first | (rw [if_pos gon] at hQ; exact hQ) | (rw [if_neg (by rw [gon]; decide)] at hQ; first | (rw [if_pos (by omega)] at hQ; exact hQ) | (rw [if_neg (by omega)] at hQ; exact hQ))
    · replace c_44 := Classical.not_not.mp c_44
      refine aw_aload_n (pc' := 48) rfl dX13_jobBegins_47 rfl ?_
      refine aw_getp (pc' := 51) (k9 := 46) (p := 337) dX13_jobBegins_48 rfl fX13_135 rfl rfl rfl (MO (A := (lift A s)) hM) (M_jobStatus (A := (lift A s)) hM) ?_
      refine aw_iload_n (pc' := 52) rfl dX13_jobBegins_51 rfl ?_
      refine aw_bipush (pc' := 54) (by decide +kernel) dX13_jobBegins_52 rfl ?_
      refine aw_iast (pc' := 55) dX13_jobBegins_54 rfl (MA_jobStatus (A := (lift A s)) hM) (by omega) (by omega) ?_
      refine aw_aload_n (pc' := 56) rfl dX13_jobBegins_55 rfl ?_
      refine aw_getp (pc' := 59) (k9 := 44) (p := 335) dX13_jobBegins_56 rfl fX13_129 rfl rfl rfl (MO (A := (lift A s)) hM) (M_jobPipe (A := (lift A s)) hM) ?_
      refine aw_iload_n (pc' := 60) rfl dX13_jobBegins_59 rfl ?_
      refine aw_aload_n (pc' := 61) rfl dX13_jobBegins_60 rfl ?_
      refine aw_getp (pc' := 64) (k9 := 2) (p := 310) dX13_jobBegins_61 rfl fX13_49 rfl rfl rfl (MO (A := (lift A s)) hM) (M_listNext (A := (lift A s)) hM) ?_
      refine aw_iload_n (pc' := 65) rfl dX13_jobBegins_64 rfl ?_
      refine aw_iald (pc' := 66) dX13_jobBegins_65 rfl (MA_listNext (A := (lift A s)) hM) (by omega) (by omega) ?_
      try simp (disch := omega) only [hv_in, lift_set, sset_e, sset_1, sset_2, workS_o, stagesS_o, beginsS_o]
      refine aw_iast (pc' := 67) dX13_jobBegins_66 rfl (MA_jobPipe (A := (lift A s)) hM) (by omega) (by omega) ?_
      refine aw_goto (pc' := 97) dX13_jobBegins_67 (by decide) ?_
      refine AW.ret none dX13_jobBegins_97 trivial ?_
      try simp (disch := omega) only [hv_in, lift_set, sset_e, sset_1, sset_2, workS_o, stagesS_o, beginsS_o]
      first | (rw [if_pos gon] at hQ; exact hQ) | (rw [if_neg (by rw [gon]; decide)] at hQ; first | (rw [if_pos (by omega)] at hQ; exact hQ) | (rw [if_neg (by omega)] at hQ; exact hQ))
  · refine aw_if_ne (pt := 40) (pf := 25) dX13_jobBegins_22 (by decide) rfl (fun c_22 => absurd c_22 (by decide)) (fun _ => ?_)
    refine aw_aload_n (pc' := 26) rfl dX13_jobBegins_25 rfl ?_
    refine aw_getp (pc' := 29) (k9 := 44) (p := 335) dX13_jobBegins_26 rfl fX13_129 rfl rfl rfl (MO (A := (lift A s)) hM) (M_jobPipe (A := (lift A s)) hM) ?_
    refine aw_iload_n (pc' := 30) rfl dX13_jobBegins_29 rfl ?_
    refine aw_aload_n (pc' := 31) rfl dX13_jobBegins_30 rfl ?_
    refine aw_getp (pc' := 34) (k9 := 2) (p := 310) dX13_jobBegins_31 rfl fX13_49 rfl rfl rfl (MO (A := (lift A s)) hM) (M_listNext (A := (lift A s)) hM) ?_
    refine aw_iload_n (pc' := 35) rfl dX13_jobBegins_34 rfl ?_
    refine aw_iald (pc' := 36) dX13_jobBegins_35 rfl (MA_listNext (A := (lift A s)) hM) (by omega) (by omega) ?_
    try simp (disch := omega) only [hv_in, lift_set, sset_e, sset_1, sset_2, workS_o, stagesS_o, beginsS_o]
    refine aw_iast (pc' := 37) dX13_jobBegins_36 rfl (MA_jobPipe (A := (lift A s)) hM) (by omega) (by omega) ?_
    refine aw_goto (pc' := 97) dX13_jobBegins_37 (by decide) ?_
    refine AW.ret none dX13_jobBegins_97 trivial ?_
    try simp (disch := omega) only [hv_in, lift_set, sset_e, sset_1, sset_2, workS_o, stagesS_o, beginsS_o]
    first | (rw [if_pos gon] at hQ; exact hQ) | (rw [if_neg (by rw [gon]; decide)] at hQ; first | (rw [if_pos (by omega)] at hQ; exact hQ) | (rw [if_neg (by omega)] at hQ; exact hQ))
