/-! ===== the class: a run of a line ===== -/
set_option maxRecDepth 20000 in
theorem x_runLine {d : Nat} {ko l r9 : Int} {A : AHp} {v : Sg} {Q : Option AV → AHp → Prop} (hd : 1 ≤ d) (hX : XLAY A) (hK : KeptAt A ko) (hko : 206 < ko ∧ ko < 250) (hln : 0 ≤ v 64 1 ∧ v 64 1 ≤ 8) (hls : ∀ j, 0 ≤ j → j < v 64 1 → isO A (v 65 j) 3) (hr9 : (if 0 ≤ l ∧ l < v 64 1 then hp A (v 65 l) 0 else 0) = r9)
  (hA : CALL (d - 1) mX4_goList [vr 64, vr ko, vr r9, vi 0, vi 0, vi 0, vr (ko + 3)] (cl A (sset (sset (sset v 64 3 60) 64 4 0) (ko + 3) 1 0)) (fun r B => ∃ z u, r = some (vi z) ∧ B = cl A u ∧ ((0 ≤ u 64 1 ∧ u 64 1 ≤ 8) ∧ ∀ j, 0 ≤ j → j < u 64 1 → isO A (u 65 j) 3) ∧
    (z = 0 ∨ u ko 2 = -5 → Q none (cl A (sset (sset u ko 4 z) ko 5 (u 64 4)))) ∧
    (z ≠ 0 → u ko 2 ≠ -5 → CALL (d - 1) mX4_goList [vr 64, vr ko, vr (if 0 ≤ (u ko 2) ∧ (u ko 2) < u 64 1 then hp A (u 65 (u ko 2)) 0 else 0), vi 0, vi 0, vi 0, vr (ko + 3)] (cl A (sset u ko 4 z)) (fun r B => ∃ z2 u2, r = some (vi z2) ∧ B = cl A u2 ∧ Q none (cl A (sset u2 ko 5 (u2 64 4))))))) : CALL d mX4_runLine [vr 64, vr ko, vi l] (cl A v) Q := by
  refine CALL.of (by decide) (Nat.le_of_ble_eq_true rfl) ?_
  change AW d mX4_runLine 0 [some (vr 64), some (vr ko), some (vi l)] [] (cl A v) Q
  refine aw_aload_n (pc' := 1) rfl dX4_runLine_0 rfl ?_
  refine aw_bipush (pc' := 3) (by decide +kernel) dX4_runLine_1 rfl ?_
  refine aw_puti (pc' := 6) (k9 := 3) dX4_runLine_3 rfl fX4_28 rfl rfl rfl (XO_machine (A := (cl A v)) hX) ?_
  refine aw_aload_n (pc' := 7) rfl dX4_runLine_6 rfl ?_
  refine aw_iconst (pc' := 8) (by decide) dX4_runLine_7 rfl ?_
  refine aw_puti (pc' := 11) (k9 := 4) dX4_runLine_8 rfl fX4_31 rfl rfl rfl (XO_machine (A := (cl A v)) hX) ?_
  refine aw_aload_n (pc' := 12) rfl dX4_runLine_11 rfl ?_
  refine aw_getp (pc' := 15) (k9 := 3) (p := (ko + 3)) dX4_runLine_12 rfl fX4_34 rfl rfl rfl hK.1 hK.2.2.2.1.1 ?_
  refine aw_iconst (pc' := 16) (by decide) dX4_runLine_15 rfl ?_
  refine aw_puti (pc' := 19) (k9 := 1) dX4_runLine_16 rfl fX4_40 rfl rfl rfl hK.2.2.2.1.2.1 ?_
  refine aw_aload_n (pc' := 20) rfl dX4_runLine_19 rfl ?_
  refine aw_aload_n (pc' := 21) rfl dX4_runLine_20 rfl ?_
  refine aw_aload_n (pc' := 22) rfl dX4_runLine_21 rfl ?_
  refine aw_aload_n (pc' := 23) rfl dX4_runLine_22 rfl ?_
  refine aw_iload_n (pc' := 24) rfl dX4_runLine_23 rfl ?_
  refine aw_callV (ci := 3) (d' := d - 1) (as := [_]) (pc' := 27) (by decide) rfl kX4_firstOf iX4_firstOf sX4_firstOf lX4_45 (XO_machine (A := (cl A v)) hX) dX4_runLine_24 rfl rfl (Nat.le_of_ble_eq_true rfl) (by omega) ?_
  try simp (disch := omega) only [hv_cl, cl_set, sset_e, sset_1, sset_2]
  refine x_firstOf (by omega) hX ?_ ?_ ?_
  · simp (disch := omega) only [sset_1, sset_2]
    exact hln
  · simp (disch := omega) only [sset_1, sset_2]
    exact hls
  simp (disch := omega) only [sset_1, sset_2]
  rw [hr9]
  refine aw_iconst (pc' := 28) (by decide) dX4_runLine_27 rfl ?_
  refine aw_iconst (pc' := 29) (by decide) dX4_runLine_28 rfl ?_
  refine aw_iconst (pc' := 30) (by decide) dX4_runLine_29 rfl ?_
  refine aw_aload_n (pc' := 31) rfl dX4_runLine_30 rfl ?_
  refine aw_getp (pc' := 34) (k9 := 3) (p := (ko + 3)) dX4_runLine_31 rfl fX4_34 rfl rfl rfl hK.1 hK.2.2.2.1.1 ?_
  refine aw_callV (ci := 3) (d' := d - 1) (as := [_, _, _, _, _, _]) (pc' := 37) (by decide) rfl kX4_goList iX4_goList sX4_goList lX4_49 (XO_machine (A := (cl A v)) hX) dX4_runLine_34 rfl rfl (Nat.le_of_ble_eq_true rfl) (by omega) ?_
  refine CALL.mono hA ?_
  rintro r B ⟨z, u, rfl, rfl, ⟨hln2, hls2⟩, hQ1, hQ2⟩
  refine aw_puti (pc' := 40) (k9 := 4) dX4_runLine_37 rfl fX4_53 rfl rfl rfl hK.1 ?_
  refine aw_aload_n (pc' := 41) rfl dX4_runLine_40 rfl ?_
  refine aw_geti (pc' := 44) (k9 := 4) dX4_runLine_41 rfl fX4_53 rfl (by decide) rfl hK.1 ?_
  try simp (disch := omega) only [hv_cl, cl_set, sset_e, sset_1, sset_2]
  refine aw_if_eq (pt := 77) (pf := 47) dX4_runLine_44 (by decide) rfl (fun c_44 => ?_) (fun c_44 => ?_)
  · refine aw_aload_n (pc' := 78) rfl dX4_runLine_77 rfl ?_
    refine aw_aload_n (pc' := 79) rfl dX4_runLine_78 rfl ?_
    refine aw_geti (pc' := 82) (k9 := 4) dX4_runLine_79 rfl fX4_31 rfl (by decide) rfl (XO_machine (A := (cl A v)) hX) ?_
    try simp (disch := omega) only [hv_cl, cl_set, sset_e, sset_1, sset_2]
    refine aw_puti (pc' := 85) (k9 := 5) dX4_runLine_82 rfl fX4_59 rfl rfl rfl hK.1 ?_
    refine AW.ret none dX4_runLine_85 trivial ?_
    try simp (disch := omega) only [hv_cl, cl_set, sset_e, sset_1, sset_2]
    exact hQ1 (by omega)
  · refine aw_aload_n (pc' := 48) rfl dX4_runLine_47 rfl ?_
    refine aw_geti (pc' := 51) (k9 := 2) dX4_runLine_48 rfl fX4_56 rfl (by decide) rfl hK.1 ?_
    try simp (disch := omega) only [hv_cl, cl_set, sset_e, sset_1, sset_2]
    refine aw_bipush (pc' := 53) (by decide +kernel) dX4_runLine_51 rfl ?_
    refine aw_icmp_eq (pt := 77) (pf := 56) dX4_runLine_53 (by decide) rfl (fun c_53 => ?_) (fun c_53 => ?_)
    · refine aw_aload_n (pc' := 78) rfl dX4_runLine_77 rfl ?_
      refine aw_aload_n (pc' := 79) rfl dX4_runLine_78 rfl ?_
      refine aw_geti (pc' := 82) (k9 := 4) dX4_runLine_79 rfl fX4_31 rfl (by decide) rfl (XO_machine (A := (cl A v)) hX) ?_
      try simp (disch := omega) only [hv_cl, cl_set, sset_e, sset_1, sset_2]
      refine aw_puti (pc' := 85) (k9 := 5) dX4_runLine_82 rfl fX4_59 rfl rfl rfl hK.1 ?_
      refine AW.ret none dX4_runLine_85 trivial ?_
      try simp (disch := omega) only [hv_cl, cl_set, sset_e, sset_1, sset_2]
      exact hQ1 (by omega)
    · refine aw_aload_n (pc' := 57) rfl dX4_runLine_56 rfl ?_
      refine aw_aload_n (pc' := 58) rfl dX4_runLine_57 rfl ?_
      refine aw_aload_n (pc' := 59) rfl dX4_runLine_58 rfl ?_
      refine aw_aload_n (pc' := 60) rfl dX4_runLine_59 rfl ?_
      refine aw_geti (pc' := 63) (k9 := 2) dX4_runLine_60 rfl fX4_56 rfl (by decide) rfl hK.1 ?_
      try simp (disch := omega) only [hv_cl, cl_set, sset_e, sset_1, sset_2]
      refine aw_callV (ci := 3) (d' := d - 1) (as := [_]) (pc' := 66) (by decide) rfl kX4_firstOf iX4_firstOf sX4_firstOf lX4_45 (XO_machine (A := (cl A v)) hX) dX4_runLine_63 rfl rfl (Nat.le_of_ble_eq_true rfl) (by omega) ?_
      try simp (disch := omega) only [hv_cl, cl_set, sset_e, sset_1, sset_2]
      refine x_firstOf (by omega) hX ?_ ?_ ?_
      · simp (disch := omega) only [sset_1, sset_2]
        exact hln2
      · simp (disch := omega) only [sset_1, sset_2]
        exact hls2
      simp (disch := omega) only [sset_1, sset_2]
      refine aw_iconst (pc' := 67) (by decide) dX4_runLine_66 rfl ?_
      refine aw_iconst (pc' := 68) (by decide) dX4_runLine_67 rfl ?_
      refine aw_iconst (pc' := 69) (by decide) dX4_runLine_68 rfl ?_
      refine aw_aload_n (pc' := 70) rfl dX4_runLine_69 rfl ?_
      refine aw_getp (pc' := 73) (k9 := 3) (p := (ko + 3)) dX4_runLine_70 rfl fX4_34 rfl rfl rfl hK.1 hK.2.2.2.1.1 ?_
      refine aw_callV (ci := 3) (d' := d - 1) (as := [_, _, _, _, _, _]) (pc' := 76) (by decide) rfl kX4_goList iX4_goList sX4_goList lX4_49 (XO_machine (A := (cl A v)) hX) dX4_runLine_73 rfl rfl (Nat.le_of_ble_eq_true rfl) (by omega) ?_
      refine CALL.mono (hQ2 (by omega) (by omega)) ?_
      rintro r B ⟨z2, u2, rfl, rfl, hQ3⟩
      refine aw_pop (pc' := 77) rfl dX4_runLine_76 rfl ?_
      refine aw_aload_n (pc' := 78) rfl dX4_runLine_77 rfl ?_
      refine aw_aload_n (pc' := 79) rfl dX4_runLine_78 rfl ?_
      refine aw_geti (pc' := 82) (k9 := 4) dX4_runLine_79 rfl fX4_31 rfl (by decide) rfl (XO_machine (A := (cl A v)) hX) ?_
      try simp (disch := omega) only [hv_cl, cl_set, sset_e, sset_1, sset_2]
      refine aw_puti (pc' := 85) (k9 := 5) dX4_runLine_82 rfl fX4_59 rfl rfl rfl hK.1 ?_
      refine AW.ret none dX4_runLine_85 trivial ?_
      try simp (disch := omega) only [hv_cl, cl_set, sset_e, sset_1, sset_2]
      exact hQ3
