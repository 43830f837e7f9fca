/-! ===== the reference: line ===== -/
def rd0 (s : Sg) : Sg := sset (sset (sset (sset (sset s 307 18 0) 307 20 0) 307 21 0) 307 22 0) 307 23 0
def lineOK (t : Sg) : Sg := sset (sset (sset (sset t 307 17 0) 318 (t 307 12) (t 307 22)) 319 (t 307 12) (t 307 23)) 307 12 (t 307 12 + 1)
set_option maxRecDepth 20000 in
theorem c_line {d : Nat} {n : Nat} {A : AHp} {s : Sg} {Q : Option AV → AHp → Prop} (hd : 6 + 3 * n + 1 ≤ d) (hM : MLAY A) (hln : 0 ≤ s 307 12 ∧ s 307 12 ≤ 8) (hF : s 307 12 = 8 → Q (some (vi (-4))) (lift A s))
  (hO : s 307 12 < 8 → ∃ l t, listR n 0 (rd0 s) = some (l, t) ∧ (0 ≤ t 307 12 ∧ t 307 12 < 8) ∧ (0 ≤ t 307 18 ∧ t 307 18 ≤ 1000) ∧
    (l < 0 → (0 ≤ t 307 19 ∧ t 307 19 ≤ 1000) ∧ Q (some (vi (-10 - t 307 19))) (lift A (sset t 307 17 0))) ∧
    (0 ≤ l → t 307 18 < t 307 17 → Q (some (vi (-10 - t 307 18))) (lift A (sset (sset t 307 19 (t 307 18)) 307 17 0))) ∧
    (0 ≤ l → ¬ t 307 18 < t 307 17 → Q (some (vi (t 307 12))) (lift A (lineOK t)))) : CALL d mX13_line [vr 307] (lift A s) Q := by
  refine CALL.of (by decide) (Nat.le_of_ble_eq_true rfl) ?_
  change AW d mX13_line 0 [some (vr 307), none] [] (lift A s) Q
  refine aw_aload_n (pc' := 1) rfl dX13_line_0 rfl ?_
  refine aw_geti (pc' := 4) (k9 := 12) dX13_line_1 rfl fX13_196 rfl (by decide) rfl (MO (A := (lift A s)) hM) ?_
  try simp (disch := omega) only [hv_in, lift_set, sset_e, sset_1, sset_2, workS_o, stagesS_o, beginsS_o, scpy_o, lift_cpy, sset_ss, bt_18, bt_315, bt_o, wof_18]
  refine aw_bipush (pc' := 6) (by decide +kernel) dX13_line_4 rfl ?_
  refine aw_icmp_ne (pt := 12) (pf := 9) dX13_line_6 (by decide) rfl (fun c_6 => ?_) (fun c_6 => ?_)
  · refine aw_aload_n (pc' := 13) rfl dX13_line_12 rfl ?_
    refine aw_iconst (pc' := 14) (by decide) dX13_line_13 rfl ?_
    refine aw_puti (pc' := 17) (k9 := 18) dX13_line_14 rfl fX13_206 rfl rfl rfl (MO (A := (lift A s)) hM) ?_
    refine aw_aload_n (pc' := 18) rfl dX13_line_17 rfl ?_
    refine aw_iconst (pc' := 19) (by decide) dX13_line_18 rfl ?_
    refine aw_puti (pc' := 22) (k9 := 20) dX13_line_19 rfl fX13_199 rfl rfl rfl (MO (A := (lift A s)) hM) ?_
    refine aw_aload_n (pc' := 23) rfl dX13_line_22 rfl ?_
    refine aw_iconst (pc' := 24) (by decide) dX13_line_23 rfl ?_
    refine aw_puti (pc' := 27) (k9 := 21) dX13_line_24 rfl fX13_220 rfl rfl rfl (MO (A := (lift A s)) hM) ?_
    refine aw_aload_n (pc' := 28) rfl dX13_line_27 rfl ?_
    refine aw_iconst (pc' := 29) (by decide) dX13_line_28 rfl ?_
    refine aw_puti (pc' := 32) (k9 := 22) dX13_line_29 rfl fX13_240 rfl rfl rfl (MO (A := (lift A s)) hM) ?_
    refine aw_aload_n (pc' := 33) rfl dX13_line_32 rfl ?_
    refine aw_iconst (pc' := 34) (by decide) dX13_line_33 rfl ?_
    refine aw_puti (pc' := 37) (k9 := 23) dX13_line_34 rfl fX13_187 rfl rfl rfl (MO (A := (lift A s)) hM) ?_
    refine aw_aload_n (pc' := 38) rfl dX13_line_37 rfl ?_
    refine aw_iconst (pc' := 39) (by decide) dX13_line_38 rfl ?_
    refine aw_callV (ci := 11) (d' := d - 1) (as := [_]) (pc' := 42) (by decide) rfl kX13_listRead iX13_listRead sX13_listRead lX13_223 (MO (A := (lift A s)) hM) dX13_line_39 rfl rfl (Nat.le_of_ble_eq_true rfl) (by omega) ?_
    try simp (disch := omega) only [hv_in, lift_set, sset_e, sset_1, sset_2, workS_o, stagesS_o, beginsS_o, scpy_o, lift_cpy, sset_ss, bt_18, bt_315, bt_o, wof_18]
    obtain ⟨l, t, h, h12, h18, hA, hB, hC⟩ := hO (by omega)
    refine c_lists n _ A _ _ _ _ _ (by omega) hM (by omega) h ?_
    refine aw_istore_n (pc' := 43) (lv' := [_, _]) dX13_line_42 rfl (by decide) rfl ?_
    refine aw_iload_n (pc' := 44) rfl dX13_line_43 rfl ?_
    refine aw_if_lt (pt := 69) (pf := 47) dX13_line_44 (by decide) rfl (fun c_44 => ?_) (fun c_44 => ?_)
    · obtain ⟨h19, hA⟩ := hA (by omega)
      refine aw_aload_n (pc' := 70) rfl dX13_line_69 rfl ?_
      refine aw_iconst (pc' := 71) (by decide) dX13_line_70 rfl ?_
      refine aw_puti (pc' := 74) (k9 := 17) dX13_line_71 rfl fX13_181 rfl rfl rfl (MO (A := (lift A s)) hM) ?_
      refine aw_iload_n (pc' := 75) rfl dX13_line_74 rfl ?_
      refine aw_if_ge (pt := 86) (pf := 78) dX13_line_75 (by decide) rfl (fun c_75 => ?_) (fun c_75 => ?_)
      · refine aw_aload_n (pc' := 87) rfl dX13_line_86 rfl ?_
        refine aw_getp (pc' := 90) (k9 := 10) (p := 318) dX13_line_87 rfl fX13_73 rfl rfl rfl (MO (A := (lift A s)) hM) (M_stagesIn (A := (lift A s)) hM) ?_
        refine aw_aload_n (pc' := 91) rfl dX13_line_90 rfl ?_
        refine aw_geti (pc' := 94) (k9 := 12) dX13_line_91 rfl fX13_196 rfl (by decide) rfl (MO (A := (lift A s)) hM) ?_
        try simp (disch := omega) only [hv_in, lift_set, sset_e, sset_1, sset_2, workS_o, stagesS_o, beginsS_o, scpy_o, lift_cpy, sset_ss, bt_18, bt_315, bt_o, wof_18]
        refine aw_aload_n (pc' := 95) rfl dX13_line_94 rfl ?_
        refine aw_geti (pc' := 98) (k9 := 22) dX13_line_95 rfl fX13_240 rfl (by decide) rfl (MO (A := (lift A s)) hM) ?_
        try simp (disch := omega) only [hv_in, lift_set, sset_e, sset_1, sset_2, workS_o, stagesS_o, beginsS_o, scpy_o, lift_cpy, sset_ss, bt_18, bt_315, bt_o, wof_18]
        refine aw_iast (pc' := 99) dX13_line_98 rfl (MA_stagesIn (A := (lift A s)) hM) (by omega) (by omega) ?_
        refine aw_aload_n (pc' := 100) rfl dX13_line_99 rfl ?_
        refine aw_getp (pc' := 103) (k9 := 11) (p := 319) dX13_line_100 rfl fX13_76 rfl rfl rfl (MO (A := (lift A s)) hM) (M_deepIn (A := (lift A s)) hM) ?_
        refine aw_aload_n (pc' := 104) rfl dX13_line_103 rfl ?_
        refine aw_geti (pc' := 107) (k9 := 12) dX13_line_104 rfl fX13_196 rfl (by decide) rfl (MO (A := (lift A s)) hM) ?_
        try simp (disch := omega) only [hv_in, lift_set, sset_e, sset_1, sset_2, workS_o, stagesS_o, beginsS_o, scpy_o, lift_cpy, sset_ss, bt_18, bt_315, bt_o, wof_18]
        refine aw_aload_n (pc' := 108) rfl dX13_line_107 rfl ?_
        refine aw_geti (pc' := 111) (k9 := 23) dX13_line_108 rfl fX13_187 rfl (by decide) rfl (MO (A := (lift A s)) hM) ?_
        try simp (disch := omega) only [hv_in, lift_set, sset_e, sset_1, sset_2, workS_o, stagesS_o, beginsS_o, scpy_o, lift_cpy, sset_ss, bt_18, bt_315, bt_o, wof_18]
        refine aw_iast (pc' := 112) dX13_line_111 rfl (MA_deepIn (A := (lift A s)) hM) (by omega) (by omega) ?_
        refine aw_aload_n (pc' := 113) rfl dX13_line_112 rfl ?_
        refine aw_dup (pc' := 114) rfl dX13_line_113 rfl ?_
        refine aw_geti (pc' := 117) (k9 := 12) dX13_line_114 rfl fX13_196 rfl (by decide) rfl (MO (A := (lift A s)) hM) ?_
        try simp (disch := omega) only [hv_in, lift_set, sset_e, sset_1, sset_2, workS_o, stagesS_o, beginsS_o, scpy_o, lift_cpy, sset_ss, bt_18, bt_315, bt_o, wof_18]
        refine aw_iconst (pc' := 118) (by decide) dX13_line_117 rfl ?_
        refine aw_iadd (pc' := 119) (by first | exact w32_id (by omega) (by omega) | rfl) dX13_line_118 rfl ?_
        refine aw_puti (pc' := 122) (k9 := 12) dX13_line_119 rfl fX13_196 rfl rfl rfl (MO (A := (lift A s)) hM) ?_
        refine aw_aload_n (pc' := 123) rfl dX13_line_122 rfl ?_
        refine aw_geti (pc' := 126) (k9 := 12) dX13_line_123 rfl fX13_196 rfl (by decide) rfl (MO (A := (lift A s)) hM) ?_
        try simp (disch := omega) only [hv_in, lift_set, sset_e, sset_1, sset_2, workS_o, stagesS_o, beginsS_o, scpy_o, lift_cpy, sset_ss, bt_18, bt_315, bt_o, wof_18]
        refine aw_iconst (pc' := 127) (by decide) dX13_line_126 rfl ?_
        refine aw_isub (pc' := 128) (by first | exact w32_id (by omega) (by omega) | rfl) dX13_line_127 rfl ?_
        refine AW.ret (some (vi _)) dX13_line_128 trivial ?_
        try simp (disch := omega) only [hv_in, lift_set, sset_e, sset_1, sset_2, workS_o, stagesS_o, beginsS_o, scpy_o, lift_cpy, sset_ss, bt_18, bt_315, bt_o, wof_18]
        have hC := hC (by omega) (by omega)
        unfold lineOK at hC
        rw [show t 307 12 + 1 - 1 = t 307 12 by omega]
        exact hC
      · refine aw_bipush (pc' := 80) (by decide +kernel) dX13_line_78 rfl ?_
        refine aw_aload_n (pc' := 81) rfl dX13_line_80 rfl ?_
        refine aw_geti (pc' := 84) (k9 := 19) dX13_line_81 rfl fX13_184 rfl (by decide) rfl (MO (A := (lift A s)) hM) ?_
        try simp (disch := omega) only [hv_in, lift_set, sset_e, sset_1, sset_2, workS_o, stagesS_o, beginsS_o, scpy_o, lift_cpy, sset_ss, bt_18, bt_315, bt_o, wof_18]
        refine aw_isub (pc' := 85) (by first | exact w32_id (by omega) (by omega) | rfl) dX13_line_84 rfl ?_
        refine AW.ret (some (vi _)) dX13_line_85 trivial ?_
        try simp (disch := omega) only [hv_in, lift_set, sset_e, sset_1, sset_2, workS_o, stagesS_o, beginsS_o, scpy_o, lift_cpy, sset_ss, bt_18, bt_315, bt_o, wof_18]
        first | exact hA | exact hB (by omega) (by omega) | (exfalso; omega)
    · refine aw_aload_n (pc' := 48) rfl dX13_line_47 rfl ?_
      refine aw_geti (pc' := 51) (k9 := 18) dX13_line_48 rfl fX13_206 rfl (by decide) rfl (MO (A := (lift A s)) hM) ?_
      try simp (disch := omega) only [hv_in, lift_set, sset_e, sset_1, sset_2, workS_o, stagesS_o, beginsS_o, scpy_o, lift_cpy, sset_ss, bt_18, bt_315, bt_o, wof_18]
      refine aw_aload_n (pc' := 52) rfl dX13_line_51 rfl ?_
      refine aw_geti (pc' := 55) (k9 := 17) dX13_line_52 rfl fX13_181 rfl (by decide) rfl (MO (A := (lift A s)) hM) ?_
      try simp (disch := omega) only [hv_in, lift_set, sset_e, sset_1, sset_2, workS_o, stagesS_o, beginsS_o, scpy_o, lift_cpy, sset_ss, bt_18, bt_315, bt_o, wof_18]
      refine aw_icmp_ge (pt := 69) (pf := 58) dX13_line_55 (by decide) rfl (fun c_55 => ?_) (fun c_55 => ?_)
      · refine aw_aload_n (pc' := 70) rfl dX13_line_69 rfl ?_
        refine aw_iconst (pc' := 71) (by decide) dX13_line_70 rfl ?_
        refine aw_puti (pc' := 74) (k9 := 17) dX13_line_71 rfl fX13_181 rfl rfl rfl (MO (A := (lift A s)) hM) ?_
        refine aw_iload_n (pc' := 75) rfl dX13_line_74 rfl ?_
        refine aw_if_ge (pt := 86) (pf := 78) dX13_line_75 (by decide) rfl (fun c_75 => ?_) (fun c_75 => ?_)
        · refine aw_aload_n (pc' := 87) rfl dX13_line_86 rfl ?_
          refine aw_getp (pc' := 90) (k9 := 10) (p := 318) dX13_line_87 rfl fX13_73 rfl rfl rfl (MO (A := (lift A s)) hM) (M_stagesIn (A := (lift A s)) hM) ?_
          refine aw_aload_n (pc' := 91) rfl dX13_line_90 rfl ?_
          refine aw_geti (pc' := 94) (k9 := 12) dX13_line_91 rfl fX13_196 rfl (by decide) rfl (MO (A := (lift A s)) hM) ?_
          try simp (disch := omega) only [hv_in, lift_set, sset_e, sset_1, sset_2, workS_o, stagesS_o, beginsS_o, scpy_o, lift_cpy, sset_ss, bt_18, bt_315, bt_o, wof_18]
          refine aw_aload_n (pc' := 95) rfl dX13_line_94 rfl ?_
          refine aw_geti (pc' := 98) (k9 := 22) dX13_line_95 rfl fX13_240 rfl (by decide) rfl (MO (A := (lift A s)) hM) ?_
          try simp (disch := omega) only [hv_in, lift_set, sset_e, sset_1, sset_2, workS_o, stagesS_o, beginsS_o, scpy_o, lift_cpy, sset_ss, bt_18, bt_315, bt_o, wof_18]
          refine aw_iast (pc' := 99) dX13_line_98 rfl (MA_stagesIn (A := (lift A s)) hM) (by omega) (by omega) ?_
          refine aw_aload_n (pc' := 100) rfl dX13_line_99 rfl ?_
          refine aw_getp (pc' := 103) (k9 := 11) (p := 319) dX13_line_100 rfl fX13_76 rfl rfl rfl (MO (A := (lift A s)) hM) (M_deepIn (A := (lift A s)) hM) ?_
          refine aw_aload_n (pc' := 104) rfl dX13_line_103 rfl ?_
          refine aw_geti (pc' := 107) (k9 := 12) dX13_line_104 rfl fX13_196 rfl (by decide) rfl (MO (A := (lift A s)) hM) ?_
          try simp (disch := omega) only [hv_in, lift_set, sset_e, sset_1, sset_2, workS_o, stagesS_o, beginsS_o, scpy_o, lift_cpy, sset_ss, bt_18, bt_315, bt_o, wof_18]
          refine aw_aload_n (pc' := 108) rfl dX13_line_107 rfl ?_
          refine aw_geti (pc' := 111) (k9 := 23) dX13_line_108 rfl fX13_187 rfl (by decide) rfl (MO (A := (lift A s)) hM) ?_
          try simp (disch := omega) only [hv_in, lift_set, sset_e, sset_1, sset_2, workS_o, stagesS_o, beginsS_o, scpy_o, lift_cpy, sset_ss, bt_18, bt_315, bt_o, wof_18]
          refine aw_iast (pc' := 112) dX13_line_111 rfl (MA_deepIn (A := (lift A s)) hM) (by omega) (by omega) ?_
          refine aw_aload_n (pc' := 113) rfl dX13_line_112 rfl ?_
          refine aw_dup (pc' := 114) rfl dX13_line_113 rfl ?_
          refine aw_geti (pc' := 117) (k9 := 12) dX13_line_114 rfl fX13_196 rfl (by decide) rfl (MO (A := (lift A s)) hM) ?_
          try simp (disch := omega) only [hv_in, lift_set, sset_e, sset_1, sset_2, workS_o, stagesS_o, beginsS_o, scpy_o, lift_cpy, sset_ss, bt_18, bt_315, bt_o, wof_18]
          refine aw_iconst (pc' := 118) (by decide) dX13_line_117 rfl ?_
          refine aw_iadd (pc' := 119) (by first | exact w32_id (by omega) (by omega) | rfl) dX13_line_118 rfl ?_
          refine aw_puti (pc' := 122) (k9 := 12) dX13_line_119 rfl fX13_196 rfl rfl rfl (MO (A := (lift A s)) hM) ?_
          refine aw_aload_n (pc' := 123) rfl dX13_line_122 rfl ?_
          refine aw_geti (pc' := 126) (k9 := 12) dX13_line_123 rfl fX13_196 rfl (by decide) rfl (MO (A := (lift A s)) hM) ?_
          try simp (disch := omega) only [hv_in, lift_set, sset_e, sset_1, sset_2, workS_o, stagesS_o, beginsS_o, scpy_o, lift_cpy, sset_ss, bt_18, bt_315, bt_o, wof_18]
          refine aw_iconst (pc' := 127) (by decide) dX13_line_126 rfl ?_
          refine aw_isub (pc' := 128) (by first | exact w32_id (by omega) (by omega) | rfl) dX13_line_127 rfl ?_
          refine AW.ret (some (vi _)) dX13_line_128 trivial ?_
          try simp (disch := omega) only [hv_in, lift_set, sset_e, sset_1, sset_2, workS_o, stagesS_o, beginsS_o, scpy_o, lift_cpy, sset_ss, bt_18, bt_315, bt_o, wof_18]
          have hC := hC (by omega) (by omega)
          unfold lineOK at hC
          rw [show t 307 12 + 1 - 1 = t 307 12 by omega]
          exact hC
        · refine aw_bipush (pc' := 80) (by decide +kernel) dX13_line_78 rfl ?_
          refine aw_aload_n (pc' := 81) rfl dX13_line_80 rfl ?_
          refine aw_geti (pc' := 84) (k9 := 19) dX13_line_81 rfl fX13_184 rfl (by decide) rfl (MO (A := (lift A s)) hM) ?_
          try simp (disch := omega) only [hv_in, lift_set, sset_e, sset_1, sset_2, workS_o, stagesS_o, beginsS_o, scpy_o, lift_cpy, sset_ss, bt_18, bt_315, bt_o, wof_18]
          refine aw_isub (pc' := 85) (by first | exact w32_id (by omega) (by omega) | rfl) dX13_line_84 rfl ?_
          refine AW.ret (some (vi _)) dX13_line_85 trivial ?_
          try simp (disch := omega) only [hv_in, lift_set, sset_e, sset_1, sset_2, workS_o, stagesS_o, beginsS_o, scpy_o, lift_cpy, sset_ss, bt_18, bt_315, bt_o, wof_18]
          first | exact hA | exact hB (by omega) (by omega) | (exfalso; omega)
      · refine aw_aload_n (pc' := 59) rfl dX13_line_58 rfl ?_
        refine aw_aload_n (pc' := 60) rfl dX13_line_59 rfl ?_
        refine aw_geti (pc' := 63) (k9 := 18) dX13_line_60 rfl fX13_206 rfl (by decide) rfl (MO (A := (lift A s)) hM) ?_
        try simp (disch := omega) only [hv_in, lift_set, sset_e, sset_1, sset_2, workS_o, stagesS_o, beginsS_o, scpy_o, lift_cpy, sset_ss, bt_18, bt_315, bt_o, wof_18]
        refine aw_callV (ci := 11) (d' := d - 1) (as := [_]) (pc' := 66) (by decide) rfl kX13_stops iX13_stops sX13_stops lX13_216 (MO (A := (lift A s)) hM) dX13_line_63 rfl rfl (Nat.le_of_ble_eq_true rfl) (by omega) ?_
        try simp (disch := omega) only [hv_in, lift_set, sset_e, sset_1, sset_2, workS_o, stagesS_o, beginsS_o, scpy_o, lift_cpy, sset_ss, bt_18, bt_315]
        refine c_stops (by omega) hM ?_
        unfold stopS
        refine aw_pop (pc' := 67) rfl dX13_line_66 rfl ?_
        refine aw_iconst (pc' := 68) (by decide) dX13_line_67 rfl ?_
        refine aw_istore_n (pc' := 69) (lv' := [_, _]) dX13_line_68 rfl (by decide) rfl ?_
        refine aw_aload_n (pc' := 70) rfl dX13_line_69 rfl ?_
        refine aw_iconst (pc' := 71) (by decide) dX13_line_70 rfl ?_
        refine aw_puti (pc' := 74) (k9 := 17) dX13_line_71 rfl fX13_181 rfl rfl rfl (MO (A := (lift A s)) hM) ?_
        refine aw_iload_n (pc' := 75) rfl dX13_line_74 rfl ?_
        refine aw_if_ge (pt := 86) (pf := 78) dX13_line_75 (by decide) rfl (fun c_75 => absurd c_75 (by decide)) (fun _ => ?_)
        refine aw_bipush (pc' := 80) (by decide +kernel) dX13_line_78 rfl ?_
        refine aw_aload_n (pc' := 81) rfl dX13_line_80 rfl ?_
        refine aw_geti (pc' := 84) (k9 := 19) dX13_line_81 rfl fX13_184 rfl (by decide) rfl (MO (A := (lift A s)) hM) ?_
        try simp (disch := omega) only [hv_in, lift_set, sset_e, sset_1, sset_2, workS_o, stagesS_o, beginsS_o, scpy_o, lift_cpy, sset_ss, bt_18, bt_315, bt_o, wof_18]
        refine aw_isub (pc' := 85) (by first | exact w32_id (by omega) (by omega) | rfl) dX13_line_84 rfl ?_
        refine AW.ret (some (vi _)) dX13_line_85 trivial ?_
        try simp (disch := omega) only [hv_in, lift_set, sset_e, sset_1, sset_2, workS_o, stagesS_o, beginsS_o, scpy_o, lift_cpy, sset_ss, bt_18, bt_315, bt_o, wof_18]
        first | exact hA | exact hB (by omega) (by omega) | (exfalso; omega)
  · replace c_6 := Classical.not_not.mp c_6
    refine aw_bipush (pc' := 11) (by decide +kernel) dX13_line_9 rfl ?_
    refine AW.ret (some (vi _)) dX13_line_11 trivial ?_
    exact hF (by omega)
