/-! ===== the reference: goes, within ===== -/
theorem goes_s {nx : Sg → Int → Int → Option (Int × Sg)} {s t : Sg} {l par fr at9 z : Int} (h : goesS nx l par fr at9 s = some (z, t)) : (0 ≤ l ∧ l < 480) ∧ listS nx par fr at9 200 (s 309 l) 0 s = some (z, t) := by
  unfold goesS at h
  exact grd_some h
theorem within_s {nx : Sg → Int → Int → Option (Int × Sg)} {s t : Sg} {fr st n x : Int} (h : withinS nx fr st n s = some (x, t)) : ∃ u, innerS nx fr st n s = some u ∧ ((0 ≤ u 326 (6 * fr) ∧ u 326 (6 * fr) ≤ 60) ∧ 0 ≤ u 330 fr ∧ u 330 fr ≤ 60) ∧ x = (if u 326 (6 * fr) + 1 ≤ u 330 fr then u 329 (60 * fr + (u 326 (6 * fr) + 1) - 1) else (-9223372036854775808)) ∧ t = sset u 326 (6 * fr) (u 326 (6 * fr) + 1) := by
  unfold withinS at h
  obtain ⟨u, h1, h2⟩ := Option.bind_eq_some_iff.mp h
  obtain ⟨h3, h4⟩ := grd_some h2
  rw [w32_id (by omega) (by omega)] at h4
  simp (disch := omega) only [sset_e, sset_1, Option.some.injEq, Prod.mk.injEq] at h4
  exact ⟨u, h1, h3, h4.1.symm, h4.2.symm⟩
set_option maxRecDepth 20000 in
theorem c_goes {d : Nat} {nx : Sg → Int → Int → Option (Int × Sg)} {K : Nat} {l par fr at9 z : Int} {t : Sg} {A : AHp} {s : Sg} {Q : Option AV → AHp → Prop} (hd : K + 3 ≤ d) (hM : MLAY A) (hN : NXC nx K) (h : goesS nx l par fr at9 s = some (z, t)) (hQ : Q (some (vi z)) (lift A t)) : CALL d mX13_goes [vr 307, vi l, vi par, vi fr, vi at9] (lift A s) Q := by
  refine CALL.of (by decide) (Nat.le_of_ble_eq_true rfl) ?_
  change AW d mX13_goes 0 [some (vr 307), some (vi l), some (vi par), some (vi fr), some (vi at9), none, none] [] (lift A s) Q
  obtain ⟨h1, h2⟩ := goes_s h
  refine aw_iconst (pc' := 1) (by decide) dX13_goes_0 rfl ?_
  refine aw_istore (pc' := 3) (lv' := [_, _, _, _, _, _, _]) dX13_goes_1 rfl (by decide) rfl ?_
  refine aw_aload_n (pc' := 4) rfl dX13_goes_3 rfl ?_
  refine aw_getp (pc' := 7) (k9 := 1) (p := 309) dX13_goes_4 rfl fX13_45 rfl rfl rfl (MO (A := (lift A s)) hM) (M_listFirst (A := (lift A s)) hM) ?_
  refine aw_iload_n (pc' := 8) rfl dX13_goes_7 rfl ?_
  refine aw_iald (pc' := 9) dX13_goes_8 rfl (MA_listFirst (A := (lift A s)) hM) (by omega) (by omega) ?_
  try simp (disch := omega) only [hv_in, lift_set, sset_e, sset_1, sset_2, workS_o, stagesS_o, beginsS_o]
  refine aw_istore (pc' := 11) (lv' := [_, _, _, _, _, _, _]) dX13_goes_9 rfl (by decide) rfl ?_
  exact l_list _ 0 _ s hd hM hN h2 hQ

set_option maxRecDepth 20000 in
theorem l_wT {d : Nat} {A : AHp} {u : Sg} {fr st n ch : Int} {Q : Option AV → AHp → Prop} (hM : MLAY A) (hfr : 0 ≤ fr ∧ fr < 28) (hg : (0 ≤ u 326 (6 * fr) ∧ u 326 (6 * fr) ≤ 60) ∧ 0 ≤ u 330 fr ∧ u 330 fr ≤ 60) (hQ : Q (some (vl (if u 326 (6 * fr) + 1 ≤ u 330 fr then u 329 (60 * fr + (u 326 (6 * fr) + 1) - 1) else (-9223372036854775808)))) (lift A (sset u 326 (6 * fr) (u 326 (6 * fr) + 1)))) : AW d mX13_within 181 [some (vr 307), some (vi fr), some (vi st), some (vi n), some (vi (6 * fr)), some (vi ch)] [] (lift A u) Q := by
  refine aw_aload_n (pc' := 182) rfl dX13_within_181 rfl ?_
  refine aw_getp (pc' := 185) (k9 := 27) (p := 326) dX13_within_182 rfl fX13_101 rfl rfl rfl (MO (A := (lift A u)) hM) (M_place (A := (lift A u)) hM) ?_
  refine aw_iload (pc' := 187) rfl dX13_within_185 rfl ?_
  refine aw_dup2 (pc' := 188) rfl rfl dX13_within_187 rfl ?_
  refine aw_iald (pc' := 189) dX13_within_188 rfl (MA_place (A := (lift A u)) hM) (by omega) (by omega) ?_
  try simp (disch := omega) only [hv_in, lift_set, sset_e, sset_1, sset_2, workS_o, stagesS_o, beginsS_o]
  refine aw_iconst (pc' := 190) (by decide) dX13_within_189 rfl ?_
  refine aw_iadd (pc' := 191) (by first | exact w32_id (by omega) (by omega) | rfl) dX13_within_190 rfl ?_
  refine aw_iast (pc' := 192) dX13_within_191 rfl (MA_place (A := (lift A u)) hM) (by omega) (by omega) ?_
  refine aw_aload_n (pc' := 193) rfl dX13_within_192 rfl ?_
  refine aw_getp (pc' := 196) (k9 := 27) (p := 326) dX13_within_193 rfl fX13_101 rfl rfl rfl (MO (A := (lift A u)) hM) (M_place (A := (lift A u)) hM) ?_
  refine aw_iload (pc' := 198) rfl dX13_within_196 rfl ?_
  refine aw_iald (pc' := 199) dX13_within_198 rfl (MA_place (A := (lift A u)) hM) (by omega) (by omega) ?_
  try simp (disch := omega) only [hv_in, lift_set, sset_e, sset_1, sset_2, workS_o, stagesS_o, beginsS_o]
  refine aw_aload_n (pc' := 200) rfl dX13_within_199 rfl ?_
  refine aw_getp (pc' := 203) (k9 := 31) (p := 330) dX13_within_200 rfl fX13_114 rfl rfl rfl (MO (A := (lift A u)) hM) (M_writtenMany (A := (lift A u)) hM) ?_
  refine aw_iload_n (pc' := 204) rfl dX13_within_203 rfl ?_
  refine aw_iald (pc' := 205) dX13_within_204 rfl (MA_writtenMany (A := (lift A u)) hM) (by omega) (by omega) ?_
  try simp (disch := omega) only [hv_in, lift_set, sset_e, sset_1, sset_2, workS_o, stagesS_o, beginsS_o]
  refine aw_icmp_gt (pt := 231) (pf := 208) dX13_within_205 (by decide) rfl (fun c_205 => ?_) (fun c_205 => ?_)
  · refine aw_ldc2 (x := (-9223372036854775808)) (pc' := 234) qX13_267 (by decide) dX13_within_231 rfl ?_
    refine AW.ret (some (vl _)) dX13_within_234 trivial ?_
    try simp (disch := omega) only [hv_in, lift_set, sset_e, sset_1, sset_2, workS_o, stagesS_o, beginsS_o]
    simp (disch := omega) only [if_pos, if_neg] at hQ
    exact hQ
  · refine aw_aload_n (pc' := 209) rfl dX13_within_208 rfl ?_
    refine aw_getp (pc' := 212) (k9 := 30) (p := 329) dX13_within_209 rfl fX13_111 rfl rfl rfl (MO (A := (lift A u)) hM) (M_written (A := (lift A u)) hM) ?_
    refine aw_bipush (pc' := 214) (by decide +kernel) dX13_within_212 rfl ?_
    refine aw_iload_n (pc' := 215) rfl dX13_within_214 rfl ?_
    refine aw_imul (pc' := 216) (by first | exact w32_id (by omega) (by omega) | rfl) dX13_within_215 rfl ?_
    refine aw_aload_n (pc' := 217) rfl dX13_within_216 rfl ?_
    refine aw_getp (pc' := 220) (k9 := 27) (p := 326) dX13_within_217 rfl fX13_101 rfl rfl rfl (MO (A := (lift A u)) hM) (M_place (A := (lift A u)) hM) ?_
    refine aw_iload (pc' := 222) rfl dX13_within_220 rfl ?_
    refine aw_iald (pc' := 223) dX13_within_222 rfl (MA_place (A := (lift A u)) hM) (by omega) (by omega) ?_
    try simp (disch := omega) only [hv_in, lift_set, sset_e, sset_1, sset_2, workS_o, stagesS_o, beginsS_o]
    refine aw_iadd (pc' := 224) (by first | exact w32_id (by omega) (by omega) | rfl) dX13_within_223 rfl ?_
    refine aw_iconst (pc' := 225) (by decide) dX13_within_224 rfl ?_
    refine aw_isub (pc' := 226) (by first | exact w32_id (by omega) (by omega) | rfl) dX13_within_225 rfl ?_
    refine aw_iald (pc' := 227) dX13_within_226 rfl (MA_written (A := (lift A u)) hM) (by omega) (by omega) ?_
    try simp (disch := omega) only [hv_in, lift_set, sset_e, sset_1, sset_2, workS_o, stagesS_o, beginsS_o]
    refine aw_i2l (pc' := 228) dX13_within_227 rfl ?_
    refine aw_goto (pc' := 234) dX13_within_228 (by decide) ?_
    refine AW.ret (some (vl _)) dX13_within_234 trivial ?_
    try simp (disch := omega) only [hv_in, lift_set, sset_e, sset_1, sset_2, workS_o, stagesS_o, beginsS_o]
    simp (disch := omega) only [if_pos, if_neg] at hQ
    exact hQ

set_option maxRecDepth 20000 in
theorem c_within {d : Nat} {nx : Sg → Int → Int → Option (Int × Sg)} {K : Nat} {fr st n x : Int} {t : Sg} {A : AHp} {s : Sg} {Q : Option AV → AHp → Prop} (hd : K + 4 ≤ d) (hM : MLAY A) (hN : NXC nx K) (hfr : 0 ≤ fr ∧ fr < 28) (hst : 0 ≤ st ∧ st < 480) (hw : 11 ≤ s 314 st ∧ s 314 st ≤ 14) (h : withinS nx fr st n s = some (x, t)) (hQ : Q (some (vl x)) (lift A t)) : CALL d mX13_within [vr 307, vi fr, vi st, vi n] (lift A s) Q := by
  refine CALL.of (by decide) (Nat.le_of_ble_eq_true rfl) ?_
  change AW d mX13_within 0 [some (vr 307), some (vi fr), some (vi st), some (vi n), none, none] [] (lift A s) Q
  obtain ⟨u, h1, h2, h3, h4⟩ := within_s h
  subst h3 h4
  unfold innerS at h1
  refine aw_bipush (pc' := 2) (by decide +kernel) dX13_within_0 rfl ?_
  refine aw_iload_n (pc' := 3) rfl dX13_within_2 rfl ?_
  refine aw_imul (pc' := 4) (by first | exact w32_id (by omega) (by omega) | rfl) dX13_within_3 rfl ?_
  refine aw_istore (pc' := 6) (lv' := [_, _, _, _, _, _]) dX13_within_4 rfl (by decide) rfl ?_
  refine aw_iload_n (pc' := 7) rfl dX13_within_6 rfl ?_
  refine aw_bipush (pc' := 9) (by decide +kernel) dX13_within_7 rfl ?_
  refine aw_icmp_lt (pt := 16) (pf := 12) dX13_within_9 (by decide) rfl (fun c_9 => ?_) (fun c_9 => ?_)
  · refine aw_iload_n (pc' := 17) rfl dX13_within_16 rfl ?_
    refine aw_iconst (pc' := 18) (by decide) dX13_within_17 rfl ?_
    refine aw_iadd (pc' := 19) (by first | exact w32_id (by omega) (by omega) | rfl) dX13_within_18 rfl ?_
    refine aw_istore (pc' := 21) (lv' := [_, _, _, _, _, _]) dX13_within_19 rfl (by decide) rfl ?_
    refine aw_aload_n (pc' := 22) rfl dX13_within_21 rfl ?_
    refine aw_getp (pc' := 25) (k9 := 27) (p := 326) dX13_within_22 rfl fX13_101 rfl rfl rfl (MO (A := (lift A s)) hM) (M_place (A := (lift A s)) hM) ?_
    refine aw_iload (pc' := 27) rfl dX13_within_25 rfl ?_
    refine aw_iald (pc' := 28) dX13_within_27 rfl (MA_place (A := (lift A s)) hM) (by omega) (by omega) ?_
    try simp (disch := omega) only [hv_in, lift_set, sset_e, sset_1, sset_2, workS_o, stagesS_o, beginsS_o]
    refine aw_if_ne (pt := 181) (pf := 31) dX13_within_28 (by decide) rfl (fun c_28 => ?_) (fun c_28 => ?_)
    · try simp (disch := omega) only [hv_in, lift_set, sset_e, sset_1, sset_2, workS_o, stagesS_o, beginsS_o]
      simp (disch := omega) only [if_pos, if_neg] at h1
      rw [Option.some.injEq] at h1
      subst h1
      first | (exfalso; omega) | exact l_wT hM hfr h2 hQ
    · replace c_28 := Classical.not_not.mp c_28
      refine aw_aload_n (pc' := 32) rfl dX13_within_31 rfl ?_
      refine aw_getp (pc' := 35) (k9 := 6) (p := 314) dX13_within_32 rfl fX13_61 rfl rfl rfl (MO (A := (lift A s)) hM) (M_word (A := (lift A s)) hM) ?_
      refine aw_iload_n (pc' := 36) rfl dX13_within_35 rfl ?_
      refine aw_iald (pc' := 37) dX13_within_36 rfl (MA_word (A := (lift A s)) hM) (by omega) (by omega) ?_
      try simp (disch := omega) only [hv_in, lift_set, sset_e, sset_1, sset_2, workS_o, stagesS_o, beginsS_o]
      refine aw_bipush (pc' := 39) (by decide +kernel) dX13_within_37 rfl ?_
      refine aw_icmp_ne (pt := 71) (pf := 42) dX13_within_39 (by decide) rfl (fun c_39 => ?_) (fun c_39 => ?_)
      · refine aw_aload_n (pc' := 72) rfl dX13_within_71 rfl ?_
        refine aw_getp (pc' := 75) (k9 := 14) (p := 321) dX13_within_72 rfl fX13_82 rfl rfl rfl (MO (A := (lift A s)) hM) (M_functions (A := (lift A s)) hM) ?_
        refine aw_aload_n (pc' := 76) rfl dX13_within_75 rfl ?_
        refine aw_getp (pc' := 79) (k9 := 6) (p := 314) dX13_within_76 rfl fX13_61 rfl rfl rfl (MO (A := (lift A s)) hM) (M_word (A := (lift A s)) hM) ?_
        refine aw_iload_n (pc' := 80) rfl dX13_within_79 rfl ?_
        refine aw_iald (pc' := 81) dX13_within_80 rfl (MA_word (A := (lift A s)) hM) (by omega) (by omega) ?_
        try simp (disch := omega) only [hv_in, lift_set, sset_e, sset_1, sset_2, workS_o, stagesS_o, beginsS_o]
        refine aw_bipush (pc' := 83) (by decide +kernel) dX13_within_81 rfl ?_
        refine aw_isub (pc' := 84) (by first | exact w32_id (by omega) (by omega) | rfl) dX13_within_83 rfl ?_
        refine aw_iald (pc' := 85) dX13_within_84 rfl (MA_functions (A := (lift A s)) hM) (by omega) (by omega) ?_
        try simp (disch := omega) only [hv_in, lift_set, sset_e, sset_1, sset_2, workS_o, stagesS_o, beginsS_o]
        refine aw_if_lt (pt := 96) (pf := 88) dX13_within_85 (by decide) rfl (fun c_85 => ?_) (fun c_85 => ?_)
        · refine aw_aload_n (pc' := 97) rfl dX13_within_96 rfl ?_
          refine aw_getp (pc' := 100) (k9 := 29) (p := 328) dX13_within_97 rfl fX13_108 rfl rfl rfl (MO (A := (lift A s)) hM) (M_status (A := (lift A s)) hM) ?_
          refine aw_iload (pc' := 102) rfl dX13_within_100 rfl ?_
          refine aw_aload_n (pc' := 103) rfl dX13_within_102 rfl ?_
          refine aw_getp (pc' := 106) (k9 := 14) (p := 321) dX13_within_103 rfl fX13_82 rfl rfl rfl (MO (A := (lift A s)) hM) (M_functions (A := (lift A s)) hM) ?_
          refine aw_aload_n (pc' := 107) rfl dX13_within_106 rfl ?_
          refine aw_getp (pc' := 110) (k9 := 6) (p := 314) dX13_within_107 rfl fX13_61 rfl rfl rfl (MO (A := (lift A s)) hM) (M_word (A := (lift A s)) hM) ?_
          refine aw_iload_n (pc' := 111) rfl dX13_within_110 rfl ?_
          refine aw_iald (pc' := 112) dX13_within_111 rfl (MA_word (A := (lift A s)) hM) (by omega) (by omega) ?_
          try simp (disch := omega) only [hv_in, lift_set, sset_e, sset_1, sset_2, workS_o, stagesS_o, beginsS_o]
          refine aw_bipush (pc' := 114) (by decide +kernel) dX13_within_112 rfl ?_
          refine aw_isub (pc' := 115) (by first | exact w32_id (by omega) (by omega) | rfl) dX13_within_114 rfl ?_
          refine aw_iald (pc' := 116) dX13_within_115 rfl (MA_functions (A := (lift A s)) hM) (by omega) (by omega) ?_
          try simp (disch := omega) only [hv_in, lift_set, sset_e, sset_1, sset_2, workS_o, stagesS_o, beginsS_o]
          refine aw_if_ge (pt := 123) (pf := 119) dX13_within_116 (by decide) rfl (fun c_116 => ?_) (fun c_116 => ?_)
          · refine aw_bipush (pc' := 125) (by decide +kernel) dX13_within_123 rfl ?_
            refine aw_iast (pc' := 126) dX13_within_125 rfl (MA_status (A := (lift A s)) hM) (by omega) (by omega) ?_
            refine aw_goto (pc' := 181) dX13_within_126 (by decide) ?_
            try simp (disch := omega) only [hv_in, lift_set, sset_e, sset_1, sset_2, workS_o, stagesS_o, beginsS_o]
            simp (disch := omega) only [if_pos, if_neg] at h1
            rw [Option.some.injEq] at h1
            subst h1
            first | (exfalso; omega) | exact l_wT hM hfr h2 hQ
          · refine aw_iconst (pc' := 120) (by decide) dX13_within_119 rfl ?_
            refine aw_goto (pc' := 125) dX13_within_120 (by decide) ?_
            refine aw_iast (pc' := 126) dX13_within_125 rfl (MA_status (A := (lift A s)) hM) (by omega) (by omega) ?_
            refine aw_goto (pc' := 181) dX13_within_126 (by decide) ?_
            try simp (disch := omega) only [hv_in, lift_set, sset_e, sset_1, sset_2, workS_o, stagesS_o, beginsS_o]
            simp (disch := omega) only [if_pos, if_neg] at h1
            rw [Option.some.injEq] at h1
            subst h1
            first | (exfalso; omega) | exact l_wT hM hfr h2 hQ
        · refine aw_aload_n (pc' := 89) rfl dX13_within_88 rfl ?_
          refine aw_geti (pc' := 92) (k9 := 33) dX13_within_89 rfl fX13_309 rfl (by decide) rfl (MO (A := (lift A s)) hM) ?_
          try simp (disch := omega) only [hv_in, lift_set, sset_e, sset_1, sset_2, workS_o, stagesS_o, beginsS_o]
          refine aw_iconst (pc' := 93) (by decide) dX13_within_92 rfl ?_
          refine aw_icmp_ne (pt := 129) (pf := 96) dX13_within_93 (by decide) rfl (fun c_93 => ?_) (fun c_93 => ?_)
          · simp (disch := omega) only [if_pos, if_neg] at h1
            obtain ⟨⟨z1, r1⟩, g1, g2⟩ := Option.bind_eq_some_iff.mp h1
            have hg9 := (goes_s g1).1
            simp (disch := omega) only [sset_1, Option.some.injEq] at g2
            subst g2
            refine aw_aload_n (pc' := 130) rfl dX13_within_129 rfl ?_
            refine aw_dup (pc' := 131) rfl dX13_within_130 rfl ?_
            refine aw_geti (pc' := 134) (k9 := 33) dX13_within_131 rfl fX13_309 rfl (by decide) rfl (MO (A := (lift A s)) hM) ?_
            try simp (disch := omega) only [hv_in, lift_set, sset_e, sset_1, sset_2, workS_o, stagesS_o, beginsS_o]
            refine aw_iconst (pc' := 135) (by decide) dX13_within_134 rfl ?_
            refine aw_iadd (pc' := 136) rfl dX13_within_135 rfl ?_
            refine aw_puti (pc' := 139) (k9 := 33) dX13_within_136 rfl fX13_309 rfl rfl rfl (MO (A := (lift A s)) hM) ?_
            refine aw_aload_n (pc' := 140) rfl dX13_within_139 rfl ?_
            refine aw_getp (pc' := 143) (k9 := 29) (p := 328) dX13_within_140 rfl fX13_108 rfl rfl rfl (MO (A := (lift A s)) hM) (M_status (A := (lift A s)) hM) ?_
            refine aw_iload (pc' := 145) rfl dX13_within_143 rfl ?_
            refine aw_aload_n (pc' := 146) rfl dX13_within_145 rfl ?_
            refine aw_bipush (pc' := 148) (by decide +kernel) dX13_within_146 rfl ?_
            refine aw_aload_n (pc' := 149) rfl dX13_within_148 rfl ?_
            refine aw_getp (pc' := 152) (k9 := 14) (p := 321) dX13_within_149 rfl fX13_82 rfl rfl rfl (MO (A := (lift A s)) hM) (M_functions (A := (lift A s)) hM) ?_
            refine aw_aload_n (pc' := 153) rfl dX13_within_152 rfl ?_
            refine aw_getp (pc' := 156) (k9 := 6) (p := 314) dX13_within_153 rfl fX13_61 rfl rfl rfl (MO (A := (lift A s)) hM) (M_word (A := (lift A s)) hM) ?_
            refine aw_iload_n (pc' := 157) rfl dX13_within_156 rfl ?_
            refine aw_iald (pc' := 158) dX13_within_157 rfl (MA_word (A := (lift A s)) hM) (by omega) (by omega) ?_
            try simp (disch := omega) only [hv_in, lift_set, sset_e, sset_1, sset_2, workS_o, stagesS_o, beginsS_o]
            refine aw_bipush (pc' := 160) (by decide +kernel) dX13_within_158 rfl ?_
            refine aw_isub (pc' := 161) (by first | exact w32_id (by omega) (by omega) | rfl) dX13_within_160 rfl ?_
            refine aw_iald (pc' := 162) dX13_within_161 rfl (MA_functions (A := (lift A s)) hM) (by omega) (by omega) ?_
            try simp (disch := omega) only [hv_in, lift_set, sset_e, sset_1, sset_2, workS_o, stagesS_o, beginsS_o]
            refine aw_imul (pc' := 163) (by first | exact w32_id (by omega) (by omega) | rfl) dX13_within_162 rfl ?_
            refine aw_iload_n (pc' := 164) rfl dX13_within_163 rfl ?_
            refine aw_iload (pc' := 166) rfl dX13_within_164 rfl ?_
            refine aw_iload_n (pc' := 167) rfl dX13_within_166 rfl ?_
            refine aw_callV (ci := 11) (d' := d - 1) (as := [_, _, _, _]) (pc' := 170) (by decide) rfl kX13_goes iX13_goes sX13_goes lX13_305 (MO (A := (lift A s)) hM) dX13_within_167 rfl rfl (Nat.le_of_ble_eq_true rfl) (by omega) ?_
            rw [show childS fr = (fr + 1) from by unfold childS; first | exact if_pos (by omega) | exact if_neg (by omega)] at g1
            try simp (disch := omega) only [hv_in, lift_set, sset_e, sset_1, sset_2, workS_o, stagesS_o, beginsS_o]
            refine c_goes (by omega) hM hN g1 ?_
            refine aw_iast (pc' := 171) dX13_within_170 rfl (MA_status (A := (lift A s)) hM) (by omega) (by omega) ?_
            refine aw_aload_n (pc' := 172) rfl dX13_within_171 rfl ?_
            refine aw_dup (pc' := 173) rfl dX13_within_172 rfl ?_
            refine aw_geti (pc' := 176) (k9 := 33) dX13_within_173 rfl fX13_309 rfl (by decide) rfl (MO (A := (lift A s)) hM) ?_
            try simp (disch := omega) only [hv_in, lift_set, sset_e, sset_1, sset_2, workS_o, stagesS_o, beginsS_o]
            refine aw_iconst (pc' := 177) (by decide) dX13_within_176 rfl ?_
            refine aw_isub (pc' := 178) rfl dX13_within_177 rfl ?_
            refine aw_puti (pc' := 181) (k9 := 33) dX13_within_178 rfl fX13_309 rfl rfl rfl (MO (A := (lift A s)) hM) ?_
            try simp (disch := omega) only [hv_in, lift_set, sset_e, sset_1, sset_2, workS_o, stagesS_o, beginsS_o]
            exact l_wT hM hfr h2 hQ
          · replace c_93 := Classical.not_not.mp c_93
            refine aw_aload_n (pc' := 97) rfl dX13_within_96 rfl ?_
            refine aw_getp (pc' := 100) (k9 := 29) (p := 328) dX13_within_97 rfl fX13_108 rfl rfl rfl (MO (A := (lift A s)) hM) (M_status (A := (lift A s)) hM) ?_
            refine aw_iload (pc' := 102) rfl dX13_within_100 rfl ?_
            refine aw_aload_n (pc' := 103) rfl dX13_within_102 rfl ?_
            refine aw_getp (pc' := 106) (k9 := 14) (p := 321) dX13_within_103 rfl fX13_82 rfl rfl rfl (MO (A := (lift A s)) hM) (M_functions (A := (lift A s)) hM) ?_
            refine aw_aload_n (pc' := 107) rfl dX13_within_106 rfl ?_
            refine aw_getp (pc' := 110) (k9 := 6) (p := 314) dX13_within_107 rfl fX13_61 rfl rfl rfl (MO (A := (lift A s)) hM) (M_word (A := (lift A s)) hM) ?_
            refine aw_iload_n (pc' := 111) rfl dX13_within_110 rfl ?_
            refine aw_iald (pc' := 112) dX13_within_111 rfl (MA_word (A := (lift A s)) hM) (by omega) (by omega) ?_
            try simp (disch := omega) only [hv_in, lift_set, sset_e, sset_1, sset_2, workS_o, stagesS_o, beginsS_o]
            refine aw_bipush (pc' := 114) (by decide +kernel) dX13_within_112 rfl ?_
            refine aw_isub (pc' := 115) (by first | exact w32_id (by omega) (by omega) | rfl) dX13_within_114 rfl ?_
            refine aw_iald (pc' := 116) dX13_within_115 rfl (MA_functions (A := (lift A s)) hM) (by omega) (by omega) ?_
            try simp (disch := omega) only [hv_in, lift_set, sset_e, sset_1, sset_2, workS_o, stagesS_o, beginsS_o]
            refine aw_if_ge (pt := 123) (pf := 119) dX13_within_116 (by decide) rfl (fun c_116 => ?_) (fun c_116 => ?_)
            · refine aw_bipush (pc' := 125) (by decide +kernel) dX13_within_123 rfl ?_
              refine aw_iast (pc' := 126) dX13_within_125 rfl (MA_status (A := (lift A s)) hM) (by omega) (by omega) ?_
              refine aw_goto (pc' := 181) dX13_within_126 (by decide) ?_
              try simp (disch := omega) only [hv_in, lift_set, sset_e, sset_1, sset_2, workS_o, stagesS_o, beginsS_o]
              simp (disch := omega) only [if_pos, if_neg] at h1
              rw [Option.some.injEq] at h1
              subst h1
              first | (exfalso; omega) | exact l_wT hM hfr h2 hQ
            · refine aw_iconst (pc' := 120) (by decide) dX13_within_119 rfl ?_
              refine aw_goto (pc' := 125) dX13_within_120 (by decide) ?_
              refine aw_iast (pc' := 126) dX13_within_125 rfl (MA_status (A := (lift A s)) hM) (by omega) (by omega) ?_
              refine aw_goto (pc' := 181) dX13_within_126 (by decide) ?_
              try simp (disch := omega) only [hv_in, lift_set, sset_e, sset_1, sset_2, workS_o, stagesS_o, beginsS_o]
              simp (disch := omega) only [if_pos, if_neg] at h1
              rw [Option.some.injEq] at h1
              subst h1
              first | (exfalso; omega) | exact l_wT hM hfr h2 hQ
      · replace c_39 := Classical.not_not.mp c_39
        refine aw_aload_n (pc' := 43) rfl dX13_within_42 rfl ?_
        refine aw_getp (pc' := 46) (k9 := 29) (p := 328) dX13_within_43 rfl fX13_108 rfl rfl rfl (MO (A := (lift A s)) hM) (M_status (A := (lift A s)) hM) ?_
        refine aw_iload (pc' := 48) rfl dX13_within_46 rfl ?_
        refine aw_aload_n (pc' := 49) rfl dX13_within_48 rfl ?_
        refine aw_aload_n (pc' := 50) rfl dX13_within_49 rfl ?_
        refine aw_getp (pc' := 53) (k9 := 7) (p := 315) dX13_within_50 rfl fX13_64 rfl rfl rfl (MO (A := (lift A s)) hM) (M_inner (A := (lift A s)) hM) ?_
        refine aw_iload_n (pc' := 54) rfl dX13_within_53 rfl ?_
        refine aw_iald (pc' := 55) dX13_within_54 rfl (MA_inner (A := (lift A s)) hM) (by omega) (by omega) ?_
        try simp (disch := omega) only [hv_in, lift_set, sset_e, sset_1, sset_2, workS_o, stagesS_o, beginsS_o]
        refine aw_aload_n (pc' := 56) rfl dX13_within_55 rfl ?_
        refine aw_getp (pc' := 59) (k9 := 25) (p := 324) dX13_within_56 rfl fX13_95 rfl rfl rfl (MO (A := (lift A s)) hM) (M_parameter (A := (lift A s)) hM) ?_
        refine aw_iload_n (pc' := 60) rfl dX13_within_59 rfl ?_
        refine aw_iald (pc' := 61) dX13_within_60 rfl (MA_parameter (A := (lift A s)) hM) (by omega) (by omega) ?_
        try simp (disch := omega) only [hv_in, lift_set, sset_e, sset_1, sset_2, workS_o, stagesS_o, beginsS_o]
        refine aw_iload (pc' := 63) rfl dX13_within_61 rfl ?_
        refine aw_iload_n (pc' := 64) rfl dX13_within_63 rfl ?_
        refine aw_callV (ci := 11) (d' := d - 1) (as := [_, _, _, _]) (pc' := 67) (by decide) rfl kX13_goes iX13_goes sX13_goes lX13_305 (MO (A := (lift A s)) hM) dX13_within_64 rfl rfl (Nat.le_of_ble_eq_true rfl) (by omega) ?_
        simp (disch := omega) only [if_pos, if_neg] at h1
        obtain ⟨⟨z1, r1⟩, g1, g2⟩ := Option.bind_eq_some_iff.mp h1
        rw [Option.some.injEq] at g2
        subst g2
        rw [show childS fr = (fr + 1) from by unfold childS; first | exact if_pos (by omega) | exact if_neg (by omega)] at g1
        try simp (disch := omega) only [hv_in, lift_set, sset_e, sset_1, sset_2, workS_o, stagesS_o, beginsS_o]
        refine c_goes (by omega) hM hN g1 ?_
        refine aw_iast (pc' := 68) dX13_within_67 rfl (MA_status (A := (lift A s)) hM) (by omega) (by omega) ?_
        refine aw_goto (pc' := 181) dX13_within_68 (by decide) ?_
        try simp (disch := omega) only [hv_in, lift_set, sset_e, sset_1, sset_2, workS_o, stagesS_o, beginsS_o]
        exact l_wT hM hfr h2 hQ
  · refine aw_iconst (pc' := 13) (by decide) dX13_within_12 rfl ?_
    refine aw_goto (pc' := 19) dX13_within_13 (by decide) ?_
    refine aw_istore (pc' := 21) (lv' := [_, _, _, _, _, _]) dX13_within_19 rfl (by decide) rfl ?_
    refine aw_aload_n (pc' := 22) rfl dX13_within_21 rfl ?_
    refine aw_getp (pc' := 25) (k9 := 27) (p := 326) dX13_within_22 rfl fX13_101 rfl rfl rfl (MO (A := (lift A s)) hM) (M_place (A := (lift A s)) hM) ?_
    refine aw_iload (pc' := 27) rfl dX13_within_25 rfl ?_
    refine aw_iald (pc' := 28) dX13_within_27 rfl (MA_place (A := (lift A s)) hM) (by omega) (by omega) ?_
    try simp (disch := omega) only [hv_in, lift_set, sset_e, sset_1, sset_2, workS_o, stagesS_o, beginsS_o]
    refine aw_if_ne (pt := 181) (pf := 31) dX13_within_28 (by decide) rfl (fun c_28 => ?_) (fun c_28 => ?_)
    · try simp (disch := omega) only [hv_in, lift_set, sset_e, sset_1, sset_2, workS_o, stagesS_o, beginsS_o]
      simp (disch := omega) only [if_pos, if_neg] at h1
      rw [Option.some.injEq] at h1
      subst h1
      first | (exfalso; omega) | exact l_wT hM hfr h2 hQ
    · replace c_28 := Classical.not_not.mp c_28
      refine aw_aload_n (pc' := 32) rfl dX13_within_31 rfl ?_
      refine aw_getp (pc' := 35) (k9 := 6) (p := 314) dX13_within_32 rfl fX13_61 rfl rfl rfl (MO (A := (lift A s)) hM) (M_word (A := (lift A s)) hM) ?_
      refine aw_iload_n (pc' := 36) rfl dX13_within_35 rfl ?_
      refine aw_iald (pc' := 37) dX13_within_36 rfl (MA_word (A := (lift A s)) hM) (by omega) (by omega) ?_
      try simp (disch := omega) only [hv_in, lift_set, sset_e, sset_1, sset_2, workS_o, stagesS_o, beginsS_o]
      refine aw_bipush (pc' := 39) (by decide +kernel) dX13_within_37 rfl ?_
      refine aw_icmp_ne (pt := 71) (pf := 42) dX13_within_39 (by decide) rfl (fun c_39 => ?_) (fun c_39 => ?_)
      · refine aw_aload_n (pc' := 72) rfl dX13_within_71 rfl ?_
        refine aw_getp (pc' := 75) (k9 := 14) (p := 321) dX13_within_72 rfl fX13_82 rfl rfl rfl (MO (A := (lift A s)) hM) (M_functions (A := (lift A s)) hM) ?_
        refine aw_aload_n (pc' := 76) rfl dX13_within_75 rfl ?_
        refine aw_getp (pc' := 79) (k9 := 6) (p := 314) dX13_within_76 rfl fX13_61 rfl rfl rfl (MO (A := (lift A s)) hM) (M_word (A := (lift A s)) hM) ?_
        refine aw_iload_n (pc' := 80) rfl dX13_within_79 rfl ?_
        refine aw_iald (pc' := 81) dX13_within_80 rfl (MA_word (A := (lift A s)) hM) (by omega) (by omega) ?_
        try simp (disch := omega) only [hv_in, lift_set, sset_e, sset_1, sset_2, workS_o, stagesS_o, beginsS_o]
        refine aw_bipush (pc' := 83) (by decide +kernel) dX13_within_81 rfl ?_
        refine aw_isub (pc' := 84) (by first | exact w32_id (by omega) (by omega) | rfl) dX13_within_83 rfl ?_
        refine aw_iald (pc' := 85) dX13_within_84 rfl (MA_functions (A := (lift A s)) hM) (by omega) (by omega) ?_
        try simp (disch := omega) only [hv_in, lift_set, sset_e, sset_1, sset_2, workS_o, stagesS_o, beginsS_o]
        refine aw_if_lt (pt := 96) (pf := 88) dX13_within_85 (by decide) rfl (fun c_85 => ?_) (fun c_85 => ?_)
        · refine aw_aload_n (pc' := 97) rfl dX13_within_96 rfl ?_
          refine aw_getp (pc' := 100) (k9 := 29) (p := 328) dX13_within_97 rfl fX13_108 rfl rfl rfl (MO (A := (lift A s)) hM) (M_status (A := (lift A s)) hM) ?_
          refine aw_iload (pc' := 102) rfl dX13_within_100 rfl ?_
          refine aw_aload_n (pc' := 103) rfl dX13_within_102 rfl ?_
          refine aw_getp (pc' := 106) (k9 := 14) (p := 321) dX13_within_103 rfl fX13_82 rfl rfl rfl (MO (A := (lift A s)) hM) (M_functions (A := (lift A s)) hM) ?_
          refine aw_aload_n (pc' := 107) rfl dX13_within_106 rfl ?_
          refine aw_getp (pc' := 110) (k9 := 6) (p := 314) dX13_within_107 rfl fX13_61 rfl rfl rfl (MO (A := (lift A s)) hM) (M_word (A := (lift A s)) hM) ?_
          refine aw_iload_n (pc' := 111) rfl dX13_within_110 rfl ?_
          refine aw_iald (pc' := 112) dX13_within_111 rfl (MA_word (A := (lift A s)) hM) (by omega) (by omega) ?_
          try simp (disch := omega) only [hv_in, lift_set, sset_e, sset_1, sset_2, workS_o, stagesS_o, beginsS_o]
          refine aw_bipush (pc' := 114) (by decide +kernel) dX13_within_112 rfl ?_
          refine aw_isub (pc' := 115) (by first | exact w32_id (by omega) (by omega) | rfl) dX13_within_114 rfl ?_
          refine aw_iald (pc' := 116) dX13_within_115 rfl (MA_functions (A := (lift A s)) hM) (by omega) (by omega) ?_
          try simp (disch := omega) only [hv_in, lift_set, sset_e, sset_1, sset_2, workS_o, stagesS_o, beginsS_o]
          refine aw_if_ge (pt := 123) (pf := 119) dX13_within_116 (by decide) rfl (fun c_116 => ?_) (fun c_116 => ?_)
          · refine aw_bipush (pc' := 125) (by decide +kernel) dX13_within_123 rfl ?_
            refine aw_iast (pc' := 126) dX13_within_125 rfl (MA_status (A := (lift A s)) hM) (by omega) (by omega) ?_
            refine aw_goto (pc' := 181) dX13_within_126 (by decide) ?_
            try simp (disch := omega) only [hv_in, lift_set, sset_e, sset_1, sset_2, workS_o, stagesS_o, beginsS_o]
            simp (disch := omega) only [if_pos, if_neg] at h1
            rw [Option.some.injEq] at h1
            subst h1
            first | (exfalso; omega) | exact l_wT hM hfr h2 hQ
          · refine aw_iconst (pc' := 120) (by decide) dX13_within_119 rfl ?_
            refine aw_goto (pc' := 125) dX13_within_120 (by decide) ?_
            refine aw_iast (pc' := 126) dX13_within_125 rfl (MA_status (A := (lift A s)) hM) (by omega) (by omega) ?_
            refine aw_goto (pc' := 181) dX13_within_126 (by decide) ?_
            try simp (disch := omega) only [hv_in, lift_set, sset_e, sset_1, sset_2, workS_o, stagesS_o, beginsS_o]
            simp (disch := omega) only [if_pos, if_neg] at h1
            rw [Option.some.injEq] at h1
            subst h1
            first | (exfalso; omega) | exact l_wT hM hfr h2 hQ
        · refine aw_aload_n (pc' := 89) rfl dX13_within_88 rfl ?_
          refine aw_geti (pc' := 92) (k9 := 33) dX13_within_89 rfl fX13_309 rfl (by decide) rfl (MO (A := (lift A s)) hM) ?_
          try simp (disch := omega) only [hv_in, lift_set, sset_e, sset_1, sset_2, workS_o, stagesS_o, beginsS_o]
          refine aw_iconst (pc' := 93) (by decide) dX13_within_92 rfl ?_
          refine aw_icmp_ne (pt := 129) (pf := 96) dX13_within_93 (by decide) rfl (fun c_93 => ?_) (fun c_93 => ?_)
          · simp (disch := omega) only [if_pos, if_neg] at h1
            obtain ⟨⟨z1, r1⟩, g1, g2⟩ := Option.bind_eq_some_iff.mp h1
            have hg9 := (goes_s g1).1
            simp (disch := omega) only [sset_1, Option.some.injEq] at g2
            subst g2
            refine aw_aload_n (pc' := 130) rfl dX13_within_129 rfl ?_
            refine aw_dup (pc' := 131) rfl dX13_within_130 rfl ?_
            refine aw_geti (pc' := 134) (k9 := 33) dX13_within_131 rfl fX13_309 rfl (by decide) rfl (MO (A := (lift A s)) hM) ?_
            try simp (disch := omega) only [hv_in, lift_set, sset_e, sset_1, sset_2, workS_o, stagesS_o, beginsS_o]
            refine aw_iconst (pc' := 135) (by decide) dX13_within_134 rfl ?_
            refine aw_iadd (pc' := 136) rfl dX13_within_135 rfl ?_
            refine aw_puti (pc' := 139) (k9 := 33) dX13_within_136 rfl fX13_309 rfl rfl rfl (MO (A := (lift A s)) hM) ?_
            refine aw_aload_n (pc' := 140) rfl dX13_within_139 rfl ?_
            refine aw_getp (pc' := 143) (k9 := 29) (p := 328) dX13_within_140 rfl fX13_108 rfl rfl rfl (MO (A := (lift A s)) hM) (M_status (A := (lift A s)) hM) ?_
            refine aw_iload (pc' := 145) rfl dX13_within_143 rfl ?_
            refine aw_aload_n (pc' := 146) rfl dX13_within_145 rfl ?_
            refine aw_bipush (pc' := 148) (by decide +kernel) dX13_within_146 rfl ?_
            refine aw_aload_n (pc' := 149) rfl dX13_within_148 rfl ?_
            refine aw_getp (pc' := 152) (k9 := 14) (p := 321) dX13_within_149 rfl fX13_82 rfl rfl rfl (MO (A := (lift A s)) hM) (M_functions (A := (lift A s)) hM) ?_
            refine aw_aload_n (pc' := 153) rfl dX13_within_152 rfl ?_
            refine aw_getp (pc' := 156) (k9 := 6) (p := 314) dX13_within_153 rfl fX13_61 rfl rfl rfl (MO (A := (lift A s)) hM) (M_word (A := (lift A s)) hM) ?_
            refine aw_iload_n (pc' := 157) rfl dX13_within_156 rfl ?_
            refine aw_iald (pc' := 158) dX13_within_157 rfl (MA_word (A := (lift A s)) hM) (by omega) (by omega) ?_
            try simp (disch := omega) only [hv_in, lift_set, sset_e, sset_1, sset_2, workS_o, stagesS_o, beginsS_o]
            refine aw_bipush (pc' := 160) (by decide +kernel) dX13_within_158 rfl ?_
            refine aw_isub (pc' := 161) (by first | exact w32_id (by omega) (by omega) | rfl) dX13_within_160 rfl ?_
            refine aw_iald (pc' := 162) dX13_within_161 rfl (MA_functions (A := (lift A s)) hM) (by omega) (by omega) ?_
            try simp (disch := omega) only [hv_in, lift_set, sset_e, sset_1, sset_2, workS_o, stagesS_o, beginsS_o]
            refine aw_imul (pc' := 163) (by first | exact w32_id (by omega) (by omega) | rfl) dX13_within_162 rfl ?_
            refine aw_iload_n (pc' := 164) rfl dX13_within_163 rfl ?_
            refine aw_iload (pc' := 166) rfl dX13_within_164 rfl ?_
            refine aw_iload_n (pc' := 167) rfl dX13_within_166 rfl ?_
            refine aw_callV (ci := 11) (d' := d - 1) (as := [_, _, _, _]) (pc' := 170) (by decide) rfl kX13_goes iX13_goes sX13_goes lX13_305 (MO (A := (lift A s)) hM) dX13_within_167 rfl rfl (Nat.le_of_ble_eq_true rfl) (by omega) ?_
            rw [show childS fr = 0 from by unfold childS; first | exact if_pos (by omega) | exact if_neg (by omega)] at g1
            try simp (disch := omega) only [hv_in, lift_set, sset_e, sset_1, sset_2, workS_o, stagesS_o, beginsS_o]
            refine c_goes (by omega) hM hN g1 ?_
            refine aw_iast (pc' := 171) dX13_within_170 rfl (MA_status (A := (lift A s)) hM) (by omega) (by omega) ?_
            refine aw_aload_n (pc' := 172) rfl dX13_within_171 rfl ?_
            refine aw_dup (pc' := 173) rfl dX13_within_172 rfl ?_
            refine aw_geti (pc' := 176) (k9 := 33) dX13_within_173 rfl fX13_309 rfl (by decide) rfl (MO (A := (lift A s)) hM) ?_
            try simp (disch := omega) only [hv_in, lift_set, sset_e, sset_1, sset_2, workS_o, stagesS_o, beginsS_o]
            refine aw_iconst (pc' := 177) (by decide) dX13_within_176 rfl ?_
            refine aw_isub (pc' := 178) rfl dX13_within_177 rfl ?_
            refine aw_puti (pc' := 181) (k9 := 33) dX13_within_178 rfl fX13_309 rfl rfl rfl (MO (A := (lift A s)) hM) ?_
            try simp (disch := omega) only [hv_in, lift_set, sset_e, sset_1, sset_2, workS_o, stagesS_o, beginsS_o]
            exact l_wT hM hfr h2 hQ
          · replace c_93 := Classical.not_not.mp c_93
            refine aw_aload_n (pc' := 97) rfl dX13_within_96 rfl ?_
            refine aw_getp (pc' := 100) (k9 := 29) (p := 328) dX13_within_97 rfl fX13_108 rfl rfl rfl (MO (A := (lift A s)) hM) (M_status (A := (lift A s)) hM) ?_
            refine aw_iload (pc' := 102) rfl dX13_within_100 rfl ?_
            refine aw_aload_n (pc' := 103) rfl dX13_within_102 rfl ?_
            refine aw_getp (pc' := 106) (k9 := 14) (p := 321) dX13_within_103 rfl fX13_82 rfl rfl rfl (MO (A := (lift A s)) hM) (M_functions (A := (lift A s)) hM) ?_
            refine aw_aload_n (pc' := 107) rfl dX13_within_106 rfl ?_
            refine aw_getp (pc' := 110) (k9 := 6) (p := 314) dX13_within_107 rfl fX13_61 rfl rfl rfl (MO (A := (lift A s)) hM) (M_word (A := (lift A s)) hM) ?_
            refine aw_iload_n (pc' := 111) rfl dX13_within_110 rfl ?_
            refine aw_iald (pc' := 112) dX13_within_111 rfl (MA_word (A := (lift A s)) hM) (by omega) (by omega) ?_
            try simp (disch := omega) only [hv_in, lift_set, sset_e, sset_1, sset_2, workS_o, stagesS_o, beginsS_o]
            refine aw_bipush (pc' := 114) (by decide +kernel) dX13_within_112 rfl ?_
            refine aw_isub (pc' := 115) (by first | exact w32_id (by omega) (by omega) | rfl) dX13_within_114 rfl ?_
            refine aw_iald (pc' := 116) dX13_within_115 rfl (MA_functions (A := (lift A s)) hM) (by omega) (by omega) ?_
            try simp (disch := omega) only [hv_in, lift_set, sset_e, sset_1, sset_2, workS_o, stagesS_o, beginsS_o]
            refine aw_if_ge (pt := 123) (pf := 119) dX13_within_116 (by decide) rfl (fun c_116 => ?_) (fun c_116 => ?_)
            · refine aw_bipush (pc' := 125) (by decide +kernel) dX13_within_123 rfl ?_
              refine aw_iast (pc' := 126) dX13_within_125 rfl (MA_status (A := (lift A s)) hM) (by omega) (by omega) ?_
              refine aw_goto (pc' := 181) dX13_within_126 (by decide) ?_
              try simp (disch := omega) only [hv_in, lift_set, sset_e, sset_1, sset_2, workS_o, stagesS_o, beginsS_o]
              simp (disch := omega) only [if_pos, if_neg] at h1
              rw [Option.some.injEq] at h1
              subst h1
              first | (exfalso; omega) | exact l_wT hM hfr h2 hQ
            · refine aw_iconst (pc' := 120) (by decide) dX13_within_119 rfl ?_
              refine aw_goto (pc' := 125) dX13_within_120 (by decide) ?_
              refine aw_iast (pc' := 126) dX13_within_125 rfl (MA_status (A := (lift A s)) hM) (by omega) (by omega) ?_
              refine aw_goto (pc' := 181) dX13_within_126 (by decide) ?_
              try simp (disch := omega) only [hv_in, lift_set, sset_e, sset_1, sset_2, workS_o, stagesS_o, beginsS_o]
              simp (disch := omega) only [if_pos, if_neg] at h1
              rw [Option.some.injEq] at h1
              subst h1
              first | (exfalso; omega) | exact l_wT hM hfr h2 hQ
      · replace c_39 := Classical.not_not.mp c_39
        refine aw_aload_n (pc' := 43) rfl dX13_within_42 rfl ?_
        refine aw_getp (pc' := 46) (k9 := 29) (p := 328) dX13_within_43 rfl fX13_108 rfl rfl rfl (MO (A := (lift A s)) hM) (M_status (A := (lift A s)) hM) ?_
        refine aw_iload (pc' := 48) rfl dX13_within_46 rfl ?_
        refine aw_aload_n (pc' := 49) rfl dX13_within_48 rfl ?_
        refine aw_aload_n (pc' := 50) rfl dX13_within_49 rfl ?_
        refine aw_getp (pc' := 53) (k9 := 7) (p := 315) dX13_within_50 rfl fX13_64 rfl rfl rfl (MO (A := (lift A s)) hM) (M_inner (A := (lift A s)) hM) ?_
        refine aw_iload_n (pc' := 54) rfl dX13_within_53 rfl ?_
        refine aw_iald (pc' := 55) dX13_within_54 rfl (MA_inner (A := (lift A s)) hM) (by omega) (by omega) ?_
        try simp (disch := omega) only [hv_in, lift_set, sset_e, sset_1, sset_2, workS_o, stagesS_o, beginsS_o]
        refine aw_aload_n (pc' := 56) rfl dX13_within_55 rfl ?_
        refine aw_getp (pc' := 59) (k9 := 25) (p := 324) dX13_within_56 rfl fX13_95 rfl rfl rfl (MO (A := (lift A s)) hM) (M_parameter (A := (lift A s)) hM) ?_
        refine aw_iload_n (pc' := 60) rfl dX13_within_59 rfl ?_
        refine aw_iald (pc' := 61) dX13_within_60 rfl (MA_parameter (A := (lift A s)) hM) (by omega) (by omega) ?_
        try simp (disch := omega) only [hv_in, lift_set, sset_e, sset_1, sset_2, workS_o, stagesS_o, beginsS_o]
        refine aw_iload (pc' := 63) rfl dX13_within_61 rfl ?_
        refine aw_iload_n (pc' := 64) rfl dX13_within_63 rfl ?_
        refine aw_callV (ci := 11) (d' := d - 1) (as := [_, _, _, _]) (pc' := 67) (by decide) rfl kX13_goes iX13_goes sX13_goes lX13_305 (MO (A := (lift A s)) hM) dX13_within_64 rfl rfl (Nat.le_of_ble_eq_true rfl) (by omega) ?_
        simp (disch := omega) only [if_pos, if_neg] at h1
        obtain ⟨⟨z1, r1⟩, g1, g2⟩ := Option.bind_eq_some_iff.mp h1
        rw [Option.some.injEq] at g2
        subst g2
        rw [show childS fr = 0 from by unfold childS; first | exact if_pos (by omega) | exact if_neg (by omega)] at g1
        try simp (disch := omega) only [hv_in, lift_set, sset_e, sset_1, sset_2, workS_o, stagesS_o, beginsS_o]
        refine c_goes (by omega) hM hN g1 ?_
        refine aw_iast (pc' := 68) dX13_within_67 rfl (MA_status (A := (lift A s)) hM) (by omega) (by omega) ?_
        refine aw_goto (pc' := 181) dX13_within_68 (by decide) ?_
        try simp (disch := omega) only [hv_in, lift_set, sset_e, sset_1, sset_2, workS_o, stagesS_o, beginsS_o]
        exact l_wT hM hfr h2 hQ
