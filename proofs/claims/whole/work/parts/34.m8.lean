/-! ===== the reference: asked, next ===== -/
theorem c_keeps {d : Nat} {nx : Sg → Int → Int → Option (Int × Sg)} {K : Nat} {fr k n x : Int} {s t : Sg} {A : AHp} {Q : Option AV → AHp → Prop} (hd : K + 2 ≤ d) (hM : MLAY A) (hN : NXC nx K) (hk : 0 ≤ k ∧ k ≤ 5) (h : keepsS nx fr k n 200 s = some (x, t)) (hQ : Q (some (vl x)) (lift A t)) : CALL d mX13_keeps [vr 307, vi fr, vi k, vi n] (lift A s) Q := by
  refine CALL.of (by decide) (Nat.le_of_ble_eq_true rfl) ?_
  change AW d mX13_keeps 0 [some (vr 307), some (vi fr), some (vi k), some (vi n), none, none] [] (lift A s) Q
  exact l_keeps 200 s hd hM hN hk h hQ none none
set_option maxRecDepth 20000 in
theorem c_asked {d : Nat} {nx : Sg → Int → Int → Option (Int × Sg)} {K : Nat} {fr k st n x : Int} {t : Sg} {A : AHp} {s : Sg} {Q : Option AV → AHp → Prop} (hd : K + 5 ≤ d) (hM : MLAY A) (hMin : ∀ (d : Nat) (A : AHp) (a b : Int) (Q : Option AV → AHp → Prop), Q (some (vi (min a b))) A → CALL d mJ9_min_7cf53 [vi a, vi b] A Q) (hN : NXC nx K) (hfr : 0 ≤ fr ∧ fr < 28) (hk : 0 ≤ k ∧ k ≤ 5) (hst : 0 ≤ st ∧ st < 480) (hw : 0 ≤ s 314 st ∧ s 314 st ≤ 14) (hm : 0 ≤ s 316 st ∧ s 316 st ≤ 4) (h : askedS nx fr k st n s = some (x, t)) (hQ : Q (some (vl x)) (lift A t)) : CALL d mX13_asked [vr 307, vi fr, vi k, vi st, vi n] (lift A s) Q := by
  refine CALL.of (by decide) (Nat.le_of_ble_eq_true rfl) ?_
  change AW d mX13_asked 0 [some (vr 307), some (vi fr), some (vi k), some (vi st), some (vi n), none, none, none] [] (lift A s) Q
  have hg0 : s 314 st = 0 → 0 ≤ s 326 (6 * fr + k) ∧ s 326 (6 * fr + k) ≤ 4 := by
    intro e
    unfold askedS at h
    rw [if_pos e] at h
    exact (grd_some h).1
  refine aw_bipush (pc' := 2) (by decide +kernel) dX13_asked_0 rfl ?_
  refine aw_iload_n (pc' := 3) rfl dX13_asked_2 rfl ?_
  refine aw_imul (pc' := 4) (by first | exact w32_id (by omega) (by omega) | rfl) dX13_asked_3 rfl ?_
  refine aw_iload_n (pc' := 5) rfl dX13_asked_4 rfl ?_
  refine aw_iadd (pc' := 6) (by first | exact w32_id (by omega) (by omega) | rfl) dX13_asked_5 rfl ?_
  refine aw_istore (pc' := 8) (lv' := [_, _, _, _, _, _, _, _]) dX13_asked_6 rfl (by decide) rfl ?_
  refine aw_aload_n (pc' := 9) rfl dX13_asked_8 rfl ?_
  refine aw_getp (pc' := 12) (k9 := 6) (p := 314) dX13_asked_9 rfl fX13_61 rfl rfl rfl (MO (A := (lift A s)) hM) (M_word (A := (lift A s)) hM) ?_
  refine aw_iload_n (pc' := 13) rfl dX13_asked_12 rfl ?_
  refine aw_iald (pc' := 14) dX13_asked_13 rfl (MA_word (A := (lift A s)) hM) (by omega) (by omega) ?_
  try simp (disch := omega) only [hv_in, lift_set, sset_e, sset_1, sset_2, workS_o, stagesS_o, beginsS_o]
  by_cases z_14_0 : s 314 st = 0
  · refine aw_tabIn (pc' := 72) dX13_asked_14 (by omega) (by omega) (off := 58) (by rw [z_14_0]; rfl) (by decide) ?_
    refine aw_aload_n (pc' := 73) rfl dX13_asked_72 rfl ?_
    refine aw_getp (pc' := 76) (k9 := 27) (p := 326) dX13_asked_73 rfl fX13_101 rfl rfl rfl (MO (A := (lift A s)) hM) (M_place (A := (lift A s)) hM) ?_
    refine aw_iload (pc' := 78) rfl dX13_asked_76 rfl ?_
    refine aw_dup2 (pc' := 79) rfl rfl dX13_asked_78 rfl ?_
    refine aw_iald (pc' := 80) dX13_asked_79 rfl (MA_place (A := (lift A s)) hM) (by omega) (by omega) ?_
    try simp (disch := omega) only [hv_in, lift_set, sset_e, sset_1, sset_2, workS_o, stagesS_o, beginsS_o]
    refine aw_iconst (pc' := 81) (by decide) dX13_asked_80 rfl ?_
    refine aw_iadd (pc' := 82) (by first | exact w32_id (by omega) (by omega) | rfl) dX13_asked_81 rfl ?_
    refine aw_iast (pc' := 83) dX13_asked_82 rfl (MA_place (A := (lift A s)) hM) (by omega) (by omega) ?_
    refine aw_aload_n (pc' := 84) rfl dX13_asked_83 rfl ?_
    refine aw_getp (pc' := 87) (k9 := 27) (p := 326) dX13_asked_84 rfl fX13_101 rfl rfl rfl (MO (A := (lift A s)) hM) (M_place (A := (lift A s)) hM) ?_
    refine aw_iload (pc' := 89) rfl dX13_asked_87 rfl ?_
    refine aw_iald (pc' := 90) dX13_asked_89 rfl (MA_place (A := (lift A s)) hM) (by omega) (by omega) ?_
    try simp (disch := omega) only [hv_in, lift_set, sset_e, sset_1, sset_2, workS_o, stagesS_o, beginsS_o]
    refine aw_aload_n (pc' := 91) rfl dX13_asked_90 rfl ?_
    refine aw_getp (pc' := 94) (k9 := 8) (p := 316) dX13_asked_91 rfl fX13_67 rfl rfl rfl (MO (A := (lift A s)) hM) (M_many (A := (lift A s)) hM) ?_
    refine aw_iload_n (pc' := 95) rfl dX13_asked_94 rfl ?_
    refine aw_iald (pc' := 96) dX13_asked_95 rfl (MA_many (A := (lift A s)) hM) (by omega) (by omega) ?_
    try simp (disch := omega) only [hv_in, lift_set, sset_e, sset_1, sset_2, workS_o, stagesS_o, beginsS_o]
    refine aw_icmp_gt (pt := 126) (pf := 99) dX13_asked_96 (by decide) rfl (fun c_96 => ?_) (fun c_96 => ?_)
    · refine aw_ldc2 (x := (-9223372036854775808)) (pc' := 129) qX13_267 (by decide) dX13_asked_126 rfl ?_
      refine AW.ret (some (vl _)) dX13_asked_129 trivial ?_
      unfold askedS at h
      simp (disch := omega) only [if_pos, if_neg] at h
      obtain ⟨_, h⟩ := grd_some h
      rw [w32_id (by omega) (by omega)] at h
      simp (disch := omega) only [sset_e, sset_1, Option.bind_some, Option.some.injEq, Prod.mk.injEq, if_pos, if_neg] at h
      obtain ⟨q1, q2⟩ := h
      subst q1 q2
      try simp (disch := omega) only [hv_in, lift_set, sset_e, sset_1, sset_2, workS_o, stagesS_o, beginsS_o]
      try simp (disch := omega) only [if_pos, if_neg] at hQ
      first | (exfalso; omega) | exact hQ
    · refine aw_aload_n (pc' := 100) rfl dX13_asked_99 rfl ?_
      refine aw_getp (pc' := 103) (k9 := 26) (p := 325) dX13_asked_100 rfl fX13_98 rfl rfl rfl (MO (A := (lift A s)) hM) (M_worked (A := (lift A s)) hM) ?_
      refine aw_bipush (pc' := 105) (by decide +kernel) dX13_asked_103 rfl ?_
      refine aw_iload_n (pc' := 106) rfl dX13_asked_105 rfl ?_
      refine aw_imul (pc' := 107) (by first | exact w32_id (by omega) (by omega) | rfl) dX13_asked_106 rfl ?_
      refine aw_iconst (pc' := 108) (by decide) dX13_asked_107 rfl ?_
      refine aw_iload_n (pc' := 109) rfl dX13_asked_108 rfl ?_
      refine aw_imul (pc' := 110) (by first | exact w32_id (by omega) (by omega) | rfl) dX13_asked_109 rfl ?_
      refine aw_iadd (pc' := 111) (by first | exact w32_id (by omega) (by omega) | rfl) dX13_asked_110 rfl ?_
      refine aw_aload_n (pc' := 112) rfl dX13_asked_111 rfl ?_
      refine aw_getp (pc' := 115) (k9 := 27) (p := 326) dX13_asked_112 rfl fX13_101 rfl rfl rfl (MO (A := (lift A s)) hM) (M_place (A := (lift A s)) hM) ?_
      refine aw_iload (pc' := 117) rfl dX13_asked_115 rfl ?_
      refine aw_iald (pc' := 118) dX13_asked_117 rfl (MA_place (A := (lift A s)) hM) (by omega) (by omega) ?_
      try simp (disch := omega) only [hv_in, lift_set, sset_e, sset_1, sset_2, workS_o, stagesS_o, beginsS_o]
      refine aw_iadd (pc' := 119) (by first | exact w32_id (by omega) (by omega) | rfl) dX13_asked_118 rfl ?_
      refine aw_iconst (pc' := 120) (by decide) dX13_asked_119 rfl ?_
      refine aw_isub (pc' := 121) (by first | exact w32_id (by omega) (by omega) | rfl) dX13_asked_120 rfl ?_
      refine aw_iald (pc' := 122) dX13_asked_121 rfl (MA_worked (A := (lift A s)) hM) (by omega) (by omega) ?_
      try simp (disch := omega) only [hv_in, lift_set, sset_e, sset_1, sset_2, workS_o, stagesS_o, beginsS_o]
      refine aw_i2l (pc' := 123) dX13_asked_122 rfl ?_
      refine aw_goto (pc' := 129) dX13_asked_123 (by decide) ?_
      refine AW.ret (some (vl _)) dX13_asked_129 trivial ?_
      unfold askedS at h
      simp (disch := omega) only [if_pos, if_neg] at h
      obtain ⟨_, h⟩ := grd_some h
      rw [w32_id (by omega) (by omega)] at h
      simp (disch := omega) only [sset_e, sset_1, Option.bind_some, Option.some.injEq, Prod.mk.injEq, if_pos, if_neg] at h
      obtain ⟨q1, q2⟩ := h
      subst q1 q2
      try simp (disch := omega) only [hv_in, lift_set, sset_e, sset_1, sset_2, workS_o, stagesS_o, beginsS_o]
      try simp (disch := omega) only [if_pos, if_neg] at hQ
      first | (exfalso; omega) | exact hQ
  by_cases z_14_1 : s 314 st = 1
  · refine aw_tabIn (pc' := 130) dX13_asked_14 (by omega) (by omega) (off := 116) (by rw [z_14_1]; rfl) (by decide) ?_
    refine aw_aload_n (pc' := 131) rfl dX13_asked_130 rfl ?_
    refine aw_getp (pc' := 134) (k9 := 27) (p := 326) dX13_asked_131 rfl fX13_101 rfl rfl rfl (MO (A := (lift A s)) hM) (M_place (A := (lift A s)) hM) ?_
    refine aw_iload (pc' := 136) rfl dX13_asked_134 rfl ?_
    refine aw_dup2 (pc' := 137) rfl rfl dX13_asked_136 rfl ?_
    refine aw_iald (pc' := 138) dX13_asked_137 rfl (MA_place (A := (lift A s)) hM) (by omega) (by omega) ?_
    try simp (disch := omega) only [hv_in, lift_set, sset_e, sset_1, sset_2, workS_o, stagesS_o, beginsS_o]
    refine aw_iconst (pc' := 139) (by decide) dX13_asked_138 rfl ?_
    refine aw_iadd (pc' := 140) (by first | exact w32_id (by omega) (by omega) | rfl) dX13_asked_139 rfl ?_
    refine aw_iast (pc' := 141) dX13_asked_140 rfl (MA_place (A := (lift A s)) hM) (by omega) (by omega) ?_
    refine aw_aload_n (pc' := 142) rfl dX13_asked_141 rfl ?_
    refine aw_getp (pc' := 145) (k9 := 27) (p := 326) dX13_asked_142 rfl fX13_101 rfl rfl rfl (MO (A := (lift A s)) hM) (M_place (A := (lift A s)) hM) ?_
    refine aw_iload (pc' := 147) rfl dX13_asked_145 rfl ?_
    refine aw_iald (pc' := 148) dX13_asked_147 rfl (MA_place (A := (lift A s)) hM) (by omega) (by omega) ?_
    try simp (disch := omega) only [hv_in, lift_set, sset_e, sset_1, sset_2, workS_o, stagesS_o, beginsS_o]
    refine aw_iload (pc' := 150) rfl dX13_asked_148 rfl ?_
    refine aw_bipush (pc' := 152) (by decide +kernel) dX13_asked_150 rfl ?_
    refine aw_callS (d' := d - 1) (as := [_, _]) (pc' := 155) kJ9_min_7cf53 tJ9_min_7cf53 lX13_286 dX13_asked_152 rfl rfl (Nat.le_of_ble_eq_true rfl) (by omega) ?_
    refine hMin _ _ _ _ _ ?_
    refine aw_icmp_gt (pt := 169) (pf := 158) dX13_asked_155 (by decide) rfl (fun c_155 => ?_) (fun c_155 => ?_)
    · refine aw_ldc2 (x := (-9223372036854775808)) (pc' := 172) qX13_267 (by decide) dX13_asked_169 rfl ?_
      refine AW.ret (some (vl _)) dX13_asked_172 trivial ?_
      unfold askedS at h
      simp (disch := omega) only [if_pos, if_neg] at h
      simp (disch := omega) only [sset_e, sset_1, Option.bind_some, Option.some.injEq, Prod.mk.injEq, if_pos, if_neg] at h
      obtain ⟨q1, q2⟩ := h
      subst q1 q2
      try simp (disch := omega) only [hv_in, lift_set, sset_e, sset_1, sset_2, workS_o, stagesS_o, beginsS_o]
      try simp (disch := omega) only [if_pos, if_neg] at hQ
      first | (exfalso; omega) | exact hQ
    · refine aw_aload_n (pc' := 159) rfl dX13_asked_158 rfl ?_
      refine aw_getp (pc' := 162) (k9 := 27) (p := 326) dX13_asked_159 rfl fX13_101 rfl rfl rfl (MO (A := (lift A s)) hM) (M_place (A := (lift A s)) hM) ?_
      refine aw_iload (pc' := 164) rfl dX13_asked_162 rfl ?_
      refine aw_iald (pc' := 165) dX13_asked_164 rfl (MA_place (A := (lift A s)) hM) (by omega) (by omega) ?_
      try simp (disch := omega) only [hv_in, lift_set, sset_e, sset_1, sset_2, workS_o, stagesS_o, beginsS_o]
      refine aw_i2l (pc' := 166) dX13_asked_165 rfl ?_
      refine aw_goto (pc' := 172) dX13_asked_166 (by decide) ?_
      refine AW.ret (some (vl _)) dX13_asked_172 trivial ?_
      unfold askedS at h
      simp (disch := omega) only [if_pos, if_neg] at h
      simp (disch := omega) only [sset_e, sset_1, Option.bind_some, Option.some.injEq, Prod.mk.injEq, if_pos, if_neg] at h
      obtain ⟨q1, q2⟩ := h
      subst q1 q2
      try simp (disch := omega) only [hv_in, lift_set, sset_e, sset_1, sset_2, workS_o, stagesS_o, beginsS_o]
      try simp (disch := omega) only [if_pos, if_neg] at hQ
      first | (exfalso; omega) | exact hQ
  by_cases z_14_2 : s 314 st = 2
  · refine aw_tabIn (pc' := 173) dX13_asked_14 (by omega) (by omega) (off := 159) (by rw [z_14_2]; rfl) (by decide) ?_
    refine aw_aload_n (pc' := 174) rfl dX13_asked_173 rfl ?_
    refine aw_iload_n (pc' := 175) rfl dX13_asked_174 rfl ?_
    refine aw_iload_n (pc' := 176) rfl dX13_asked_175 rfl ?_
    refine aw_callV (ci := 11) (d' := d - 1) (as := [_, _]) (pc' := 179) (by decide) rfl kX13_ahead iX13_ahead sX13_ahead lX13_289 (MO (A := (lift A s)) hM) dX13_asked_176 rfl rfl (Nat.le_of_ble_eq_true rfl) (by omega) ?_
    unfold askedS at h
    simp (disch := omega) only [if_pos, if_neg] at h
    obtain ⟨⟨x1, r1⟩, g1, g2⟩ := Option.bind_eq_some_iff.mp h
    simp only [Option.some.injEq, Prod.mk.injEq] at g2
    obtain ⟨q1, q2⟩ := g2
    subst q1 q2
    refine c_ahead (by omega) hM hN hk g1 ?_
    refine aw_lstore (pc' := 181) (lv' := [_, _, _, _, _, _, _, _]) dX13_asked_179 rfl (by decide) rfl ?_
    refine aw_lload (pc' := 183) rfl dX13_asked_181 rfl ?_
    refine aw_ldc2 (x := (-9223372036854775808)) (pc' := 186) qX13_267 (by decide) dX13_asked_183 rfl ?_
    refine aw_lcmp (pc' := 187) dX13_asked_186 rfl ?_
    refine aw_if_ne (pt := 196) (pf := 190) dX13_asked_187 (by decide) rfl (fun c_187 => ?_) (fun c_187 => ?_)
    · replace c_187 := (not_congr cmp_eq).mp c_187
      refine aw_aload_n (pc' := 197) rfl dX13_asked_196 rfl ?_
      refine aw_getp (pc' := 200) (k9 := 6) (p := 314) dX13_asked_197 rfl fX13_61 rfl rfl rfl (MO (A := (lift A s)) hM) (M_word (A := (lift A s)) hM) ?_
      refine aw_iload_n (pc' := 201) rfl dX13_asked_200 rfl ?_
      refine aw_iald (pc' := 202) dX13_asked_201 rfl (MA_word (A := (lift A s)) hM) (by omega) (by omega) ?_
      try simp (disch := omega) only [hv_in, lift_set, sset_e, sset_1, sset_2, workS_o, stagesS_o, beginsS_o]
      refine aw_iconst (pc' := 203) (by decide) dX13_asked_202 rfl ?_
      refine aw_icmp_ne (pt := 216) (pf := 206) dX13_asked_203 (by decide) rfl (fun c_203 => ?_) (fun c_203 => ?_)
      · refine aw_lload (pc' := 218) rfl dX13_asked_216 rfl ?_
        refine aw_l2i (pc' := 219) rfl dX13_asked_218 rfl ?_
        refine aw_iload (pc' := 221) rfl dX13_asked_219 rfl ?_
        refine aw_imul (pc' := 222) rfl dX13_asked_221 rfl ?_
        refine aw_i2l (pc' := 223) dX13_asked_222 rfl ?_
        refine AW.ret (some (vl _)) dX13_asked_223 trivial ?_
        try simp (disch := omega) only [hv_in, lift_set, sset_e, sset_1, sset_2, workS_o, stagesS_o, beginsS_o]
        try simp (disch := omega) only [if_pos, if_neg] at hQ
        first | (exfalso; omega) | exact hQ
      · replace c_203 := Classical.not_not.mp c_203
        refine aw_lload (pc' := 208) rfl dX13_asked_206 rfl ?_
        refine aw_l2i (pc' := 209) rfl dX13_asked_208 rfl ?_
        refine aw_iload (pc' := 211) rfl dX13_asked_209 rfl ?_
        refine aw_iadd (pc' := 212) rfl dX13_asked_211 rfl ?_
        refine aw_i2l (pc' := 213) dX13_asked_212 rfl ?_
        refine aw_goto (pc' := 223) dX13_asked_213 (by decide) ?_
        refine AW.ret (some (vl _)) dX13_asked_223 trivial ?_
        try simp (disch := omega) only [hv_in, lift_set, sset_e, sset_1, sset_2, workS_o, stagesS_o, beginsS_o]
        try simp (disch := omega) only [if_pos, if_neg] at hQ
        first | (exfalso; omega) | exact hQ
    · replace c_187 := Classical.not_not.mp c_187
      replace c_187 := (cmp_eq).mp c_187
      refine aw_ldc2 (x := (-9223372036854775808)) (pc' := 193) qX13_267 (by decide) dX13_asked_190 rfl ?_
      refine aw_goto (pc' := 223) dX13_asked_193 (by decide) ?_
      refine AW.ret (some (vl _)) dX13_asked_223 trivial ?_
      try simp (disch := omega) only [hv_in, lift_set, sset_e, sset_1, sset_2, workS_o, stagesS_o, beginsS_o]
      try simp (disch := omega) only [if_pos, if_neg] at hQ
      first | (exfalso; omega) | exact hQ
  by_cases z_14_3 : s 314 st = 3
  · refine aw_tabIn (pc' := 173) dX13_asked_14 (by omega) (by omega) (off := 159) (by rw [z_14_3]; rfl) (by decide) ?_
    refine aw_aload_n (pc' := 174) rfl dX13_asked_173 rfl ?_
    refine aw_iload_n (pc' := 175) rfl dX13_asked_174 rfl ?_
    refine aw_iload_n (pc' := 176) rfl dX13_asked_175 rfl ?_
    refine aw_callV (ci := 11) (d' := d - 1) (as := [_, _]) (pc' := 179) (by decide) rfl kX13_ahead iX13_ahead sX13_ahead lX13_289 (MO (A := (lift A s)) hM) dX13_asked_176 rfl rfl (Nat.le_of_ble_eq_true rfl) (by omega) ?_
    unfold askedS at h
    simp (disch := omega) only [if_pos, if_neg] at h
    obtain ⟨⟨x1, r1⟩, g1, g2⟩ := Option.bind_eq_some_iff.mp h
    simp only [Option.some.injEq, Prod.mk.injEq] at g2
    obtain ⟨q1, q2⟩ := g2
    subst q1 q2
    refine c_ahead (by omega) hM hN hk g1 ?_
    refine aw_lstore (pc' := 181) (lv' := [_, _, _, _, _, _, _, _]) dX13_asked_179 rfl (by decide) rfl ?_
    refine aw_lload (pc' := 183) rfl dX13_asked_181 rfl ?_
    refine aw_ldc2 (x := (-9223372036854775808)) (pc' := 186) qX13_267 (by decide) dX13_asked_183 rfl ?_
    refine aw_lcmp (pc' := 187) dX13_asked_186 rfl ?_
    refine aw_if_ne (pt := 196) (pf := 190) dX13_asked_187 (by decide) rfl (fun c_187 => ?_) (fun c_187 => ?_)
    · replace c_187 := (not_congr cmp_eq).mp c_187
      refine aw_aload_n (pc' := 197) rfl dX13_asked_196 rfl ?_
      refine aw_getp (pc' := 200) (k9 := 6) (p := 314) dX13_asked_197 rfl fX13_61 rfl rfl rfl (MO (A := (lift A s)) hM) (M_word (A := (lift A s)) hM) ?_
      refine aw_iload_n (pc' := 201) rfl dX13_asked_200 rfl ?_
      refine aw_iald (pc' := 202) dX13_asked_201 rfl (MA_word (A := (lift A s)) hM) (by omega) (by omega) ?_
      try simp (disch := omega) only [hv_in, lift_set, sset_e, sset_1, sset_2, workS_o, stagesS_o, beginsS_o]
      refine aw_iconst (pc' := 203) (by decide) dX13_asked_202 rfl ?_
      refine aw_icmp_ne (pt := 216) (pf := 206) dX13_asked_203 (by decide) rfl (fun c_203 => ?_) (fun c_203 => ?_)
      · refine aw_lload (pc' := 218) rfl dX13_asked_216 rfl ?_
        refine aw_l2i (pc' := 219) rfl dX13_asked_218 rfl ?_
        refine aw_iload (pc' := 221) rfl dX13_asked_219 rfl ?_
        refine aw_imul (pc' := 222) rfl dX13_asked_221 rfl ?_
        refine aw_i2l (pc' := 223) dX13_asked_222 rfl ?_
        refine AW.ret (some (vl _)) dX13_asked_223 trivial ?_
        try simp (disch := omega) only [hv_in, lift_set, sset_e, sset_1, sset_2, workS_o, stagesS_o, beginsS_o]
        try simp (disch := omega) only [if_pos, if_neg] at hQ
        first | (exfalso; omega) | exact hQ
      · replace c_203 := Classical.not_not.mp c_203
        refine aw_lload (pc' := 208) rfl dX13_asked_206 rfl ?_
        refine aw_l2i (pc' := 209) rfl dX13_asked_208 rfl ?_
        refine aw_iload (pc' := 211) rfl dX13_asked_209 rfl ?_
        refine aw_iadd (pc' := 212) rfl dX13_asked_211 rfl ?_
        refine aw_i2l (pc' := 213) dX13_asked_212 rfl ?_
        refine aw_goto (pc' := 223) dX13_asked_213 (by decide) ?_
        refine AW.ret (some (vl _)) dX13_asked_223 trivial ?_
        try simp (disch := omega) only [hv_in, lift_set, sset_e, sset_1, sset_2, workS_o, stagesS_o, beginsS_o]
        try simp (disch := omega) only [if_pos, if_neg] at hQ
        first | (exfalso; omega) | exact hQ
    · replace c_187 := Classical.not_not.mp c_187
      replace c_187 := (cmp_eq).mp c_187
      refine aw_ldc2 (x := (-9223372036854775808)) (pc' := 193) qX13_267 (by decide) dX13_asked_190 rfl ?_
      refine aw_goto (pc' := 223) dX13_asked_193 (by decide) ?_
      refine AW.ret (some (vl _)) dX13_asked_223 trivial ?_
      try simp (disch := omega) only [hv_in, lift_set, sset_e, sset_1, sset_2, workS_o, stagesS_o, beginsS_o]
      try simp (disch := omega) only [if_pos, if_neg] at hQ
      first | (exfalso; omega) | exact hQ
  by_cases z_14_4 : s 314 st = 4
  · refine aw_tabIn (pc' := 224) dX13_asked_14 (by omega) (by omega) (off := 210) (by rw [z_14_4]; rfl) (by decide) ?_
    refine aw_iload (pc' := 226) rfl dX13_asked_224 rfl ?_
    refine aw_if_ne (pt := 235) (pf := 229) dX13_asked_226 (by decide) rfl (fun c_226 => ?_) (fun c_226 => ?_)
    · refine aw_aload_n (pc' := 236) rfl dX13_asked_235 rfl ?_
      refine aw_iload_n (pc' := 237) rfl dX13_asked_236 rfl ?_
      refine aw_iload_n (pc' := 238) rfl dX13_asked_237 rfl ?_
      refine aw_callV (ci := 11) (d' := d - 1) (as := [_, _]) (pc' := 241) (by decide) rfl kX13_ahead iX13_ahead sX13_ahead lX13_289 (MO (A := (lift A s)) hM) dX13_asked_238 rfl rfl (Nat.le_of_ble_eq_true rfl) (by omega) ?_
      unfold askedS at h
      simp (disch := omega) only [if_pos, if_neg] at h
      obtain ⟨⟨x1, r1⟩, g1, g2⟩ := Option.bind_eq_some_iff.mp h
      simp only [Option.some.injEq, Prod.mk.injEq] at g2
      obtain ⟨q1, q2⟩ := g2
      subst q1 q2
      refine c_ahead (by omega) hM hN hk g1 ?_
      refine aw_lstore (pc' := 243) (lv' := [_, _, _, _, _, _, _, _]) dX13_asked_241 rfl (by decide) rfl ?_
      refine aw_lload (pc' := 245) rfl dX13_asked_243 rfl ?_
      refine aw_ldc2 (x := (-9223372036854775808)) (pc' := 248) qX13_267 (by decide) dX13_asked_245 rfl ?_
      refine aw_lcmp (pc' := 249) dX13_asked_248 rfl ?_
      refine aw_if_ne (pt := 258) (pf := 252) dX13_asked_249 (by decide) rfl (fun c_249 => ?_) (fun c_249 => ?_)
      · replace c_249 := (not_congr cmp_eq).mp c_249
        refine aw_lload (pc' := 260) rfl dX13_asked_258 rfl ?_
        refine aw_iload (pc' := 262) rfl dX13_asked_260 rfl ?_
        refine aw_i2l (pc' := 263) dX13_asked_262 rfl ?_
        refine aw_lrem (pc' := 264) (by omega) rfl dX13_asked_263 rfl ?_
        refine AW.ret (some (vl _)) dX13_asked_264 trivial ?_
        first
        | (exfalso; omega)
        | ((try simp (disch := omega) only [hv_in, lift_set, sset_e, sset_1, sset_2, workS_o, stagesS_o, beginsS_o]); (try simp (disch := omega) only [if_pos, if_neg] at hQ); exact hQ)
        | (unfold askedS at h; simp (disch := omega) only [if_pos, if_neg] at h; simp (disch := omega) only [sset_e, sset_1, Option.bind_some, Option.some.injEq, Prod.mk.injEq, if_pos, if_neg] at h; obtain ⟨q1, q2⟩ := h; subst q1 q2; (try simp (disch := omega) only [hv_in, lift_set, sset_e, sset_1, sset_2, workS_o, stagesS_o, beginsS_o]); (try simp (disch := omega) only [if_pos, if_neg] at hQ); exact hQ)
      · replace c_249 := Classical.not_not.mp c_249
        replace c_249 := (cmp_eq).mp c_249
        refine aw_ldc2 (x := (-9223372036854775808)) (pc' := 255) qX13_267 (by decide) dX13_asked_252 rfl ?_
        refine aw_goto (pc' := 264) dX13_asked_255 (by decide) ?_
        refine AW.ret (some (vl _)) dX13_asked_264 trivial ?_
        first
        | (exfalso; omega)
        | ((try simp (disch := omega) only [hv_in, lift_set, sset_e, sset_1, sset_2, workS_o, stagesS_o, beginsS_o]); (try simp (disch := omega) only [if_pos, if_neg] at hQ); exact hQ)
        | (unfold askedS at h; simp (disch := omega) only [if_pos, if_neg] at h; simp (disch := omega) only [sset_e, sset_1, Option.bind_some, Option.some.injEq, Prod.mk.injEq, if_pos, if_neg] at h; obtain ⟨q1, q2⟩ := h; subst q1 q2; (try simp (disch := omega) only [hv_in, lift_set, sset_e, sset_1, sset_2, workS_o, stagesS_o, beginsS_o]); (try simp (disch := omega) only [if_pos, if_neg] at hQ); exact hQ)
    · replace c_226 := Classical.not_not.mp c_226
      refine aw_ldc2 (x := (-9223372036854775808)) (pc' := 232) qX13_267 (by decide) dX13_asked_229 rfl ?_
      refine aw_goto (pc' := 241) dX13_asked_232 (by decide) ?_
      refine aw_lstore (pc' := 243) (lv' := [_, _, _, _, _, _, _, _]) dX13_asked_241 rfl (by decide) rfl ?_
      refine aw_lload (pc' := 245) rfl dX13_asked_243 rfl ?_
      refine aw_ldc2 (x := (-9223372036854775808)) (pc' := 248) qX13_267 (by decide) dX13_asked_245 rfl ?_
      refine aw_lcmp (pc' := 249) dX13_asked_248 rfl ?_
      refine aw_if_ne (pt := 258) (pf := 252) dX13_asked_249 (by decide) rfl (fun c_249 => ?_) (fun c_249 => ?_)
      · replace c_249 := (not_congr cmp_eq).mp c_249
        refine aw_lload (pc' := 260) rfl dX13_asked_258 rfl ?_
        refine aw_iload (pc' := 262) rfl dX13_asked_260 rfl ?_
        refine aw_i2l (pc' := 263) dX13_asked_262 rfl ?_
        refine aw_lrem (pc' := 264) (by omega) rfl dX13_asked_263 rfl ?_
        refine AW.ret (some (vl _)) dX13_asked_264 trivial ?_
        first
        | (exfalso; omega)
        | ((try simp (disch := omega) only [hv_in, lift_set, sset_e, sset_1, sset_2, workS_o, stagesS_o, beginsS_o]); (try simp (disch := omega) only [if_pos, if_neg] at hQ); exact hQ)
        | (unfold askedS at h; simp (disch := omega) only [if_pos, if_neg] at h; simp (disch := omega) only [sset_e, sset_1, Option.bind_some, Option.some.injEq, Prod.mk.injEq, if_pos, if_neg] at h; obtain ⟨q1, q2⟩ := h; subst q1 q2; (try simp (disch := omega) only [hv_in, lift_set, sset_e, sset_1, sset_2, workS_o, stagesS_o, beginsS_o]); (try simp (disch := omega) only [if_pos, if_neg] at hQ); exact hQ)
      · replace c_249 := Classical.not_not.mp c_249
        replace c_249 := (cmp_eq).mp c_249
        refine aw_ldc2 (x := (-9223372036854775808)) (pc' := 255) qX13_267 (by decide) dX13_asked_252 rfl ?_
        refine aw_goto (pc' := 264) dX13_asked_255 (by decide) ?_
        refine AW.ret (some (vl _)) dX13_asked_264 trivial ?_
        first
        | (exfalso; omega)
        | ((try simp (disch := omega) only [hv_in, lift_set, sset_e, sset_1, sset_2, workS_o, stagesS_o, beginsS_o]); (try simp (disch := omega) only [if_pos, if_neg] at hQ); exact hQ)
        | (unfold askedS at h; simp (disch := omega) only [if_pos, if_neg] at h; simp (disch := omega) only [sset_e, sset_1, Option.bind_some, Option.some.injEq, Prod.mk.injEq, if_pos, if_neg] at h; obtain ⟨q1, q2⟩ := h; subst q1 q2; (try simp (disch := omega) only [hv_in, lift_set, sset_e, sset_1, sset_2, workS_o, stagesS_o, beginsS_o]); (try simp (disch := omega) only [if_pos, if_neg] at hQ); exact hQ)
  by_cases z_14_5 : s 314 st = 5
  · refine aw_tabIn (pc' := 265) dX13_asked_14 (by omega) (by omega) (off := 251) (by rw [z_14_5]; rfl) (by decide) ?_
    refine aw_aload_n (pc' := 266) rfl dX13_asked_265 rfl ?_
    refine aw_iload_n (pc' := 267) rfl dX13_asked_266 rfl ?_
    refine aw_iload_n (pc' := 268) rfl dX13_asked_267 rfl ?_
    refine aw_iload (pc' := 270) rfl dX13_asked_268 rfl ?_
    refine aw_callV (ci := 11) (d' := d - 1) (as := [_, _, _]) (pc' := 273) (by decide) rfl kX13_keeps iX13_keeps sX13_keeps lX13_292 (MO (A := (lift A s)) hM) dX13_asked_270 rfl rfl (Nat.le_of_ble_eq_true rfl) (by omega) ?_
    unfold askedS at h
    simp (disch := omega) only [if_pos, if_neg] at h
    refine c_keeps (by omega) hM hN hk h ?_
    refine AW.ret (some (vl _)) dX13_asked_273 trivial ?_
    exact hQ
  by_cases z_14_6 : s 314 st = 6
  · refine aw_tabIn (pc' := 274) dX13_asked_14 (by omega) (by omega) (off := 260) (by rw [z_14_6]; rfl) (by decide) ?_
    refine aw_aload_n (pc' := 275) rfl dX13_asked_274 rfl ?_
    refine aw_getp (pc' := 278) (k9 := 27) (p := 326) dX13_asked_275 rfl fX13_101 rfl rfl rfl (MO (A := (lift A s)) hM) (M_place (A := (lift A s)) hM) ?_
    refine aw_iload (pc' := 280) rfl dX13_asked_278 rfl ?_
    refine aw_iald (pc' := 281) dX13_asked_280 rfl (MA_place (A := (lift A s)) hM) (by omega) (by omega) ?_
    try simp (disch := omega) only [hv_in, lift_set, sset_e, sset_1, sset_2, workS_o, stagesS_o, beginsS_o]
    refine aw_iload (pc' := 283) rfl dX13_asked_281 rfl ?_
    refine aw_icmp_lt (pt := 292) (pf := 286) dX13_asked_283 (by decide) rfl (fun c_283 => ?_) (fun c_283 => ?_)
    · refine aw_aload_n (pc' := 293) rfl dX13_asked_292 rfl ?_
      refine aw_iload_n (pc' := 294) rfl dX13_asked_293 rfl ?_
      refine aw_iload_n (pc' := 295) rfl dX13_asked_294 rfl ?_
      refine aw_callV (ci := 11) (d' := d - 1) (as := [_, _]) (pc' := 298) (by decide) rfl kX13_ahead iX13_ahead sX13_ahead lX13_289 (MO (A := (lift A s)) hM) dX13_asked_295 rfl rfl (Nat.le_of_ble_eq_true rfl) (by omega) ?_
      unfold askedS at h
      simp (disch := omega) only [if_pos, if_neg] at h
      obtain ⟨⟨x1, r1⟩, g1, g2⟩ := Option.bind_eq_some_iff.mp h
      simp only [Option.some.injEq, Prod.mk.injEq] at g2
      obtain ⟨q1, q2⟩ := g2
      subst q1 q2
      refine c_ahead (by omega) hM hN hk g1 ?_
      refine aw_lstore (pc' := 300) (lv' := [_, _, _, _, _, _, _, _]) dX13_asked_298 rfl (by decide) rfl ?_
      refine aw_aload_n (pc' := 301) rfl dX13_asked_300 rfl ?_
      refine aw_getp (pc' := 304) (k9 := 27) (p := 326) dX13_asked_301 rfl fX13_101 rfl rfl rfl (MO (A := (lift A s)) hM) (M_place (A := (lift A s)) hM) ?_
      refine aw_iload (pc' := 306) rfl dX13_asked_304 rfl ?_
      refine aw_dup2 (pc' := 307) rfl rfl dX13_asked_306 rfl ?_
      refine aw_iald (pc' := 308) dX13_asked_307 rfl (MA_place (A := (lift A s)) hM) (by omega) (by omega) ?_
      try simp (disch := omega) only [hv_in, lift_set, sset_e, sset_1, sset_2, workS_o, stagesS_o, beginsS_o]
      refine aw_lload (pc' := 310) rfl dX13_asked_308 rfl ?_
      refine aw_ldc2 (x := (-9223372036854775808)) (pc' := 313) qX13_267 (by decide) dX13_asked_310 rfl ?_
      refine aw_lcmp (pc' := 314) dX13_asked_313 rfl ?_
      refine aw_if_ne (pt := 321) (pf := 317) dX13_asked_314 (by decide) rfl (fun c_314 => ?_) (fun c_314 => ?_)
      · replace c_314 := (not_congr cmp_eq).mp c_314
        refine aw_iconst (pc' := 322) (by decide) dX13_asked_321 rfl ?_
        refine aw_iadd (pc' := 323) (by first | exact w32_id (by omega) (by omega) | rfl) dX13_asked_322 rfl ?_
        refine aw_iast (pc' := 324) dX13_asked_323 rfl (MA_place (A := (lift A s)) hM) (by omega) (by omega) ?_
        refine aw_lload (pc' := 326) rfl dX13_asked_324 rfl ?_
        refine AW.ret (some (vl _)) dX13_asked_326 trivial ?_
        first
        | (exfalso; omega)
        | ((try simp (disch := omega) only [hv_in, lift_set, sset_e, sset_1, sset_2, workS_o, stagesS_o, beginsS_o]); (try simp (disch := omega) only [if_pos, if_neg] at hQ); exact hQ)
        | (unfold askedS at h; simp (disch := omega) only [if_pos, if_neg] at h; simp (disch := omega) only [sset_e, sset_1, Option.bind_some, Option.some.injEq, Prod.mk.injEq, if_pos, if_neg] at h; obtain ⟨q1, q2⟩ := h; subst q1 q2; (try simp (disch := omega) only [hv_in, lift_set, sset_e, sset_1, sset_2, workS_o, stagesS_o, beginsS_o]); (try simp (disch := omega) only [if_pos, if_neg] at hQ); exact hQ)
      · replace c_314 := Classical.not_not.mp c_314
        replace c_314 := (cmp_eq).mp c_314
        refine aw_iconst (pc' := 318) (by decide) dX13_asked_317 rfl ?_
        refine aw_goto (pc' := 322) dX13_asked_318 (by decide) ?_
        refine aw_iadd (pc' := 323) (by first | exact w32_id (by omega) (by omega) | rfl) dX13_asked_322 rfl ?_
        refine aw_iast (pc' := 324) dX13_asked_323 rfl (MA_place (A := (lift A s)) hM) (by omega) (by omega) ?_
        refine aw_lload (pc' := 326) rfl dX13_asked_324 rfl ?_
        refine AW.ret (some (vl _)) dX13_asked_326 trivial ?_
        first
        | (exfalso; omega)
        | ((try simp (disch := omega) only [hv_in, lift_set, sset_e, sset_1, sset_2, workS_o, stagesS_o, beginsS_o]); (try simp (disch := omega) only [if_pos, if_neg] at hQ); exact hQ)
        | (unfold askedS at h; simp (disch := omega) only [if_pos, if_neg] at h; simp (disch := omega) only [sset_e, sset_1, Option.bind_some, Option.some.injEq, Prod.mk.injEq, if_pos, if_neg] at h; obtain ⟨q1, q2⟩ := h; subst q1 q2; (try simp (disch := omega) only [hv_in, lift_set, sset_e, sset_1, sset_2, workS_o, stagesS_o, beginsS_o]); (try simp (disch := omega) only [if_pos, if_neg] at hQ); exact hQ)
    · refine aw_ldc2 (x := (-9223372036854775808)) (pc' := 289) qX13_267 (by decide) dX13_asked_286 rfl ?_
      refine aw_goto (pc' := 298) dX13_asked_289 (by decide) ?_
      refine aw_lstore (pc' := 300) (lv' := [_, _, _, _, _, _, _, _]) dX13_asked_298 rfl (by decide) rfl ?_
      refine aw_aload_n (pc' := 301) rfl dX13_asked_300 rfl ?_
      refine aw_getp (pc' := 304) (k9 := 27) (p := 326) dX13_asked_301 rfl fX13_101 rfl rfl rfl (MO (A := (lift A s)) hM) (M_place (A := (lift A s)) hM) ?_
      refine aw_iload (pc' := 306) rfl dX13_asked_304 rfl ?_
      refine aw_dup2 (pc' := 307) rfl rfl dX13_asked_306 rfl ?_
      refine aw_iald (pc' := 308) dX13_asked_307 rfl (MA_place (A := (lift A s)) hM) (by omega) (by omega) ?_
      try simp (disch := omega) only [hv_in, lift_set, sset_e, sset_1, sset_2, workS_o, stagesS_o, beginsS_o]
      refine aw_lload (pc' := 310) rfl dX13_asked_308 rfl ?_
      refine aw_ldc2 (x := (-9223372036854775808)) (pc' := 313) qX13_267 (by decide) dX13_asked_310 rfl ?_
      refine aw_lcmp (pc' := 314) dX13_asked_313 rfl ?_
      refine aw_if_ne (pt := 321) (pf := 317) dX13_asked_314 (by decide) rfl (fun c_314 => ?_) (fun c_314 => ?_)
      · replace c_314 := (not_congr cmp_eq).mp c_314
        refine aw_iconst (pc' := 322) (by decide) dX13_asked_321 rfl ?_
        refine aw_iadd (pc' := 323) (by first | exact w32_id (by omega) (by omega) | rfl) dX13_asked_322 rfl ?_
        refine aw_iast (pc' := 324) dX13_asked_323 rfl (MA_place (A := (lift A s)) hM) (by omega) (by omega) ?_
        refine aw_lload (pc' := 326) rfl dX13_asked_324 rfl ?_
        refine AW.ret (some (vl _)) dX13_asked_326 trivial ?_
        first
        | (exfalso; omega)
        | ((try simp (disch := omega) only [hv_in, lift_set, sset_e, sset_1, sset_2, workS_o, stagesS_o, beginsS_o]); (try simp (disch := omega) only [if_pos, if_neg] at hQ); exact hQ)
        | (unfold askedS at h; simp (disch := omega) only [if_pos, if_neg] at h; simp (disch := omega) only [sset_e, sset_1, Option.bind_some, Option.some.injEq, Prod.mk.injEq, if_pos, if_neg] at h; obtain ⟨q1, q2⟩ := h; subst q1 q2; (try simp (disch := omega) only [hv_in, lift_set, sset_e, sset_1, sset_2, workS_o, stagesS_o, beginsS_o]); (try simp (disch := omega) only [if_pos, if_neg] at hQ); exact hQ)
      · replace c_314 := Classical.not_not.mp c_314
        replace c_314 := (cmp_eq).mp c_314
        refine aw_iconst (pc' := 318) (by decide) dX13_asked_317 rfl ?_
        refine aw_goto (pc' := 322) dX13_asked_318 (by decide) ?_
        refine aw_iadd (pc' := 323) (by first | exact w32_id (by omega) (by omega) | rfl) dX13_asked_322 rfl ?_
        refine aw_iast (pc' := 324) dX13_asked_323 rfl (MA_place (A := (lift A s)) hM) (by omega) (by omega) ?_
        refine aw_lload (pc' := 326) rfl dX13_asked_324 rfl ?_
        refine AW.ret (some (vl _)) dX13_asked_326 trivial ?_
        first
        | (exfalso; omega)
        | ((try simp (disch := omega) only [hv_in, lift_set, sset_e, sset_1, sset_2, workS_o, stagesS_o, beginsS_o]); (try simp (disch := omega) only [if_pos, if_neg] at hQ); exact hQ)
        | (unfold askedS at h; simp (disch := omega) only [if_pos, if_neg] at h; simp (disch := omega) only [sset_e, sset_1, Option.bind_some, Option.some.injEq, Prod.mk.injEq, if_pos, if_neg] at h; obtain ⟨q1, q2⟩ := h; subst q1 q2; (try simp (disch := omega) only [hv_in, lift_set, sset_e, sset_1, sset_2, workS_o, stagesS_o, beginsS_o]); (try simp (disch := omega) only [if_pos, if_neg] at hQ); exact hQ)
  by_cases z_14_7 : s 314 st = 7
  · refine aw_tabIn (pc' := 327) dX13_asked_14 (by omega) (by omega) (off := 313) (by rw [z_14_7]; rfl) (by decide) ?_
    refine aw_aload_n (pc' := 328) rfl dX13_asked_327 rfl ?_
    refine aw_iload_n (pc' := 329) rfl dX13_asked_328 rfl ?_
    refine aw_iload_n (pc' := 330) rfl dX13_asked_329 rfl ?_
    refine aw_callV (ci := 11) (d' := d - 1) (as := [_, _]) (pc' := 333) (by decide) rfl kX13_sums iX13_sums sX13_sums lX13_296 (MO (A := (lift A s)) hM) dX13_asked_330 rfl rfl (Nat.le_of_ble_eq_true rfl) (by omega) ?_
    unfold askedS at h
    simp (disch := omega) only [if_pos, if_neg] at h
    refine c_sums (by omega) hM hN hfr hk h ?_
    refine AW.ret (some (vl _)) dX13_asked_333 trivial ?_
    exact hQ
  by_cases z_14_8 : s 314 st = 8
  · refine aw_tabIn (pc' := 334) dX13_asked_14 (by omega) (by omega) (off := 320) (by rw [z_14_8]; rfl) (by decide) ?_
    refine aw_aload_n (pc' := 335) rfl dX13_asked_334 rfl ?_
    refine aw_iload_n (pc' := 336) rfl dX13_asked_335 rfl ?_
    refine aw_iload_n (pc' := 337) rfl dX13_asked_336 rfl ?_
    refine aw_aload_n (pc' := 338) rfl dX13_asked_337 rfl ?_
    refine aw_getp (pc' := 341) (k9 := 7) (p := 315) dX13_asked_338 rfl fX13_64 rfl rfl rfl (MO (A := (lift A s)) hM) (M_inner (A := (lift A s)) hM) ?_
    refine aw_iload_n (pc' := 342) rfl dX13_asked_341 rfl ?_
    refine aw_iald (pc' := 343) dX13_asked_342 rfl (MA_inner (A := (lift A s)) hM) (by omega) (by omega) ?_
    try simp (disch := omega) only [hv_in, lift_set, sset_e, sset_1, sset_2, workS_o, stagesS_o, beginsS_o]
    refine aw_callV (ci := 11) (d' := d - 1) (as := [_, _, _]) (pc' := 346) (by decide) rfl kX13_sets iX13_sets sX13_sets lX13_299 (MO (A := (lift A s)) hM) dX13_asked_343 rfl rfl (Nat.le_of_ble_eq_true rfl) (by omega) ?_
    unfold askedS at h
    simp (disch := omega) only [if_pos, if_neg] at h
    obtain ⟨hg, h⟩ := grd_some h
    obtain ⟨⟨z1, r1⟩, g1, g2⟩ := Option.bind_eq_some_iff.mp h
    simp only [Option.some.injEq, Prod.mk.injEq] at g2
    obtain ⟨q1, q2⟩ := g2
    subst q1 q2
    refine c_sets (by omega) hM hN hfr hk hg g1 ?_
    refine AW.ret (some (vl _)) dX13_asked_346 trivial ?_
    exact hQ
  by_cases z_14_9 : s 314 st = 9
  · refine aw_tabIn (pc' := 347) dX13_asked_14 (by omega) (by omega) (off := 333) (by rw [z_14_9]; rfl) (by decide) ?_
    refine aw_ldc2 (x := (-9223372036854775808)) (pc' := 350) qX13_267 (by decide) dX13_asked_347 rfl ?_
    refine AW.ret (some (vl _)) dX13_asked_350 trivial ?_
    unfold askedS at h
    simp (disch := omega) only [if_pos, if_neg] at h
    simp (disch := omega) only [sset_e, sset_1, Option.bind_some, Option.some.injEq, Prod.mk.injEq, if_pos, if_neg] at h
    obtain ⟨q1, q2⟩ := h
    subst q1 q2
    try simp (disch := omega) only [hv_in, lift_set, sset_e, sset_1, sset_2, workS_o, stagesS_o, beginsS_o]
    try simp (disch := omega) only [if_pos, if_neg] at hQ
    first | (exfalso; omega) | exact hQ
  by_cases z_14_10 : s 314 st = 10
  · refine aw_tabIn (pc' := 347) dX13_asked_14 (by omega) (by omega) (off := 333) (by rw [z_14_10]; rfl) (by decide) ?_
    refine aw_ldc2 (x := (-9223372036854775808)) (pc' := 350) qX13_267 (by decide) dX13_asked_347 rfl ?_
    refine AW.ret (some (vl _)) dX13_asked_350 trivial ?_
    unfold askedS at h
    simp (disch := omega) only [if_pos, if_neg] at h
    simp (disch := omega) only [sset_e, sset_1, Option.bind_some, Option.some.injEq, Prod.mk.injEq, if_pos, if_neg] at h
    obtain ⟨q1, q2⟩ := h
    subst q1 q2
    try simp (disch := omega) only [hv_in, lift_set, sset_e, sset_1, sset_2, workS_o, stagesS_o, beginsS_o]
    try simp (disch := omega) only [if_pos, if_neg] at hQ
    first | (exfalso; omega) | exact hQ
  refine aw_tabOut (pc' := 351) dX13_asked_14 (by omega) (by decide) ?_
  refine aw_aload_n (pc' := 352) rfl dX13_asked_351 rfl ?_
  refine aw_iload_n (pc' := 353) rfl dX13_asked_352 rfl ?_
  refine aw_iload_n (pc' := 354) rfl dX13_asked_353 rfl ?_
  refine aw_iload (pc' := 356) rfl dX13_asked_354 rfl ?_
  refine aw_callV (ci := 11) (d' := d - 1) (as := [_, _, _]) (pc' := 359) (by decide) rfl kX13_within iX13_within sX13_within lX13_302 (MO (A := (lift A s)) hM) dX13_asked_356 rfl rfl (Nat.le_of_ble_eq_true rfl) (by omega) ?_
  unfold askedS at h
  simp (disch := omega) only [if_pos, if_neg] at h
  refine c_within (by omega) hM hN hfr hst (by omega) h ?_
  refine AW.ret (some (vl _)) dX13_asked_359 trivial ?_
  exact hQ
