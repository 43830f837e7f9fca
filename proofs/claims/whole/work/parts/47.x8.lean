/-! ===== the class: a stage is asked ===== -/
def askX (v : Sg) (fo so o k : Int) : Int × Sg :=
  if o = 1 then (if v (fo + 2) k < v so 2 then (v (fo + 1) (k * 4 + v (fo + 2) k), sset v (fo + 2) k (w32 (v (fo + 2) k + 1))) else ((-9223372036854775808), sset v (fo + 3) k 1)) else
  if o = 2 then (if v (fo + 2) k < min (v (fo + 1) (k * 4)) 99 then (v (fo + 2) k + 1, sset v (fo + 2) k (w32 (v (fo + 2) k + 1))) else ((-9223372036854775808), sset v (fo + 3) k 1)) else
  if 12 ≤ o then (if v (fo + 2) k < v (fo + 5) 1 then (v (fo + 5 + 1) (v (fo + 2) k), sset v (fo + 2) k (w32 (v (fo + 2) k + 1))) else ((-9223372036854775808), sset v (fo + 3) k 1)) else
  if o = 10 ∨ o = 11 then ((-9223372036854775808), sset v (fo + 3) k 1) else
  if o = 5 then (if v (fo + 1) (k * 4) = 0 then ((-9223372036854775808), sset v (fo + 3) k 1) else (9223372036854775807, v)) else
  if o = 7 then (if v (fo + 2) k < v (fo + 1) (k * 4) then (9223372036854775807, v) else ((-9223372036854775808), sset v (fo + 3) k 1)) else
  (9223372036854775807, v)
/-- what the machine needs of a state for a stage to answer -/
def ASO (v : Sg) (fo o k : Int) : Prop := ((o = 1 ∨ o = 2 ∨ 12 ≤ o) → 0 ≤ v (fo + 2) k ∧ v (fo + 2) k ≤ 100) ∧ (12 ≤ o → 0 ≤ v (fo + 5) 1 ∧ v (fo + 5) 1 ≤ 60)
set_option maxRecDepth 20000 in
theorem x_askT {d : Nat} {A : AHp} {v : Sg} {ko fo so o k lev : Int} {Q : Option AV → AHp → Prop} (hd : 2 ≤ d) (hF : FrameAt A fo) (hfo : 66 < fo ∧ fo < 300 ∧ (fo < 201 ∨ 266 < fo)) (hk : 0 ≤ k ∧ k < 6) (hSt : STG A v so) (ho : hp A so 0 = o) (hA : ASO v fo o k) (hQ : Q (some (vl (askX v fo so o k).1)) (cl A (askX v fo so o k).2)) : AW d mX4_asked 69 [some (vr 64), some (vr ko), some (vr fo), some (vi k), some (vi lev), some (vr so), none, none] [] (cl A v) Q := by
  obtain ⟨z1, z2, z3, z4, z5, z6, z7⟩ := id hSt
  rw [ho] at z3
  obtain ⟨ha1, ha2⟩ := hA
  refine aw_aload_n (pc' := 70) rfl dX4_asked_69 rfl ?_
  refine aw_getp (pc' := 73) (k9 := 6) (p := (fo + 2)) dX4_asked_70 rfl fX4_127 rfl rfl rfl hF.1 hF.2.2.1.1 ?_
  refine aw_iload_n (pc' := 74) rfl dX4_asked_73 rfl ?_
  refine aw_iald (pc' := 75) dX4_asked_74 rfl hF.2.2.1.2 (by omega) (by omega) ?_
  try simp (disch := omega) only [hv_cl, cl_set, sset_e, sset_1, sset_2]
  refine aw_istore (pc' := 77) (lv' := [_, _, _, _, _, _, _, _]) dX4_asked_75 rfl (by decide) rfl ?_
  refine aw_aload_n (pc' := 78) rfl dX4_asked_77 rfl ?_
  refine aw_getp (pc' := 81) (k9 := 5) (p := (fo + 1)) dX4_asked_78 rfl fX4_117 rfl rfl rfl hF.1 hF.2.1.1 ?_
  refine aw_iload_n (pc' := 82) rfl dX4_asked_81 rfl ?_
  refine aw_iconst (pc' := 83) (by decide) dX4_asked_82 rfl ?_
  refine aw_imul (pc' := 84) (by first | exact w32_id (by omega) (by omega) | rfl) dX4_asked_83 rfl ?_
  refine aw_iald (pc' := 85) dX4_asked_84 rfl hF.2.1.2 (by omega) (by omega) ?_
  try simp (disch := omega) only [hv_cl, cl_set, sset_e, sset_1, sset_2]
  refine aw_istore (pc' := 87) (lv' := [_, _, _, _, _, _, _, _]) dX4_asked_85 rfl (by decide) rfl ?_
  refine aw_gsS (pc' := 90) fX4_152 dX4_asked_87 rfl ?_
  refine aw_aload (pc' := 92) rfl dX4_asked_90 rfl ?_
  refine aw_getp (pc' := 95) (k9 := 0) (p := o) dX4_asked_92 rfl fX4_134 rfl rfl rfl hSt.2.1 ho ?_
  refine aw_callOrd (d' := d - 1) (pc' := 98) kJx29ce0_ordinal_8abf5 rfl (w_ordAll lX4_157) (by omega) (by omega) dX4_asked_95 rfl (Nat.le_of_ble_eq_true rfl) (by omega) (c_ordinal (by omega) (by omega) (by omega) ?_)
  refine aw_sw (pc' := 99) (by omega) (by omega) dX4_asked_98 rfl ?_
  have hsw := sw_tab z3.1 z3.2
  generalize swL.getD (o - 1).toNat 0 = y9 at hsw ⊢
  try simp (disch := omega) only [hv_cl, cl_set, sset_e, sset_1, sset_2]
  by_cases z_99_0 : y9 = 1
  · refine aw_tabIn (pc' := 258) dX4_asked_99 (by omega) (by omega) (off := 159) (by rw [z_99_0]; rfl) (by decide) ?_
    refine aw_aload_n (pc' := 259) rfl dX4_asked_258 rfl ?_
    refine aw_iload_n (pc' := 260) rfl dX4_asked_259 rfl ?_
    refine aw_callS (d' := d - 1) (as := [_, _]) (pc' := 263) kX4_end tX4_end lX4_188 dX4_asked_260 rfl rfl (Nat.le_of_ble_eq_true rfl) (by omega) ?_
    refine x_end (by omega) hF hk ?_
    refine AW.ret (some (vl _)) dX4_asked_263 trivial ?_
    try simp (disch := omega) only [hv_cl, cl_set, sset_e, sset_1, sset_2]
    unfold askX at hQ
    try simp (disch := omega) only [if_pos, if_neg] at hQ
    first | exact hQ | (exfalso; omega)
  by_cases z_99_1 : y9 = 2
  · refine aw_tabIn (pc' := 264) dX4_asked_99 (by omega) (by omega) (off := 165) (by rw [z_99_1]; rfl) (by decide) ?_
    refine aw_iload (pc' := 266) rfl dX4_asked_264 rfl ?_
    refine aw_if_ne (pt := 277) (pf := 269) dX4_asked_266 (by decide) rfl (fun c_266 => ?_) (fun c_266 => ?_)
    · refine aw_ldc2 (x := (9223372036854775807)) (pc' := 280) qX4_167 (by decide) dX4_asked_277 rfl ?_
      refine AW.ret (some (vl _)) dX4_asked_280 trivial ?_
      try simp (disch := omega) only [hv_cl, cl_set, sset_e, sset_1, sset_2]
      unfold askX at hQ
      try simp (disch := omega) only [if_pos, if_neg] at hQ
      first | exact hQ | (exfalso; omega)
    · replace c_266 := Classical.not_not.mp c_266
      refine aw_aload_n (pc' := 270) rfl dX4_asked_269 rfl ?_
      refine aw_iload_n (pc' := 271) rfl dX4_asked_270 rfl ?_
      refine aw_callS (d' := d - 1) (as := [_, _]) (pc' := 274) kX4_end tX4_end lX4_188 dX4_asked_271 rfl rfl (Nat.le_of_ble_eq_true rfl) (by omega) ?_
      refine x_end (by omega) hF hk ?_
      refine aw_goto (pc' := 280) dX4_asked_274 (by decide) ?_
      refine AW.ret (some (vl _)) dX4_asked_280 trivial ?_
      try simp (disch := omega) only [hv_cl, cl_set, sset_e, sset_1, sset_2]
      unfold askX at hQ
      try simp (disch := omega) only [if_pos, if_neg] at hQ
      first | exact hQ | (exfalso; omega)
  by_cases z_99_2 : y9 = 3
  · refine aw_tabIn (pc' := 300) dX4_asked_99 (by omega) (by omega) (off := 201) (by rw [z_99_2]; rfl) (by decide) ?_
    refine aw_ldc2 (x := (9223372036854775807)) (pc' := 303) qX4_167 (by decide) dX4_asked_300 rfl ?_
    refine AW.ret (some (vl _)) dX4_asked_303 trivial ?_
    try simp (disch := omega) only [hv_cl, cl_set, sset_e, sset_1, sset_2]
    unfold askX at hQ
    try simp (disch := omega) only [if_pos, if_neg] at hQ
    first | exact hQ | (exfalso; omega)
  by_cases z_99_3 : y9 = 4
  · refine aw_tabIn (pc' := 156) dX4_asked_99 (by omega) (by omega) (off := 57) (by rw [z_99_3]; rfl) (by decide) ?_
    refine aw_iload (pc' := 158) rfl dX4_asked_156 rfl ?_
    refine aw_aload (pc' := 160) rfl dX4_asked_158 rfl ?_
    refine aw_geti (pc' := 163) (k9 := 2) dX4_asked_160 rfl fX4_112 rfl (by decide) rfl hSt.2.1 ?_
    try simp (disch := omega) only [hv_cl, cl_set, sset_e, sset_1, sset_2]
    refine aw_icmp_ge (pt := 186) (pf := 166) dX4_asked_163 (by decide) rfl (fun c_163 => ?_) (fun c_163 => ?_)
    · refine aw_aload_n (pc' := 187) rfl dX4_asked_186 rfl ?_
      refine aw_iload_n (pc' := 188) rfl dX4_asked_187 rfl ?_
      refine aw_callS (d' := d - 1) (as := [_, _]) (pc' := 191) kX4_end tX4_end lX4_188 dX4_asked_188 rfl rfl (Nat.le_of_ble_eq_true rfl) (by omega) ?_
      refine x_end (by omega) hF hk ?_
      refine AW.ret (some (vl _)) dX4_asked_191 trivial ?_
      try simp (disch := omega) only [hv_cl, cl_set, sset_e, sset_1, sset_2]
      unfold askX at hQ
      try simp (disch := omega) only [if_pos, if_neg] at hQ
      first | exact hQ | (exfalso; omega)
    · refine aw_aload_n (pc' := 167) rfl dX4_asked_166 rfl ?_
      refine aw_iload_n (pc' := 168) rfl dX4_asked_167 rfl ?_
      refine aw_aload_n (pc' := 169) rfl dX4_asked_168 rfl ?_
      refine aw_getp (pc' := 172) (k9 := 5) (p := (fo + 1)) dX4_asked_169 rfl fX4_117 rfl rfl rfl hF.1 hF.2.1.1 ?_
      refine aw_iload_n (pc' := 173) rfl dX4_asked_172 rfl ?_
      refine aw_iconst (pc' := 174) (by decide) dX4_asked_173 rfl ?_
      refine aw_imul (pc' := 175) (by first | exact w32_id (by omega) (by omega) | rfl) dX4_asked_174 rfl ?_
      refine aw_iload (pc' := 177) rfl dX4_asked_175 rfl ?_
      refine aw_iadd (pc' := 178) (by first | exact w32_id (by omega) (by omega) | rfl) dX4_asked_177 rfl ?_
      refine aw_iald (pc' := 179) dX4_asked_178 rfl hF.2.1.2 (by omega) (by omega) ?_
      try simp (disch := omega) only [hv_cl, cl_set, sset_e, sset_1, sset_2]
      refine aw_i2l (pc' := 180) dX4_asked_179 rfl ?_
      refine aw_callS (d' := d - 1) (as := [_, _, _]) (pc' := 183) kX4_gives tX4_gives lX4_184 dX4_asked_180 rfl rfl (Nat.le_of_ble_eq_true rfl) (by omega) ?_
      refine x_gives (by omega) hF hk ?_
      refine aw_goto (pc' := 191) dX4_asked_183 (by decide) ?_
      refine AW.ret (some (vl _)) dX4_asked_191 trivial ?_
      try simp (disch := omega) only [hv_cl, cl_set, sset_e, sset_1, sset_2]
      unfold askX at hQ
      try simp (disch := omega) only [if_pos, if_neg] at hQ
      first | exact hQ | (exfalso; omega)
  by_cases z_99_4 : y9 = 5
  · refine aw_tabIn (pc' := 192) dX4_asked_99 (by omega) (by omega) (off := 93) (by rw [z_99_4]; rfl) (by decide) ?_
    refine aw_iload (pc' := 194) rfl dX4_asked_192 rfl ?_
    refine aw_iload (pc' := 196) rfl dX4_asked_194 rfl ?_
    refine aw_bipush (pc' := 198) (by decide +kernel) dX4_asked_196 rfl ?_
    refine aw_callS (d' := d - 1) (as := [_, _]) (pc' := 201) kJ9_min_7cf53 tJ9_min_7cf53 lX4_192 dX4_asked_198 rfl rfl (Nat.le_of_ble_eq_true rfl) (by omega) ?_
    refine c_min (by omega) ?_
    refine aw_icmp_ge (pt := 217) (pf := 204) dX4_asked_201 (by decide) rfl (fun c_201 => ?_) (fun c_201 => ?_)
    · refine aw_aload_n (pc' := 218) rfl dX4_asked_217 rfl ?_
      refine aw_iload_n (pc' := 219) rfl dX4_asked_218 rfl ?_
      refine aw_callS (d' := d - 1) (as := [_, _]) (pc' := 222) kX4_end tX4_end lX4_188 dX4_asked_219 rfl rfl (Nat.le_of_ble_eq_true rfl) (by omega) ?_
      refine x_end (by omega) hF hk ?_
      refine AW.ret (some (vl _)) dX4_asked_222 trivial ?_
      try simp (disch := omega) only [hv_cl, cl_set, sset_e, sset_1, sset_2]
      unfold askX at hQ
      try simp (disch := omega) only [if_pos, if_neg] at hQ
      first | exact hQ | (exfalso; omega)
    · refine aw_aload_n (pc' := 205) rfl dX4_asked_204 rfl ?_
      refine aw_iload_n (pc' := 206) rfl dX4_asked_205 rfl ?_
      refine aw_iload (pc' := 208) rfl dX4_asked_206 rfl ?_
      refine aw_iconst (pc' := 209) (by decide) dX4_asked_208 rfl ?_
      refine aw_iadd (pc' := 210) (by first | exact w32_id (by omega) (by omega) | rfl) dX4_asked_209 rfl ?_
      refine aw_i2l (pc' := 211) dX4_asked_210 rfl ?_
      refine aw_callS (d' := d - 1) (as := [_, _, _]) (pc' := 214) kX4_gives tX4_gives lX4_184 dX4_asked_211 rfl rfl (Nat.le_of_ble_eq_true rfl) (by omega) ?_
      refine x_gives (by omega) hF hk ?_
      refine aw_goto (pc' := 222) dX4_asked_214 (by decide) ?_
      refine AW.ret (some (vl _)) dX4_asked_222 trivial ?_
      try simp (disch := omega) only [hv_cl, cl_set, sset_e, sset_1, sset_2]
      unfold askX at hQ
      try simp (disch := omega) only [if_pos, if_neg] at hQ
      first | exact hQ | (exfalso; omega)
  by_cases z_99_5 : y9 = 6
  · refine aw_tabIn (pc' := 223) dX4_asked_99 (by omega) (by omega) (off := 124) (by rw [z_99_5]; rfl) (by decide) ?_
    refine aw_iload (pc' := 225) rfl dX4_asked_223 rfl ?_
    refine aw_aload_n (pc' := 226) rfl dX4_asked_225 rfl ?_
    refine aw_getp (pc' := 229) (k9 := 10) (p := (fo + 5)) dX4_asked_226 rfl fX4_177 rfl rfl rfl hF.1 hF.2.2.2.2.2.1 ?_
    refine aw_geti (pc' := 232) (k9 := 1) dX4_asked_229 rfl fX4_40 rfl (by decide) rfl hF.2.2.2.2.2.2.1 ?_
    try simp (disch := omega) only [hv_cl, cl_set, sset_e, sset_1, sset_2]
    refine aw_icmp_ge (pt := 252) (pf := 235) dX4_asked_232 (by decide) rfl (fun c_232 => ?_) (fun c_232 => ?_)
    · refine aw_aload_n (pc' := 253) rfl dX4_asked_252 rfl ?_
      refine aw_iload_n (pc' := 254) rfl dX4_asked_253 rfl ?_
      refine aw_callS (d' := d - 1) (as := [_, _]) (pc' := 257) kX4_end tX4_end lX4_188 dX4_asked_254 rfl rfl (Nat.le_of_ble_eq_true rfl) (by omega) ?_
      refine x_end (by omega) hF hk ?_
      refine AW.ret (some (vl _)) dX4_asked_257 trivial ?_
      try simp (disch := omega) only [hv_cl, cl_set, sset_e, sset_1, sset_2]
      unfold askX at hQ
      try simp (disch := omega) only [if_pos, if_neg] at hQ
      first | exact hQ | (exfalso; omega)
    · refine aw_aload_n (pc' := 236) rfl dX4_asked_235 rfl ?_
      refine aw_iload_n (pc' := 237) rfl dX4_asked_236 rfl ?_
      refine aw_aload_n (pc' := 238) rfl dX4_asked_237 rfl ?_
      refine aw_getp (pc' := 241) (k9 := 10) (p := (fo + 5)) dX4_asked_238 rfl fX4_177 rfl rfl rfl hF.1 hF.2.2.2.2.2.1 ?_
      refine aw_iload (pc' := 243) rfl dX4_asked_241 rfl ?_
      refine aw_callV (ci := 4) (d' := d - 1) (as := [_]) (pc' := 246) (by decide) rfl kX5_at iX5_at sX5_at lX4_198 hF.2.2.2.2.2.2.1 dX4_asked_243 rfl rfl (Nat.le_of_ble_eq_true rfl) (by omega) ?_
      try simp (disch := omega) only [hv_cl, cl_set, sset_e, sset_1, sset_2]
      refine x_at (a := fo + 5) (by omega) hF.2.2.2.2.2.2 (by simp only [hv_cl]; omega) (fun q0 => ?_) (fun q1 q2 => ?_)
      · exfalso
        simp only [hv_cl] at q0
        omega
      simp only [hv_cl]
      refine aw_callS (d' := d - 1) (as := [_, _, _]) (pc' := 249) kX4_gives tX4_gives lX4_184 dX4_asked_246 rfl rfl (Nat.le_of_ble_eq_true rfl) (by omega) ?_
      refine x_gives (by omega) hF hk ?_
      refine aw_goto (pc' := 257) dX4_asked_249 (by decide) ?_
      refine AW.ret (some (vl _)) dX4_asked_257 trivial ?_
      try simp (disch := omega) only [hv_cl, cl_set, sset_e, sset_1, sset_2]
      unfold askX at hQ
      try simp (disch := omega) only [if_pos, if_neg] at hQ
      first | exact hQ | (exfalso; omega)
  by_cases z_99_6 : y9 = 7
  · refine aw_tabIn (pc' := 223) dX4_asked_99 (by omega) (by omega) (off := 124) (by rw [z_99_6]; rfl) (by decide) ?_
    refine aw_iload (pc' := 225) rfl dX4_asked_223 rfl ?_
    refine aw_aload_n (pc' := 226) rfl dX4_asked_225 rfl ?_
    refine aw_getp (pc' := 229) (k9 := 10) (p := (fo + 5)) dX4_asked_226 rfl fX4_177 rfl rfl rfl hF.1 hF.2.2.2.2.2.1 ?_
    refine aw_geti (pc' := 232) (k9 := 1) dX4_asked_229 rfl fX4_40 rfl (by decide) rfl hF.2.2.2.2.2.2.1 ?_
    try simp (disch := omega) only [hv_cl, cl_set, sset_e, sset_1, sset_2]
    refine aw_icmp_ge (pt := 252) (pf := 235) dX4_asked_232 (by decide) rfl (fun c_232 => ?_) (fun c_232 => ?_)
    · refine aw_aload_n (pc' := 253) rfl dX4_asked_252 rfl ?_
      refine aw_iload_n (pc' := 254) rfl dX4_asked_253 rfl ?_
      refine aw_callS (d' := d - 1) (as := [_, _]) (pc' := 257) kX4_end tX4_end lX4_188 dX4_asked_254 rfl rfl (Nat.le_of_ble_eq_true rfl) (by omega) ?_
      refine x_end (by omega) hF hk ?_
      refine AW.ret (some (vl _)) dX4_asked_257 trivial ?_
      try simp (disch := omega) only [hv_cl, cl_set, sset_e, sset_1, sset_2]
      unfold askX at hQ
      try simp (disch := omega) only [if_pos, if_neg] at hQ
      first | exact hQ | (exfalso; omega)
    · refine aw_aload_n (pc' := 236) rfl dX4_asked_235 rfl ?_
      refine aw_iload_n (pc' := 237) rfl dX4_asked_236 rfl ?_
      refine aw_aload_n (pc' := 238) rfl dX4_asked_237 rfl ?_
      refine aw_getp (pc' := 241) (k9 := 10) (p := (fo + 5)) dX4_asked_238 rfl fX4_177 rfl rfl rfl hF.1 hF.2.2.2.2.2.1 ?_
      refine aw_iload (pc' := 243) rfl dX4_asked_241 rfl ?_
      refine aw_callV (ci := 4) (d' := d - 1) (as := [_]) (pc' := 246) (by decide) rfl kX5_at iX5_at sX5_at lX4_198 hF.2.2.2.2.2.2.1 dX4_asked_243 rfl rfl (Nat.le_of_ble_eq_true rfl) (by omega) ?_
      try simp (disch := omega) only [hv_cl, cl_set, sset_e, sset_1, sset_2]
      refine x_at (a := fo + 5) (by omega) hF.2.2.2.2.2.2 (by simp only [hv_cl]; omega) (fun q0 => ?_) (fun q1 q2 => ?_)
      · exfalso
        simp only [hv_cl] at q0
        omega
      simp only [hv_cl]
      refine aw_callS (d' := d - 1) (as := [_, _, _]) (pc' := 249) kX4_gives tX4_gives lX4_184 dX4_asked_246 rfl rfl (Nat.le_of_ble_eq_true rfl) (by omega) ?_
      refine x_gives (by omega) hF hk ?_
      refine aw_goto (pc' := 257) dX4_asked_249 (by decide) ?_
      refine AW.ret (some (vl _)) dX4_asked_257 trivial ?_
      try simp (disch := omega) only [hv_cl, cl_set, sset_e, sset_1, sset_2]
      unfold askX at hQ
      try simp (disch := omega) only [if_pos, if_neg] at hQ
      first | exact hQ | (exfalso; omega)
  by_cases z_99_7 : y9 = 8
  · refine aw_tabIn (pc' := 223) dX4_asked_99 (by omega) (by omega) (off := 124) (by rw [z_99_7]; rfl) (by decide) ?_
    refine aw_iload (pc' := 225) rfl dX4_asked_223 rfl ?_
    refine aw_aload_n (pc' := 226) rfl dX4_asked_225 rfl ?_
    refine aw_getp (pc' := 229) (k9 := 10) (p := (fo + 5)) dX4_asked_226 rfl fX4_177 rfl rfl rfl hF.1 hF.2.2.2.2.2.1 ?_
    refine aw_geti (pc' := 232) (k9 := 1) dX4_asked_229 rfl fX4_40 rfl (by decide) rfl hF.2.2.2.2.2.2.1 ?_
    try simp (disch := omega) only [hv_cl, cl_set, sset_e, sset_1, sset_2]
    refine aw_icmp_ge (pt := 252) (pf := 235) dX4_asked_232 (by decide) rfl (fun c_232 => ?_) (fun c_232 => ?_)
    · refine aw_aload_n (pc' := 253) rfl dX4_asked_252 rfl ?_
      refine aw_iload_n (pc' := 254) rfl dX4_asked_253 rfl ?_
      refine aw_callS (d' := d - 1) (as := [_, _]) (pc' := 257) kX4_end tX4_end lX4_188 dX4_asked_254 rfl rfl (Nat.le_of_ble_eq_true rfl) (by omega) ?_
      refine x_end (by omega) hF hk ?_
      refine AW.ret (some (vl _)) dX4_asked_257 trivial ?_
      try simp (disch := omega) only [hv_cl, cl_set, sset_e, sset_1, sset_2]
      unfold askX at hQ
      try simp (disch := omega) only [if_pos, if_neg] at hQ
      first | exact hQ | (exfalso; omega)
    · refine aw_aload_n (pc' := 236) rfl dX4_asked_235 rfl ?_
      refine aw_iload_n (pc' := 237) rfl dX4_asked_236 rfl ?_
      refine aw_aload_n (pc' := 238) rfl dX4_asked_237 rfl ?_
      refine aw_getp (pc' := 241) (k9 := 10) (p := (fo + 5)) dX4_asked_238 rfl fX4_177 rfl rfl rfl hF.1 hF.2.2.2.2.2.1 ?_
      refine aw_iload (pc' := 243) rfl dX4_asked_241 rfl ?_
      refine aw_callV (ci := 4) (d' := d - 1) (as := [_]) (pc' := 246) (by decide) rfl kX5_at iX5_at sX5_at lX4_198 hF.2.2.2.2.2.2.1 dX4_asked_243 rfl rfl (Nat.le_of_ble_eq_true rfl) (by omega) ?_
      try simp (disch := omega) only [hv_cl, cl_set, sset_e, sset_1, sset_2]
      refine x_at (a := fo + 5) (by omega) hF.2.2.2.2.2.2 (by simp only [hv_cl]; omega) (fun q0 => ?_) (fun q1 q2 => ?_)
      · exfalso
        simp only [hv_cl] at q0
        omega
      simp only [hv_cl]
      refine aw_callS (d' := d - 1) (as := [_, _, _]) (pc' := 249) kX4_gives tX4_gives lX4_184 dX4_asked_246 rfl rfl (Nat.le_of_ble_eq_true rfl) (by omega) ?_
      refine x_gives (by omega) hF hk ?_
      refine aw_goto (pc' := 257) dX4_asked_249 (by decide) ?_
      refine AW.ret (some (vl _)) dX4_asked_257 trivial ?_
      try simp (disch := omega) only [hv_cl, cl_set, sset_e, sset_1, sset_2]
      unfold askX at hQ
      try simp (disch := omega) only [if_pos, if_neg] at hQ
      first | exact hQ | (exfalso; omega)
  by_cases z_99_8 : y9 = 9
  · refine aw_tabIn (pc' := 223) dX4_asked_99 (by omega) (by omega) (off := 124) (by rw [z_99_8]; rfl) (by decide) ?_
    refine aw_iload (pc' := 225) rfl dX4_asked_223 rfl ?_
    refine aw_aload_n (pc' := 226) rfl dX4_asked_225 rfl ?_
    refine aw_getp (pc' := 229) (k9 := 10) (p := (fo + 5)) dX4_asked_226 rfl fX4_177 rfl rfl rfl hF.1 hF.2.2.2.2.2.1 ?_
    refine aw_geti (pc' := 232) (k9 := 1) dX4_asked_229 rfl fX4_40 rfl (by decide) rfl hF.2.2.2.2.2.2.1 ?_
    try simp (disch := omega) only [hv_cl, cl_set, sset_e, sset_1, sset_2]
    refine aw_icmp_ge (pt := 252) (pf := 235) dX4_asked_232 (by decide) rfl (fun c_232 => ?_) (fun c_232 => ?_)
    · refine aw_aload_n (pc' := 253) rfl dX4_asked_252 rfl ?_
      refine aw_iload_n (pc' := 254) rfl dX4_asked_253 rfl ?_
      refine aw_callS (d' := d - 1) (as := [_, _]) (pc' := 257) kX4_end tX4_end lX4_188 dX4_asked_254 rfl rfl (Nat.le_of_ble_eq_true rfl) (by omega) ?_
      refine x_end (by omega) hF hk ?_
      refine AW.ret (some (vl _)) dX4_asked_257 trivial ?_
      try simp (disch := omega) only [hv_cl, cl_set, sset_e, sset_1, sset_2]
      unfold askX at hQ
      try simp (disch := omega) only [if_pos, if_neg] at hQ
      first | exact hQ | (exfalso; omega)
    · refine aw_aload_n (pc' := 236) rfl dX4_asked_235 rfl ?_
      refine aw_iload_n (pc' := 237) rfl dX4_asked_236 rfl ?_
      refine aw_aload_n (pc' := 238) rfl dX4_asked_237 rfl ?_
      refine aw_getp (pc' := 241) (k9 := 10) (p := (fo + 5)) dX4_asked_238 rfl fX4_177 rfl rfl rfl hF.1 hF.2.2.2.2.2.1 ?_
      refine aw_iload (pc' := 243) rfl dX4_asked_241 rfl ?_
      refine aw_callV (ci := 4) (d' := d - 1) (as := [_]) (pc' := 246) (by decide) rfl kX5_at iX5_at sX5_at lX4_198 hF.2.2.2.2.2.2.1 dX4_asked_243 rfl rfl (Nat.le_of_ble_eq_true rfl) (by omega) ?_
      try simp (disch := omega) only [hv_cl, cl_set, sset_e, sset_1, sset_2]
      refine x_at (a := fo + 5) (by omega) hF.2.2.2.2.2.2 (by simp only [hv_cl]; omega) (fun q0 => ?_) (fun q1 q2 => ?_)
      · exfalso
        simp only [hv_cl] at q0
        omega
      simp only [hv_cl]
      refine aw_callS (d' := d - 1) (as := [_, _, _]) (pc' := 249) kX4_gives tX4_gives lX4_184 dX4_asked_246 rfl rfl (Nat.le_of_ble_eq_true rfl) (by omega) ?_
      refine x_gives (by omega) hF hk ?_
      refine aw_goto (pc' := 257) dX4_asked_249 (by decide) ?_
      refine AW.ret (some (vl _)) dX4_asked_257 trivial ?_
      try simp (disch := omega) only [hv_cl, cl_set, sset_e, sset_1, sset_2]
      unfold askX at hQ
      try simp (disch := omega) only [if_pos, if_neg] at hQ
      first | exact hQ | (exfalso; omega)
  by_cases z_99_9 : y9 = 10
  · refine aw_tabIn (pc' := 258) dX4_asked_99 (by omega) (by omega) (off := 159) (by rw [z_99_9]; rfl) (by decide) ?_
    refine aw_aload_n (pc' := 259) rfl dX4_asked_258 rfl ?_
    refine aw_iload_n (pc' := 260) rfl dX4_asked_259 rfl ?_
    refine aw_callS (d' := d - 1) (as := [_, _]) (pc' := 263) kX4_end tX4_end lX4_188 dX4_asked_260 rfl rfl (Nat.le_of_ble_eq_true rfl) (by omega) ?_
    refine x_end (by omega) hF hk ?_
    refine AW.ret (some (vl _)) dX4_asked_263 trivial ?_
    try simp (disch := omega) only [hv_cl, cl_set, sset_e, sset_1, sset_2]
    unfold askX at hQ
    try simp (disch := omega) only [if_pos, if_neg] at hQ
    first | exact hQ | (exfalso; omega)
  by_cases z_99_10 : y9 = 11
  · refine aw_tabIn (pc' := 281) dX4_asked_99 (by omega) (by omega) (off := 182) (by rw [z_99_10]; rfl) (by decide) ?_
    refine aw_iload (pc' := 283) rfl dX4_asked_281 rfl ?_
    refine aw_iload (pc' := 285) rfl dX4_asked_283 rfl ?_
    refine aw_icmp_ge (pt := 294) (pf := 288) dX4_asked_285 (by decide) rfl (fun c_285 => ?_) (fun c_285 => ?_)
    · refine aw_aload_n (pc' := 295) rfl dX4_asked_294 rfl ?_
      refine aw_iload_n (pc' := 296) rfl dX4_asked_295 rfl ?_
      refine aw_callS (d' := d - 1) (as := [_, _]) (pc' := 299) kX4_end tX4_end lX4_188 dX4_asked_296 rfl rfl (Nat.le_of_ble_eq_true rfl) (by omega) ?_
      refine x_end (by omega) hF hk ?_
      refine AW.ret (some (vl _)) dX4_asked_299 trivial ?_
      try simp (disch := omega) only [hv_cl, cl_set, sset_e, sset_1, sset_2]
      unfold askX at hQ
      try simp (disch := omega) only [if_pos, if_neg] at hQ
      first | exact hQ | (exfalso; omega)
    · refine aw_ldc2 (x := (9223372036854775807)) (pc' := 291) qX4_167 (by decide) dX4_asked_288 rfl ?_
      refine aw_goto (pc' := 299) dX4_asked_291 (by decide) ?_
      refine AW.ret (some (vl _)) dX4_asked_299 trivial ?_
      try simp (disch := omega) only [hv_cl, cl_set, sset_e, sset_1, sset_2]
      unfold askX at hQ
      try simp (disch := omega) only [if_pos, if_neg] at hQ
      first | exact hQ | (exfalso; omega)
  refine aw_tabOut (pc' := 300) dX4_asked_99 (by omega) (by decide) ?_
  refine aw_ldc2 (x := (9223372036854775807)) (pc' := 303) qX4_167 (by decide) dX4_asked_300 rfl ?_
  refine AW.ret (some (vl _)) dX4_asked_303 trivial ?_
  try simp (disch := omega) only [hv_cl, cl_set, sset_e, sset_1, sset_2]
  unfold askX at hQ
  try simp (disch := omega) only [if_pos, if_neg] at hQ
  first | exact hQ | (exfalso; omega)

set_option maxRecDepth 20000 in
theorem x_asked {d : Nat} {ko fo po so o k lev : Int} {A : AHp} {v : Sg} {Q : Option AV → AHp → Prop} (hd : 3 ≤ d) (hX : XLAY A) (hK : KeptAt A ko) (hF : FrameAt A fo) (hfo : 66 < fo ∧ fo < 300 ∧ (fo < 201 ∨ 266 < fo)) (hko : 206 < ko ∧ ko < 250) (hk : 0 ≤ k ∧ k < 6) (hpo : v fo 1 = po) (hPo : PIP A po) (hso : v (hp A po 0) k = so) (hSt : STG A v so) (ho : hp A so 0 = o) (hlev : 0 ≤ lev ∧ lev < 100) (hov : v (fo + 3) k = 0 ∨ v (fo + 3) k = 1)
  (hOver : v (fo + 3) k = 1 → Q (some (vl (-9223372036854775808))) (cl A v))
  (hDir : v (fo + 3) k = 0 → (o < 12 ∨ v fo 9 ≠ 0) → ASO v fo o k ∧ Q (some (vl (askX v fo so o k).1)) (cl A (askX v fo so o k).2))
  (hIn : v (fo + 3) k = 0 → 12 ≤ o → v fo 9 = 0 → CALL (d - 1) mX4_goInner [vr 64, vr ko, vr fo, vi k, vi (lev + 1)] (cl A (sset (sset v fo 9 1) (fo + 5) 1 0)) (fun r B => ∃ z u, r = some (vi z) ∧ B = cl A u ∧ (STG A (sset u (fo + 4) k z) so ∧ ASO (sset u (fo + 4) k z) fo o k) ∧ Q (some (vl (askX (sset u (fo + 4) k z) fo so o k).1)) (cl A (askX (sset u (fo + 4) k z) fo so o k).2))) : CALL d mX4_asked [vr 64, vr ko, vr fo, vi k, vi lev] (cl A v) Q := by
  refine CALL.of (by decide) (Nat.le_of_ble_eq_true rfl) ?_
  change AW d mX4_asked 0 [some (vr 64), some (vr ko), some (vr fo), some (vi k), some (vi lev), none, none, none] [] (cl A v) Q
  obtain ⟨y1, y2, y3, y4⟩ := id hPo
  obtain ⟨z1, z2, z3, z4, z5, z6, z7⟩ := id hSt
  rw [ho] at z3
  refine aw_aload_n (pc' := 1) rfl dX4_asked_0 rfl ?_
  refine aw_getp (pc' := 4) (k9 := 7) (p := (fo + 3)) dX4_asked_1 rfl fX4_130 rfl rfl rfl hF.1 hF.2.2.2.1.1 ?_
  refine aw_iload_n (pc' := 5) rfl dX4_asked_4 rfl ?_
  refine aw_zald (pc' := 6) dX4_asked_5 rfl hF.2.2.2.1.2 (by omega) (by omega) (fun _ => ?_) hov
  try simp (disch := omega) only [hv_cl, cl_set, sset_e, sset_1, sset_2]
  refine aw_if_eq (pt := 13) (pf := 9) dX4_asked_6 (by decide) rfl (fun c_6 => ?_) (fun c_6 => ?_)
  · refine aw_aload_n (pc' := 14) rfl dX4_asked_13 rfl ?_
    refine aw_getr (pc' := 17) (k9 := 1) dX4_asked_14 rfl fX4_80 rfl rfl rfl hF.1 ?_
    try simp (disch := omega) only [hv_cl, cl_set, sset_e, sset_1, sset_2]
    try simp (disch := omega) only [hv_cl, cl_set, sset_e, sset_1, sset_2]
    rw [hpo]
    refine aw_getp (pc' := 20) (k9 := 0) (p := (hp A po 0)) dX4_asked_17 rfl fX4_108 rfl rfl rfl hPo.2.1 rfl ?_
    refine aw_iload_n (pc' := 21) rfl dX4_asked_20 rfl ?_
    refine aw_aald (pc' := 22) (t0 := 6) (fun _ => rfl) (by decide) dX4_asked_21 rfl hPo.2.2.2 (by omega) (by omega) ?_
    try simp (disch := omega) only [hv_cl, cl_set, sset_e, sset_1, sset_2]
    rw [hso]
    try simp (disch := omega) only [hv_cl, cl_set, sset_e, sset_1, sset_2]
    refine aw_astore (pc' := 24) (lv' := [_, _, _, _, _, _, _, _]) dX4_asked_22 rfl (by decide) rfl ?_
    refine aw_aload (pc' := 26) rfl dX4_asked_24 rfl ?_
    refine aw_callV (ci := 8) (d' := d - 1) (as := []) (pc' := 29) (by decide) rfl kX9_hasList iX9_hasList sX9_hasList lX4_173 hSt.2.1 dX4_asked_26 rfl rfl (Nat.le_of_ble_eq_true rfl) (by omega) ?_
    refine x_hasList (by omega) hSt ho (fun hw1 => ?_) (fun hw0 => ?_)
    · refine aw_if_eq (pt := 69) (pf := 32) dX4_asked_29 (by decide) rfl (fun c_29 => absurd c_29 (by decide)) (fun _ => ?_)
      refine aw_aload_n (pc' := 33) rfl dX4_asked_32 rfl ?_
      refine aw_geti (pc' := 36) (k9 := 9) dX4_asked_33 rfl fX4_104 rfl (by decide) rfl hF.1 ?_
      try simp (disch := omega) only [hv_cl, cl_set, sset_e, sset_1, sset_2]
      refine aw_if_ne (pt := 69) (pf := 39) dX4_asked_36 (by decide) rfl (fun c_36 => ?_) (fun c_36 => ?_)
      · try simp (disch := omega) only [hv_cl, cl_set, sset_e, sset_1, sset_2]
        obtain ⟨hA2, hQ2⟩ := hDir (by omega) (by omega)
        exact x_askT (by omega) hF hfo hk hSt ho hA2 hQ2
      · replace c_36 := Classical.not_not.mp c_36
        refine aw_aload_n (pc' := 40) rfl dX4_asked_39 rfl ?_
        refine aw_iconst (pc' := 41) (by decide) dX4_asked_40 rfl ?_
        refine aw_putz (pc' := 44) (k9 := 9) dX4_asked_41 rfl fX4_104 rfl rfl rfl hF.1 (by omega) ?_
        refine aw_aload_n (pc' := 45) rfl dX4_asked_44 rfl ?_
        refine aw_getp (pc' := 48) (k9 := 10) (p := (fo + 5)) dX4_asked_45 rfl fX4_177 rfl rfl rfl hF.1 hF.2.2.2.2.2.1 ?_
        refine aw_iconst (pc' := 49) (by decide) dX4_asked_48 rfl ?_
        refine aw_puti (pc' := 52) (k9 := 1) dX4_asked_49 rfl fX4_40 rfl rfl rfl hF.2.2.2.2.2.2.1 ?_
        refine aw_aload_n (pc' := 53) rfl dX4_asked_52 rfl ?_
        refine aw_getp (pc' := 56) (k9 := 8) (p := (fo + 4)) dX4_asked_53 rfl fX4_93 rfl rfl rfl hF.1 hF.2.2.2.2.1.1 ?_
        refine aw_iload_n (pc' := 57) rfl dX4_asked_56 rfl ?_
        refine aw_aload_n (pc' := 58) rfl dX4_asked_57 rfl ?_
        refine aw_aload_n (pc' := 59) rfl dX4_asked_58 rfl ?_
        refine aw_aload_n (pc' := 60) rfl dX4_asked_59 rfl ?_
        refine aw_iload_n (pc' := 61) rfl dX4_asked_60 rfl ?_
        refine aw_iload (pc' := 63) rfl dX4_asked_61 rfl ?_
        refine aw_iconst (pc' := 64) (by decide) dX4_asked_63 rfl ?_
        refine aw_iadd (pc' := 65) (by first | exact w32_id (by omega) (by omega) | rfl) dX4_asked_64 rfl ?_
        refine aw_callV (ci := 3) (d' := d - 1) (as := [_, _, _, _]) (pc' := 68) (by decide) rfl kX4_goInner iX4_goInner sX4_goInner lX4_180 (XO_machine (A := (cl A v)) hX) dX4_asked_65 rfl rfl (Nat.le_of_ble_eq_true rfl) (by omega) ?_
        try simp (disch := omega) only [hv_cl, cl_set, sset_e, sset_1, sset_2]
        refine CALL.mono (hIn (by omega) (by omega) (by omega)) ?_
        rintro r B ⟨z, u, rfl, rfl, ⟨hS2, hA2⟩, hQ2⟩
        refine aw_iast (pc' := 69) dX4_asked_68 rfl hF.2.2.2.2.1.2 (by omega) (by omega) ?_
        exact x_askT (by omega) hF hfo hk hS2 ho hA2 hQ2
    · refine aw_if_eq (pt := 69) (pf := 32) dX4_asked_29 (by decide) rfl (fun _ => ?_) (fun c_29 => absurd (by decide) c_29)
      try simp (disch := omega) only [hv_cl, cl_set, sset_e, sset_1, sset_2]
      obtain ⟨hA2, hQ2⟩ := hDir (by omega) (by omega)
      exact x_askT (by omega) hF hfo hk hSt ho hA2 hQ2
  · refine aw_ldc2 (x := (-9223372036854775808)) (pc' := 12) qX4_73 (by decide) dX4_asked_9 rfl ?_
    refine AW.ret (some (vl _)) dX4_asked_12 trivial ?_
    exact hOver (by omega)

set_option maxRecDepth 20000 in
theorem x_goInF {d : Nat} {ko fo po so o k lev r9 : Int} {A : AHp} {v : Sg} {Q : Option AV → AHp → Prop} (hd : 3 ≤ d) (hX : XLAY A) (hK : KeptAt A ko) (hF : FrameAt A fo) (hfo : 66 < fo ∧ fo < 300 ∧ (fo < 201 ∨ 266 < fo)) (hko : 206 < ko ∧ ko < 250) (hk : 0 ≤ k ∧ k < 6) (hpo : v fo 1 = po) (hPo : PIP A po) (hso : v (hp A po 0) k = so) (hSt : STG A v so) (ho : hp A so 0 = o) (hln : 0 ≤ v 64 1 ∧ v 64 1 ≤ 8) (hls : ∀ j, 0 ≤ j → j < v 64 1 → isO A (v 65 j) 3) (hof : 12 ≤ o ∧ o ≤ 14) (hg9 : 0 ≤ v fo 4 ∧ v fo 4 ≤ 4) (hlev : 0 ≤ lev ∧ lev ≤ 20) (hlv : (v fo 4 + 1) ≤ 4 → lev < 20) (hr9 : (if 0 ≤ v (ko + 2) (o - 12) ∧ v (ko + 2) (o - 12) < v 64 1 then hp A (v 65 (v (ko + 2) (o - 12))) 0 else 0) = r9) (h34 : r9 = 0 ∨ 350 ≤ r9)
  (h1 : r9 = 0 → Q (some (vi 1)) (cl A v)) (h9 : r9 ≠ 0 → 4 < (v fo 4 + 1) → Q (some (vi 9)) (cl A v))
  (hG : r9 ≠ 0 → (v fo 4 + 1) ≤ 4 → CALL (d - 1) mX4_goList [vr 64, vr ko, vr r9, vi (v (fo + 1) (k * 4)), vi (v fo 4 + 1), vi lev, vr (fo + 5)] (cl A v) (fun r B => ∃ z u, r = some (vi z) ∧ B = cl A u ∧ Q r B)) : CALL d mX4_goInner [vr 64, vr ko, vr fo, vi k, vi lev] (cl A v) Q := by
  refine CALL.of (by decide) (Nat.le_of_ble_eq_true rfl) ?_
  change AW d mX4_goInner 0 [some (vr 64), some (vr ko), some (vr fo), some (vi k), some (vi lev), none, none, none, none, none, none] [] (cl A v) Q
  obtain ⟨y1, y2, y3, y4⟩ := id hPo
  obtain ⟨z1, z2, z3, z4, z5, z6, z7⟩ := id hSt
  rw [ho] at z3
  have hwf := wf_tab z3.1 z3.2
  refine aw_aload_n (pc' := 1) rfl dX4_goInner_0 rfl ?_
  refine aw_getr (pc' := 4) (k9 := 1) dX4_goInner_1 rfl fX4_80 rfl rfl rfl hF.1 ?_
  try simp (disch := omega) only [hv_cl, cl_set, sset_e, sset_1, sset_2]
  rw [hpo]
  refine aw_getp (pc' := 7) (k9 := 0) (p := (hp A po 0)) dX4_goInner_4 rfl fX4_108 rfl rfl rfl hPo.2.1 rfl ?_
  refine aw_iload_n (pc' := 8) rfl dX4_goInner_7 rfl ?_
  refine aw_aald (pc' := 9) (t0 := 6) (fun _ => rfl) (by decide) dX4_goInner_8 rfl hPo.2.2.2 (by omega) (by omega) ?_
  try simp (disch := omega) only [hv_cl, cl_set, sset_e, sset_1, sset_2]
  rw [hso]
  try simp (disch := omega) only [hv_cl, cl_set, sset_e, sset_1, sset_2]
  refine aw_astore (pc' := 11) (lv' := [_, _, _, _, _, _, _, _, _, _, _]) dX4_goInner_9 rfl (by decide) rfl ?_
  refine aw_aload (pc' := 13) rfl dX4_goInner_11 rfl ?_
  refine aw_getp (pc' := 16) (k9 := 0) (p := o) dX4_goInner_13 rfl fX4_134 rfl rfl rfl hSt.2.1 ho ?_
  refine aw_wFun (pc' := 19) (by omega) (by omega) fX4_211 dX4_goInner_16 rfl ?_
  try simp (disch := omega) only [hv_cl, cl_set, sset_e, sset_1, sset_2]
  refine aw_istore (pc' := 21) (lv' := [_, _, _, _, _, _, _, _, _, _, _]) dX4_goInner_19 rfl (by decide) rfl ?_
  refine aw_iload (pc' := 23) rfl dX4_goInner_21 rfl ?_
  refine aw_callSN (d' := d - 1) (as := [_]) (pc' := 26) kX12_isFunction tX12_isFunction nX4_214 dX4_goInner_23 rfl rfl (Nat.le_of_ble_eq_true rfl) (by omega) ?_
  rw [hwf]
  rw [if_pos (by omega)]
  refine x_isFunction (by omega) (fun e1 => ?_) (fun e0 => absurd (by omega) e0)
  refine aw_istore (pc' := 28) (lv' := [_, _, _, _, _, _, _, _, _, _, _]) dX4_goInner_26 rfl (by decide) rfl ?_
  refine aw_iload (pc' := 30) rfl dX4_goInner_28 rfl ?_
  refine aw_if_eq (pt := 47) (pf := 33) dX4_goInner_30 (by decide) rfl (fun c_30 => absurd c_30 (by decide)) (fun _ => ?_)
  refine aw_aload_n (pc' := 34) rfl dX4_goInner_33 rfl ?_
  refine aw_aload_n (pc' := 35) rfl dX4_goInner_34 rfl ?_
  refine aw_getp (pc' := 38) (k9 := 1) (p := (ko + 2)) dX4_goInner_35 rfl fX4_217 rfl rfl rfl hK.1 hK.2.2.1.1 ?_
  refine aw_iload (pc' := 40) rfl dX4_goInner_38 rfl ?_
  refine aw_iald (pc' := 41) dX4_goInner_40 rfl hK.2.2.1.2 (by omega) (by omega) ?_
  try simp (disch := omega) only [hv_cl, cl_set, sset_e, sset_1, sset_2]
  refine aw_callV (ci := 3) (d' := d - 1) (as := [_]) (pc' := 44) (by decide) rfl kX4_firstOf iX4_firstOf sX4_firstOf lX4_45 (XO_machine (A := (cl A v)) hX) dX4_goInner_41 rfl rfl (Nat.le_of_ble_eq_true rfl) (by omega) ?_
  refine x_firstOf (by omega) hX hln hls ?_
  rw [hr9]
  refine aw_goto (pc' := 52) dX4_goInner_44 (by decide) ?_
  refine aw_astore (pc' := 54) (lv' := [_, _, _, _, _, _, _, _, _, _, _]) dX4_goInner_52 rfl (by decide) rfl ?_
  refine aw_iload (pc' := 56) rfl dX4_goInner_54 rfl ?_
  refine aw_if_eq (pt := 68) (pf := 59) dX4_goInner_56 (by decide) rfl (fun c_56 => absurd c_56 (by decide)) (fun _ => ?_)
  refine aw_aload_n (pc' := 60) rfl dX4_goInner_59 rfl ?_
  refine aw_geti (pc' := 63) (k9 := 4) dX4_goInner_60 rfl fX4_223 rfl (by decide) rfl hF.1 ?_
  try simp (disch := omega) only [hv_cl, cl_set, sset_e, sset_1, sset_2]
  refine aw_iconst (pc' := 64) (by decide) dX4_goInner_63 rfl ?_
  refine aw_iadd (pc' := 65) (by first | exact w32_id (by omega) (by omega) | rfl) dX4_goInner_64 rfl ?_
  refine aw_goto (pc' := 72) dX4_goInner_65 (by decide) ?_
  refine aw_istore (pc' := 74) (lv' := [_, _, _, _, _, _, _, _, _, _, _]) dX4_goInner_72 rfl (by decide) rfl ?_
  refine aw_aload (pc' := 76) rfl dX4_goInner_74 rfl ?_
  refine aw_ifnonnull (pt := 81) (pf := 79) (by omega) dX4_goInner_76 (by decide) rfl (fun c_76 => ?_) (fun c_76 => ?_)
  · refine aw_iload (pc' := 83) rfl dX4_goInner_81 rfl ?_
    refine aw_iconst (pc' := 84) (by decide) dX4_goInner_83 rfl ?_
    refine aw_icmp_gt (pt := 94) (pf := 87) dX4_goInner_84 (by decide) rfl (fun c_84 => ?_) (fun c_84 => ?_)
    · refine aw_bipush (pc' := 96) (by decide +kernel) dX4_goInner_94 rfl ?_
      refine AW.ret (some (vi _)) dX4_goInner_96 trivial ?_
      try simp (disch := omega) only [hv_cl, cl_set, sset_e, sset_1, sset_2]
      first | exact h9 (by omega) (by omega) | (exfalso; omega)
    · refine aw_iload (pc' := 89) rfl dX4_goInner_87 rfl ?_
      refine aw_bipush (pc' := 91) (by decide +kernel) dX4_goInner_89 rfl ?_
      refine aw_icmp_lt (pt := 97) (pf := 94) dX4_goInner_91 (by decide) rfl (fun c_91 => ?_) (fun c_91 => ?_)
      · refine aw_iload (pc' := 99) rfl dX4_goInner_97 rfl ?_
        refine aw_if_eq (pt := 113) (pf := 102) dX4_goInner_99 (by decide) rfl (fun c_99 => absurd c_99 (by decide)) (fun _ => ?_)
        refine aw_aload_n (pc' := 103) rfl dX4_goInner_102 rfl ?_
        refine aw_getp (pc' := 106) (k9 := 5) (p := (fo + 1)) dX4_goInner_103 rfl fX4_117 rfl rfl rfl hF.1 hF.2.1.1 ?_
        refine aw_iload_n (pc' := 107) rfl dX4_goInner_106 rfl ?_
        refine aw_iconst (pc' := 108) (by decide) dX4_goInner_107 rfl ?_
        refine aw_imul (pc' := 109) (by first | exact w32_id (by omega) (by omega) | rfl) dX4_goInner_108 rfl ?_
        refine aw_iald (pc' := 110) dX4_goInner_109 rfl hF.2.1.2 (by omega) (by omega) ?_
        try simp (disch := omega) only [hv_cl, cl_set, sset_e, sset_1, sset_2]
        refine aw_goto (pc' := 117) dX4_goInner_110 (by decide) ?_
        refine aw_istore (pc' := 119) (lv' := [_, _, _, _, _, _, _, _, _, _, _]) dX4_goInner_117 rfl (by decide) rfl ?_
        refine aw_aload_n (pc' := 120) rfl dX4_goInner_119 rfl ?_
        refine aw_aload_n (pc' := 121) rfl dX4_goInner_120 rfl ?_
        refine aw_aload (pc' := 123) rfl dX4_goInner_121 rfl ?_
        refine aw_iload (pc' := 125) rfl dX4_goInner_123 rfl ?_
        refine aw_iload (pc' := 127) rfl dX4_goInner_125 rfl ?_
        refine aw_iload (pc' := 129) rfl dX4_goInner_127 rfl ?_
        refine aw_aload_n (pc' := 130) rfl dX4_goInner_129 rfl ?_
        refine aw_getp (pc' := 133) (k9 := 10) (p := (fo + 5)) dX4_goInner_130 rfl fX4_177 rfl rfl rfl hF.1 hF.2.2.2.2.2.1 ?_
        refine aw_callV (ci := 3) (d' := d - 1) (as := [_, _, _, _, _, _]) (pc' := 136) (by decide) rfl kX4_goList iX4_goList sX4_goList lX4_49 (XO_machine (A := (cl A v)) hX) dX4_goInner_133 rfl rfl (Nat.le_of_ble_eq_true rfl) (by omega) ?_
        refine CALL.mono (hG (by omega) (by omega)) ?_
        rintro r B ⟨z, u, rfl, rfl, hQ2⟩
        refine AW.ret (some (vi _)) dX4_goInner_136 trivial ?_
        exact hQ2
      · refine aw_bipush (pc' := 96) (by decide +kernel) dX4_goInner_94 rfl ?_
        refine AW.ret (some (vi _)) dX4_goInner_96 trivial ?_
        try simp (disch := omega) only [hv_cl, cl_set, sset_e, sset_1, sset_2]
        first | exact h9 (by omega) (by omega) | (exfalso; omega)
  · replace c_76 := Classical.not_not.mp c_76
    refine aw_iconst (pc' := 80) (by decide) dX4_goInner_79 rfl ?_
    refine AW.ret (some (vi _)) dX4_goInner_80 trivial ?_
    exact h1 (by omega)

set_option maxRecDepth 20000 in
theorem x_goInB {d : Nat} {ko fo po so o k lev r9 : Int} {A : AHp} {v : Sg} {Q : Option AV → AHp → Prop} (hd : 3 ≤ d) (hX : XLAY A) (hK : KeptAt A ko) (hF : FrameAt A fo) (hfo : 66 < fo ∧ fo < 300 ∧ (fo < 201 ∨ 266 < fo)) (hko : 206 < ko ∧ ko < 250) (hk : 0 ≤ k ∧ k < 6) (hpo : v fo 1 = po) (hPo : PIP A po) (hso : v (hp A po 0) k = so) (hSt : STG A v so) (ho : hp A so 0 = o) (hln : 0 ≤ v 64 1 ∧ v 64 1 ≤ 8) (hls : ∀ j, 0 ≤ j → j < v 64 1 → isO A (v 65 j) 3) (hof : o = 15) (hg9 : 0 ≤ v fo 4 ∧ v fo 4 ≤ 4) (hlev : 0 ≤ lev ∧ lev ≤ 20) (hlv : (v fo 4) ≤ 4 → lev < 20) (hr9 : (v so 3) = r9) (h34 : r9 = 0 ∨ 350 ≤ r9)
  (h1 : r9 = 0 → Q (some (vi 1)) (cl A v)) (h9 : r9 ≠ 0 → 4 < (v fo 4) → Q (some (vi 9)) (cl A v))
  (hG : r9 ≠ 0 → (v fo 4) ≤ 4 → CALL (d - 1) mX4_goList [vr 64, vr ko, vr r9, vi (v fo 3), vi (v fo 4), vi lev, vr (fo + 5)] (cl A v) (fun r B => ∃ z u, r = some (vi z) ∧ B = cl A u ∧ Q r B)) : CALL d mX4_goInner [vr 64, vr ko, vr fo, vi k, vi lev] (cl A v) Q := by
  refine CALL.of (by decide) (Nat.le_of_ble_eq_true rfl) ?_
  change AW d mX4_goInner 0 [some (vr 64), some (vr ko), some (vr fo), some (vi k), some (vi lev), none, none, none, none, none, none] [] (cl A v) Q
  obtain ⟨y1, y2, y3, y4⟩ := id hPo
  obtain ⟨z1, z2, z3, z4, z5, z6, z7⟩ := id hSt
  rw [ho] at z3
  have hwf := wf_tab z3.1 z3.2
  refine aw_aload_n (pc' := 1) rfl dX4_goInner_0 rfl ?_
  refine aw_getr (pc' := 4) (k9 := 1) dX4_goInner_1 rfl fX4_80 rfl rfl rfl hF.1 ?_
  try simp (disch := omega) only [hv_cl, cl_set, sset_e, sset_1, sset_2]
  rw [hpo]
  refine aw_getp (pc' := 7) (k9 := 0) (p := (hp A po 0)) dX4_goInner_4 rfl fX4_108 rfl rfl rfl hPo.2.1 rfl ?_
  refine aw_iload_n (pc' := 8) rfl dX4_goInner_7 rfl ?_
  refine aw_aald (pc' := 9) (t0 := 6) (fun _ => rfl) (by decide) dX4_goInner_8 rfl hPo.2.2.2 (by omega) (by omega) ?_
  try simp (disch := omega) only [hv_cl, cl_set, sset_e, sset_1, sset_2]
  rw [hso]
  try simp (disch := omega) only [hv_cl, cl_set, sset_e, sset_1, sset_2]
  refine aw_astore (pc' := 11) (lv' := [_, _, _, _, _, _, _, _, _, _, _]) dX4_goInner_9 rfl (by decide) rfl ?_
  refine aw_aload (pc' := 13) rfl dX4_goInner_11 rfl ?_
  refine aw_getp (pc' := 16) (k9 := 0) (p := o) dX4_goInner_13 rfl fX4_134 rfl rfl rfl hSt.2.1 ho ?_
  refine aw_wFun (pc' := 19) (by omega) (by omega) fX4_211 dX4_goInner_16 rfl ?_
  try simp (disch := omega) only [hv_cl, cl_set, sset_e, sset_1, sset_2]
  refine aw_istore (pc' := 21) (lv' := [_, _, _, _, _, _, _, _, _, _, _]) dX4_goInner_19 rfl (by decide) rfl ?_
  refine aw_iload (pc' := 23) rfl dX4_goInner_21 rfl ?_
  refine aw_callSN (d' := d - 1) (as := [_]) (pc' := 26) kX12_isFunction tX12_isFunction nX4_214 dX4_goInner_23 rfl rfl (Nat.le_of_ble_eq_true rfl) (by omega) ?_
  rw [hwf]
  rw [if_neg (by omega)]
  refine x_isFunction (by omega) (fun e1 => absurd e1 (by omega)) (fun e0 => ?_)
  refine aw_istore (pc' := 28) (lv' := [_, _, _, _, _, _, _, _, _, _, _]) dX4_goInner_26 rfl (by decide) rfl ?_
  refine aw_iload (pc' := 30) rfl dX4_goInner_28 rfl ?_
  refine aw_if_eq (pt := 47) (pf := 33) dX4_goInner_30 (by decide) rfl (fun _ => ?_) (fun c_30 => absurd (by decide) c_30)
  refine aw_aload (pc' := 49) rfl dX4_goInner_47 rfl ?_
  refine aw_getr (pc' := 52) (k9 := 3) dX4_goInner_49 rfl fX4_220 rfl rfl rfl hSt.2.1 ?_
  try simp (disch := omega) only [hv_cl, cl_set, sset_e, sset_1, sset_2]
  rw [hr9]
  refine aw_astore (pc' := 54) (lv' := [_, _, _, _, _, _, _, _, _, _, _]) dX4_goInner_52 rfl (by decide) rfl ?_
  refine aw_iload (pc' := 56) rfl dX4_goInner_54 rfl ?_
  refine aw_if_eq (pt := 68) (pf := 59) dX4_goInner_56 (by decide) rfl (fun _ => ?_) (fun c_56 => absurd (by decide) c_56)
  refine aw_aload_n (pc' := 69) rfl dX4_goInner_68 rfl ?_
  refine aw_geti (pc' := 72) (k9 := 4) dX4_goInner_69 rfl fX4_223 rfl (by decide) rfl hF.1 ?_
  try simp (disch := omega) only [hv_cl, cl_set, sset_e, sset_1, sset_2]
  refine aw_istore (pc' := 74) (lv' := [_, _, _, _, _, _, _, _, _, _, _]) dX4_goInner_72 rfl (by decide) rfl ?_
  refine aw_aload (pc' := 76) rfl dX4_goInner_74 rfl ?_
  refine aw_ifnonnull (pt := 81) (pf := 79) (by omega) dX4_goInner_76 (by decide) rfl (fun c_76 => ?_) (fun c_76 => ?_)
  · refine aw_iload (pc' := 83) rfl dX4_goInner_81 rfl ?_
    refine aw_iconst (pc' := 84) (by decide) dX4_goInner_83 rfl ?_
    refine aw_icmp_gt (pt := 94) (pf := 87) dX4_goInner_84 (by decide) rfl (fun c_84 => ?_) (fun c_84 => ?_)
    · refine aw_bipush (pc' := 96) (by decide +kernel) dX4_goInner_94 rfl ?_
      refine AW.ret (some (vi _)) dX4_goInner_96 trivial ?_
      try simp (disch := omega) only [hv_cl, cl_set, sset_e, sset_1, sset_2]
      first | exact h9 (by omega) (by omega) | (exfalso; omega)
    · refine aw_iload (pc' := 89) rfl dX4_goInner_87 rfl ?_
      refine aw_bipush (pc' := 91) (by decide +kernel) dX4_goInner_89 rfl ?_
      refine aw_icmp_lt (pt := 97) (pf := 94) dX4_goInner_91 (by decide) rfl (fun c_91 => ?_) (fun c_91 => ?_)
      · refine aw_iload (pc' := 99) rfl dX4_goInner_97 rfl ?_
        refine aw_if_eq (pt := 113) (pf := 102) dX4_goInner_99 (by decide) rfl (fun _ => ?_) (fun c_99 => absurd (by decide) c_99)
        refine aw_aload_n (pc' := 114) rfl dX4_goInner_113 rfl ?_
        refine aw_geti (pc' := 117) (k9 := 3) dX4_goInner_114 rfl fX4_149 rfl (by decide) rfl hF.1 ?_
        try simp (disch := omega) only [hv_cl, cl_set, sset_e, sset_1, sset_2]
        refine aw_istore (pc' := 119) (lv' := [_, _, _, _, _, _, _, _, _, _, _]) dX4_goInner_117 rfl (by decide) rfl ?_
        refine aw_aload_n (pc' := 120) rfl dX4_goInner_119 rfl ?_
        refine aw_aload_n (pc' := 121) rfl dX4_goInner_120 rfl ?_
        refine aw_aload (pc' := 123) rfl dX4_goInner_121 rfl ?_
        refine aw_iload (pc' := 125) rfl dX4_goInner_123 rfl ?_
        refine aw_iload (pc' := 127) rfl dX4_goInner_125 rfl ?_
        refine aw_iload (pc' := 129) rfl dX4_goInner_127 rfl ?_
        refine aw_aload_n (pc' := 130) rfl dX4_goInner_129 rfl ?_
        refine aw_getp (pc' := 133) (k9 := 10) (p := (fo + 5)) dX4_goInner_130 rfl fX4_177 rfl rfl rfl hF.1 hF.2.2.2.2.2.1 ?_
        refine aw_callV (ci := 3) (d' := d - 1) (as := [_, _, _, _, _, _]) (pc' := 136) (by decide) rfl kX4_goList iX4_goList sX4_goList lX4_49 (XO_machine (A := (cl A v)) hX) dX4_goInner_133 rfl rfl (Nat.le_of_ble_eq_true rfl) (by omega) ?_
        refine CALL.mono (hG (by omega) (by omega)) ?_
        rintro r B ⟨z, u, rfl, rfl, hQ2⟩
        refine AW.ret (some (vi _)) dX4_goInner_136 trivial ?_
        exact hQ2
      · refine aw_bipush (pc' := 96) (by decide +kernel) dX4_goInner_94 rfl ?_
        refine AW.ret (some (vi _)) dX4_goInner_96 trivial ?_
        try simp (disch := omega) only [hv_cl, cl_set, sset_e, sset_1, sset_2]
        first | exact h9 (by omega) (by omega) | (exfalso; omega)
  · replace c_76 := Classical.not_not.mp c_76
    refine aw_iconst (pc' := 80) (by decide) dX4_goInner_79 rfl ?_
    refine AW.ret (some (vi _)) dX4_goInner_80 trivial ?_
    exact h1 (by omega)

def HD (d : Nat) (A : AHp) (ko fo lev last i k x : Int) (v : Sg) (Q : Option AV → AHp → Prop) : Prop := AW d mX4_nextOf 29 [some (vr 64), some (vr ko), some (vr fo), some (vi lev), some (vi last), some (vi k), some (vl x), none, some (vi i)] [] (cl A v) Q
def AK (d : Nat) (A : AHp) (ko fo lev last i k : Int) (v : Sg) (Q : Option AV → AHp → Prop) : Prop := CALL (d - 1) mX4_asked [vr 64, vr ko, vr fo, vi k, vi lev] (cl A v) (fun r B => ∃ y u, r = some (vl y) ∧ B = cl A u ∧ HD d A ko fo lev last i k y u Q)
set_option maxRecDepth 20000 in
theorem hd_asks {d : Nat} {A : AHp} {v : Sg} {ko fo lev last i k : Int} {Q : Option AV → AHp → Prop} (hX : XLAY A) (hi : 0 ≤ i ∧ i < 900000) (hk : 1 ≤ k ∧ k < 6) (hd : 1 ≤ d) (hE : AK d A ko fo lev last (i + 1) (k - 1) v Q) : HD d A ko fo lev last i k 9223372036854775807 v Q := by
  refine aw_iload (pc' := 31) rfl dX4_nextOf_29 rfl ?_
  refine aw_ldc (x := (1000000)) (pc' := 33) qX4_68 (by decide) dX4_nextOf_31 rfl ?_
  refine aw_icmp_ge (pt := 104) (pf := 36) dX4_nextOf_33 (by decide) rfl (fun c_33 => ?_) (fun c_33 => ?_)
  · exfalso
    omega
  · refine aw_lload (pc' := 38) rfl dX4_nextOf_36 rfl ?_
    refine aw_ldc2 (x := (9223372036854775807)) (pc' := 41) qX4_167 (by decide) dX4_nextOf_38 rfl ?_
    refine aw_lcmp (pc' := 42) dX4_nextOf_41 rfl ?_
    refine aw_if_ne (pt := 73) (pf := 45) dX4_nextOf_42 (by decide) rfl (fun c_42 => ?_) (fun c_42 => ?_)
    · replace c_42 := (not_congr cmp_eq).mp c_42
      exfalso
      omega
    · replace c_42 := Classical.not_not.mp c_42
      replace c_42 := (cmp_eq).mp c_42
      refine aw_iinc (pc' := 48) (lv' := [_, _, _, _, _, _, _, _, _]) dX4_nextOf_45 rfl rfl (by decide) (by first | exact w32_id (by omega) (by omega) | rfl) rfl ?_
      refine aw_iload (pc' := 50) rfl dX4_nextOf_48 rfl ?_
      refine aw_if_ge (pt := 59) (pf := 53) dX4_nextOf_50 (by decide) rfl (fun c_50 => ?_) (fun c_50 => ?_)
      · refine aw_aload_n (pc' := 60) rfl dX4_nextOf_59 rfl ?_
        refine aw_aload_n (pc' := 61) rfl dX4_nextOf_60 rfl ?_
        refine aw_aload_n (pc' := 62) rfl dX4_nextOf_61 rfl ?_
        refine aw_iload (pc' := 64) rfl dX4_nextOf_62 rfl ?_
        refine aw_iload_n (pc' := 65) rfl dX4_nextOf_64 rfl ?_
        refine aw_callV (ci := 3) (d' := d - 1) (as := [_, _, _, _]) (pc' := 68) (by decide) rfl kX4_asked iX4_asked sX4_asked lX4_163 (XO_machine (A := (cl A v)) hX) dX4_nextOf_65 rfl rfl (Nat.le_of_ble_eq_true rfl) (by omega) ?_
        refine CALL.mono hE ?_
        rintro r B ⟨y, u, rfl, rfl, hQ2⟩
        refine aw_lstore (pc' := 70) (lv' := [_, _, _, _, _, _, _, _, _]) dX4_nextOf_68 rfl (by decide) rfl ?_
        refine aw_goto (pc' := 98) dX4_nextOf_70 (by decide) ?_
        refine aw_iinc (pc' := 101) (lv' := [_, _, _, _, _, _, _, _, _]) dX4_nextOf_98 rfl rfl (by decide) (by first | exact w32_id (by omega) (by omega) | rfl) rfl ?_
        refine aw_goto (pc' := 29) dX4_nextOf_101 (by decide) ?_
        exact hQ2
      · exfalso
        omega

set_option maxRecDepth 20000 in
theorem hd_asks0 {d : Nat} {A : AHp} {v : Sg} {ko fo lev last i : Int} {Q : Option AV → AHp → Prop} (hX : XLAY A) (hi : 0 ≤ i ∧ i < 900000) (hE : HD d A ko fo lev last (i + 1) (-1) ((-9223372036854775808)) v Q) : HD d A ko fo lev last i 0 9223372036854775807 v Q := by
  refine aw_iload (pc' := 31) rfl dX4_nextOf_29 rfl ?_
  refine aw_ldc (x := (1000000)) (pc' := 33) qX4_68 (by decide) dX4_nextOf_31 rfl ?_
  refine aw_icmp_ge (pt := 104) (pf := 36) dX4_nextOf_33 (by decide) rfl (fun c_33 => ?_) (fun c_33 => ?_)
  · exfalso
    omega
  · refine aw_lload (pc' := 38) rfl dX4_nextOf_36 rfl ?_
    refine aw_ldc2 (x := (9223372036854775807)) (pc' := 41) qX4_167 (by decide) dX4_nextOf_38 rfl ?_
    refine aw_lcmp (pc' := 42) dX4_nextOf_41 rfl ?_
    refine aw_if_ne (pt := 73) (pf := 45) dX4_nextOf_42 (by decide) rfl (fun c_42 => ?_) (fun c_42 => ?_)
    · replace c_42 := (not_congr cmp_eq).mp c_42
      exfalso
      omega
    · replace c_42 := Classical.not_not.mp c_42
      replace c_42 := (cmp_eq).mp c_42
      refine aw_iinc (y := -1) (pc' := 48) (lv' := [_, _, _, _, _, _, _, _, _]) dX4_nextOf_45 rfl rfl (by decide) (by decide) rfl ?_
      refine aw_iload (pc' := 50) rfl dX4_nextOf_48 rfl ?_
      refine aw_if_ge (pt := 59) (pf := 53) dX4_nextOf_50 (by decide) rfl (fun c_50 => absurd c_50 (by decide)) (fun _ => ?_)
      refine aw_ldc2 (x := (-9223372036854775808)) (pc' := 56) qX4_73 (by decide) dX4_nextOf_53 rfl ?_
      refine aw_goto (pc' := 68) dX4_nextOf_56 (by decide) ?_
      refine aw_lstore (pc' := 70) (lv' := [_, _, _, _, _, _, _, _, _]) dX4_nextOf_68 rfl (by decide) rfl ?_
      refine aw_goto (pc' := 98) dX4_nextOf_70 (by decide) ?_
      refine aw_iinc (pc' := 101) (lv' := [_, _, _, _, _, _, _, _, _]) dX4_nextOf_98 rfl rfl (by decide) (by first | exact w32_id (by omega) (by omega) | rfl) rfl ?_
      refine aw_goto (pc' := 29) dX4_nextOf_101 (by decide) ?_
      exact hE

set_option maxRecDepth 20000 in
theorem hd_up {d : Nat} {A : AHp} {v : Sg} {ko fo lev last i k x po so o : Int} {Q : Option AV → AHp → Prop} (hX : XLAY A) (hi : 0 ≤ i ∧ i < 900000) (hk1 : -1 ≤ k) (hkl : k < last) (hd : 4 ≤ d) (hx9 : x ≠ 9223372036854775807) (hK : KeptAt A ko) (hF : FrameAt A fo) (hfo : 66 < fo ∧ fo < 300 ∧ (fo < 201 ∨ 266 < fo)) (hko : 206 < ko ∧ ko < 250) (hk : 0 ≤ k + 1 ∧ k + 1 < 6) (hpo : v fo 1 = po) (hPo : PIP A po) (hso : v (hp A po 0) (k + 1) = so) (hSt : STG A v so) (ho : hp A so 0 = o) (hE : HD d A ko fo lev last (i + 1) (k + 1) (gotX A v ko fo so o (k + 1) x).1 (gotX A v ko fo so o (k + 1) x).2 Q) : HD d A ko fo lev last i k x v Q := by
  refine aw_iload (pc' := 31) rfl dX4_nextOf_29 rfl ?_
  refine aw_ldc (x := (1000000)) (pc' := 33) qX4_68 (by decide) dX4_nextOf_31 rfl ?_
  refine aw_icmp_ge (pt := 104) (pf := 36) dX4_nextOf_33 (by decide) rfl (fun c_33 => ?_) (fun c_33 => ?_)
  · exfalso
    omega
  · refine aw_lload (pc' := 38) rfl dX4_nextOf_36 rfl ?_
    refine aw_ldc2 (x := (9223372036854775807)) (pc' := 41) qX4_167 (by decide) dX4_nextOf_38 rfl ?_
    refine aw_lcmp (pc' := 42) dX4_nextOf_41 rfl ?_
    refine aw_if_ne (pt := 73) (pf := 45) dX4_nextOf_42 (by decide) rfl (fun c_42 => ?_) (fun c_42 => ?_)
    · replace c_42 := (not_congr cmp_eq).mp c_42
      refine aw_iload (pc' := 75) rfl dX4_nextOf_73 rfl ?_
      refine aw_iload (pc' := 77) rfl dX4_nextOf_75 rfl ?_
      refine aw_icmp_ne (pt := 83) (pf := 80) dX4_nextOf_77 (by decide) rfl (fun c_77 => ?_) (fun c_77 => ?_)
      · refine aw_iinc (pc' := 86) (lv' := [_, _, _, _, _, _, _, _, _]) dX4_nextOf_83 rfl rfl (by decide) (by first | exact w32_id (by omega) (by omega) | rfl) rfl ?_
        refine aw_aload_n (pc' := 87) rfl dX4_nextOf_86 rfl ?_
        refine aw_aload_n (pc' := 88) rfl dX4_nextOf_87 rfl ?_
        refine aw_aload_n (pc' := 89) rfl dX4_nextOf_88 rfl ?_
        refine aw_iload (pc' := 91) rfl dX4_nextOf_89 rfl ?_
        refine aw_lload (pc' := 93) rfl dX4_nextOf_91 rfl ?_
        refine aw_callV (ci := 3) (d' := d - 1) (as := [_, _, _, _]) (pc' := 96) (by decide) rfl kX4_got iX4_got sX4_got lX4_169 (XO_machine (A := (cl A v)) hX) dX4_nextOf_93 rfl rfl (Nat.le_of_ble_eq_true rfl) (by omega) ?_
        refine x_got (by omega) hX hK hF hfo hko hk hpo hPo hso hSt ho ?_
        refine aw_lstore (pc' := 98) (lv' := [_, _, _, _, _, _, _, _, _]) dX4_nextOf_96 rfl (by decide) rfl ?_
        refine aw_iinc (pc' := 101) (lv' := [_, _, _, _, _, _, _, _, _]) dX4_nextOf_98 rfl rfl (by decide) (by first | exact w32_id (by omega) (by omega) | rfl) rfl ?_
        refine aw_goto (pc' := 29) dX4_nextOf_101 (by decide) ?_
        exact hE
      · replace c_77 := Classical.not_not.mp c_77
        exfalso
        omega
    · replace c_42 := Classical.not_not.mp c_42
      replace c_42 := (cmp_eq).mp c_42
      exfalso
      omega

set_option maxRecDepth 20000 in
theorem hd_ret {d : Nat} {A : AHp} {v : Sg} {ko fo lev last i x : Int} {Q : Option AV → AHp → Prop} (hi : 0 ≤ i ∧ i < 900000) (hx9 : x ≠ 9223372036854775807) (hQ : Q (some (vl x)) (cl A v)) : HD d A ko fo lev last i last x v Q := by
  refine aw_iload (pc' := 31) rfl dX4_nextOf_29 rfl ?_
  refine aw_ldc (x := (1000000)) (pc' := 33) qX4_68 (by decide) dX4_nextOf_31 rfl ?_
  refine aw_icmp_ge (pt := 104) (pf := 36) dX4_nextOf_33 (by decide) rfl (fun c_33 => ?_) (fun c_33 => ?_)
  · exfalso
    omega
  · refine aw_lload (pc' := 38) rfl dX4_nextOf_36 rfl ?_
    refine aw_ldc2 (x := (9223372036854775807)) (pc' := 41) qX4_167 (by decide) dX4_nextOf_38 rfl ?_
    refine aw_lcmp (pc' := 42) dX4_nextOf_41 rfl ?_
    refine aw_if_ne (pt := 73) (pf := 45) dX4_nextOf_42 (by decide) rfl (fun c_42 => ?_) (fun c_42 => ?_)
    · replace c_42 := (not_congr cmp_eq).mp c_42
      refine aw_iload (pc' := 75) rfl dX4_nextOf_73 rfl ?_
      refine aw_iload (pc' := 77) rfl dX4_nextOf_75 rfl ?_
      refine aw_icmp_ne (pt := 83) (pf := 80) dX4_nextOf_77 (by decide) rfl (fun c_77 => ?_) (fun c_77 => ?_)
      · exfalso
        omega
      · replace c_77 := Classical.not_not.mp c_77
        refine aw_lload (pc' := 82) rfl dX4_nextOf_80 rfl ?_
        refine AW.ret (some (vl _)) dX4_nextOf_82 trivial ?_
        exact hQ
    · replace c_42 := Classical.not_not.mp c_42
      replace c_42 := (cmp_eq).mp c_42
      exfalso
      omega

set_option maxRecDepth 20000 in
theorem x_nextOf {d : Nat} {ko fo po lev : Int} {A : AHp} {v : Sg} {Q : Option AV → AHp → Prop} (hd : 1 ≤ d) (hX : XLAY A) (hF : FrameAt A fo) (hpo : v fo 1 = po) (hPo : PIP A po) (hsz : 1 ≤ v po 1 ∧ v po 1 ≤ 6) (hE : AK d A ko fo lev (v po 1 - 1) 0 (v po 1 - 1) v Q) : CALL d mX4_nextOf [vr 64, vr ko, vr fo, vi lev] (cl A v) Q := by
  refine CALL.of (by decide) (Nat.le_of_ble_eq_true rfl) ?_
  change AW d mX4_nextOf 0 [some (vr 64), some (vr ko), some (vr fo), some (vi lev), none, none, none, none, none] [] (cl A v) Q
  obtain ⟨y1, y2, y3, y4⟩ := id hPo
  refine aw_aload_n (pc' := 1) rfl dX4_nextOf_0 rfl ?_
  refine aw_getr (pc' := 4) (k9 := 1) dX4_nextOf_1 rfl fX4_80 rfl rfl rfl hF.1 ?_
  try simp (disch := omega) only [hv_cl, cl_set, sset_e, sset_1, sset_2]
  rw [hpo]
  refine aw_geti (pc' := 7) (k9 := 1) dX4_nextOf_4 rfl fX4_97 rfl (by decide) rfl hPo.2.1 ?_
  try simp (disch := omega) only [hv_cl, cl_set, sset_e, sset_1, sset_2]
  refine aw_iconst (pc' := 8) (by decide) dX4_nextOf_7 rfl ?_
  refine aw_isub (pc' := 9) (by first | exact w32_id (by omega) (by omega) | rfl) dX4_nextOf_8 rfl ?_
  refine aw_istore (pc' := 11) (lv' := [_, _, _, _, _, _, _, _, _]) dX4_nextOf_9 rfl (by decide) rfl ?_
  refine aw_iload (pc' := 13) rfl dX4_nextOf_11 rfl ?_
  refine aw_istore (pc' := 15) (lv' := [_, _, _, _, _, _, _, _, _]) dX4_nextOf_13 rfl (by decide) rfl ?_
  refine aw_aload_n (pc' := 16) rfl dX4_nextOf_15 rfl ?_
  refine aw_aload_n (pc' := 17) rfl dX4_nextOf_16 rfl ?_
  refine aw_aload_n (pc' := 18) rfl dX4_nextOf_17 rfl ?_
  refine aw_iload (pc' := 20) rfl dX4_nextOf_18 rfl ?_
  refine aw_iload_n (pc' := 21) rfl dX4_nextOf_20 rfl ?_
  refine aw_callV (ci := 3) (d' := d - 1) (as := [_, _, _, _]) (pc' := 24) (by decide) rfl kX4_asked iX4_asked sX4_asked lX4_163 (XO_machine (A := (cl A v)) hX) dX4_nextOf_21 rfl rfl (Nat.le_of_ble_eq_true rfl) (by omega) ?_
  refine CALL.mono hE ?_
  rintro r B ⟨y, u, rfl, rfl, hQ2⟩
  refine aw_lstore (pc' := 26) (lv' := [_, _, _, _, _, _, _, _, _]) dX4_nextOf_24 rfl (by decide) rfl ?_
  refine aw_iconst (pc' := 27) (by decide) dX4_nextOf_26 rfl ?_
  refine aw_istore (pc' := 29) (lv' := [_, _, _, _, _, _, _, _, _]) dX4_nextOf_27 rfl (by decide) rfl ?_
  exact hQ2
