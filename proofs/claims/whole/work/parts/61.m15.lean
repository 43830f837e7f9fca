/-! ===== the reference: ends, turn ===== -/
noncomputable def endStep (n : Nat) (s : Sg) (w a : Int) : Option Sg := if w = 0 then runsS n a s else some (if w = 1 then sset s 320 a 0 else if w = 2 then sset s 321 a (-5) else sset s 307 15 (-5))
def jobEnd (s : Sg) (j last : Int) : Sg := sset (sset (sset s 337 j (s 328 (6 * (24 + j) + last))) 336 j 0) 335 j (s 310 (s 335 j))
noncomputable def turnL (nx : Sg → Int → Int → Option (Int × Sg)) (j : Int) : Nat → Sg → Option (Int × Sg)
  | 0, _ => none
  | m + 1, s => if s 335 j < 0 then some ((-9223372036854775808), s) else grd ((s 336 j = 0 ∨ s 336 j = 1) ∧ PTB s (s 335 j)) <|
      if s 336 j = 0 then turnL nx j m (jobBegS s j) else
      (nx s (24 + j) (s 313 (s 335 j) - 1)).bind fun r => if r.1 = (-9223372036854775808) then grd (0 ≤ r.2 335 j ∧ r.2 335 j < 480) (turnL nx j m (jobEnd r.2 j (s 313 (s 335 j) - 1))) else some r
def turnF (t : Sg) (j x : Int) : Sg := if x = (-9223372036854775808) then sset (sset t 334 j (t 307 32)) 333 j (-1) else sset t 334 j (t 307 32)
set_option maxRecDepth 20000 in
theorem l_ends {d : Nat} {A : AHp} {n c : Nat} {name was : Int} {B : Nat → Sg} {Q : Option AV → AHp → Prop} : ∀ (m : Nat) (i : Nat) (k : Int), c - i = m → 6 * n + 5 ≤ d → MLAY A → (∀ (d : Nat) (A : AHp) (a b : Int) (Q : Option AV → AHp → Prop), Q (some (vi (min a b))) A → CALL d mJ9_min_7cf53 [vi a, vi b] A Q) → i ≤ c → c ≤ 10 → k = (i : Int) → (0 ≤ name ∧ name ≤ 4) → (∀ i : Nat, i ≤ c → B i 307 52 = c) → (∀ i : Nat, i < c → 0 ≤ B i 341 (2 * (i : Int)) ∧ B i 341 (2 * (i : Int)) ≤ 3 ∧ (B i 341 (2 * (i : Int)) = 0 → 0 ≤ B i 341 (2 * (i : Int) + 1) ∧ B i 341 (2 * (i : Int) + 1) < 8) ∧ (B i 341 (2 * (i : Int)) = 1 → 0 ≤ B i 341 (2 * (i : Int) + 1) ∧ B i 341 (2 * (i : Int) + 1) ≤ 4) ∧ (B i 341 (2 * (i : Int)) = 2 → 0 ≤ B i 341 (2 * (i : Int) + 1) ∧ B i 341 (2 * (i : Int) + 1) ≤ 2)) → (∀ i : Nat, i < c → endStep n (B i) (B i 341 (2 * (i : Int))) (B i 341 (2 * (i : Int) + 1)) = some (B (i + 1))) → Q (some (vl (B c 320 name))) (lift A (sset (scpy (scpy (B c) 343 0 320 0 5) 344 0 321 0 3) 307 15 was)) → ∀ (L4 : Option AV), AW d mX13_ends 40 [some (vr 307), some (vi name), some (vi was), some (vi k), L4] [] (lift A (B i)) Q := by
  intro m
  induction m using Nat.strongRecOn with
  | _ m ih =>
    intro i k hm hd hM hMin hi hc10 ek hnm h52 hrow hst hQ L4
    have e52 := h52 i hi
    have hrow9 := hrow i
    have hst9 := hst i
    rw [← ek] at hrow9 hst9
    refine aw_iload_n (pc' := 41) rfl dX13_ends_40 rfl ?_
    refine aw_aload_n (pc' := 42) rfl dX13_ends_41 rfl ?_
    refine aw_geti (pc' := 45) (k9 := 52) dX13_ends_42 rfl fX13_383 rfl (by decide) rfl (MO (A := (lift A (B i))) hM) ?_
    try simp (disch := omega) only [hv_in, lift_set, sset_e, sset_1, sset_2, workS_o, stagesS_o, beginsS_o, scpy_o, lift_cpy]
    refine aw_icmp_ge (pt := 139) (pf := 48) dX13_ends_45 (by decide) rfl (fun c_45 => ?_) (fun c_45 => ?_)
    · refine aw_aload_n (pc' := 140) rfl dX13_ends_139 rfl ?_
      refine aw_getp (pc' := 143) (k9 := 13) (p := 320) dX13_ends_140 rfl fX13_79 rfl rfl rfl (MO (A := (lift A (B i))) hM) (M_values (A := (lift A (B i))) hM) ?_
      refine aw_iload_n (pc' := 144) rfl dX13_ends_143 rfl ?_
      refine aw_iald (pc' := 145) dX13_ends_144 rfl (MA_values (A := (lift A (B i))) hM) (by omega) (by omega) ?_
      try simp (disch := omega) only [hv_in, lift_set, sset_e, sset_1, sset_2, workS_o, stagesS_o, beginsS_o, scpy_o, lift_cpy]
      refine aw_i2l (pc' := 146) dX13_ends_145 rfl ?_
      refine aw_lstore_n (pc' := 147) (lv' := [_, _, _, _, _]) dX13_ends_146 rfl (by decide) rfl ?_
      refine aw_aload_n (pc' := 148) rfl dX13_ends_147 rfl ?_
      refine aw_getp (pc' := 151) (k9 := 55) (p := 343) dX13_ends_148 rfl fX13_153 rfl rfl rfl (MO (A := (lift A (B i))) hM) (M_planValues (A := (lift A (B i))) hM) ?_
      refine aw_aload_n (pc' := 152) rfl dX13_ends_151 rfl ?_
      refine aw_getp (pc' := 155) (k9 := 13) (p := 320) dX13_ends_152 rfl fX13_79 rfl rfl rfl (MO (A := (lift A (B i))) hM) (M_values (A := (lift A (B i))) hM) ?_
      refine aw_callS (d' := d - 1) (as := [_, _]) (pc' := 158) kX13_copies tX13_copies lX13_336 dX13_ends_155 rfl rfl (Nat.le_of_ble_eq_true rfl) (by omega) ?_
      refine c_copies (n := 5) (by omega) (MA_planValues (A := (lift A _)) hM) (MA_values (A := (lift A _)) hM) (by decide) (by decide) (by decide) ?_
      rw [lift_cpy (by decide) (by decide)]
      refine aw_aload_n (pc' := 159) rfl dX13_ends_158 rfl ?_
      refine aw_getp (pc' := 162) (k9 := 56) (p := 344) dX13_ends_159 rfl fX13_156 rfl rfl rfl (MO (A := (lift A (B i))) hM) (M_planFunctions (A := (lift A (B i))) hM) ?_
      refine aw_aload_n (pc' := 163) rfl dX13_ends_162 rfl ?_
      refine aw_getp (pc' := 166) (k9 := 14) (p := 321) dX13_ends_163 rfl fX13_82 rfl rfl rfl (MO (A := (lift A (B i))) hM) (M_functions (A := (lift A (B i))) hM) ?_
      refine aw_callS (d' := d - 1) (as := [_, _]) (pc' := 169) kX13_copies tX13_copies lX13_336 dX13_ends_166 rfl rfl (Nat.le_of_ble_eq_true rfl) (by omega) ?_
      refine c_copies (n := 3) (by omega) (MA_planFunctions (A := (lift A _)) hM) (MA_functions (A := (lift A _)) hM) (by decide) (by decide) (by decide) ?_
      rw [lift_cpy (by decide) (by decide)]
      refine aw_aload_n (pc' := 170) rfl dX13_ends_169 rfl ?_
      refine aw_iload_n (pc' := 171) rfl dX13_ends_170 rfl ?_
      refine aw_puti (pc' := 174) (k9 := 15) dX13_ends_171 rfl fX13_85 rfl rfl rfl (MO (A := (lift A (B i))) hM) ?_
      refine aw_lload_n (pc' := 175) rfl dX13_ends_174 rfl ?_
      refine AW.ret (some (vl _)) dX13_ends_175 trivial ?_
      rw [show c = i by omega] at hQ
      try simp (disch := omega) only [hv_in, lift_set, sset_e, sset_1, sset_2, workS_o, stagesS_o, beginsS_o, scpy_o, lift_cpy]
      exact hQ
    · refine aw_aload_n (pc' := 49) rfl dX13_ends_48 rfl ?_
      refine aw_getp (pc' := 52) (k9 := 51) (p := 341) dX13_ends_49 rfl fX13_147 rfl rfl rfl (MO (A := (lift A (B i))) hM) (M_plans (A := (lift A (B i))) hM) ?_
      refine aw_iconst (pc' := 53) (by decide) dX13_ends_52 rfl ?_
      refine aw_iload_n (pc' := 54) rfl dX13_ends_53 rfl ?_
      refine aw_imul (pc' := 55) (by first | exact w32_id (by omega) (by omega) | rfl) dX13_ends_54 rfl ?_
      refine aw_iconst (pc' := 56) (by decide) dX13_ends_55 rfl ?_
      refine aw_iadd (pc' := 57) (by first | exact w32_id (by omega) (by omega) | rfl) dX13_ends_56 rfl ?_
      refine aw_iald (pc' := 58) dX13_ends_57 rfl (MA_plans (A := (lift A (B i))) hM) (by omega) (by omega) ?_
      try simp (disch := omega) only [hv_in, lift_set, sset_e, sset_1, sset_2, workS_o, stagesS_o, beginsS_o, scpy_o, lift_cpy]
      refine aw_istore (pc' := 60) (lv' := [_, _, _, _, _]) dX13_ends_58 rfl (by decide) rfl ?_
      refine aw_aload_n (pc' := 61) rfl dX13_ends_60 rfl ?_
      refine aw_getp (pc' := 64) (k9 := 51) (p := 341) dX13_ends_61 rfl fX13_147 rfl rfl rfl (MO (A := (lift A (B i))) hM) (M_plans (A := (lift A (B i))) hM) ?_
      refine aw_iconst (pc' := 65) (by decide) dX13_ends_64 rfl ?_
      refine aw_iload_n (pc' := 66) rfl dX13_ends_65 rfl ?_
      refine aw_imul (pc' := 67) (by first | exact w32_id (by omega) (by omega) | rfl) dX13_ends_66 rfl ?_
      refine aw_iald (pc' := 68) dX13_ends_67 rfl (MA_plans (A := (lift A (B i))) hM) (by omega) (by omega) ?_
      try simp (disch := omega) only [hv_in, lift_set, sset_e, sset_1, sset_2, workS_o, stagesS_o, beginsS_o, scpy_o, lift_cpy]
      refine aw_if_ne (pt := 80) (pf := 71) dX13_ends_68 (by decide) rfl (fun c_68 => ?_) (fun c_68 => ?_)
      · refine aw_aload_n (pc' := 81) rfl dX13_ends_80 rfl ?_
        refine aw_getp (pc' := 84) (k9 := 51) (p := 341) dX13_ends_81 rfl fX13_147 rfl rfl rfl (MO (A := (lift A (B i))) hM) (M_plans (A := (lift A (B i))) hM) ?_
        refine aw_iconst (pc' := 85) (by decide) dX13_ends_84 rfl ?_
        refine aw_iload_n (pc' := 86) rfl dX13_ends_85 rfl ?_
        refine aw_imul (pc' := 87) (by first | exact w32_id (by omega) (by omega) | rfl) dX13_ends_86 rfl ?_
        refine aw_iald (pc' := 88) dX13_ends_87 rfl (MA_plans (A := (lift A (B i))) hM) (by omega) (by omega) ?_
        try simp (disch := omega) only [hv_in, lift_set, sset_e, sset_1, sset_2, workS_o, stagesS_o, beginsS_o, scpy_o, lift_cpy]
        refine aw_iconst (pc' := 89) (by decide) dX13_ends_88 rfl ?_
        refine aw_icmp_ne (pt := 103) (pf := 92) dX13_ends_89 (by decide) rfl (fun c_89 => ?_) (fun c_89 => ?_)
        · refine aw_aload_n (pc' := 104) rfl dX13_ends_103 rfl ?_
          refine aw_getp (pc' := 107) (k9 := 51) (p := 341) dX13_ends_104 rfl fX13_147 rfl rfl rfl (MO (A := (lift A (B i))) hM) (M_plans (A := (lift A (B i))) hM) ?_
          refine aw_iconst (pc' := 108) (by decide) dX13_ends_107 rfl ?_
          refine aw_iload_n (pc' := 109) rfl dX13_ends_108 rfl ?_
          refine aw_imul (pc' := 110) (by first | exact w32_id (by omega) (by omega) | rfl) dX13_ends_109 rfl ?_
          refine aw_iald (pc' := 111) dX13_ends_110 rfl (MA_plans (A := (lift A (B i))) hM) (by omega) (by omega) ?_
          try simp (disch := omega) only [hv_in, lift_set, sset_e, sset_1, sset_2, workS_o, stagesS_o, beginsS_o, scpy_o, lift_cpy]
          refine aw_iconst (pc' := 112) (by decide) dX13_ends_111 rfl ?_
          refine aw_icmp_ne (pt := 127) (pf := 115) dX13_ends_112 (by decide) rfl (fun c_112 => ?_) (fun c_112 => ?_)
          · refine aw_aload_n (pc' := 128) rfl dX13_ends_127 rfl ?_
            refine aw_bipush (pc' := 130) (by decide +kernel) dX13_ends_128 rfl ?_
            refine aw_puti (pc' := 133) (k9 := 15) dX13_ends_130 rfl fX13_85 rfl rfl rfl (MO (A := (lift A (B i))) hM) ?_
            refine aw_iinc (pc' := 136) (lv' := [_, _, _, _, _]) dX13_ends_133 rfl rfl (by decide) (by first | exact w32_id (by omega) (by omega) | rfl) rfl ?_
            refine aw_goto (pc' := 40) dX13_ends_136 (by decide) ?_
            try simp (disch := omega) only [hv_in, lift_set, sset_e, sset_1, sset_2, workS_o, stagesS_o, beginsS_o, scpy_o, lift_cpy]
            have hr8 := hrow9 (by omega)
            have hs8 := hst9 (by omega)
            unfold endStep at hs8
            simp (disch := omega) only [if_pos, if_neg, Option.some.injEq] at hs8
            rw [hs8]
            exact ih _ (by omega) (i + 1) (k + 1) rfl hd hM hMin (by omega) hc10 (by omega) hnm h52 hrow hst hQ _
          · replace c_112 := Classical.not_not.mp c_112
            refine aw_aload_n (pc' := 116) rfl dX13_ends_115 rfl ?_
            refine aw_getp (pc' := 119) (k9 := 14) (p := 321) dX13_ends_116 rfl fX13_82 rfl rfl rfl (MO (A := (lift A (B i))) hM) (M_functions (A := (lift A (B i))) hM) ?_
            refine aw_iload (pc' := 121) rfl dX13_ends_119 rfl ?_
            refine aw_bipush (pc' := 123) (by decide +kernel) dX13_ends_121 rfl ?_
            refine aw_iast (pc' := 124) dX13_ends_123 rfl (MA_functions (A := (lift A (B i))) hM) (by omega) (by omega) ?_
            refine aw_goto (pc' := 133) dX13_ends_124 (by decide) ?_
            refine aw_iinc (pc' := 136) (lv' := [_, _, _, _, _]) dX13_ends_133 rfl rfl (by decide) (by first | exact w32_id (by omega) (by omega) | rfl) rfl ?_
            refine aw_goto (pc' := 40) dX13_ends_136 (by decide) ?_
            try simp (disch := omega) only [hv_in, lift_set, sset_e, sset_1, sset_2, workS_o, stagesS_o, beginsS_o, scpy_o, lift_cpy]
            have hr8 := hrow9 (by omega)
            have hs8 := hst9 (by omega)
            unfold endStep at hs8
            simp (disch := omega) only [if_pos, if_neg, Option.some.injEq] at hs8
            rw [hs8]
            exact ih _ (by omega) (i + 1) (k + 1) rfl hd hM hMin (by omega) hc10 (by omega) hnm h52 hrow hst hQ _
        · replace c_89 := Classical.not_not.mp c_89
          refine aw_aload_n (pc' := 93) rfl dX13_ends_92 rfl ?_
          refine aw_getp (pc' := 96) (k9 := 13) (p := 320) dX13_ends_93 rfl fX13_79 rfl rfl rfl (MO (A := (lift A (B i))) hM) (M_values (A := (lift A (B i))) hM) ?_
          refine aw_iload (pc' := 98) rfl dX13_ends_96 rfl ?_
          refine aw_iconst (pc' := 99) (by decide) dX13_ends_98 rfl ?_
          refine aw_iast (pc' := 100) dX13_ends_99 rfl (MA_values (A := (lift A (B i))) hM) (by omega) (by omega) ?_
          refine aw_goto (pc' := 133) dX13_ends_100 (by decide) ?_
          refine aw_iinc (pc' := 136) (lv' := [_, _, _, _, _]) dX13_ends_133 rfl rfl (by decide) (by first | exact w32_id (by omega) (by omega) | rfl) rfl ?_
          refine aw_goto (pc' := 40) dX13_ends_136 (by decide) ?_
          try simp (disch := omega) only [hv_in, lift_set, sset_e, sset_1, sset_2, workS_o, stagesS_o, beginsS_o, scpy_o, lift_cpy]
          have hr8 := hrow9 (by omega)
          have hs8 := hst9 (by omega)
          unfold endStep at hs8
          simp (disch := omega) only [if_pos, if_neg, Option.some.injEq] at hs8
          rw [hs8]
          exact ih _ (by omega) (i + 1) (k + 1) rfl hd hM hMin (by omega) hc10 (by omega) hnm h52 hrow hst hQ _
      · replace c_68 := Classical.not_not.mp c_68
        refine aw_aload_n (pc' := 72) rfl dX13_ends_71 rfl ?_
        refine aw_iload (pc' := 74) rfl dX13_ends_72 rfl ?_
        refine aw_callV (ci := 11) (d' := d - 1) (as := [_]) (pc' := 77) (by decide) rfl kX13_runs iX13_runs sX13_runs lX13_332 (MO (A := (lift A (B i))) hM) dX13_ends_74 rfl rfl (Nat.le_of_ble_eq_true rfl) (by omega) ?_
        try simp (disch := omega) only [hv_in, lift_set, sset_e, sset_1, sset_2, workS_o, stagesS_o, beginsS_o, scpy_o, lift_cpy]
        have hr8 := hrow9 (by omega)
        have hs8 := hst9 (by omega)
        unfold endStep at hs8
        rw [if_pos (by omega)] at hs8
        refine c_runs (by omega) hM hMin (by omega) hs8 ?_
        refine aw_goto (pc' := 133) dX13_ends_77 (by decide) ?_
        refine aw_iinc (pc' := 136) (lv' := [_, _, _, _, _]) dX13_ends_133 rfl rfl (by decide) (by first | exact w32_id (by omega) (by omega) | rfl) rfl ?_
        refine aw_goto (pc' := 40) dX13_ends_136 (by decide) ?_
        exact ih _ (by omega) (i + 1) (k + 1) rfl hd hM hMin (by omega) hc10 (by omega) hnm h52 hrow hst hQ _

set_option maxRecDepth 20000 in
theorem c_ends {d : Nat} {n : Nat} {name : Int} {A : AHp} {s : Sg} {Q : Option AV → AHp → Prop} (hd : 6 * n + 5 ≤ d) (hM : MLAY A) (hMin : ∀ (d : Nat) (A : AHp) (a b : Int) (Q : Option AV → AHp → Prop), Q (some (vi (min a b))) A → CALL d mJ9_min_7cf53 [vi a, vi b] A Q)
  (hN : ¬ (0 ≤ name ∧ name ≤ 4) → Q (some (vl (-9223372036854775808))) (lift A s))
  (hO : 0 ≤ name → name ≤ 4 → ∃ (c : Nat) (B : Nat → Sg), B 0 = scpy (scpy s 320 0 343 0 5) 321 0 344 0 3 ∧ c ≤ 10 ∧ (∀ i : Nat, i ≤ c → B i 307 52 = c) ∧ (∀ i : Nat, i < c → 0 ≤ B i 341 (2 * (i : Int)) ∧ B i 341 (2 * (i : Int)) ≤ 3 ∧ (B i 341 (2 * (i : Int)) = 0 → 0 ≤ B i 341 (2 * (i : Int) + 1) ∧ B i 341 (2 * (i : Int) + 1) < 8) ∧ (B i 341 (2 * (i : Int)) = 1 → 0 ≤ B i 341 (2 * (i : Int) + 1) ∧ B i 341 (2 * (i : Int) + 1) ≤ 4) ∧ (B i 341 (2 * (i : Int)) = 2 → 0 ≤ B i 341 (2 * (i : Int) + 1) ∧ B i 341 (2 * (i : Int) + 1) ≤ 2)) ∧ (∀ i : Nat, i < c → endStep n (B i) (B i 341 (2 * (i : Int))) (B i 341 (2 * (i : Int) + 1)) = some (B (i + 1))) ∧ Q (some (vl (B c 320 name))) (lift A (sset (scpy (scpy (B c) 343 0 320 0 5) 344 0 321 0 3) 307 15 (s 307 15)))) : CALL d mX13_ends [vr 307, vi name] (lift A s) Q := by
  refine CALL.of (by decide) (Nat.le_of_ble_eq_true rfl) ?_
  change AW d mX13_ends 0 [some (vr 307), some (vi name), none, none, none] [] (lift A s) Q
  refine aw_iload_n (pc' := 1) rfl dX13_ends_0 rfl ?_
  refine aw_callS (d' := d - 1) (as := [_]) (pc' := 4) kX13_isName tX13_isName lX13_372 dX13_ends_1 rfl rfl (Nat.le_of_ble_eq_true rfl) (by omega) ?_
  refine c_isName (by omega) (fun n1_1 n2_1 => ?_) (fun n0_1 => ?_)
  · refine aw_if_ne (pt := 11) (pf := 7) dX13_ends_4 (by decide) rfl (fun _ => ?_) (fun c_4 => absurd (by decide) c_4)
    refine aw_aload_n (pc' := 12) rfl dX13_ends_11 rfl ?_
    refine aw_getp (pc' := 15) (k9 := 13) (p := 320) dX13_ends_12 rfl fX13_79 rfl rfl rfl (MO (A := (lift A s)) hM) (M_values (A := (lift A s)) hM) ?_
    refine aw_aload_n (pc' := 16) rfl dX13_ends_15 rfl ?_
    refine aw_getp (pc' := 19) (k9 := 55) (p := 343) dX13_ends_16 rfl fX13_153 rfl rfl rfl (MO (A := (lift A s)) hM) (M_planValues (A := (lift A s)) hM) ?_
    refine aw_callS (d' := d - 1) (as := [_, _]) (pc' := 22) kX13_copies tX13_copies lX13_336 dX13_ends_19 rfl rfl (Nat.le_of_ble_eq_true rfl) (by omega) ?_
    refine c_copies (n := 5) (by omega) (MA_values (A := (lift A _)) hM) (MA_planValues (A := (lift A _)) hM) (by decide) (by decide) (by decide) ?_
    rw [lift_cpy (by decide) (by decide)]
    refine aw_aload_n (pc' := 23) rfl dX13_ends_22 rfl ?_
    refine aw_getp (pc' := 26) (k9 := 14) (p := 321) dX13_ends_23 rfl fX13_82 rfl rfl rfl (MO (A := (lift A s)) hM) (M_functions (A := (lift A s)) hM) ?_
    refine aw_aload_n (pc' := 27) rfl dX13_ends_26 rfl ?_
    refine aw_getp (pc' := 30) (k9 := 56) (p := 344) dX13_ends_27 rfl fX13_156 rfl rfl rfl (MO (A := (lift A s)) hM) (M_planFunctions (A := (lift A s)) hM) ?_
    refine aw_callS (d' := d - 1) (as := [_, _]) (pc' := 33) kX13_copies tX13_copies lX13_336 dX13_ends_30 rfl rfl (Nat.le_of_ble_eq_true rfl) (by omega) ?_
    refine c_copies (n := 3) (by omega) (MA_functions (A := (lift A _)) hM) (MA_planFunctions (A := (lift A _)) hM) (by decide) (by decide) (by decide) ?_
    rw [lift_cpy (by decide) (by decide)]
    refine aw_aload_n (pc' := 34) rfl dX13_ends_33 rfl ?_
    refine aw_geti (pc' := 37) (k9 := 15) dX13_ends_34 rfl fX13_85 rfl (by decide) rfl (MO (A := (lift A s)) hM) ?_
    try simp (disch := omega) only [hv_in, lift_set, sset_e, sset_1, sset_2, workS_o, stagesS_o, beginsS_o, scpy_o, lift_cpy]
    refine aw_istore_n (pc' := 38) (lv' := [_, _, _, _, _]) dX13_ends_37 rfl (by decide) rfl ?_
    refine aw_iconst (pc' := 39) (by decide) dX13_ends_38 rfl ?_
    refine aw_istore_n (pc' := 40) (lv' := [_, _, _, _, _]) dX13_ends_39 rfl (by decide) rfl ?_
    obtain ⟨c, B, hB0, hc10, h52, hrow, hst, hQ⟩ := hO (by omega) (by omega)
    try simp (disch := omega) only [hv_in, lift_set, sset_e, sset_1, sset_2, workS_o, stagesS_o, beginsS_o, scpy_o, lift_cpy]
    rw [← hB0]
    exact l_ends _ 0 0 rfl hd hM hMin (by omega) hc10 rfl (by omega) h52 hrow hst hQ _
  · refine aw_if_ne (pt := 11) (pf := 7) dX13_ends_4 (by decide) rfl (fun c_4 => absurd c_4 (by decide)) (fun _ => ?_)
    refine aw_ldc2 (x := (-9223372036854775808)) (pc' := 10) qX13_267 (by decide) dX13_ends_7 rfl ?_
    refine AW.ret (some (vl _)) dX13_ends_10 trivial ?_
    exact hN (by omega)

set_option maxRecDepth 20000 in
theorem l_turnE {d : Nat} {A : AHp} {t : Sg} {j x : Int} {L4 : Option AV} {Q : Option AV → AHp → Prop} (hM : MLAY A) (hj : 0 ≤ j ∧ j ≤ 3) (hQ : Q (some (vl x)) (lift A (turnF t j x))) : AW d mX13_turn 160 [some (vr 307), some (vi j), some (vl x), none, L4] [] (lift A t) Q := by
  refine aw_aload_n (pc' := 161) rfl dX13_turn_160 rfl ?_
  refine aw_getp (pc' := 164) (k9 := 43) (p := 334) dX13_turn_161 rfl fX13_126 rfl rfl rfl (MO (A := (lift A t)) hM) (M_jobFuel (A := (lift A t)) hM) ?_
  refine aw_iload_n (pc' := 165) rfl dX13_turn_164 rfl ?_
  refine aw_aload_n (pc' := 166) rfl dX13_turn_165 rfl ?_
  refine aw_geti (pc' := 169) (k9 := 32) dX13_turn_166 rfl fX13_315 rfl (by decide) rfl (MO (A := (lift A t)) hM) ?_
  try simp (disch := omega) only [hv_in, lift_set, sset_e, sset_1, sset_2, workS_o, stagesS_o, beginsS_o, scpy_o, lift_cpy]
  refine aw_iast (pc' := 170) dX13_turn_169 rfl (MA_jobFuel (A := (lift A t)) hM) (by omega) (by omega) ?_
  refine aw_lload_n (pc' := 171) rfl dX13_turn_170 rfl ?_
  refine aw_ldc2 (x := (-9223372036854775808)) (pc' := 174) qX13_267 (by decide) dX13_turn_171 rfl ?_
  refine aw_lcmp (pc' := 175) dX13_turn_174 rfl ?_
  refine aw_if_ne (pt := 185) (pf := 178) dX13_turn_175 (by decide) rfl (fun c_175 => ?_) (fun c_175 => ?_)
  · replace c_175 := (not_congr cmp_eq).mp c_175
    refine aw_lload_n (pc' := 186) rfl dX13_turn_185 rfl ?_
    refine AW.ret (some (vl _)) dX13_turn_186 trivial ?_
    try simp (disch := omega) only [hv_in, lift_set, sset_e, sset_1, sset_2, workS_o, stagesS_o, beginsS_o, scpy_o, lift_cpy]
    unfold turnF at hQ
    first | (rw [if_pos (by omega)] at hQ; exact hQ) | (rw [if_neg (by omega)] at hQ; exact hQ)
  · replace c_175 := Classical.not_not.mp c_175
    replace c_175 := (cmp_eq).mp c_175
    refine aw_aload_n (pc' := 179) rfl dX13_turn_178 rfl ?_
    refine aw_getp (pc' := 182) (k9 := 42) (p := 333) dX13_turn_179 rfl fX13_123 rfl rfl rfl (MO (A := (lift A t)) hM) (M_jobLine (A := (lift A t)) hM) ?_
    refine aw_iload_n (pc' := 183) rfl dX13_turn_182 rfl ?_
    refine aw_iconst (pc' := 184) (by decide) dX13_turn_183 rfl ?_
    refine aw_iast (pc' := 185) dX13_turn_184 rfl (MA_jobLine (A := (lift A t)) hM) (by omega) (by omega) ?_
    refine aw_lload_n (pc' := 186) rfl dX13_turn_185 rfl ?_
    refine AW.ret (some (vl _)) dX13_turn_186 trivial ?_
    try simp (disch := omega) only [hv_in, lift_set, sset_e, sset_1, sset_2, workS_o, stagesS_o, beginsS_o, scpy_o, lift_cpy]
    unfold turnF at hQ
    first | (rw [if_pos (by omega)] at hQ; exact hQ) | (rw [if_neg (by omega)] at hQ; exact hQ)

theorem turn_s {nx : Sg → Int → Int → Option (Int × Sg)} {j : Int} {m : Nat} {s t : Sg} {x : Int} (h : turnL nx j m s = some (x, t)) : ∃ m', m = m' + 1 ∧ ((s 335 j < 0 ∧ x = (-9223372036854775808) ∧ t = s) ∨ (0 ≤ s 335 j ∧ (s 336 j = 0 ∨ s 336 j = 1) ∧ PTB s (s 335 j) ∧
    ((s 336 j = 0 ∧ turnL nx j m' (jobBegS s j) = some (x, t)) ∨ (s 336 j ≠ 0 ∧ ∃ x1 r1, nx s (24 + j) (s 313 (s 335 j) - 1) = some (x1, r1) ∧ ((x1 = (-9223372036854775808) ∧ (0 ≤ r1 335 j ∧ r1 335 j < 480) ∧ turnL nx j m' (jobEnd r1 j (s 313 (s 335 j) - 1)) = some (x, t)) ∨ (x1 ≠ (-9223372036854775808) ∧ x = x1 ∧ t = r1)))))) := by
  cases m with
  | zero => simp [turnL] at h
  | succ m =>
    refine ⟨m, rfl, ?_⟩
    unfold turnL at h
    by_cases c1 : s 335 j < 0
    · rw [if_pos c1, Option.some.injEq, Prod.mk.injEq] at h
      exact Or.inl ⟨c1, h.1.symm, h.2.symm⟩
    · rw [if_neg c1] at h
      obtain ⟨⟨g1, g2⟩, h⟩ := grd_some h
      refine Or.inr ⟨by omega, g1, g2, ?_⟩
      by_cases c2 : s 336 j = 0
      · rw [if_pos c2] at h
        exact Or.inl ⟨c2, h⟩
      · rw [if_neg c2] at h
        obtain ⟨⟨x1, r1⟩, h1, h2⟩ := Option.bind_eq_some_iff.mp h
        refine Or.inr ⟨c2, x1, r1, h1, ?_⟩
        by_cases c3 : x1 = (-9223372036854775808)
        · rw [if_pos c3] at h2
          obtain ⟨g3, h3⟩ := grd_some h2
          exact Or.inl ⟨c3, g3, h3⟩
        · rw [if_neg c3, Option.some.injEq, Prod.mk.injEq] at h2
          exact Or.inr ⟨c3, h2.1.symm, h2.2.symm⟩
set_option maxRecDepth 20000 in
theorem l_turn {d : Nat} {A : AHp} {n : Nat} {j x : Int} {t : Sg} {Q : Option AV → AHp → Prop} : ∀ (m : Nat) (s : Sg), 6 * n + 5 ≤ d → MLAY A → (∀ (d : Nat) (A : AHp) (a b : Int) (Q : Option AV → AHp → Prop), Q (some (vi (min a b))) A → CALL d mJ9_min_7cf53 [vi a, vi b] A Q) → (0 ≤ j ∧ j ≤ 3) → turnL (nextS n) j m s = some (x, t) → Q (some (vl x)) (lift A (turnF t j x)) → ∀ (L4 : Option AV), AW d mX13_turn 44 [some (vr 307), some (vi j), some (vl (-9223372036854775808)), none, L4] [] (lift A s) Q := by
  intro m
  induction m using Nat.strongRecOn with
  | _ m ih =>
    intro s hd hM hMin hj h hQ L4
    obtain ⟨m1, em, hcase⟩ := turn_s h
    refine aw_lload_n (pc' := 45) rfl dX13_turn_44 rfl ?_
    refine aw_ldc2 (x := (-9223372036854775808)) (pc' := 48) qX13_267 (by decide) dX13_turn_45 rfl ?_
    refine aw_lcmp (pc' := 49) dX13_turn_48 rfl ?_
    refine aw_if_ne (pt := 160) (pf := 52) dX13_turn_49 (by decide) rfl (fun c_49 => ?_) (fun c_49 => ?_)
    · replace c_49 := (not_congr cmp_eq).mp c_49
      exfalso
      omega
    · replace c_49 := Classical.not_not.mp c_49
      replace c_49 := (cmp_eq).mp c_49
      refine aw_aload_n (pc' := 53) rfl dX13_turn_52 rfl ?_
      refine aw_getp (pc' := 56) (k9 := 44) (p := 335) dX13_turn_53 rfl fX13_129 rfl rfl rfl (MO (A := (lift A s)) hM) (M_jobPipe (A := (lift A s)) hM) ?_
      refine aw_iload_n (pc' := 57) rfl dX13_turn_56 rfl ?_
      refine aw_iald (pc' := 58) dX13_turn_57 rfl (MA_jobPipe (A := (lift A s)) hM) (by omega) (by omega) ?_
      try simp (disch := omega) only [hv_in, lift_set, sset_e, sset_1, sset_2, workS_o, stagesS_o, beginsS_o, scpy_o, lift_cpy]
      refine aw_if_lt (pt := 160) (pf := 61) dX13_turn_58 (by decide) rfl (fun c_58 => ?_) (fun c_58 => ?_)
      · rcases hcase with ⟨_, q2, q3⟩ | q
        · subst q2 q3
          exact l_turnE hM hj hQ
        · omega
      · try simp (disch := omega) only [hv_in, lift_set, sset_e, sset_1, sset_2, workS_o, stagesS_o, beginsS_o, scpy_o, lift_cpy]
        obtain ⟨g0, g1, g2, g3⟩ : 0 ≤ s 335 j ∧ (s 336 j = 0 ∨ s 336 j = 1) ∧ PTB s (s 335 j) ∧ ((s 336 j = 0 ∧ turnL (nextS n) j m1 (jobBegS s j) = some (x, t)) ∨ (s 336 j ≠ 0 ∧ ∃ x1 r1, nextS n s (24 + j) (s 313 (s 335 j) - 1) = some (x1, r1) ∧ ((x1 = (-9223372036854775808) ∧ (0 ≤ r1 335 j ∧ r1 335 j < 480) ∧ turnL (nextS n) j m1 (jobEnd r1 j (s 313 (s 335 j) - 1)) = some (x, t)) ∨ (x1 ≠ (-9223372036854775808) ∧ x = x1 ∧ t = r1)))) := by
          rcases hcase with ⟨q, _⟩ | q
          · omega
          · exact q
        have p2 := g2.2.1
        have p3 := g2.2.2.1
        have p4 := g2.2.2.2.1
        refine aw_aload_n (pc' := 62) rfl dX13_turn_61 rfl ?_
        refine aw_getp (pc' := 65) (k9 := 45) (p := 336) dX13_turn_62 rfl fX13_132 rfl rfl rfl (MO (A := (lift A s)) hM) (M_jobGoes (A := (lift A s)) hM) ?_
        refine aw_iload_n (pc' := 66) rfl dX13_turn_65 rfl ?_
        refine aw_zald (pc' := 67) dX13_turn_66 rfl (MA_jobGoes (A := (lift A s)) hM) (by omega) (by omega) (fun _ => ?_) (by simp (disch := decide) only [hv_in]; exact g1)
        try simp (disch := omega) only [hv_in, lift_set, sset_e, sset_1, sset_2, workS_o, stagesS_o, beginsS_o, scpy_o, lift_cpy]
        refine aw_if_ne (pt := 78) (pf := 70) dX13_turn_67 (by decide) rfl (fun c_67 => ?_) (fun c_67 => ?_)
        · refine aw_aload_n (pc' := 79) rfl dX13_turn_78 rfl ?_
          refine aw_getp (pc' := 82) (k9 := 5) (p := 313) dX13_turn_79 rfl fX13_58 rfl rfl rfl (MO (A := (lift A s)) hM) (M_stageMany (A := (lift A s)) hM) ?_
          refine aw_aload_n (pc' := 83) rfl dX13_turn_82 rfl ?_
          refine aw_getp (pc' := 86) (k9 := 44) (p := 335) dX13_turn_83 rfl fX13_129 rfl rfl rfl (MO (A := (lift A s)) hM) (M_jobPipe (A := (lift A s)) hM) ?_
          refine aw_iload_n (pc' := 87) rfl dX13_turn_86 rfl ?_
          refine aw_iald (pc' := 88) dX13_turn_87 rfl (MA_jobPipe (A := (lift A s)) hM) (by omega) (by omega) ?_
          try simp (disch := omega) only [hv_in, lift_set, sset_e, sset_1, sset_2, workS_o, stagesS_o, beginsS_o, scpy_o, lift_cpy]
          refine aw_iald (pc' := 89) dX13_turn_88 rfl (MA_stageMany (A := (lift A s)) hM) (by omega) (by omega) ?_
          try simp (disch := omega) only [hv_in, lift_set, sset_e, sset_1, sset_2, workS_o, stagesS_o, beginsS_o, scpy_o, lift_cpy]
          refine aw_iconst (pc' := 90) (by decide) dX13_turn_89 rfl ?_
          refine aw_isub (pc' := 91) (by first | exact w32_id (by omega) (by omega) | rfl) dX13_turn_90 rfl ?_
          refine aw_istore (pc' := 93) (lv' := [_, _, _, _, _]) dX13_turn_91 rfl (by decide) rfl ?_
          refine aw_aload_n (pc' := 94) rfl dX13_turn_93 rfl ?_
          refine aw_bipush (pc' := 96) (by decide +kernel) dX13_turn_94 rfl ?_
          refine aw_iload_n (pc' := 97) rfl dX13_turn_96 rfl ?_
          refine aw_iadd (pc' := 98) (by first | exact w32_id (by omega) (by omega) | rfl) dX13_turn_97 rfl ?_
          refine aw_iload (pc' := 100) rfl dX13_turn_98 rfl ?_
          refine aw_callV (ci := 11) (d' := d - 1) (as := [_, _]) (pc' := 103) (by decide) rfl kX13_next iX13_next sX13_next lX13_275 (MO (A := (lift A s)) hM) dX13_turn_100 rfl rfl (Nat.le_of_ble_eq_true rfl) (by omega) ?_
          try simp (disch := omega) only [hv_in, lift_set, sset_e, sset_1, sset_2, workS_o, stagesS_o, beginsS_o, scpy_o, lift_cpy]
          obtain ⟨x1, r1, g4, g5⟩ : ∃ x1 r1, nextS n s (24 + j) (s 313 (s 335 j) - 1) = some (x1, r1) ∧ ((x1 = (-9223372036854775808) ∧ (0 ≤ r1 335 j ∧ r1 335 j < 480) ∧ turnL (nextS n) j m1 (jobEnd r1 j (s 313 (s 335 j) - 1)) = some (x, t)) ∨ (x1 ≠ (-9223372036854775808) ∧ x = x1 ∧ t = r1)) := by
            rcases g3 with ⟨q, _⟩ | ⟨_, q⟩
            · omega
            · exact q
          refine c_nexts hMin n _ A _ _ _ _ _ _ (by omega) hM g4 ?_
          rcases g5 with ⟨cx, g6, g5⟩ | ⟨cx, cx2, cx3⟩
          · subst cx
            refine aw_lstore_n (pc' := 104) (lv' := [_, _, _, _, _]) dX13_turn_103 rfl (by decide) rfl ?_
            refine aw_lload_n (pc' := 105) rfl dX13_turn_104 rfl ?_
            refine aw_ldc2 (x := (-9223372036854775808)) (pc' := 108) qX13_267 (by decide) dX13_turn_105 rfl ?_
            refine aw_lcmp (pc' := 109) dX13_turn_108 rfl ?_
            refine aw_if_ne (pt := 157) (pf := 112) dX13_turn_109 (by decide) rfl (fun c_109 => ?_) (fun c_109 => ?_)
            · replace c_109 := (not_congr cmp_eq).mp c_109
              exfalso
              omega
            · replace c_109 := Classical.not_not.mp c_109
              replace c_109 := (cmp_eq).mp c_109
              refine aw_aload_n (pc' := 113) rfl dX13_turn_112 rfl ?_
              refine aw_getp (pc' := 116) (k9 := 46) (p := 337) dX13_turn_113 rfl fX13_135 rfl rfl rfl (MO (A := (lift A s)) hM) (M_jobStatus (A := (lift A s)) hM) ?_
              refine aw_iload_n (pc' := 117) rfl dX13_turn_116 rfl ?_
              refine aw_aload_n (pc' := 118) rfl dX13_turn_117 rfl ?_
              refine aw_getp (pc' := 121) (k9 := 29) (p := 328) dX13_turn_118 rfl fX13_108 rfl rfl rfl (MO (A := (lift A s)) hM) (M_status (A := (lift A s)) hM) ?_
              refine aw_bipush (pc' := 123) (by decide +kernel) dX13_turn_121 rfl ?_
              refine aw_bipush (pc' := 125) (by decide +kernel) dX13_turn_123 rfl ?_
              refine aw_iload_n (pc' := 126) rfl dX13_turn_125 rfl ?_
              refine aw_iadd (pc' := 127) (by first | exact w32_id (by omega) (by omega) | rfl) dX13_turn_126 rfl ?_
              refine aw_imul (pc' := 128) (by first | exact w32_id (by omega) (by omega) | rfl) dX13_turn_127 rfl ?_
              refine aw_iload (pc' := 130) rfl dX13_turn_128 rfl ?_
              refine aw_iadd (pc' := 131) (by first | exact w32_id (by omega) (by omega) | rfl) dX13_turn_130 rfl ?_
              refine aw_iald (pc' := 132) dX13_turn_131 rfl (MA_status (A := (lift A s)) hM) (by omega) (by omega) ?_
              try simp (disch := omega) only [hv_in, lift_set, sset_e, sset_1, sset_2, workS_o, stagesS_o, beginsS_o, scpy_o, lift_cpy]
              refine aw_iast (pc' := 133) dX13_turn_132 rfl (MA_jobStatus (A := (lift A s)) hM) (by omega) (by omega) ?_
              refine aw_aload_n (pc' := 134) rfl dX13_turn_133 rfl ?_
              refine aw_getp (pc' := 137) (k9 := 45) (p := 336) dX13_turn_134 rfl fX13_132 rfl rfl rfl (MO (A := (lift A s)) hM) (M_jobGoes (A := (lift A s)) hM) ?_
              refine aw_iload_n (pc' := 138) rfl dX13_turn_137 rfl ?_
              refine aw_iconst (pc' := 139) (by decide) dX13_turn_138 rfl ?_
              refine aw_zast (pc' := 140) dX13_turn_139 rfl (MA_jobGoes (A := (lift A s)) hM) (by omega) (by omega) (by omega) ?_
              refine aw_aload_n (pc' := 141) rfl dX13_turn_140 rfl ?_
              refine aw_getp (pc' := 144) (k9 := 44) (p := 335) dX13_turn_141 rfl fX13_129 rfl rfl rfl (MO (A := (lift A s)) hM) (M_jobPipe (A := (lift A s)) hM) ?_
              refine aw_iload_n (pc' := 145) rfl dX13_turn_144 rfl ?_
              refine aw_aload_n (pc' := 146) rfl dX13_turn_145 rfl ?_
              refine aw_getp (pc' := 149) (k9 := 2) (p := 310) dX13_turn_146 rfl fX13_49 rfl rfl rfl (MO (A := (lift A s)) hM) (M_listNext (A := (lift A s)) hM) ?_
              refine aw_aload_n (pc' := 150) rfl dX13_turn_149 rfl ?_
              refine aw_getp (pc' := 153) (k9 := 44) (p := 335) dX13_turn_150 rfl fX13_129 rfl rfl rfl (MO (A := (lift A s)) hM) (M_jobPipe (A := (lift A s)) hM) ?_
              refine aw_iload_n (pc' := 154) rfl dX13_turn_153 rfl ?_
              refine aw_iald (pc' := 155) dX13_turn_154 rfl (MA_jobPipe (A := (lift A s)) hM) (by omega) (by omega) ?_
              try simp (disch := omega) only [hv_in, lift_set, sset_e, sset_1, sset_2, workS_o, stagesS_o, beginsS_o, scpy_o, lift_cpy]
              refine aw_iald (pc' := 156) dX13_turn_155 rfl (MA_listNext (A := (lift A s)) hM) (by omega) (by omega) ?_
              try simp (disch := omega) only [hv_in, lift_set, sset_e, sset_1, sset_2, workS_o, stagesS_o, beginsS_o, scpy_o, lift_cpy]
              refine aw_iast (pc' := 157) dX13_turn_156 rfl (MA_jobPipe (A := (lift A s)) hM) (by omega) (by omega) ?_
              refine aw_goto (pc' := 44) dX13_turn_157 (by decide) ?_
              try simp (disch := omega) only [hv_in, lift_set, sset_e, sset_1, sset_2, workS_o, stagesS_o, beginsS_o, scpy_o, lift_cpy]
              exact ih m1 (by omega) _ hd hM hMin hj g5 hQ _
          · subst cx2 cx3
            refine aw_lstore_n (pc' := 104) (lv' := [_, _, _, _, _]) dX13_turn_103 rfl (by decide) rfl ?_
            refine aw_lload_n (pc' := 105) rfl dX13_turn_104 rfl ?_
            refine aw_ldc2 (x := (-9223372036854775808)) (pc' := 108) qX13_267 (by decide) dX13_turn_105 rfl ?_
            refine aw_lcmp (pc' := 109) dX13_turn_108 rfl ?_
            refine aw_if_ne (pt := 157) (pf := 112) dX13_turn_109 (by decide) rfl (fun c_109 => ?_) (fun c_109 => ?_)
            · replace c_109 := (not_congr cmp_eq).mp c_109
              refine aw_goto (pc' := 44) dX13_turn_157 (by decide) ?_
              refine aw_lload_n (pc' := 45) rfl dX13_turn_44 rfl ?_
              refine aw_ldc2 (x := (-9223372036854775808)) (pc' := 48) qX13_267 (by decide) dX13_turn_45 rfl ?_
              refine aw_lcmp (pc' := 49) dX13_turn_48 rfl ?_
              refine aw_if_ne (pt := 160) (pf := 52) dX13_turn_49 (by decide) rfl (fun c_49 => ?_) (fun c_49 => ?_)
              · replace c_49 := (not_congr cmp_eq).mp c_49
                exact l_turnE hM hj hQ
              · replace c_49 := Classical.not_not.mp c_49
                replace c_49 := (cmp_eq).mp c_49
                exfalso
                omega
            · replace c_109 := Classical.not_not.mp c_109
              replace c_109 := (cmp_eq).mp c_109
              exfalso
              omega
        · replace c_67 := Classical.not_not.mp c_67
          refine aw_aload_n (pc' := 71) rfl dX13_turn_70 rfl ?_
          refine aw_iload_n (pc' := 72) rfl dX13_turn_71 rfl ?_
          refine aw_callV (ci := 11) (d' := d - 1) (as := [_]) (pc' := 75) (by decide) rfl kX13_jobBegins iX13_jobBegins sX13_jobBegins lX13_361 (MO (A := (lift A s)) hM) dX13_turn_72 rfl rfl (Nat.le_of_ble_eq_true rfl) (by omega) ?_
          have g4 : turnL (nextS n) j m1 (jobBegS s j) = some (x, t) := by
            rcases g3 with ⟨_, q⟩ | ⟨q, _⟩
            · exact q
            · omega
          refine c_jobBegins (by omega) hM (by omega) g2 ?_
          refine aw_goto (pc' := 44) dX13_turn_75 (by decide) ?_
          exact ih m1 (by omega) _ hd hM hMin hj g4 hQ _

noncomputable def turnS (n : Nat) (j : Int) (s : Sg) : Option (Int × Sg) := turnL (nextS n) j 400 (sset (sset s 307 32 (s 334 j)) 307 33 0)
set_option maxRecDepth 20000 in
theorem c_turn {d : Nat} {n : Nat} {j : Int} {A : AHp} {s : Sg} {Q : Option AV → AHp → Prop} (hd : 6 * n + 5 ≤ d) (hM : MLAY A) (hMin : ∀ (d : Nat) (A : AHp) (a b : Int) (Q : Option AV → AHp → Prop), Q (some (vi (min a b))) A → CALL d mJ9_min_7cf53 [vi a, vi b] A Q)
  (hN : ¬ (0 ≤ j ∧ j ≤ 3 ∧ 0 ≤ s 333 j) → Q (some (vl (-9223372036854775808))) (lift A s))
  (hO : 0 ≤ j → j ≤ 3 → 0 ≤ s 333 j → ∃ x t, turnS n j s = some (x, t) ∧ Q (some (vl x)) (lift A (turnF t j x))) : CALL d mX13_turn [vr 307, vi j] (lift A s) Q := by
  refine CALL.of (by decide) (Nat.le_of_ble_eq_true rfl) ?_
  change AW d mX13_turn 0 [some (vr 307), some (vi j), none, none, none] [] (lift A s) Q
  refine aw_iload_n (pc' := 1) rfl dX13_turn_0 rfl ?_
  refine aw_i2l (pc' := 2) dX13_turn_1 rfl ?_
  refine aw_lconst (x := 0) (pc' := 3) (by decide +kernel) dX13_turn_2 rfl ?_
  refine aw_ldc2 (x := (3)) (pc' := 6) qX13_359 (by decide) dX13_turn_3 rfl ?_
  refine aw_callS (d' := d - 1) (as := [_, _, _]) (pc' := 9) kX13_in tX13_in lX13_177 dX13_turn_6 rfl rfl (Nat.le_of_ble_eq_true rfl) (by omega) ?_
  refine c_in (by omega) (fun g1_6 g2_6 => ?_) (fun g0_6 => ?_)
  · refine aw_if_eq (pt := 21) (pf := 12) dX13_turn_9 (by decide) rfl (fun c_9 => absurd c_9 (by decide)) (fun _ => ?_)
    refine aw_aload_n (pc' := 13) rfl dX13_turn_12 rfl ?_
    refine aw_getp (pc' := 16) (k9 := 42) (p := 333) dX13_turn_13 rfl fX13_123 rfl rfl rfl (MO (A := (lift A s)) hM) (M_jobLine (A := (lift A s)) hM) ?_
    refine aw_iload_n (pc' := 17) rfl dX13_turn_16 rfl ?_
    refine aw_iald (pc' := 18) dX13_turn_17 rfl (MA_jobLine (A := (lift A s)) hM) (by omega) (by omega) ?_
    try simp (disch := omega) only [hv_in, lift_set, sset_e, sset_1, sset_2, workS_o, stagesS_o, beginsS_o, scpy_o, lift_cpy]
    refine aw_if_ge (pt := 25) (pf := 21) dX13_turn_18 (by decide) rfl (fun c_18 => ?_) (fun c_18 => ?_)
    · refine aw_aload_n (pc' := 26) rfl dX13_turn_25 rfl ?_
      refine aw_aload_n (pc' := 27) rfl dX13_turn_26 rfl ?_
      refine aw_getp (pc' := 30) (k9 := 43) (p := 334) dX13_turn_27 rfl fX13_126 rfl rfl rfl (MO (A := (lift A s)) hM) (M_jobFuel (A := (lift A s)) hM) ?_
      refine aw_iload_n (pc' := 31) rfl dX13_turn_30 rfl ?_
      refine aw_iald (pc' := 32) dX13_turn_31 rfl (MA_jobFuel (A := (lift A s)) hM) (by omega) (by omega) ?_
      try simp (disch := omega) only [hv_in, lift_set, sset_e, sset_1, sset_2, workS_o, stagesS_o, beginsS_o, scpy_o, lift_cpy]
      refine aw_puti (pc' := 35) (k9 := 32) dX13_turn_32 rfl fX13_315 rfl rfl rfl (MO (A := (lift A s)) hM) ?_
      refine aw_aload_n (pc' := 36) rfl dX13_turn_35 rfl ?_
      refine aw_iconst (pc' := 37) (by decide) dX13_turn_36 rfl ?_
      refine aw_puti (pc' := 40) (k9 := 33) dX13_turn_37 rfl fX13_309 rfl rfl rfl (MO (A := (lift A s)) hM) ?_
      refine aw_ldc2 (x := (-9223372036854775808)) (pc' := 43) qX13_267 (by decide) dX13_turn_40 rfl ?_
      refine aw_lstore_n (pc' := 44) (lv' := [_, _, _, _, _]) dX13_turn_43 rfl (by decide) rfl ?_
      try simp (disch := omega) only [hv_in, lift_set, sset_e, sset_1, sset_2, workS_o, stagesS_o, beginsS_o, scpy_o, lift_cpy]
      obtain ⟨x, t, h, hQ⟩ := hO (by omega) (by omega) (by omega)
      exact l_turn 400 _ hd hM hMin (by omega) h hQ _
    · refine aw_ldc2 (x := (-9223372036854775808)) (pc' := 24) qX13_267 (by decide) dX13_turn_21 rfl ?_
      refine AW.ret (some (vl _)) dX13_turn_24 trivial ?_
      exact hN (by omega)
  · refine aw_if_eq (pt := 21) (pf := 12) dX13_turn_9 (by decide) rfl (fun _ => ?_) (fun c_9 => absurd (by decide) c_9)
    refine aw_ldc2 (x := (-9223372036854775808)) (pc' := 24) qX13_267 (by decide) dX13_turn_21 rfl ?_
    refine AW.ret (some (vl _)) dX13_turn_24 trivial ?_
    exact hN (by omega)
