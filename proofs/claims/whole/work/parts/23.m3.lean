/-! ===== the reference: shift, lowest, the image ===== -/
set_option maxRecDepth 20000 in
theorem l_shiftF {d : Nat} {A : AHp} {t i o j n : Int} {Q : Option AV → AHp → Prop} : ∀ (m : Nat) (k : Int), (n - k).toNat = m → 0 ≤ k → k ≤ n → MLAY A → 0 ≤ t → t ≤ 5 → 0 ≤ o → o ≤ 5 → 0 ≤ i → 0 ≤ j → i + n ≤ 60 → j + n ≤ 60 → ¬ i < j → Q (some (vi n)) (hcpy A 349 (60 * t + i) 349 (60 * o + j) n) → ∀ (L7 : Option AV), AW d mX13_shift 135 [some (vr 307), some (vi t), some (vi i), some (vi o), some (vi j), some (vi n), some (vi k), L7] [] (hcpy A 349 (60 * t + i) 349 (60 * o + j) k) Q := by
  intro m
  induction m using Nat.strongRecOn with
  | _ m ih =>
    intro k hm hk0 hkn hM ht0 ht5 ho0 ho5 hi0 hj0 hin hjn hij hQ L7
    refine aw_iload (pc' := 137) rfl dX13_shift_135 rfl ?_
    refine aw_iload (pc' := 139) rfl dX13_shift_137 rfl ?_
    refine aw_icmp_ge (pt := 197) (pf := 142) dX13_shift_139 (by decide) rfl (fun c_139 => ?_) (fun c_139 => ?_)
    · refine aw_iload (pc' := 199) rfl dX13_shift_197 rfl ?_
      refine AW.ret (some (vi _)) dX13_shift_199 trivial ?_
      have e8 : k = n := by omega
      subst e8
      exact hQ
    · refine aw_iload_n (pc' := 143) rfl dX13_shift_142 rfl ?_
      refine aw_iload (pc' := 145) rfl dX13_shift_143 rfl ?_
      refine aw_icmp_ge (pt := 158) (pf := 148) dX13_shift_145 (by decide) rfl (fun _ => ?_) (fun c_145 => absurd (by omega) c_145)
      refine aw_iload (pc' := 160) rfl dX13_shift_158 rfl ?_
      refine aw_istore (pc' := 162) (lv' := [_, _, _, _, _, _, _, _]) dX13_shift_160 rfl (by decide) rfl ?_
      refine aw_aload_n (pc' := 163) rfl dX13_shift_162 rfl ?_
      refine aw_getp (pc' := 166) (k9 := 62) (p := 349) dX13_shift_163 rfl fX13_171 rfl rfl rfl (MO (A := A) hM) (M_items (A := A) hM) ?_
      refine aw_bipush (pc' := 168) (by decide +kernel) dX13_shift_166 rfl ?_
      refine aw_iload_n (pc' := 169) rfl dX13_shift_168 rfl ?_
      refine aw_imul (pc' := 170) (by first | exact w32_id (by omega) (by omega) | rfl) dX13_shift_169 rfl ?_
      refine aw_iload (pc' := 172) rfl dX13_shift_170 rfl ?_
      refine aw_iadd (pc' := 173) (by first | exact w32_id (by omega) (by omega) | rfl) dX13_shift_172 rfl ?_
      refine aw_iload (pc' := 175) rfl dX13_shift_173 rfl ?_
      refine aw_iadd (pc' := 176) (by first | exact w32_id (by omega) (by omega) | rfl) dX13_shift_175 rfl ?_
      refine aw_aload_n (pc' := 177) rfl dX13_shift_176 rfl ?_
      refine aw_getp (pc' := 180) (k9 := 62) (p := 349) dX13_shift_177 rfl fX13_171 rfl rfl rfl (MO (A := A) hM) (M_items (A := A) hM) ?_
      refine aw_bipush (pc' := 182) (by decide +kernel) dX13_shift_180 rfl ?_
      refine aw_iload_n (pc' := 183) rfl dX13_shift_182 rfl ?_
      refine aw_imul (pc' := 184) (by first | exact w32_id (by omega) (by omega) | rfl) dX13_shift_183 rfl ?_
      refine aw_iload_n (pc' := 185) rfl dX13_shift_184 rfl ?_
      refine aw_iadd (pc' := 186) (by first | exact w32_id (by omega) (by omega) | rfl) dX13_shift_185 rfl ?_
      refine aw_iload (pc' := 188) rfl dX13_shift_186 rfl ?_
      refine aw_iadd (pc' := 189) (by first | exact w32_id (by omega) (by omega) | rfl) dX13_shift_188 rfl ?_
      refine aw_lald (pc' := 190) dX13_shift_189 rfl (MA_items (A := A) hM) (by omega) (by omega) ?_
      rw [hv_cpy, if_neg (by omega)]
      refine aw_last (pc' := 191) dX13_shift_190 rfl (MA_items (A := A) hM) (by omega) (by omega) ?_
      refine aw_iinc (pc' := 194) (lv' := [_, _, _, _, _, _, _, _]) dX13_shift_191 rfl rfl (by decide) (by first | exact w32_id (by omega) (by omega) | rfl) rfl ?_
      refine aw_goto (pc' := 135) dX13_shift_194 (by decide) ?_
      rw [hcpy_f A hk0]
      exact ih _ (by omega) (k + 1) rfl (by omega) (by omega) hM ht0 ht5 ho0 ho5 hi0 hj0 hin hjn hij hQ _

set_option maxRecDepth 20000 in
theorem l_shiftB {d : Nat} {A : AHp} {t i o j n : Int} {Q : Option AV → AHp → Prop} : ∀ (m : Nat) (k : Int), (n - k).toNat = m → 0 ≤ k → k ≤ n → MLAY A → 0 ≤ t → t ≤ 5 → 0 ≤ o → o ≤ 5 → 0 ≤ i → 0 ≤ j → i + n ≤ 60 → j + n ≤ 60 → i < j → Q (some (vi n)) (hcpy A 349 (60 * t + i) 349 (60 * o + j) n) → ∀ (L7 : Option AV), AW d mX13_shift 135 [some (vr 307), some (vi t), some (vi i), some (vi o), some (vi j), some (vi n), some (vi k), L7] [] (hcpy A 349 (60 * t + i + n - k) 349 (60 * o + j + n - k) k) Q := by
  intro m
  induction m using Nat.strongRecOn with
  | _ m ih =>
    intro k hm hk0 hkn hM ht0 ht5 ho0 ho5 hi0 hj0 hin hjn hij hQ L7
    refine aw_iload (pc' := 137) rfl dX13_shift_135 rfl ?_
    refine aw_iload (pc' := 139) rfl dX13_shift_137 rfl ?_
    refine aw_icmp_ge (pt := 197) (pf := 142) dX13_shift_139 (by decide) rfl (fun c_139 => ?_) (fun c_139 => ?_)
    · refine aw_iload (pc' := 199) rfl dX13_shift_197 rfl ?_
      refine AW.ret (some (vi _)) dX13_shift_199 trivial ?_
      have e8 : k = n := by omega
      subst e8
      rw [show 60 * t + i + k - k = 60 * t + i by omega, show 60 * o + j + k - k = 60 * o + j by omega]
      exact hQ
    · refine aw_iload_n (pc' := 143) rfl dX13_shift_142 rfl ?_
      refine aw_iload (pc' := 145) rfl dX13_shift_143 rfl ?_
      refine aw_icmp_ge (pt := 158) (pf := 148) dX13_shift_145 (by decide) rfl (fun c_145 => absurd c_145 (by omega)) (fun _ => ?_)
      refine aw_iload (pc' := 150) rfl dX13_shift_148 rfl ?_
      refine aw_iconst (pc' := 151) (by decide) dX13_shift_150 rfl ?_
      refine aw_isub (pc' := 152) (by first | exact w32_id (by omega) (by omega) | rfl) dX13_shift_151 rfl ?_
      refine aw_iload (pc' := 154) rfl dX13_shift_152 rfl ?_
      refine aw_isub (pc' := 155) (by first | exact w32_id (by omega) (by omega) | rfl) dX13_shift_154 rfl ?_
      refine aw_goto (pc' := 160) dX13_shift_155 (by decide) ?_
      refine aw_istore (pc' := 162) (lv' := [_, _, _, _, _, _, _, _]) dX13_shift_160 rfl (by decide) rfl ?_
      refine aw_aload_n (pc' := 163) rfl dX13_shift_162 rfl ?_
      refine aw_getp (pc' := 166) (k9 := 62) (p := 349) dX13_shift_163 rfl fX13_171 rfl rfl rfl (MO (A := A) hM) (M_items (A := A) hM) ?_
      refine aw_bipush (pc' := 168) (by decide +kernel) dX13_shift_166 rfl ?_
      refine aw_iload_n (pc' := 169) rfl dX13_shift_168 rfl ?_
      refine aw_imul (pc' := 170) (by first | exact w32_id (by omega) (by omega) | rfl) dX13_shift_169 rfl ?_
      refine aw_iload (pc' := 172) rfl dX13_shift_170 rfl ?_
      refine aw_iadd (pc' := 173) (by first | exact w32_id (by omega) (by omega) | rfl) dX13_shift_172 rfl ?_
      refine aw_iload (pc' := 175) rfl dX13_shift_173 rfl ?_
      refine aw_iadd (pc' := 176) (by first | exact w32_id (by omega) (by omega) | rfl) dX13_shift_175 rfl ?_
      refine aw_aload_n (pc' := 177) rfl dX13_shift_176 rfl ?_
      refine aw_getp (pc' := 180) (k9 := 62) (p := 349) dX13_shift_177 rfl fX13_171 rfl rfl rfl (MO (A := A) hM) (M_items (A := A) hM) ?_
      refine aw_bipush (pc' := 182) (by decide +kernel) dX13_shift_180 rfl ?_
      refine aw_iload_n (pc' := 183) rfl dX13_shift_182 rfl ?_
      refine aw_imul (pc' := 184) (by first | exact w32_id (by omega) (by omega) | rfl) dX13_shift_183 rfl ?_
      refine aw_iload_n (pc' := 185) rfl dX13_shift_184 rfl ?_
      refine aw_iadd (pc' := 186) (by first | exact w32_id (by omega) (by omega) | rfl) dX13_shift_185 rfl ?_
      refine aw_iload (pc' := 188) rfl dX13_shift_186 rfl ?_
      refine aw_iadd (pc' := 189) (by first | exact w32_id (by omega) (by omega) | rfl) dX13_shift_188 rfl ?_
      refine aw_lald (pc' := 190) dX13_shift_189 rfl (MA_items (A := A) hM) (by omega) (by omega) ?_
      rw [hv_cpy, if_neg (by omega)]
      refine aw_last (pc' := 191) dX13_shift_190 rfl (MA_items (A := A) hM) (by omega) (by omega) ?_
      refine aw_iinc (pc' := 194) (lv' := [_, _, _, _, _, _, _, _]) dX13_shift_191 rfl rfl (by decide) (by first | exact w32_id (by omega) (by omega) | rfl) rfl ?_
      refine aw_goto (pc' := 135) dX13_shift_194 (by decide) ?_
      have e9 := hcpy_b A (f := 349) (a := 60 * t + i + n - k) (t := 349) (b := 60 * o + j + n - k) hk0
      rw [show 60 * o + j + (n - 1 - k) = 60 * o + j + n - k - 1 by omega, show 60 * t + i + (n - 1 - k) = 60 * t + i + n - k - 1 by omega, e9, show 60 * t + i + n - k - 1 = 60 * t + i + n - (k + 1) by omega, show 60 * o + j + n - k - 1 = 60 * o + j + n - (k + 1) by omega]
      exact ih _ (by omega) (k + 1) rfl (by omega) (by omega) hM ht0 ht5 ho0 ho5 hi0 hj0 hin hjn hij hQ _

set_option maxRecDepth 20000 in
theorem c_shift {d : Nat} {t i o j n : Int} {A : AHp} {Q : Option AV → AHp → Prop} (hd : 1 ≤ d) (hM : MLAY A) (hsz : ∀ t, 0 ≤ t → t ≤ 5 → 0 ≤ hv A 348 t ∧ hv A 348 t ≤ 60)
  (hN : ¬ (0 ≤ t ∧ t ≤ 5 ∧ 0 ≤ o ∧ o ≤ 5) → Q (some (vi (-1))) A) (h0 : 0 ≤ t → t ≤ 5 → 0 ≤ o → o ≤ 5 → (hv A 347 t = -1 ∨ hv A 347 o = -1) → Q (some (vi (-11))) A)
  (hC : 0 ≤ t → t ≤ 5 → 0 ≤ o → o ≤ 5 → hv A 347 t ≠ -1 → hv A 347 o ≠ -1 → hv A 347 t ≠ hv A 347 o → Q (some (vi (-12))) A)
  (hP : 0 ≤ t → t ≤ 5 → 0 ≤ o → o ≤ 5 → hv A 347 t ≠ -1 → hv A 347 t = hv A 347 o → ¬ (0 ≤ n ∧ 0 ≤ i ∧ 0 ≤ j ∧ n ≤ hv A 348 t - i ∧ n ≤ hv A 348 o - j) → Q (some (vi (-13))) A)
  (hO : 0 ≤ t → t ≤ 5 → 0 ≤ o → o ≤ 5 → hv A 347 t ≠ -1 → hv A 347 t = hv A 347 o → 0 ≤ n → 0 ≤ i → 0 ≤ j → n ≤ hv A 348 t - i → n ≤ hv A 348 o - j → Q (some (vi n)) (hcpy A 349 (60 * t + i) 349 (60 * o + j) n)) : CALL d mX13_shift [vr 307, vi t, vi i, vi o, vi j, vi n] A Q := by
  refine CALL.of (by decide) (Nat.le_of_ble_eq_true rfl) ?_
  change AW d mX13_shift 0 [some (vr 307), some (vi t), some (vi i), some (vi o), some (vi j), some (vi n), none, none] [] A Q
  refine aw_iload_n (pc' := 1) rfl dX13_shift_0 rfl ?_
  refine aw_i2l (pc' := 2) dX13_shift_1 rfl ?_
  refine aw_lconst (x := 0) (pc' := 3) (by decide +kernel) dX13_shift_2 rfl ?_
  refine aw_ldc2 (x := (5)) (pc' := 6) qX13_404 (by decide) dX13_shift_3 rfl ?_
  refine aw_callS (d' := d - 1) (as := [_, _, _]) (pc' := 9) kX13_in tX13_in lX13_177 dX13_shift_6 rfl rfl (Nat.le_of_ble_eq_true rfl) (by omega) ?_
  refine c_in (by omega) (fun g1_6 g2_6 => ?_) (fun g0_6 => ?_)
  · have hz1 := hsz t (by omega) (by omega)
    refine aw_if_eq (pt := 24) (pf := 12) dX13_shift_9 (by decide) rfl (fun c_9 => absurd c_9 (by decide)) (fun _ => ?_)
    refine aw_iload_n (pc' := 13) rfl dX13_shift_12 rfl ?_
    refine aw_i2l (pc' := 14) dX13_shift_13 rfl ?_
    refine aw_lconst (x := 0) (pc' := 15) (by decide +kernel) dX13_shift_14 rfl ?_
    refine aw_ldc2 (x := (5)) (pc' := 18) qX13_404 (by decide) dX13_shift_15 rfl ?_
    refine aw_callS (d' := d - 1) (as := [_, _, _]) (pc' := 21) kX13_in tX13_in lX13_177 dX13_shift_18 rfl rfl (Nat.le_of_ble_eq_true rfl) (by omega) ?_
    refine c_in (by omega) (fun g1_18 g2_18 => ?_) (fun g0_18 => ?_)
    · have hz2 := hsz o (by omega) (by omega)
      refine aw_if_ne (pt := 26) (pf := 24) dX13_shift_21 (by decide) rfl (fun _ => ?_) (fun c_21 => absurd (by decide) c_21)
      refine aw_aload_n (pc' := 27) rfl dX13_shift_26 rfl ?_
      refine aw_getp (pc' := 30) (k9 := 60) (p := 347) dX13_shift_27 rfl fX13_165 rfl rfl rfl (MO (A := A) hM) (M_sorts (A := A) hM) ?_
      refine aw_iload_n (pc' := 31) rfl dX13_shift_30 rfl ?_
      refine aw_iald (pc' := 32) dX13_shift_31 rfl (MA_sorts (A := A) hM) (by omega) (by omega) ?_
      refine aw_iconst (pc' := 33) (by decide) dX13_shift_32 rfl ?_
      refine aw_icmp_eq (pt := 46) (pf := 36) dX13_shift_33 (by decide) rfl (fun c_33 => ?_) (fun c_33 => ?_)
      · refine aw_bipush (pc' := 48) (by decide +kernel) dX13_shift_46 rfl ?_
        refine AW.ret (some (vi _)) dX13_shift_48 trivial ?_
        first | exact hN (by omega) | exact h0 (by omega) (by omega) (by omega) (by omega) (by omega) | exact hC (by omega) (by omega) (by omega) (by omega) (by omega) (by omega) (by omega) | exact hP (by omega) (by omega) (by omega) (by omega) (by omega) (by omega) (by omega)
      · refine aw_aload_n (pc' := 37) rfl dX13_shift_36 rfl ?_
        refine aw_getp (pc' := 40) (k9 := 60) (p := 347) dX13_shift_37 rfl fX13_165 rfl rfl rfl (MO (A := A) hM) (M_sorts (A := A) hM) ?_
        refine aw_iload_n (pc' := 41) rfl dX13_shift_40 rfl ?_
        refine aw_iald (pc' := 42) dX13_shift_41 rfl (MA_sorts (A := A) hM) (by omega) (by omega) ?_
        refine aw_iconst (pc' := 43) (by decide) dX13_shift_42 rfl ?_
        refine aw_icmp_ne (pt := 49) (pf := 46) dX13_shift_43 (by decide) rfl (fun c_43 => ?_) (fun c_43 => ?_)
        · refine aw_aload_n (pc' := 50) rfl dX13_shift_49 rfl ?_
          refine aw_getp (pc' := 53) (k9 := 60) (p := 347) dX13_shift_50 rfl fX13_165 rfl rfl rfl (MO (A := A) hM) (M_sorts (A := A) hM) ?_
          refine aw_iload_n (pc' := 54) rfl dX13_shift_53 rfl ?_
          refine aw_iald (pc' := 55) dX13_shift_54 rfl (MA_sorts (A := A) hM) (by omega) (by omega) ?_
          refine aw_aload_n (pc' := 56) rfl dX13_shift_55 rfl ?_
          refine aw_getp (pc' := 59) (k9 := 60) (p := 347) dX13_shift_56 rfl fX13_165 rfl rfl rfl (MO (A := A) hM) (M_sorts (A := A) hM) ?_
          refine aw_iload_n (pc' := 60) rfl dX13_shift_59 rfl ?_
          refine aw_iald (pc' := 61) dX13_shift_60 rfl (MA_sorts (A := A) hM) (by omega) (by omega) ?_
          refine aw_icmp_eq (pt := 67) (pf := 64) dX13_shift_61 (by decide) rfl (fun c_61 => ?_) (fun c_61 => ?_)
          · refine aw_iload (pc' := 69) rfl dX13_shift_67 rfl ?_
            refine aw_if_lt (pt := 129) (pf := 72) dX13_shift_69 (by decide) rfl (fun c_69 => ?_) (fun c_69 => ?_)
            · refine aw_bipush (pc' := 131) (by decide +kernel) dX13_shift_129 rfl ?_
              refine AW.ret (some (vi _)) dX13_shift_131 trivial ?_
              first | exact hN (by omega) | exact h0 (by omega) (by omega) (by omega) (by omega) (by omega) | exact hC (by omega) (by omega) (by omega) (by omega) (by omega) (by omega) (by omega) | exact hP (by omega) (by omega) (by omega) (by omega) (by omega) (by omega) (by omega)
            · refine aw_iload_n (pc' := 73) rfl dX13_shift_72 rfl ?_
              refine aw_if_lt (pt := 129) (pf := 76) dX13_shift_73 (by decide) rfl (fun c_73 => ?_) (fun c_73 => ?_)
              · refine aw_bipush (pc' := 131) (by decide +kernel) dX13_shift_129 rfl ?_
                refine AW.ret (some (vi _)) dX13_shift_131 trivial ?_
                first | exact hN (by omega) | exact h0 (by omega) (by omega) (by omega) (by omega) (by omega) | exact hC (by omega) (by omega) (by omega) (by omega) (by omega) (by omega) (by omega) | exact hP (by omega) (by omega) (by omega) (by omega) (by omega) (by omega) (by omega)
              · refine aw_iload (pc' := 78) rfl dX13_shift_76 rfl ?_
                refine aw_if_lt (pt := 129) (pf := 81) dX13_shift_78 (by decide) rfl (fun c_78 => ?_) (fun c_78 => ?_)
                · refine aw_bipush (pc' := 131) (by decide +kernel) dX13_shift_129 rfl ?_
                  refine AW.ret (some (vi _)) dX13_shift_131 trivial ?_
                  first | exact hN (by omega) | exact h0 (by omega) (by omega) (by omega) (by omega) (by omega) | exact hC (by omega) (by omega) (by omega) (by omega) (by omega) (by omega) (by omega) | exact hP (by omega) (by omega) (by omega) (by omega) (by omega) (by omega) (by omega)
                · refine aw_iload_n (pc' := 82) rfl dX13_shift_81 rfl ?_
                  refine aw_aload_n (pc' := 83) rfl dX13_shift_82 rfl ?_
                  refine aw_getp (pc' := 86) (k9 := 61) (p := 348) dX13_shift_83 rfl fX13_168 rfl rfl rfl (MO (A := A) hM) (M_sizes (A := A) hM) ?_
                  refine aw_iload_n (pc' := 87) rfl dX13_shift_86 rfl ?_
                  refine aw_iald (pc' := 88) dX13_shift_87 rfl (MA_sizes (A := A) hM) (by omega) (by omega) ?_
                  refine aw_icmp_gt (pt := 129) (pf := 91) dX13_shift_88 (by decide) rfl (fun c_88 => ?_) (fun c_88 => ?_)
                  · refine aw_bipush (pc' := 131) (by decide +kernel) dX13_shift_129 rfl ?_
                    refine AW.ret (some (vi _)) dX13_shift_131 trivial ?_
                    first | exact hN (by omega) | exact h0 (by omega) (by omega) (by omega) (by omega) (by omega) | exact hC (by omega) (by omega) (by omega) (by omega) (by omega) (by omega) (by omega) | exact hP (by omega) (by omega) (by omega) (by omega) (by omega) (by omega) (by omega)
                  · refine aw_iload (pc' := 93) rfl dX13_shift_91 rfl ?_
                    refine aw_aload_n (pc' := 94) rfl dX13_shift_93 rfl ?_
                    refine aw_getp (pc' := 97) (k9 := 61) (p := 348) dX13_shift_94 rfl fX13_168 rfl rfl rfl (MO (A := A) hM) (M_sizes (A := A) hM) ?_
                    refine aw_iload_n (pc' := 98) rfl dX13_shift_97 rfl ?_
                    refine aw_iald (pc' := 99) dX13_shift_98 rfl (MA_sizes (A := A) hM) (by omega) (by omega) ?_
                    refine aw_icmp_gt (pt := 129) (pf := 102) dX13_shift_99 (by decide) rfl (fun c_99 => ?_) (fun c_99 => ?_)
                    · refine aw_bipush (pc' := 131) (by decide +kernel) dX13_shift_129 rfl ?_
                      refine AW.ret (some (vi _)) dX13_shift_131 trivial ?_
                      first | exact hN (by omega) | exact h0 (by omega) (by omega) (by omega) (by omega) (by omega) | exact hC (by omega) (by omega) (by omega) (by omega) (by omega) (by omega) (by omega) | exact hP (by omega) (by omega) (by omega) (by omega) (by omega) (by omega) (by omega)
                    · refine aw_iload (pc' := 104) rfl dX13_shift_102 rfl ?_
                      refine aw_aload_n (pc' := 105) rfl dX13_shift_104 rfl ?_
                      refine aw_getp (pc' := 108) (k9 := 61) (p := 348) dX13_shift_105 rfl fX13_168 rfl rfl rfl (MO (A := A) hM) (M_sizes (A := A) hM) ?_
                      refine aw_iload_n (pc' := 109) rfl dX13_shift_108 rfl ?_
                      refine aw_iald (pc' := 110) dX13_shift_109 rfl (MA_sizes (A := A) hM) (by omega) (by omega) ?_
                      refine aw_iload_n (pc' := 111) rfl dX13_shift_110 rfl ?_
                      refine aw_isub (pc' := 112) (by first | exact w32_id (by omega) (by omega) | rfl) dX13_shift_111 rfl ?_
                      refine aw_icmp_gt (pt := 129) (pf := 115) dX13_shift_112 (by decide) rfl (fun c_112 => ?_) (fun c_112 => ?_)
                      · refine aw_bipush (pc' := 131) (by decide +kernel) dX13_shift_129 rfl ?_
                        refine AW.ret (some (vi _)) dX13_shift_131 trivial ?_
                        first | exact hN (by omega) | exact h0 (by omega) (by omega) (by omega) (by omega) (by omega) | exact hC (by omega) (by omega) (by omega) (by omega) (by omega) (by omega) (by omega) | exact hP (by omega) (by omega) (by omega) (by omega) (by omega) (by omega) (by omega)
                      · refine aw_iload (pc' := 117) rfl dX13_shift_115 rfl ?_
                        refine aw_aload_n (pc' := 118) rfl dX13_shift_117 rfl ?_
                        refine aw_getp (pc' := 121) (k9 := 61) (p := 348) dX13_shift_118 rfl fX13_168 rfl rfl rfl (MO (A := A) hM) (M_sizes (A := A) hM) ?_
                        refine aw_iload_n (pc' := 122) rfl dX13_shift_121 rfl ?_
                        refine aw_iald (pc' := 123) dX13_shift_122 rfl (MA_sizes (A := A) hM) (by omega) (by omega) ?_
                        refine aw_iload (pc' := 125) rfl dX13_shift_123 rfl ?_
                        refine aw_isub (pc' := 126) (by first | exact w32_id (by omega) (by omega) | rfl) dX13_shift_125 rfl ?_
                        refine aw_icmp_le (pt := 132) (pf := 129) dX13_shift_126 (by decide) rfl (fun c_126 => ?_) (fun c_126 => ?_)
                        · refine aw_iconst (pc' := 133) (by decide) dX13_shift_132 rfl ?_
                          refine aw_istore (pc' := 135) (lv' := [_, _, _, _, _, _, _, _]) dX13_shift_133 rfl (by decide) rfl ?_
                          rcases (by omega : i < j ∨ ¬ i < j) with hij | hij
                          · rw [← hcpy_0 A 349 (60 * t + i + n - 0) 349 (60 * o + j + n - 0)]
                            exact l_shiftB _ 0 rfl (by omega) (by omega) hM (by omega) (by omega) (by omega) (by omega) (by omega) (by omega) (by omega) (by omega) hij (hO (by omega) (by omega) (by omega) (by omega) (by omega) (by omega) (by omega) (by omega) (by omega) (by omega) (by omega)) _
                          · rw [← hcpy_0 A 349 (60 * t + i) 349 (60 * o + j)]
                            exact l_shiftF _ 0 rfl (by omega) (by omega) hM (by omega) (by omega) (by omega) (by omega) (by omega) (by omega) (by omega) (by omega) hij (hO (by omega) (by omega) (by omega) (by omega) (by omega) (by omega) (by omega) (by omega) (by omega) (by omega) (by omega)) _
                        · refine aw_bipush (pc' := 131) (by decide +kernel) dX13_shift_129 rfl ?_
                          refine AW.ret (some (vi _)) dX13_shift_131 trivial ?_
                          first | exact hN (by omega) | exact h0 (by omega) (by omega) (by omega) (by omega) (by omega) | exact hC (by omega) (by omega) (by omega) (by omega) (by omega) (by omega) (by omega) | exact hP (by omega) (by omega) (by omega) (by omega) (by omega) (by omega) (by omega)
          · refine aw_bipush (pc' := 66) (by decide +kernel) dX13_shift_64 rfl ?_
            refine AW.ret (some (vi _)) dX13_shift_66 trivial ?_
            first | exact hN (by omega) | exact h0 (by omega) (by omega) (by omega) (by omega) (by omega) | exact hC (by omega) (by omega) (by omega) (by omega) (by omega) (by omega) (by omega) | exact hP (by omega) (by omega) (by omega) (by omega) (by omega) (by omega) (by omega)
        · replace c_43 := Classical.not_not.mp c_43
          refine aw_bipush (pc' := 48) (by decide +kernel) dX13_shift_46 rfl ?_
          refine AW.ret (some (vi _)) dX13_shift_48 trivial ?_
          first | exact hN (by omega) | exact h0 (by omega) (by omega) (by omega) (by omega) (by omega) | exact hC (by omega) (by omega) (by omega) (by omega) (by omega) (by omega) (by omega) | exact hP (by omega) (by omega) (by omega) (by omega) (by omega) (by omega) (by omega)
    · refine aw_if_ne (pt := 26) (pf := 24) dX13_shift_21 (by decide) rfl (fun c_21 => absurd c_21 (by decide)) (fun _ => ?_)
      refine aw_iconst (pc' := 25) (by decide) dX13_shift_24 rfl ?_
      refine AW.ret (some (vi _)) dX13_shift_25 trivial ?_
      first | exact hN (by omega) | exact h0 (by omega) (by omega) (by omega) (by omega) (by omega) | exact hC (by omega) (by omega) (by omega) (by omega) (by omega) (by omega) (by omega) | exact hP (by omega) (by omega) (by omega) (by omega) (by omega) (by omega) (by omega)
  · refine aw_if_eq (pt := 24) (pf := 12) dX13_shift_9 (by decide) rfl (fun _ => ?_) (fun c_9 => absurd (by decide) c_9)
    refine aw_iconst (pc' := 25) (by decide) dX13_shift_24 rfl ?_
    refine AW.ret (some (vi _)) dX13_shift_25 trivial ?_
    first | exact hN (by omega) | exact h0 (by omega) (by omega) (by omega) (by omega) (by omega) | exact hC (by omega) (by omega) (by omega) (by omega) (by omega) (by omega) (by omega) | exact hP (by omega) (by omega) (by omega) (by omega) (by omega) (by omega) (by omega)

theorem gcd_step {a b : Int} (ha : 0 ≤ a) (hb : 0 < b) : Int.gcd b (a.tmod b) = Int.gcd a b := by
  rw [Int.tmod_eq_emod_of_nonneg ha]
  obtain ⟨x, rfl⟩ := Int.eq_ofNat_of_zero_le ha
  obtain ⟨y, rfl⟩ := Int.eq_ofNat_of_zero_le (Int.le_of_lt hb)
  have e1 : ((x : Int) % (y : Int)).natAbs = x % y := by
    rw [← Int.natCast_emod, Int.natAbs_natCast]
  show Nat.gcd (y : Int).natAbs ((x : Int) % (y : Int)).natAbs = Nat.gcd (x : Int).natAbs (y : Int).natAbs
  rw [e1, Int.natAbs_natCast, Int.natAbs_natCast, Nat.gcd_comm x y, Nat.gcd_rec y x, Nat.gcd_comm]
theorem td_b {u a : Int} (ha : 0 < a) (h1 : -1000000000000 < u) (h2 : u < 1000000000000) : w64 (u.tdiv a) = u.tdiv a := by
  have e1 := Int.natAbs_tdiv u a
  have e2 : u.natAbs.div a.natAbs ≤ u.natAbs := Nat.div_le_self _ _
  rw [← e1] at e2
  exact w64_id (by omega) (by omega)

set_option maxRecDepth 20000 in
theorem l_lowest {d : Nat} {A : AHp} {u w p g : Int} {Q : Option AV → AHp → Prop} : ∀ (m : Nat) (a b : Int), b.toNat = m → 0 ≤ a → 0 ≤ b → (Int.gcd a b : Int) = g → 0 < g → a < 1000000000000 → b < 1000000000000 → -1000000000000 < u → u < 1000000000000 → 0 < w → w < 1000000000000 → Q (some (vl ((if p = 0 then u else w).tdiv g))) A → ∀ (L9 L10 : Option AV), AW d mX13_lowest 17 [some (vl u), none, some (vl w), none, some (vi p), some (vl a), none, some (vl b), none, L9, L10] [] A Q := by
  intro m
  induction m using Nat.strongRecOn with
  | _ m ih =>
    intro a b hm ha hb hg hg0 ha9 hb9 hu1 hu2 hw1 hw2 hQ L9 L10
    refine aw_lload (pc' := 19) rfl dX13_lowest_17 rfl ?_
    refine aw_lconst (x := 0) (pc' := 20) (by decide +kernel) dX13_lowest_19 rfl ?_
    refine aw_lcmp (pc' := 21) dX13_lowest_20 rfl ?_
    refine aw_if_eq (pt := 42) (pf := 24) dX13_lowest_21 (by decide) rfl (fun c_21 => ?_) (fun c_21 => ?_)
    · replace c_21 := (cmp_eq).mp c_21
      have hba : b = 0 := by omega
      subst hba
      rw [Int.gcd_zero_right] at hg
      refine aw_iload (pc' := 44) rfl dX13_lowest_42 rfl ?_
      refine aw_if_ne (pt := 51) (pf := 47) dX13_lowest_44 (by decide) rfl (fun c_44 => ?_) (fun c_44 => ?_)
      · refine aw_lload_n (pc' := 52) rfl dX13_lowest_51 rfl ?_
        refine aw_lload (pc' := 54) rfl dX13_lowest_52 rfl ?_
        refine aw_ldiv (pc' := 55) (by omega) rfl dX13_lowest_54 rfl ?_
        refine AW.ret (some (vl _)) dX13_lowest_55 trivial ?_
        rw [td_b (by omega) (by omega) (by omega), show a = g by omega]
        rw [if_neg c_44] at hQ
        exact hQ
      · replace c_44 := Classical.not_not.mp c_44
        refine aw_lload_n (pc' := 48) rfl dX13_lowest_47 rfl ?_
        refine aw_goto (pc' := 52) dX13_lowest_48 (by decide) ?_
        refine aw_lload (pc' := 54) rfl dX13_lowest_52 rfl ?_
        refine aw_ldiv (pc' := 55) (by omega) rfl dX13_lowest_54 rfl ?_
        refine AW.ret (some (vl _)) dX13_lowest_55 trivial ?_
        rw [td_b (by omega) (by omega) (by omega), show a = g by omega]
        rw [if_pos c_44] at hQ
        exact hQ
    · replace c_21 := (not_congr cmp_eq).mp c_21
      refine aw_lload (pc' := 26) rfl dX13_lowest_24 rfl ?_
      refine aw_lload (pc' := 28) rfl dX13_lowest_26 rfl ?_
      refine aw_lrem (pc' := 29) (by omega) rfl dX13_lowest_28 rfl ?_
      refine aw_lstore (pc' := 31) (lv' := [_, _, _, _, _, _, _, _, _, _, _]) dX13_lowest_29 rfl (by decide) rfl ?_
      refine aw_lload (pc' := 33) rfl dX13_lowest_31 rfl ?_
      refine aw_lstore (pc' := 35) (lv' := [_, _, _, _, _, _, _, _, _, _, _]) dX13_lowest_33 rfl (by decide) rfl ?_
      refine aw_lload (pc' := 37) rfl dX13_lowest_35 rfl ?_
      refine aw_lstore (pc' := 39) (lv' := [_, _, _, _, _, _, _, _, _, _, _]) dX13_lowest_37 rfl (by decide) rfl ?_
      refine aw_goto (pc' := 17) dX13_lowest_39 (by decide) ?_
      have hbp : 0 < b := by omega
      have hr1 := Int.tmod_nonneg b ha
      have hr2 := Int.tmod_lt_of_pos a hbp
      exact ih _ (by omega) b (a.tmod b) rfl hb hr1 (by rw [gcd_step ha hbp]; exact hg) hg0 hb9 (by omega) hu1 hu2 hw1 hw2 hQ _ _

set_option maxRecDepth 20000 in
theorem c_lowest {d : Nat} {u w p : Int} {A : AHp} {Q : Option AV → AHp → Prop} (hd : 0 ≤ d) (hu1 : -1000000000000 < u) (hu2 : u < 1000000000000) (hw1 : 0 < w) (hw2 : w < 1000000000000) (hQ : Q (some (vl ((if p = 0 then u else w).tdiv (Int.gcd u w)))) A) : CALL d mX13_lowest [vl u, vl w, vi p] A Q := by
  refine CALL.of (by decide) (Nat.le_of_ble_eq_true rfl) ?_
  change AW d mX13_lowest 0 [some (vl u), none, some (vl w), none, some (vi p), none, none, none, none, none, none] [] A Q
  refine aw_lload_n (pc' := 1) rfl dX13_lowest_0 rfl ?_
  refine aw_lconst (x := 0) (pc' := 2) (by decide +kernel) dX13_lowest_1 rfl ?_
  refine aw_lcmp (pc' := 3) dX13_lowest_2 rfl ?_
  refine aw_if_ge (pt := 11) (pf := 6) dX13_lowest_3 (by decide) rfl (fun c_3 => ?_) (fun c_3 => ?_)
  · replace c_3 := (cmp_ge).mp c_3
    refine aw_lload_n (pc' := 12) rfl dX13_lowest_11 rfl ?_
    refine aw_lstore (pc' := 14) (lv' := [_, _, _, _, _, _, _, _, _, _, _]) dX13_lowest_12 rfl (by decide) rfl ?_
    refine aw_lload_n (pc' := 15) rfl dX13_lowest_14 rfl ?_
    refine aw_lstore (pc' := 17) (lv' := [_, _, _, _, _, _, _, _, _, _, _]) dX13_lowest_15 rfl (by decide) rfl ?_
    have hgp : 0 < (Int.gcd u w : Int) := by
      have := Int.gcd_pos_of_ne_zero_right u (b := w) (by omega)
      omega
    exact l_lowest _ _ w rfl (by omega) (by omega) (by first | rfl | (rw [Int.neg_gcd])) hgp (by omega) (by omega) hu1 hu2 hw1 hw2 hQ _ _
  · replace c_3 := (not_congr cmp_ge).mp c_3
    refine aw_lload_n (pc' := 7) rfl dX13_lowest_6 rfl ?_
    refine aw_lneg (pc' := 8) (by first | exact w64_id (by omega) (by omega) | rfl) dX13_lowest_7 rfl ?_
    refine aw_goto (pc' := 12) dX13_lowest_8 (by decide) ?_
    refine aw_lstore (pc' := 14) (lv' := [_, _, _, _, _, _, _, _, _, _, _]) dX13_lowest_12 rfl (by decide) rfl ?_
    refine aw_lload_n (pc' := 15) rfl dX13_lowest_14 rfl ?_
    refine aw_lstore (pc' := 17) (lv' := [_, _, _, _, _, _, _, _, _, _, _]) dX13_lowest_15 rfl (by decide) rfl ?_
    have hgp : 0 < (Int.gcd u w : Int) := by
      have := Int.gcd_pos_of_ne_zero_right u (b := w) (by omega)
      omega
    exact l_lowest _ _ w rfl (by omega) (by omega) (by first | rfl | (rw [Int.neg_gcd])) hgp (by omega) (by omega) hu1 hu2 hw1 hw2 hQ _ _

/-- what the reference keeps, laid in one row, and laid back -/
def carF (A : AHp) : AHp := hcpy (hcpy (hcpy (hcpy (hcpy (hcpy (hcpy A 320 0 345 0 5) 321 0 345 5 3) 332 0 345 8 60) 339 0 345 68 10) 341 0 345 78 20) 342 0 345 98 16) 346 0 345 114 7
def carB (A : AHp) : AHp := hcpy (hcpy (hcpy (hcpy (hcpy (hcpy (hcpy A 345 0 320 0 5) 345 5 321 0 3) 345 8 332 0 60) 345 68 339 0 10) 345 78 341 0 20) 345 98 342 0 16) 345 114 346 0 7
set_option maxRecDepth 20000 in
theorem c_carF {d : Nat}  {A : AHp} {Q : Option AV → AHp → Prop} (hd : 1 ≤ d) (hM : MLAY A) (hQ : Q none (carF A)) : CALL d mX13_carries [vr 307, vi 0] A Q := by
  refine CALL.of (by decide) (Nat.le_of_ble_eq_true rfl) ?_
  change AW d mX13_carries 0 [some (vr 307), some (vi 0), none] [] A Q
  refine aw_aload_n (pc' := 1) rfl dX13_carries_0 rfl ?_
  refine aw_aload_n (pc' := 2) rfl dX13_carries_1 rfl ?_
  refine aw_getp (pc' := 5) (k9 := 13) (p := 320) dX13_carries_2 rfl fX13_79 rfl rfl rfl (MO (A := A) hM) (M_values (A := A) hM) ?_
  refine aw_iconst (pc' := 6) (by decide) dX13_carries_5 rfl ?_
  refine aw_iconst (pc' := 7) (by decide) dX13_carries_6 rfl ?_
  refine aw_iload_n (pc' := 8) rfl dX13_carries_7 rfl ?_
  refine aw_callV (ci := 11) (d' := d - 1) (as := [_, _, _, _]) (pc' := 11) (by decide) rfl kX13_row iX13_row sX13_row lX13_389 (MO (A := A) hM) dX13_carries_8 rfl rfl (Nat.le_of_ble_eq_true rfl) (by omega) ?_
  refine c_row0 (by omega) hM (MA_values (A := A) hM) (by omega) (by omega) (by omega) (by decide) ?_
  simp only [Int.reduceAdd, Int.zero_add]
  refine aw_istore_n (pc' := 12) (lv' := [_, _, _]) dX13_carries_11 rfl (by decide) rfl ?_
  refine aw_aload_n (pc' := 13) rfl dX13_carries_12 rfl ?_
  refine aw_aload_n (pc' := 14) rfl dX13_carries_13 rfl ?_
  refine aw_getp (pc' := 17) (k9 := 14) (p := 321) dX13_carries_14 rfl fX13_82 rfl rfl rfl (MO (A := A) hM) (M_functions (A := A) hM) ?_
  refine aw_iconst (pc' := 18) (by decide) dX13_carries_17 rfl ?_
  refine aw_iload_n (pc' := 19) rfl dX13_carries_18 rfl ?_
  refine aw_iload_n (pc' := 20) rfl dX13_carries_19 rfl ?_
  refine aw_callV (ci := 11) (d' := d - 1) (as := [_, _, _, _]) (pc' := 23) (by decide) rfl kX13_row iX13_row sX13_row lX13_389 (MO (A := A) hM) dX13_carries_20 rfl rfl (Nat.le_of_ble_eq_true rfl) (by omega) ?_
  refine c_row0 (by omega) hM (MA_functions (A := A) hM) (by omega) (by omega) (by omega) (by decide) ?_
  simp only [Int.reduceAdd, Int.zero_add]
  refine aw_istore_n (pc' := 24) (lv' := [_, _, _]) dX13_carries_23 rfl (by decide) rfl ?_
  refine aw_aload_n (pc' := 25) rfl dX13_carries_24 rfl ?_
  refine aw_aload_n (pc' := 26) rfl dX13_carries_25 rfl ?_
  refine aw_getp (pc' := 29) (k9 := 38) (p := 332) dX13_carries_26 rfl fX13_120 rfl rfl rfl (MO (A := A) hM) (M_lastOut (A := A) hM) ?_
  refine aw_bipush (pc' := 31) (by decide +kernel) dX13_carries_29 rfl ?_
  refine aw_iload_n (pc' := 32) rfl dX13_carries_31 rfl ?_
  refine aw_iload_n (pc' := 33) rfl dX13_carries_32 rfl ?_
  refine aw_callV (ci := 11) (d' := d - 1) (as := [_, _, _, _]) (pc' := 36) (by decide) rfl kX13_row iX13_row sX13_row lX13_389 (MO (A := A) hM) dX13_carries_33 rfl rfl (Nat.le_of_ble_eq_true rfl) (by omega) ?_
  refine c_row0 (by omega) hM (MA_lastOut (A := A) hM) (by omega) (by omega) (by omega) (by decide) ?_
  simp only [Int.reduceAdd, Int.zero_add]
  refine aw_istore_n (pc' := 37) (lv' := [_, _, _]) dX13_carries_36 rfl (by decide) rfl ?_
  refine aw_aload_n (pc' := 38) rfl dX13_carries_37 rfl ?_
  refine aw_aload_n (pc' := 39) rfl dX13_carries_38 rfl ?_
  refine aw_getp (pc' := 42) (k9 := 48) (p := 339) dX13_carries_39 rfl fX13_141 rfl rfl rfl (MO (A := A) hM) (M_seen (A := A) hM) ?_
  refine aw_bipush (pc' := 44) (by decide +kernel) dX13_carries_42 rfl ?_
  refine aw_iload_n (pc' := 45) rfl dX13_carries_44 rfl ?_
  refine aw_iload_n (pc' := 46) rfl dX13_carries_45 rfl ?_
  refine aw_callV (ci := 11) (d' := d - 1) (as := [_, _, _, _]) (pc' := 49) (by decide) rfl kX13_row iX13_row sX13_row lX13_389 (MO (A := A) hM) dX13_carries_46 rfl rfl (Nat.le_of_ble_eq_true rfl) (by omega) ?_
  refine c_row0 (by omega) hM (MA_seen (A := A) hM) (by omega) (by omega) (by omega) (by decide) ?_
  simp only [Int.reduceAdd, Int.zero_add]
  refine aw_istore_n (pc' := 50) (lv' := [_, _, _]) dX13_carries_49 rfl (by decide) rfl ?_
  refine aw_aload_n (pc' := 51) rfl dX13_carries_50 rfl ?_
  refine aw_aload_n (pc' := 52) rfl dX13_carries_51 rfl ?_
  refine aw_getp (pc' := 55) (k9 := 51) (p := 341) dX13_carries_52 rfl fX13_147 rfl rfl rfl (MO (A := A) hM) (M_plans (A := A) hM) ?_
  refine aw_bipush (pc' := 57) (by decide +kernel) dX13_carries_55 rfl ?_
  refine aw_iload_n (pc' := 58) rfl dX13_carries_57 rfl ?_
  refine aw_iload_n (pc' := 59) rfl dX13_carries_58 rfl ?_
  refine aw_callV (ci := 11) (d' := d - 1) (as := [_, _, _, _]) (pc' := 62) (by decide) rfl kX13_row iX13_row sX13_row lX13_389 (MO (A := A) hM) dX13_carries_59 rfl rfl (Nat.le_of_ble_eq_true rfl) (by omega) ?_
  refine c_row0 (by omega) hM (MA_plans (A := A) hM) (by omega) (by omega) (by omega) (by decide) ?_
  simp only [Int.reduceAdd, Int.zero_add]
  refine aw_istore_n (pc' := 63) (lv' := [_, _, _]) dX13_carries_62 rfl (by decide) rfl ?_
  refine aw_aload_n (pc' := 64) rfl dX13_carries_63 rfl ?_
  refine aw_aload_n (pc' := 65) rfl dX13_carries_64 rfl ?_
  refine aw_getp (pc' := 68) (k9 := 53) (p := 342) dX13_carries_65 rfl fX13_150 rfl rfl rfl (MO (A := A) hM) (M_books (A := A) hM) ?_
  refine aw_bipush (pc' := 70) (by decide +kernel) dX13_carries_68 rfl ?_
  refine aw_iload_n (pc' := 71) rfl dX13_carries_70 rfl ?_
  refine aw_iload_n (pc' := 72) rfl dX13_carries_71 rfl ?_
  refine aw_callV (ci := 11) (d' := d - 1) (as := [_, _, _, _]) (pc' := 75) (by decide) rfl kX13_row iX13_row sX13_row lX13_389 (MO (A := A) hM) dX13_carries_72 rfl rfl (Nat.le_of_ble_eq_true rfl) (by omega) ?_
  refine c_row0 (by omega) hM (MA_books (A := A) hM) (by omega) (by omega) (by omega) (by decide) ?_
  simp only [Int.reduceAdd, Int.zero_add]
  refine aw_istore_n (pc' := 76) (lv' := [_, _, _]) dX13_carries_75 rfl (by decide) rfl ?_
  refine aw_aload_n (pc' := 77) rfl dX13_carries_76 rfl ?_
  refine aw_aload_n (pc' := 78) rfl dX13_carries_77 rfl ?_
  refine aw_getp (pc' := 81) (k9 := 59) (p := 346) dX13_carries_78 rfl fX13_162 rfl rfl rfl (MO (A := A) hM) (M_singles (A := A) hM) ?_
  refine aw_bipush (pc' := 83) (by decide +kernel) dX13_carries_81 rfl ?_
  refine aw_iload_n (pc' := 84) rfl dX13_carries_83 rfl ?_
  refine aw_iload_n (pc' := 85) rfl dX13_carries_84 rfl ?_
  refine aw_callV (ci := 11) (d' := d - 1) (as := [_, _, _, _]) (pc' := 88) (by decide) rfl kX13_row iX13_row sX13_row lX13_389 (MO (A := A) hM) dX13_carries_85 rfl rfl (Nat.le_of_ble_eq_true rfl) (by omega) ?_
  refine c_row0 (by omega) hM (MA_singles (A := A) hM) (by omega) (by omega) (by omega) (by decide) ?_
  simp only [Int.reduceAdd, Int.zero_add]
  refine aw_istore_n (pc' := 89) (lv' := [_, _, _]) dX13_carries_88 rfl (by decide) rfl ?_
  refine AW.ret none dX13_carries_89 trivial ?_
  exact hQ

set_option maxRecDepth 20000 in
theorem c_carB {d : Nat}  {A : AHp} {Q : Option AV → AHp → Prop} (hd : 1 ≤ d) (hM : MLAY A) (hQ : Q none (carB A)) : CALL d mX13_carries [vr 307, vi 1] A Q := by
  refine CALL.of (by decide) (Nat.le_of_ble_eq_true rfl) ?_
  change AW d mX13_carries 0 [some (vr 307), some (vi 1), none] [] A Q
  refine aw_aload_n (pc' := 1) rfl dX13_carries_0 rfl ?_
  refine aw_aload_n (pc' := 2) rfl dX13_carries_1 rfl ?_
  refine aw_getp (pc' := 5) (k9 := 13) (p := 320) dX13_carries_2 rfl fX13_79 rfl rfl rfl (MO (A := A) hM) (M_values (A := A) hM) ?_
  refine aw_iconst (pc' := 6) (by decide) dX13_carries_5 rfl ?_
  refine aw_iconst (pc' := 7) (by decide) dX13_carries_6 rfl ?_
  refine aw_iload_n (pc' := 8) rfl dX13_carries_7 rfl ?_
  refine aw_callV (ci := 11) (d' := d - 1) (as := [_, _, _, _]) (pc' := 11) (by decide) rfl kX13_row iX13_row sX13_row lX13_389 (MO (A := A) hM) dX13_carries_8 rfl rfl (Nat.le_of_ble_eq_true rfl) (by omega) ?_
  refine c_row1 (by omega) hM (MA_values (A := A) hM) (by omega) (by omega) (by omega) (by decide) ?_
  simp only [Int.reduceAdd, Int.zero_add]
  refine aw_istore_n (pc' := 12) (lv' := [_, _, _]) dX13_carries_11 rfl (by decide) rfl ?_
  refine aw_aload_n (pc' := 13) rfl dX13_carries_12 rfl ?_
  refine aw_aload_n (pc' := 14) rfl dX13_carries_13 rfl ?_
  refine aw_getp (pc' := 17) (k9 := 14) (p := 321) dX13_carries_14 rfl fX13_82 rfl rfl rfl (MO (A := A) hM) (M_functions (A := A) hM) ?_
  refine aw_iconst (pc' := 18) (by decide) dX13_carries_17 rfl ?_
  refine aw_iload_n (pc' := 19) rfl dX13_carries_18 rfl ?_
  refine aw_iload_n (pc' := 20) rfl dX13_carries_19 rfl ?_
  refine aw_callV (ci := 11) (d' := d - 1) (as := [_, _, _, _]) (pc' := 23) (by decide) rfl kX13_row iX13_row sX13_row lX13_389 (MO (A := A) hM) dX13_carries_20 rfl rfl (Nat.le_of_ble_eq_true rfl) (by omega) ?_
  refine c_row1 (by omega) hM (MA_functions (A := A) hM) (by omega) (by omega) (by omega) (by decide) ?_
  simp only [Int.reduceAdd, Int.zero_add]
  refine aw_istore_n (pc' := 24) (lv' := [_, _, _]) dX13_carries_23 rfl (by decide) rfl ?_
  refine aw_aload_n (pc' := 25) rfl dX13_carries_24 rfl ?_
  refine aw_aload_n (pc' := 26) rfl dX13_carries_25 rfl ?_
  refine aw_getp (pc' := 29) (k9 := 38) (p := 332) dX13_carries_26 rfl fX13_120 rfl rfl rfl (MO (A := A) hM) (M_lastOut (A := A) hM) ?_
  refine aw_bipush (pc' := 31) (by decide +kernel) dX13_carries_29 rfl ?_
  refine aw_iload_n (pc' := 32) rfl dX13_carries_31 rfl ?_
  refine aw_iload_n (pc' := 33) rfl dX13_carries_32 rfl ?_
  refine aw_callV (ci := 11) (d' := d - 1) (as := [_, _, _, _]) (pc' := 36) (by decide) rfl kX13_row iX13_row sX13_row lX13_389 (MO (A := A) hM) dX13_carries_33 rfl rfl (Nat.le_of_ble_eq_true rfl) (by omega) ?_
  refine c_row1 (by omega) hM (MA_lastOut (A := A) hM) (by omega) (by omega) (by omega) (by decide) ?_
  simp only [Int.reduceAdd, Int.zero_add]
  refine aw_istore_n (pc' := 37) (lv' := [_, _, _]) dX13_carries_36 rfl (by decide) rfl ?_
  refine aw_aload_n (pc' := 38) rfl dX13_carries_37 rfl ?_
  refine aw_aload_n (pc' := 39) rfl dX13_carries_38 rfl ?_
  refine aw_getp (pc' := 42) (k9 := 48) (p := 339) dX13_carries_39 rfl fX13_141 rfl rfl rfl (MO (A := A) hM) (M_seen (A := A) hM) ?_
  refine aw_bipush (pc' := 44) (by decide +kernel) dX13_carries_42 rfl ?_
  refine aw_iload_n (pc' := 45) rfl dX13_carries_44 rfl ?_
  refine aw_iload_n (pc' := 46) rfl dX13_carries_45 rfl ?_
  refine aw_callV (ci := 11) (d' := d - 1) (as := [_, _, _, _]) (pc' := 49) (by decide) rfl kX13_row iX13_row sX13_row lX13_389 (MO (A := A) hM) dX13_carries_46 rfl rfl (Nat.le_of_ble_eq_true rfl) (by omega) ?_
  refine c_row1 (by omega) hM (MA_seen (A := A) hM) (by omega) (by omega) (by omega) (by decide) ?_
  simp only [Int.reduceAdd, Int.zero_add]
  refine aw_istore_n (pc' := 50) (lv' := [_, _, _]) dX13_carries_49 rfl (by decide) rfl ?_
  refine aw_aload_n (pc' := 51) rfl dX13_carries_50 rfl ?_
  refine aw_aload_n (pc' := 52) rfl dX13_carries_51 rfl ?_
  refine aw_getp (pc' := 55) (k9 := 51) (p := 341) dX13_carries_52 rfl fX13_147 rfl rfl rfl (MO (A := A) hM) (M_plans (A := A) hM) ?_
  refine aw_bipush (pc' := 57) (by decide +kernel) dX13_carries_55 rfl ?_
  refine aw_iload_n (pc' := 58) rfl dX13_carries_57 rfl ?_
  refine aw_iload_n (pc' := 59) rfl dX13_carries_58 rfl ?_
  refine aw_callV (ci := 11) (d' := d - 1) (as := [_, _, _, _]) (pc' := 62) (by decide) rfl kX13_row iX13_row sX13_row lX13_389 (MO (A := A) hM) dX13_carries_59 rfl rfl (Nat.le_of_ble_eq_true rfl) (by omega) ?_
  refine c_row1 (by omega) hM (MA_plans (A := A) hM) (by omega) (by omega) (by omega) (by decide) ?_
  simp only [Int.reduceAdd, Int.zero_add]
  refine aw_istore_n (pc' := 63) (lv' := [_, _, _]) dX13_carries_62 rfl (by decide) rfl ?_
  refine aw_aload_n (pc' := 64) rfl dX13_carries_63 rfl ?_
  refine aw_aload_n (pc' := 65) rfl dX13_carries_64 rfl ?_
  refine aw_getp (pc' := 68) (k9 := 53) (p := 342) dX13_carries_65 rfl fX13_150 rfl rfl rfl (MO (A := A) hM) (M_books (A := A) hM) ?_
  refine aw_bipush (pc' := 70) (by decide +kernel) dX13_carries_68 rfl ?_
  refine aw_iload_n (pc' := 71) rfl dX13_carries_70 rfl ?_
  refine aw_iload_n (pc' := 72) rfl dX13_carries_71 rfl ?_
  refine aw_callV (ci := 11) (d' := d - 1) (as := [_, _, _, _]) (pc' := 75) (by decide) rfl kX13_row iX13_row sX13_row lX13_389 (MO (A := A) hM) dX13_carries_72 rfl rfl (Nat.le_of_ble_eq_true rfl) (by omega) ?_
  refine c_row1 (by omega) hM (MA_books (A := A) hM) (by omega) (by omega) (by omega) (by decide) ?_
  simp only [Int.reduceAdd, Int.zero_add]
  refine aw_istore_n (pc' := 76) (lv' := [_, _, _]) dX13_carries_75 rfl (by decide) rfl ?_
  refine aw_aload_n (pc' := 77) rfl dX13_carries_76 rfl ?_
  refine aw_aload_n (pc' := 78) rfl dX13_carries_77 rfl ?_
  refine aw_getp (pc' := 81) (k9 := 59) (p := 346) dX13_carries_78 rfl fX13_162 rfl rfl rfl (MO (A := A) hM) (M_singles (A := A) hM) ?_
  refine aw_bipush (pc' := 83) (by decide +kernel) dX13_carries_81 rfl ?_
  refine aw_iload_n (pc' := 84) rfl dX13_carries_83 rfl ?_
  refine aw_iload_n (pc' := 85) rfl dX13_carries_84 rfl ?_
  refine aw_callV (ci := 11) (d' := d - 1) (as := [_, _, _, _]) (pc' := 88) (by decide) rfl kX13_row iX13_row sX13_row lX13_389 (MO (A := A) hM) dX13_carries_85 rfl rfl (Nat.le_of_ble_eq_true rfl) (by omega) ?_
  refine c_row1 (by omega) hM (MA_singles (A := A) hM) (by omega) (by omega) (by omega) (by decide) ?_
  simp only [Int.reduceAdd, Int.zero_add]
  refine aw_istore_n (pc' := 89) (lv' := [_, _, _]) dX13_carries_88 rfl (by decide) rfl ?_
  refine AW.ret none dX13_carries_89 trivial ?_
  exact hQ

def sngF (A : AHp) : AHp := hset (hset (hset (hset (hset (hset (hset A 346 0 (hv A 307 15)) 346 1 (hv A 307 39)) 346 2 (hv A 307 40)) 346 3 (hv A 307 41)) 346 4 (hv A 307 49)) 346 5 (hv A 307 52)) 346 6 (hv A 307 54)
def sngB (A : AHp) : AHp := hset (hset (hset (hset (hset (hset (hset A 307 15 (hv A 346 0)) 307 39 (hv A 346 1)) 307 40 (hv A 346 2)) 307 41 (hv A 346 3)) 307 49 (hv A 346 4)) 307 52 (hv A 346 5)) 307 54 (hv A 346 6)
set_option maxRecDepth 20000 in
theorem c_image {d : Nat}  {A : AHp} {Q : Option AV → AHp → Prop} (hd : 2 ≤ d) (hM : MLAY A) (hQ : Q (some (vi (hv A 307 12))) (hset (carF (sngF A)) 307 58 1)) : CALL d mX13_image [vr 307] A Q := by
  refine CALL.of (by decide) (Nat.le_of_ble_eq_true rfl) ?_
  change AW d mX13_image 0 [some (vr 307)] [] A Q
  refine aw_aload_n (pc' := 1) rfl dX13_image_0 rfl ?_
  refine aw_getp (pc' := 4) (k9 := 59) (p := 346) dX13_image_1 rfl fX13_162 rfl rfl rfl (MO (A := A) hM) (M_singles (A := A) hM) ?_
  refine aw_iconst (pc' := 5) (by decide) dX13_image_4 rfl ?_
  refine aw_aload_n (pc' := 6) rfl dX13_image_5 rfl ?_
  refine aw_geti (pc' := 9) (k9 := 15) dX13_image_6 rfl fX13_85 rfl (by decide) rfl (MO (A := A) hM) ?_
  refine aw_iast (pc' := 10) dX13_image_9 rfl (MA_singles (A := A) hM) (by omega) (by omega) ?_
  refine aw_aload_n (pc' := 11) rfl dX13_image_10 rfl ?_
  refine aw_getp (pc' := 14) (k9 := 59) (p := 346) dX13_image_11 rfl fX13_162 rfl rfl rfl (MO (A := A) hM) (M_singles (A := A) hM) ?_
  refine aw_iconst (pc' := 15) (by decide) dX13_image_14 rfl ?_
  refine aw_aload_n (pc' := 16) rfl dX13_image_15 rfl ?_
  refine aw_geti (pc' := 19) (k9 := 39) dX13_image_16 rfl fX13_340 rfl (by decide) rfl (MO (A := A) hM) ?_
  try simp only [hv_set, hv_cpy, hv_pset, hp_set, hp_cpy, Int.reduceEq, false_and, and_false, true_and, and_true, if_false, if_true, reduceIte]
  refine aw_iast (pc' := 20) dX13_image_19 rfl (MA_singles (A := A) hM) (by omega) (by omega) ?_
  refine aw_aload_n (pc' := 21) rfl dX13_image_20 rfl ?_
  refine aw_getp (pc' := 24) (k9 := 59) (p := 346) dX13_image_21 rfl fX13_162 rfl rfl rfl (MO (A := A) hM) (M_singles (A := A) hM) ?_
  refine aw_iconst (pc' := 25) (by decide) dX13_image_24 rfl ?_
  refine aw_aload_n (pc' := 26) rfl dX13_image_25 rfl ?_
  refine aw_geti (pc' := 29) (k9 := 40) dX13_image_26 rfl fX13_343 rfl (by decide) rfl (MO (A := A) hM) ?_
  try simp only [hv_set, hv_cpy, hv_pset, hp_set, hp_cpy, Int.reduceEq, false_and, and_false, true_and, and_true, if_false, if_true, reduceIte]
  refine aw_iast (pc' := 30) dX13_image_29 rfl (MA_singles (A := A) hM) (by omega) (by omega) ?_
  refine aw_aload_n (pc' := 31) rfl dX13_image_30 rfl ?_
  refine aw_getp (pc' := 34) (k9 := 59) (p := 346) dX13_image_31 rfl fX13_162 rfl rfl rfl (MO (A := A) hM) (M_singles (A := A) hM) ?_
  refine aw_iconst (pc' := 35) (by decide) dX13_image_34 rfl ?_
  refine aw_aload_n (pc' := 36) rfl dX13_image_35 rfl ?_
  refine aw_geti (pc' := 39) (k9 := 41) dX13_image_36 rfl fX13_346 rfl (by decide) rfl (MO (A := A) hM) ?_
  try simp only [hv_set, hv_cpy, hv_pset, hp_set, hp_cpy, Int.reduceEq, false_and, and_false, true_and, and_true, if_false, if_true, reduceIte]
  refine aw_iast (pc' := 40) dX13_image_39 rfl (MA_singles (A := A) hM) (by omega) (by omega) ?_
  refine aw_aload_n (pc' := 41) rfl dX13_image_40 rfl ?_
  refine aw_getp (pc' := 44) (k9 := 59) (p := 346) dX13_image_41 rfl fX13_162 rfl rfl rfl (MO (A := A) hM) (M_singles (A := A) hM) ?_
  refine aw_iconst (pc' := 45) (by decide) dX13_image_44 rfl ?_
  refine aw_aload_n (pc' := 46) rfl dX13_image_45 rfl ?_
  refine aw_geti (pc' := 49) (k9 := 49) dX13_image_46 rfl fX13_367 rfl (by decide) rfl (MO (A := A) hM) ?_
  try simp only [hv_set, hv_cpy, hv_pset, hp_set, hp_cpy, Int.reduceEq, false_and, and_false, true_and, and_true, if_false, if_true, reduceIte]
  refine aw_iast (pc' := 50) dX13_image_49 rfl (MA_singles (A := A) hM) (by omega) (by omega) ?_
  refine aw_aload_n (pc' := 51) rfl dX13_image_50 rfl ?_
  refine aw_getp (pc' := 54) (k9 := 59) (p := 346) dX13_image_51 rfl fX13_162 rfl rfl rfl (MO (A := A) hM) (M_singles (A := A) hM) ?_
  refine aw_iconst (pc' := 55) (by decide) dX13_image_54 rfl ?_
  refine aw_aload_n (pc' := 56) rfl dX13_image_55 rfl ?_
  refine aw_geti (pc' := 59) (k9 := 52) dX13_image_56 rfl fX13_383 rfl (by decide) rfl (MO (A := A) hM) ?_
  try simp only [hv_set, hv_cpy, hv_pset, hp_set, hp_cpy, Int.reduceEq, false_and, and_false, true_and, and_true, if_false, if_true, reduceIte]
  refine aw_iast (pc' := 60) dX13_image_59 rfl (MA_singles (A := A) hM) (by omega) (by omega) ?_
  refine aw_aload_n (pc' := 61) rfl dX13_image_60 rfl ?_
  refine aw_getp (pc' := 64) (k9 := 59) (p := 346) dX13_image_61 rfl fX13_162 rfl rfl rfl (MO (A := A) hM) (M_singles (A := A) hM) ?_
  refine aw_bipush (pc' := 66) (by decide +kernel) dX13_image_64 rfl ?_
  refine aw_aload_n (pc' := 67) rfl dX13_image_66 rfl ?_
  refine aw_geti (pc' := 70) (k9 := 54) dX13_image_67 rfl fX13_386 rfl (by decide) rfl (MO (A := A) hM) ?_
  try simp only [hv_set, hv_cpy, hv_pset, hp_set, hp_cpy, Int.reduceEq, false_and, and_false, true_and, and_true, if_false, if_true, reduceIte]
  refine aw_iast (pc' := 71) dX13_image_70 rfl (MA_singles (A := A) hM) (by omega) (by omega) ?_
  refine aw_aload_n (pc' := 72) rfl dX13_image_71 rfl ?_
  refine aw_iconst (pc' := 73) (by decide) dX13_image_72 rfl ?_
  refine aw_callV (ci := 11) (d' := d - 1) (as := [_]) (pc' := 76) (by decide) rfl kX13_carries iX13_carries sX13_carries lX13_393 (MO (A := A) hM) dX13_image_73 rfl rfl (Nat.le_of_ble_eq_true rfl) (by omega) ?_
  change CALL _ _ _ (sngF A) _
  refine c_carF (by omega) hM ?_
  refine aw_aload_n (pc' := 77) rfl dX13_image_76 rfl ?_
  refine aw_iconst (pc' := 78) (by decide) dX13_image_77 rfl ?_
  refine aw_putz (pc' := 81) (k9 := 58) dX13_image_78 rfl fX13_397 rfl rfl rfl (MO (A := A) hM) (by omega) ?_
  refine aw_aload_n (pc' := 82) rfl dX13_image_81 rfl ?_
  refine aw_geti (pc' := 85) (k9 := 12) dX13_image_82 rfl fX13_196 rfl (by decide) rfl (MO (A := A) hM) ?_
  try simp only [hv_set, hv_cpy, hv_pset, hp_set, hp_cpy, Int.reduceEq, false_and, and_false, true_and, and_true, if_false, if_true, reduceIte]
  refine AW.ret (some (vi _)) dX13_image_85 trivial ?_
  exact hQ

set_option maxRecDepth 20000 in
theorem c_undo {d : Nat}  {A : AHp} {Q : Option AV → AHp → Prop} (hd : 2 ≤ d) (hM : MLAY A) (hN : hv A 307 58 = 0 → Q (some (vi (-3))) A) (hQ : hv A 307 58 ≠ 0 → Q (some (vi (hv A 307 12))) (sngB (carB A))) : CALL d mX13_undo [vr 307] A Q := by
  refine CALL.of (by decide) (Nat.le_of_ble_eq_true rfl) ?_
  change AW d mX13_undo 0 [some (vr 307)] [] A Q
  refine aw_aload_n (pc' := 1) rfl dX13_undo_0 rfl ?_
  refine aw_geti (pc' := 4) (k9 := 58) dX13_undo_1 rfl fX13_397 rfl (by decide) rfl (MO (A := A) hM) ?_
  refine aw_if_ne (pt := 10) (pf := 7) dX13_undo_4 (by decide) rfl (fun c_4 => ?_) (fun c_4 => ?_)
  · refine aw_aload_n (pc' := 11) rfl dX13_undo_10 rfl ?_
    refine aw_iconst (pc' := 12) (by decide) dX13_undo_11 rfl ?_
    refine aw_callV (ci := 11) (d' := d - 1) (as := [_]) (pc' := 15) (by decide) rfl kX13_carries iX13_carries sX13_carries lX13_393 (MO (A := A) hM) dX13_undo_12 rfl rfl (Nat.le_of_ble_eq_true rfl) (by omega) ?_
    refine c_carB (by omega) hM ?_
    refine aw_aload_n (pc' := 16) rfl dX13_undo_15 rfl ?_
    refine aw_aload_n (pc' := 17) rfl dX13_undo_16 rfl ?_
    refine aw_getp (pc' := 20) (k9 := 59) (p := 346) dX13_undo_17 rfl fX13_162 rfl rfl rfl (MO (A := A) hM) (M_singles (A := A) hM) ?_
    refine aw_iconst (pc' := 21) (by decide) dX13_undo_20 rfl ?_
    refine aw_iald (pc' := 22) dX13_undo_21 rfl (MA_singles (A := A) hM) (by omega) (by omega) ?_
    refine aw_puti (pc' := 25) (k9 := 15) dX13_undo_22 rfl fX13_85 rfl rfl rfl (MO (A := A) hM) ?_
    refine aw_aload_n (pc' := 26) rfl dX13_undo_25 rfl ?_
    refine aw_aload_n (pc' := 27) rfl dX13_undo_26 rfl ?_
    refine aw_getp (pc' := 30) (k9 := 59) (p := 346) dX13_undo_27 rfl fX13_162 rfl rfl rfl (MO (A := A) hM) (M_singles (A := A) hM) ?_
    refine aw_iconst (pc' := 31) (by decide) dX13_undo_30 rfl ?_
    refine aw_iald (pc' := 32) dX13_undo_31 rfl (MA_singles (A := A) hM) (by omega) (by omega) ?_
    try simp only [hv_set, hv_cpy, hv_pset, hp_set, hp_cpy, Int.reduceEq, false_and, and_false, true_and, and_true, if_false, if_true, reduceIte]
    refine aw_puti (pc' := 35) (k9 := 39) dX13_undo_32 rfl fX13_340 rfl rfl rfl (MO (A := A) hM) ?_
    refine aw_aload_n (pc' := 36) rfl dX13_undo_35 rfl ?_
    refine aw_aload_n (pc' := 37) rfl dX13_undo_36 rfl ?_
    refine aw_getp (pc' := 40) (k9 := 59) (p := 346) dX13_undo_37 rfl fX13_162 rfl rfl rfl (MO (A := A) hM) (M_singles (A := A) hM) ?_
    refine aw_iconst (pc' := 41) (by decide) dX13_undo_40 rfl ?_
    refine aw_iald (pc' := 42) dX13_undo_41 rfl (MA_singles (A := A) hM) (by omega) (by omega) ?_
    try simp only [hv_set, hv_cpy, hv_pset, hp_set, hp_cpy, Int.reduceEq, false_and, and_false, true_and, and_true, if_false, if_true, reduceIte]
    refine aw_puti (pc' := 45) (k9 := 40) dX13_undo_42 rfl fX13_343 rfl rfl rfl (MO (A := A) hM) ?_
    refine aw_aload_n (pc' := 46) rfl dX13_undo_45 rfl ?_
    refine aw_aload_n (pc' := 47) rfl dX13_undo_46 rfl ?_
    refine aw_getp (pc' := 50) (k9 := 59) (p := 346) dX13_undo_47 rfl fX13_162 rfl rfl rfl (MO (A := A) hM) (M_singles (A := A) hM) ?_
    refine aw_iconst (pc' := 51) (by decide) dX13_undo_50 rfl ?_
    refine aw_iald (pc' := 52) dX13_undo_51 rfl (MA_singles (A := A) hM) (by omega) (by omega) ?_
    try simp only [hv_set, hv_cpy, hv_pset, hp_set, hp_cpy, Int.reduceEq, false_and, and_false, true_and, and_true, if_false, if_true, reduceIte]
    refine aw_puti (pc' := 55) (k9 := 41) dX13_undo_52 rfl fX13_346 rfl rfl rfl (MO (A := A) hM) ?_
    refine aw_aload_n (pc' := 56) rfl dX13_undo_55 rfl ?_
    refine aw_aload_n (pc' := 57) rfl dX13_undo_56 rfl ?_
    refine aw_getp (pc' := 60) (k9 := 59) (p := 346) dX13_undo_57 rfl fX13_162 rfl rfl rfl (MO (A := A) hM) (M_singles (A := A) hM) ?_
    refine aw_iconst (pc' := 61) (by decide) dX13_undo_60 rfl ?_
    refine aw_iald (pc' := 62) dX13_undo_61 rfl (MA_singles (A := A) hM) (by omega) (by omega) ?_
    try simp only [hv_set, hv_cpy, hv_pset, hp_set, hp_cpy, Int.reduceEq, false_and, and_false, true_and, and_true, if_false, if_true, reduceIte]
    refine aw_puti (pc' := 65) (k9 := 49) dX13_undo_62 rfl fX13_367 rfl rfl rfl (MO (A := A) hM) ?_
    refine aw_aload_n (pc' := 66) rfl dX13_undo_65 rfl ?_
    refine aw_aload_n (pc' := 67) rfl dX13_undo_66 rfl ?_
    refine aw_getp (pc' := 70) (k9 := 59) (p := 346) dX13_undo_67 rfl fX13_162 rfl rfl rfl (MO (A := A) hM) (M_singles (A := A) hM) ?_
    refine aw_iconst (pc' := 71) (by decide) dX13_undo_70 rfl ?_
    refine aw_iald (pc' := 72) dX13_undo_71 rfl (MA_singles (A := A) hM) (by omega) (by omega) ?_
    try simp only [hv_set, hv_cpy, hv_pset, hp_set, hp_cpy, Int.reduceEq, false_and, and_false, true_and, and_true, if_false, if_true, reduceIte]
    refine aw_puti (pc' := 75) (k9 := 52) dX13_undo_72 rfl fX13_383 rfl rfl rfl (MO (A := A) hM) ?_
    refine aw_aload_n (pc' := 76) rfl dX13_undo_75 rfl ?_
    refine aw_aload_n (pc' := 77) rfl dX13_undo_76 rfl ?_
    refine aw_getp (pc' := 80) (k9 := 59) (p := 346) dX13_undo_77 rfl fX13_162 rfl rfl rfl (MO (A := A) hM) (M_singles (A := A) hM) ?_
    refine aw_bipush (pc' := 82) (by decide +kernel) dX13_undo_80 rfl ?_
    refine aw_iald (pc' := 83) dX13_undo_82 rfl (MA_singles (A := A) hM) (by omega) (by omega) ?_
    try simp only [hv_set, hv_cpy, hv_pset, hp_set, hp_cpy, Int.reduceEq, false_and, and_false, true_and, and_true, if_false, if_true, reduceIte]
    refine aw_puti (pc' := 86) (k9 := 54) dX13_undo_83 rfl fX13_386 rfl rfl rfl (MO (A := A) hM) ?_
    refine aw_aload_n (pc' := 87) rfl dX13_undo_86 rfl ?_
    refine aw_geti (pc' := 90) (k9 := 12) dX13_undo_87 rfl fX13_196 rfl (by decide) rfl (MO (A := A) hM) ?_
    try simp only [hv_set, hv_cpy, hv_pset, hp_set, hp_cpy, Int.reduceEq, false_and, and_false, true_and, and_true, if_false, if_true, reduceIte]
    refine AW.ret (some (vi _)) dX13_undo_90 trivial ?_
    exact hQ c_4
  · replace c_4 := Classical.not_not.mp c_4
    refine aw_bipush (pc' := 9) (by decide +kernel) dX13_undo_7 rfl ?_
    refine AW.ret (some (vi _)) dX13_undo_9 trivial ?_
    exact hN c_4
