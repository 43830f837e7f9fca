/-! ===== the class: tapes, judging, books, the image ===== -/
set_option maxRecDepth 20000 in
theorem x_tape {d : Nat} {t s n : Int} {A : AHp} {Q : Option AV → AHp → Prop} (hd : 1 ≤ d) (hX : XLAY A) (hTP : TPS A) (hsz : ∀ t, 0 ≤ t → t ≤ 5 → 0 ≤ hv A (295 + 2 * t) 1)
  (hN : ¬ (0 ≤ t ∧ t ≤ 5) → Q (some (vi (-1))) A) (hB : 0 ≤ t → t ≤ 5 → (¬ (-1 ≤ s ∧ s ≤ 4) ∨ s ≠ -1 ∧ 60 < n) → Q (some (vi (-2))) A) (hS : 0 ≤ t → t ≤ 5 → -1 ≤ s → s ≤ 4 → s ≠ -1 → n < 0 → Q (some (vi (-14))) A)
  (hO1 : 0 ≤ t → t ≤ 5 → s = -1 → Q (some (vi 1)) (hfill (hset (hset A (295 + 2 * t) 0 (-1)) (295 + 2 * t) 1 0) (295 + 2 * t + 1) 0 60 0)) (hO2 : 0 ≤ t → t ≤ 5 → 0 ≤ s → s ≤ 4 → 0 ≤ n → n ≤ 60 → Q (some (vi 1)) (hfill (hset (hset A (295 + 2 * t) 0 s) (295 + 2 * t) 1 n) (295 + 2 * t + 1) 0 60 0)) : CALL d mX12_tape [vr 60, vi t, vi s, vi n] A Q := by
  refine CALL.of (by decide) (Nat.le_of_ble_eq_true rfl) ?_
  change AW d mX12_tape 0 [some (vr 60), some (vi t), some (vi s), some (vi n)] [] A Q
  refine aw_iload_n (pc' := 1) rfl dX12_tape_0 rfl ?_
  refine aw_callS (d' := d - 1) (as := [_]) (pc' := 4) kX12_isTape tX12_isTape lX12_229 dX12_tape_1 rfl rfl (Nat.le_of_ble_eq_true rfl) (by omega) ?_
  refine x_isTape (by omega) (fun e1_1 => ?_) (fun e0_1 => ?_)
  · have hz_t := hsz t (by omega) (by omega)
    refine aw_if_ne (pt := 9) (pf := 7) dX12_tape_4 (by decide) rfl (fun _ => ?_) (fun c_4 => absurd (by decide) c_4)
    refine aw_iload_n (pc' := 10) rfl dX12_tape_9 rfl ?_
    refine aw_iconst (pc' := 11) (by decide) dX12_tape_10 rfl ?_
    refine aw_icmp_ne (pt := 26) (pf := 14) dX12_tape_11 (by decide) rfl (fun c_11 => ?_) (fun c_11 => ?_)
    · refine aw_iload_n (pc' := 27) rfl dX12_tape_26 rfl ?_
      refine aw_if_lt (pt := 41) (pf := 30) dX12_tape_27 (by decide) rfl (fun c_27 => ?_) (fun c_27 => ?_)
      · refine aw_bipush (pc' := 43) (by decide +kernel) dX12_tape_41 rfl ?_
        refine AW.ret (some (vi _)) dX12_tape_43 trivial ?_
        first | exact hN (by omega) | exact hB (by omega) (by omega) (by omega) | exact hS (by omega) (by omega) (by omega) (by omega) (by omega) (by omega) | exact hO1 (by omega) (by omega) (by omega) | exact hO2 (by omega) (by omega) (by omega) (by omega) (by omega) (by omega)
      · refine aw_iload_n (pc' := 31) rfl dX12_tape_30 rfl ?_
        refine aw_iconst (pc' := 32) (by decide) dX12_tape_31 rfl ?_
        refine aw_icmp_gt (pt := 41) (pf := 35) dX12_tape_32 (by decide) rfl (fun c_32 => ?_) (fun c_32 => ?_)
        · refine aw_bipush (pc' := 43) (by decide +kernel) dX12_tape_41 rfl ?_
          refine AW.ret (some (vi _)) dX12_tape_43 trivial ?_
          first | exact hN (by omega) | exact hB (by omega) (by omega) (by omega) | exact hS (by omega) (by omega) (by omega) (by omega) (by omega) (by omega) | exact hO1 (by omega) (by omega) (by omega) | exact hO2 (by omega) (by omega) (by omega) (by omega) (by omega) (by omega)
        · refine aw_iload_n (pc' := 36) rfl dX12_tape_35 rfl ?_
          refine aw_bipush (pc' := 38) (by decide +kernel) dX12_tape_36 rfl ?_
          refine aw_icmp_le (pt := 44) (pf := 41) dX12_tape_38 (by decide) rfl (fun c_38 => ?_) (fun c_38 => ?_)
          · refine aw_iload_n (pc' := 45) rfl dX12_tape_44 rfl ?_
            refine aw_if_ge (pt := 53) (pf := 48) dX12_tape_45 (by decide) rfl (fun c_45 => ?_) (fun c_45 => ?_)
            · refine aw_aload_n (pc' := 54) rfl dX12_tape_53 rfl ?_
              refine aw_getp (pc' := 57) (k9 := 10) (p := 266) dX12_tape_54 rfl fX12_56 rfl rfl rfl (XO (A := A) hX) (X_tapes (A := A) hX) ?_
              refine aw_iload_n (pc' := 58) rfl dX12_tape_57 rfl ?_
              refine aw_aald (pc' := 59) (t0 := 7) (fun _ => rfl) (by decide) dX12_tape_58 rfl (XA_tapes (A := A) hX) (by omega) (by omega) ?_
              rw [hTP t (by omega) (by omega)]
              refine aw_iload_n (pc' := 60) rfl dX12_tape_59 rfl ?_
              refine aw_iload_n (pc' := 61) rfl dX12_tape_60 rfl ?_
              refine aw_callV (ci := 9) (d' := d - 1) (as := [_, _]) (pc' := 64) (by decide) rfl kX10_become iX10_become sX10_become lX12_247 (XT_tape (A := A) hX t (by omega) (by omega)).1 dX12_tape_61 rfl rfl (Nat.le_of_ble_eq_true rfl) (by omega) ?_
              refine x_become (by omega) (XT_tape (A := A) hX t (by omega) (by omega)) ?_
              refine AW.ret (some (vi _)) dX12_tape_64 trivial ?_
              first | exact hN (by omega) | exact hB (by omega) (by omega) (by omega) | exact hS (by omega) (by omega) (by omega) (by omega) (by omega) (by omega) | exact hO1 (by omega) (by omega) (by omega) | exact hO2 (by omega) (by omega) (by omega) (by omega) (by omega) (by omega)
            · refine aw_bipush (pc' := 50) (by decide +kernel) dX12_tape_48 rfl ?_
              refine aw_goto (pc' := 64) dX12_tape_50 (by decide) ?_
              refine AW.ret (some (vi _)) dX12_tape_64 trivial ?_
              first | exact hN (by omega) | exact hB (by omega) (by omega) (by omega) | exact hS (by omega) (by omega) (by omega) (by omega) (by omega) (by omega) | exact hO1 (by omega) (by omega) (by omega) | exact hO2 (by omega) (by omega) (by omega) (by omega) (by omega) (by omega)
          · refine aw_bipush (pc' := 43) (by decide +kernel) dX12_tape_41 rfl ?_
            refine AW.ret (some (vi _)) dX12_tape_43 trivial ?_
            first | exact hN (by omega) | exact hB (by omega) (by omega) (by omega) | exact hS (by omega) (by omega) (by omega) (by omega) (by omega) (by omega) | exact hO1 (by omega) (by omega) (by omega) | exact hO2 (by omega) (by omega) (by omega) (by omega) (by omega) (by omega)
    · replace c_11 := Classical.not_not.mp c_11
      refine aw_aload_n (pc' := 15) rfl dX12_tape_14 rfl ?_
      refine aw_getp (pc' := 18) (k9 := 10) (p := 266) dX12_tape_15 rfl fX12_56 rfl rfl rfl (XO (A := A) hX) (X_tapes (A := A) hX) ?_
      refine aw_iload_n (pc' := 19) rfl dX12_tape_18 rfl ?_
      refine aw_aald (pc' := 20) (t0 := 7) (fun _ => rfl) (by decide) dX12_tape_19 rfl (XA_tapes (A := A) hX) (by omega) (by omega) ?_
      rw [hTP t (by omega) (by omega)]
      refine aw_iconst (pc' := 21) (by decide) dX12_tape_20 rfl ?_
      refine aw_iconst (pc' := 22) (by decide) dX12_tape_21 rfl ?_
      refine aw_callV (ci := 9) (d' := d - 1) (as := [_, _]) (pc' := 25) (by decide) rfl kX10_become iX10_become sX10_become lX12_247 (XT_tape (A := A) hX t (by omega) (by omega)).1 dX12_tape_22 rfl rfl (Nat.le_of_ble_eq_true rfl) (by omega) ?_
      refine x_become (by omega) (XT_tape (A := A) hX t (by omega) (by omega)) ?_
      refine AW.ret (some (vi _)) dX12_tape_25 trivial ?_
      first | exact hN (by omega) | exact hB (by omega) (by omega) (by omega) | exact hS (by omega) (by omega) (by omega) (by omega) (by omega) (by omega) | exact hO1 (by omega) (by omega) (by omega) | exact hO2 (by omega) (by omega) (by omega) (by omega) (by omega) (by omega)
  · refine aw_if_ne (pt := 9) (pf := 7) dX12_tape_4 (by decide) rfl (fun c_4 => absurd c_4 (by decide)) (fun _ => ?_)
    refine aw_iconst (pc' := 8) (by decide) dX12_tape_7 rfl ?_
    refine AW.ret (some (vi _)) dX12_tape_8 trivial ?_
    first | exact hN (by omega) | exact hB (by omega) (by omega) (by omega) | exact hS (by omega) (by omega) (by omega) (by omega) (by omega) (by omega) | exact hO1 (by omega) (by omega) (by omega) | exact hO2 (by omega) (by omega) (by omega) (by omega) (by omega) (by omega)

set_option maxRecDepth 20000 in
theorem x_held {d : Nat} {a v : Int} {A : AHp} {Q : Option AV → AHp → Prop} (hd : 0 ≤ d) (hT : TapeAt A a) (hs0 : 0 ≤ hv A a 0) (hs4 : hv A a 0 ≤ 4) (hO : Q (some (vl (lowB (hv A a 0) v))) A) : CALL d mX10_held [vr a, vl v] A Q := by
  refine CALL.of (by decide) (Nat.le_of_ble_eq_true rfl) ?_
  change AW d mX10_held 0 [some (vr a), some (vl v), none] [] A Q
  refine aw_aload_n (pc' := 1) rfl dX10_held_0 rfl ?_
  refine aw_geti (pc' := 4) (k9 := 0) dX10_held_1 rfl fX10_9 rfl (by decide) rfl hT.1 ?_
  by_cases z_4_0 : hv A a 0 = 0
  · refine aw_tabIn (pc' := 40) dX10_held_4 (by omega) (by omega) (off := 36) (by rw [z_4_0]; rfl) (by decide) ?_
    refine aw_lload_n (pc' := 41) rfl dX10_held_40 rfl ?_
    refine aw_l2i (pc' := 42) (by first | exact w32_id (by omega) (by omega) | rfl) dX10_held_41 rfl ?_
    refine aw_i2b (pc' := 43) rfl dX10_held_42 rfl ?_
    refine aw_i2l (pc' := 44) dX10_held_43 rfl ?_
    refine AW.ret (some (vl _)) dX10_held_44 trivial ?_
    unfold lowB at hO
    first | (rw [if_pos (by omega)] at hO; exact hO) | (rw [if_neg (by omega), if_pos (by omega)] at hO; exact hO) | (rw [if_neg (by omega), if_neg (by omega), if_pos (by omega)] at hO; exact hO) | (rw [if_neg (by omega), if_neg (by omega), if_neg (by omega), if_pos (by omega)] at hO; exact hO) | (rw [if_neg (by omega), if_neg (by omega), if_neg (by omega), if_neg (by omega), if_pos (by omega)] at hO; exact hO) | (rw [if_neg (by omega), if_neg (by omega), if_neg (by omega), if_neg (by omega), if_neg (by omega)] at hO; exact hO)
  by_cases z_4_1 : hv A a 0 = 1
  · refine aw_tabIn (pc' := 45) dX10_held_4 (by omega) (by omega) (off := 41) (by rw [z_4_1]; rfl) (by decide) ?_
    refine aw_lload_n (pc' := 46) rfl dX10_held_45 rfl ?_
    refine aw_l2i (pc' := 47) (by first | exact w32_id (by omega) (by omega) | rfl) dX10_held_46 rfl ?_
    refine aw_i2s (pc' := 48) rfl dX10_held_47 rfl ?_
    refine aw_i2l (pc' := 49) dX10_held_48 rfl ?_
    refine AW.ret (some (vl _)) dX10_held_49 trivial ?_
    unfold lowB at hO
    first | (rw [if_pos (by omega)] at hO; exact hO) | (rw [if_neg (by omega), if_pos (by omega)] at hO; exact hO) | (rw [if_neg (by omega), if_neg (by omega), if_pos (by omega)] at hO; exact hO) | (rw [if_neg (by omega), if_neg (by omega), if_neg (by omega), if_pos (by omega)] at hO; exact hO) | (rw [if_neg (by omega), if_neg (by omega), if_neg (by omega), if_neg (by omega), if_pos (by omega)] at hO; exact hO) | (rw [if_neg (by omega), if_neg (by omega), if_neg (by omega), if_neg (by omega), if_neg (by omega)] at hO; exact hO)
  by_cases z_4_2 : hv A a 0 = 2
  · refine aw_tabIn (pc' := 50) dX10_held_4 (by omega) (by omega) (off := 46) (by rw [z_4_2]; rfl) (by decide) ?_
    refine aw_lload_n (pc' := 51) rfl dX10_held_50 rfl ?_
    refine aw_l2i (pc' := 52) (by first | exact w32_id (by omega) (by omega) | rfl) dX10_held_51 rfl ?_
    refine aw_i2l (pc' := 53) dX10_held_52 rfl ?_
    refine AW.ret (some (vl _)) dX10_held_53 trivial ?_
    unfold lowB at hO
    first | (rw [if_pos (by omega)] at hO; exact hO) | (rw [if_neg (by omega), if_pos (by omega)] at hO; exact hO) | (rw [if_neg (by omega), if_neg (by omega), if_pos (by omega)] at hO; exact hO) | (rw [if_neg (by omega), if_neg (by omega), if_neg (by omega), if_pos (by omega)] at hO; exact hO) | (rw [if_neg (by omega), if_neg (by omega), if_neg (by omega), if_neg (by omega), if_pos (by omega)] at hO; exact hO) | (rw [if_neg (by omega), if_neg (by omega), if_neg (by omega), if_neg (by omega), if_neg (by omega)] at hO; exact hO)
  by_cases z_4_3 : hv A a 0 = 3
  · refine aw_tabIn (pc' := 66) dX10_held_4 (by omega) (by omega) (off := 62) (by rw [z_4_3]; rfl) (by decide) ?_
    refine aw_lload_n (pc' := 67) rfl dX10_held_66 rfl ?_
    refine AW.ret (some (vl _)) dX10_held_67 trivial ?_
    unfold lowB at hO
    first | (rw [if_pos (by omega)] at hO; exact hO) | (rw [if_neg (by omega), if_pos (by omega)] at hO; exact hO) | (rw [if_neg (by omega), if_neg (by omega), if_pos (by omega)] at hO; exact hO) | (rw [if_neg (by omega), if_neg (by omega), if_neg (by omega), if_pos (by omega)] at hO; exact hO) | (rw [if_neg (by omega), if_neg (by omega), if_neg (by omega), if_neg (by omega), if_pos (by omega)] at hO; exact hO) | (rw [if_neg (by omega), if_neg (by omega), if_neg (by omega), if_neg (by omega), if_neg (by omega)] at hO; exact hO)
  by_cases z_4_4 : hv A a 0 = 4
  · refine aw_tabIn (pc' := 54) dX10_held_4 (by omega) (by omega) (off := 50) (by rw [z_4_4]; rfl) (by decide) ?_
    refine aw_lload_n (pc' := 55) rfl dX10_held_54 rfl ?_
    refine aw_lconst (x := 0) (pc' := 56) (by decide +kernel) dX10_held_55 rfl ?_
    refine aw_lcmp (pc' := 57) dX10_held_56 rfl ?_
    refine aw_if_eq (pt := 64) (pf := 60) dX10_held_57 (by decide) rfl (fun c_57 => ?_) (fun c_57 => ?_)
    · replace c_57 := (cmp_eq).mp c_57
      refine aw_lconst (x := 0) (pc' := 65) (by decide +kernel) dX10_held_64 rfl ?_
      refine AW.ret (some (vl _)) dX10_held_65 trivial ?_
      unfold lowB at hO
      first | (rw [if_pos (by omega)] at hO; exact hO) | (rw [if_neg (by omega), if_pos (by omega)] at hO; exact hO) | (rw [if_neg (by omega), if_neg (by omega), if_pos (by omega)] at hO; exact hO) | (rw [if_neg (by omega), if_neg (by omega), if_neg (by omega), if_pos (by omega)] at hO; exact hO) | (rw [if_neg (by omega), if_neg (by omega), if_neg (by omega), if_neg (by omega), if_pos (by omega)] at hO; exact hO) | (rw [if_neg (by omega), if_neg (by omega), if_neg (by omega), if_neg (by omega), if_neg (by omega)] at hO; exact hO)
    · replace c_57 := (not_congr cmp_eq).mp c_57
      refine aw_lconst (x := 1) (pc' := 61) (by decide +kernel) dX10_held_60 rfl ?_
      refine aw_goto (pc' := 65) dX10_held_61 (by decide) ?_
      refine AW.ret (some (vl _)) dX10_held_65 trivial ?_
      unfold lowB at hO
      first | (rw [if_pos (by omega)] at hO; exact hO) | (rw [if_neg (by omega), if_pos (by omega)] at hO; exact hO) | (rw [if_neg (by omega), if_neg (by omega), if_pos (by omega)] at hO; exact hO) | (rw [if_neg (by omega), if_neg (by omega), if_neg (by omega), if_pos (by omega)] at hO; exact hO) | (rw [if_neg (by omega), if_neg (by omega), if_neg (by omega), if_neg (by omega), if_pos (by omega)] at hO; exact hO) | (rw [if_neg (by omega), if_neg (by omega), if_neg (by omega), if_neg (by omega), if_neg (by omega)] at hO; exact hO)
  refine aw_tabOut (pc' := 66) dX10_held_4 (by omega) (by decide) ?_
  refine aw_lload_n (pc' := 67) rfl dX10_held_66 rfl ?_
  refine AW.ret (some (vl _)) dX10_held_67 trivial ?_
  unfold lowB at hO
  first | (rw [if_pos (by omega)] at hO; exact hO) | (rw [if_neg (by omega), if_pos (by omega)] at hO; exact hO) | (rw [if_neg (by omega), if_neg (by omega), if_pos (by omega)] at hO; exact hO) | (rw [if_neg (by omega), if_neg (by omega), if_neg (by omega), if_pos (by omega)] at hO; exact hO) | (rw [if_neg (by omega), if_neg (by omega), if_neg (by omega), if_neg (by omega), if_pos (by omega)] at hO; exact hO) | (rw [if_neg (by omega), if_neg (by omega), if_neg (by omega), if_neg (by omega), if_neg (by omega)] at hO; exact hO)

set_option maxRecDepth 20000 in
theorem x_item {d : Nat} {t i v : Int} {A : AHp} {Q : Option AV → AHp → Prop} (hd : 1 ≤ d) (hX : XLAY A) (hTP : TPS A) (hsz : ∀ t, 0 ≤ t → t ≤ 5 → 0 ≤ hv A (295 + 2 * t) 1 ∧ hv A (295 + 2 * t) 1 ≤ 60) (hso : ∀ t, 0 ≤ t → t ≤ 5 → -1 ≤ hv A (295 + 2 * t) 0 ∧ hv A (295 + 2 * t) 0 ≤ 4)
  (hN : ¬ (0 ≤ t ∧ t ≤ 5) → Q (some (vi (-1))) A) (h0 : 0 ≤ t → t ≤ 5 → hv A (295 + 2 * t) 0 = -1 → Q (some (vi (-11))) A) (hP : 0 ≤ t → t ≤ 5 → hv A (295 + 2 * t) 0 ≠ -1 → ¬ (0 ≤ i ∧ i < hv A (295 + 2 * t) 1) → Q (some (vi (-13))) A)
  (hO : 0 ≤ t → t ≤ 5 → hv A (295 + 2 * t) 0 ≠ -1 → 0 ≤ i → i < hv A (295 + 2 * t) 1 → Q (some (vi 1)) (hset A (295 + 2 * t + 1) i (lowB (hv A (295 + 2 * t) 0) v))) : CALL d mX12_item [vr 60, vi t, vi i, vl v] A Q := by
  refine CALL.of (by decide) (Nat.le_of_ble_eq_true rfl) ?_
  change AW d mX12_item 0 [some (vr 60), some (vi t), some (vi i), some (vl v), none, none] [] A Q
  refine aw_iload_n (pc' := 1) rfl dX12_item_0 rfl ?_
  refine aw_callS (d' := d - 1) (as := [_]) (pc' := 4) kX12_isTape tX12_isTape lX12_229 dX12_item_1 rfl rfl (Nat.le_of_ble_eq_true rfl) (by omega) ?_
  refine x_isTape (by omega) (fun e1_1 => ?_) (fun e0_1 => ?_)
  · have hz := hsz t (by omega) (by omega)
    have hy := hso t (by omega) (by omega)
    refine aw_if_ne (pt := 9) (pf := 7) dX12_item_4 (by decide) rfl (fun _ => ?_) (fun c_4 => absurd (by decide) c_4)
    refine aw_aload_n (pc' := 10) rfl dX12_item_9 rfl ?_
    refine aw_getp (pc' := 13) (k9 := 10) (p := 266) dX12_item_10 rfl fX12_56 rfl rfl rfl (XO (A := A) hX) (X_tapes (A := A) hX) ?_
    refine aw_iload_n (pc' := 14) rfl dX12_item_13 rfl ?_
    refine aw_aald (pc' := 15) (t0 := 7) (fun _ => rfl) (by decide) dX12_item_14 rfl (XA_tapes (A := A) hX) (by omega) (by omega) ?_
    rw [hTP t (by omega) (by omega)]
    refine aw_astore (pc' := 17) (lv' := [_, _, _, _, _, _]) dX12_item_15 rfl (by decide) rfl ?_
    refine aw_aload (pc' := 19) rfl dX12_item_17 rfl ?_
    refine aw_geti (pc' := 22) (k9 := 0) dX12_item_19 rfl fX12_232 rfl (by decide) rfl (XT_tape (A := A) hX t (by omega) (by omega)).1 ?_
    refine aw_if_ge (pt := 28) (pf := 25) dX12_item_22 (by decide) rfl (fun c_22 => ?_) (fun c_22 => ?_)
    · refine aw_iload_n (pc' := 29) rfl dX12_item_28 rfl ?_
      refine aw_if_lt (pt := 41) (pf := 32) dX12_item_29 (by decide) rfl (fun c_29 => ?_) (fun c_29 => ?_)
      · refine aw_bipush (pc' := 43) (by decide +kernel) dX12_item_41 rfl ?_
        refine AW.ret (some (vi _)) dX12_item_43 trivial ?_
        first | exact hN (by omega) | exact h0 (by omega) (by omega) (by omega) | exact hP (by omega) (by omega) (by omega) (by omega) | exact hO (by omega) (by omega) (by omega) (by omega) (by omega)
      · refine aw_iload_n (pc' := 33) rfl dX12_item_32 rfl ?_
        refine aw_aload (pc' := 35) rfl dX12_item_33 rfl ?_
        refine aw_geti (pc' := 38) (k9 := 1) dX12_item_35 rfl fX12_235 rfl (by decide) rfl (XT_tape (A := A) hX t (by omega) (by omega)).1 ?_
        refine aw_icmp_lt (pt := 44) (pf := 41) dX12_item_38 (by decide) rfl (fun c_38 => ?_) (fun c_38 => ?_)
        · refine aw_aload (pc' := 46) rfl dX12_item_44 rfl ?_
          refine aw_getp (pc' := 49) (k9 := 2) (p := ((295 + 2 * t) + 1)) dX12_item_46 rfl fX12_236 rfl rfl rfl (XT_tape (A := A) hX t (by omega) (by omega)).1 (XT_tape (A := A) hX t (by omega) (by omega)).2.1 ?_
          refine aw_iload_n (pc' := 50) rfl dX12_item_49 rfl ?_
          refine aw_aload (pc' := 52) rfl dX12_item_50 rfl ?_
          refine aw_lload_n (pc' := 53) rfl dX12_item_52 rfl ?_
          refine aw_callV (ci := 9) (d' := d - 1) (as := [_]) (pc' := 56) (by decide) rfl kX10_held iX10_held sX10_held lX12_250 (XT_tape (A := A) hX t (by omega) (by omega)).1 dX12_item_53 rfl rfl (Nat.le_of_ble_eq_true rfl) (by omega) ?_
          refine x_held (by omega) (XT_tape (A := A) hX t (by omega) (by omega)) (by omega) (by omega) ?_
          refine aw_last (pc' := 57) dX12_item_56 rfl (XT_tape (A := A) hX t (by omega) (by omega)).2.2 (by omega) (by omega) ?_
          refine aw_iconst (pc' := 58) (by decide) dX12_item_57 rfl ?_
          refine AW.ret (some (vi _)) dX12_item_58 trivial ?_
          first | exact hN (by omega) | exact h0 (by omega) (by omega) (by omega) | exact hP (by omega) (by omega) (by omega) (by omega) | exact hO (by omega) (by omega) (by omega) (by omega) (by omega)
        · refine aw_bipush (pc' := 43) (by decide +kernel) dX12_item_41 rfl ?_
          refine AW.ret (some (vi _)) dX12_item_43 trivial ?_
          first | exact hN (by omega) | exact h0 (by omega) (by omega) (by omega) | exact hP (by omega) (by omega) (by omega) (by omega) | exact hO (by omega) (by omega) (by omega) (by omega) (by omega)
    · refine aw_bipush (pc' := 27) (by decide +kernel) dX12_item_25 rfl ?_
      refine AW.ret (some (vi _)) dX12_item_27 trivial ?_
      first | exact hN (by omega) | exact h0 (by omega) (by omega) (by omega) | exact hP (by omega) (by omega) (by omega) (by omega) | exact hO (by omega) (by omega) (by omega) (by omega) (by omega)
  · refine aw_if_ne (pt := 9) (pf := 7) dX12_item_4 (by decide) rfl (fun c_4 => absurd c_4 (by decide)) (fun _ => ?_)
    refine aw_iconst (pc' := 8) (by decide) dX12_item_7 rfl ?_
    refine AW.ret (some (vi _)) dX12_item_8 trivial ?_
    first | exact hN (by omega) | exact h0 (by omega) (by omega) (by omega) | exact hP (by omega) (by omega) (by omega) (by omega) | exact hO (by omega) (by omega) (by omega) (by omega) (by omega)

set_option maxRecDepth 20000 in
theorem x_read {d : Nat} {t i : Int} {A : AHp} {Q : Option AV → AHp → Prop} (hd : 1 ≤ d) (hX : XLAY A) (hTP : TPS A) (hsz : ∀ t, 0 ≤ t → t ≤ 5 → 0 ≤ hv A (295 + 2 * t) 1 ∧ hv A (295 + 2 * t) 1 ≤ 60)
  (hN : ¬ (0 ≤ t ∧ t ≤ 5 ∧ 0 ≤ i ∧ i < hv A (295 + 2 * t) 1) → Q (some (vl (-9223372036854775808))) A) (hO : 0 ≤ t → t ≤ 5 → 0 ≤ i → i < hv A (295 + 2 * t) 1 → Q (some (vl (hv A (295 + 2 * t + 1) i))) A) : CALL d mX12_read [vr 60, vi t, vi i] A Q := by
  refine CALL.of (by decide) (Nat.le_of_ble_eq_true rfl) ?_
  change AW d mX12_read 0 [some (vr 60), some (vi t), some (vi i)] [] A Q
  refine aw_iload_n (pc' := 1) rfl dX12_read_0 rfl ?_
  refine aw_callS (d' := d - 1) (as := [_]) (pc' := 4) kX12_isTape tX12_isTape lX12_229 dX12_read_1 rfl rfl (Nat.le_of_ble_eq_true rfl) (by omega) ?_
  refine x_isTape (by omega) (fun e1_1 => ?_) (fun e0_1 => ?_)
  · have hz_t := hsz t (by omega) (by omega)
    refine aw_if_eq (pt := 24) (pf := 7) dX12_read_4 (by decide) rfl (fun c_4 => absurd c_4 (by decide)) (fun _ => ?_)
    refine aw_iload_n (pc' := 8) rfl dX12_read_7 rfl ?_
    refine aw_if_lt (pt := 24) (pf := 11) dX12_read_8 (by decide) rfl (fun c_8 => ?_) (fun c_8 => ?_)
    · refine aw_ldc2 (x := (-9223372036854775808)) (pc' := 27) qX12_116 (by decide) dX12_read_24 rfl ?_
      refine AW.ret (some (vl _)) dX12_read_27 trivial ?_
      first | exact hN (by omega) | exact hO (by omega) (by omega) (by omega) (by omega)
    · refine aw_iload_n (pc' := 12) rfl dX12_read_11 rfl ?_
      refine aw_aload_n (pc' := 13) rfl dX12_read_12 rfl ?_
      refine aw_getp (pc' := 16) (k9 := 10) (p := 266) dX12_read_13 rfl fX12_56 rfl rfl rfl (XO (A := A) hX) (X_tapes (A := A) hX) ?_
      refine aw_iload_n (pc' := 17) rfl dX12_read_16 rfl ?_
      refine aw_aald (pc' := 18) (t0 := 7) (fun _ => rfl) (by decide) dX12_read_17 rfl (XA_tapes (A := A) hX) (by omega) (by omega) ?_
      rw [hTP t (by omega) (by omega)]
      refine aw_geti (pc' := 21) (k9 := 1) dX12_read_18 rfl fX12_235 rfl (by decide) rfl (XT_tape (A := A) hX t (by omega) (by omega)).1 ?_
      refine aw_icmp_lt (pt := 28) (pf := 24) dX12_read_21 (by decide) rfl (fun c_21 => ?_) (fun c_21 => ?_)
      · refine aw_aload_n (pc' := 29) rfl dX12_read_28 rfl ?_
        refine aw_getp (pc' := 32) (k9 := 10) (p := 266) dX12_read_29 rfl fX12_56 rfl rfl rfl (XO (A := A) hX) (X_tapes (A := A) hX) ?_
        refine aw_iload_n (pc' := 33) rfl dX12_read_32 rfl ?_
        refine aw_aald (pc' := 34) (t0 := 7) (fun _ => rfl) (by decide) dX12_read_33 rfl (XA_tapes (A := A) hX) (by omega) (by omega) ?_
        rw [hTP t (by omega) (by omega)]
        refine aw_getp (pc' := 37) (k9 := 2) (p := ((295 + 2 * t) + 1)) dX12_read_34 rfl fX12_236 rfl rfl rfl (XT_tape (A := A) hX t (by omega) (by omega)).1 (XT_tape (A := A) hX t (by omega) (by omega)).2.1 ?_
        refine aw_iload_n (pc' := 38) rfl dX12_read_37 rfl ?_
        refine aw_lald (pc' := 39) dX12_read_38 rfl (XT_tape (A := A) hX t (by omega) (by omega)).2.2 (by omega) (by omega) ?_
        refine AW.ret (some (vl _)) dX12_read_39 trivial ?_
        first | exact hN (by omega) | exact hO (by omega) (by omega) (by omega) (by omega)
      · refine aw_ldc2 (x := (-9223372036854775808)) (pc' := 27) qX12_116 (by decide) dX12_read_24 rfl ?_
        refine AW.ret (some (vl _)) dX12_read_27 trivial ?_
        first | exact hN (by omega) | exact hO (by omega) (by omega) (by omega) (by omega)
  · refine aw_if_eq (pt := 24) (pf := 7) dX12_read_4 (by decide) rfl (fun _ => ?_) (fun c_4 => absurd (by decide) c_4)
    refine aw_ldc2 (x := (-9223372036854775808)) (pc' := 27) qX12_116 (by decide) dX12_read_24 rfl ?_
    refine AW.ret (some (vl _)) dX12_read_27 trivial ?_
    first | exact hN (by omega) | exact hO (by omega) (by omega) (by omega) (by omega)

set_option maxRecDepth 20000 in
theorem x_has {d : Nat} {a p n : Int} {A : AHp} {Q : Option AV → AHp → Prop} (hd : 0 ≤ d) (hT : TapeAt A a) (hz : 0 ≤ hv A a 1 ∧ hv A a 1 ≤ 60) (h1 : 0 ≤ p → 0 ≤ n → p ≤ hv A a 1 → n ≤ hv A a 1 - p → Q (some (vi 1)) A) (h0 : ¬ (0 ≤ p ∧ 0 ≤ n ∧ p ≤ hv A a 1 ∧ n ≤ hv A a 1 - p) → Q (some (vi 0)) A) : CALL d mX10_has [vr a, vi p, vi n] A Q := by
  refine CALL.of (by decide) (Nat.le_of_ble_eq_true rfl) ?_
  change AW d mX10_has 0 [some (vr a), some (vi p), some (vi n)] [] A Q
  refine aw_iload_n (pc' := 1) rfl dX10_has_0 rfl ?_
  refine aw_if_lt (pt := 30) (pf := 4) dX10_has_1 (by decide) rfl (fun c_1 => ?_) (fun c_1 => ?_)
  · refine aw_iconst (pc' := 31) (by decide) dX10_has_30 rfl ?_
    refine AW.ret (some (vi _)) dX10_has_31 (Or.inl rfl) ?_
    exact h0 (by omega)
  · refine aw_iload_n (pc' := 5) rfl dX10_has_4 rfl ?_
    refine aw_if_lt (pt := 30) (pf := 8) dX10_has_5 (by decide) rfl (fun c_5 => ?_) (fun c_5 => ?_)
    · refine aw_iconst (pc' := 31) (by decide) dX10_has_30 rfl ?_
      refine AW.ret (some (vi _)) dX10_has_31 (Or.inl rfl) ?_
      exact h0 (by omega)
    · refine aw_iload_n (pc' := 9) rfl dX10_has_8 rfl ?_
      refine aw_aload_n (pc' := 10) rfl dX10_has_9 rfl ?_
      refine aw_geti (pc' := 13) (k9 := 1) dX10_has_10 rfl fX10_19 rfl (by decide) rfl hT.1 ?_
      refine aw_icmp_gt (pt := 30) (pf := 16) dX10_has_13 (by decide) rfl (fun c_13 => ?_) (fun c_13 => ?_)
      · refine aw_iconst (pc' := 31) (by decide) dX10_has_30 rfl ?_
        refine AW.ret (some (vi _)) dX10_has_31 (Or.inl rfl) ?_
        exact h0 (by omega)
      · refine aw_iload_n (pc' := 17) rfl dX10_has_16 rfl ?_
        refine aw_aload_n (pc' := 18) rfl dX10_has_17 rfl ?_
        refine aw_geti (pc' := 21) (k9 := 1) dX10_has_18 rfl fX10_19 rfl (by decide) rfl hT.1 ?_
        refine aw_iload_n (pc' := 22) rfl dX10_has_21 rfl ?_
        refine aw_isub (pc' := 23) (by first | exact w32_id (by omega) (by omega) | rfl) dX10_has_22 rfl ?_
        refine aw_icmp_gt (pt := 30) (pf := 26) dX10_has_23 (by decide) rfl (fun c_23 => ?_) (fun c_23 => ?_)
        · refine aw_iconst (pc' := 31) (by decide) dX10_has_30 rfl ?_
          refine AW.ret (some (vi _)) dX10_has_31 (Or.inl rfl) ?_
          exact h0 (by omega)
        · refine aw_iconst (pc' := 27) (by decide) dX10_has_26 rfl ?_
          refine aw_goto (pc' := 31) dX10_has_27 (by decide) ?_
          refine AW.ret (some (vi _)) dX10_has_31 (Or.inr rfl) ?_
          exact h1 (by omega) (by omega) (by omega) (by omega)

set_option maxRecDepth 20000 in
theorem x_shift {d : Nat} {t i o j n : Int} {A : AHp} {Q : Option AV → AHp → Prop} (hd : 2 ≤ d) (hX : XLAY A) (hTP : TPS A) (hsz : ∀ t, 0 ≤ t → t ≤ 5 → 0 ≤ hv A (295 + 2 * t) 1 ∧ hv A (295 + 2 * t) 1 ≤ 60) (hso : ∀ t, 0 ≤ t → t ≤ 5 → -1 ≤ hv A (295 + 2 * t) 0)
  (hN : ¬ (0 ≤ t ∧ t ≤ 5 ∧ 0 ≤ o ∧ o ≤ 5) → Q (some (vi (-1))) A) (h0 : 0 ≤ t → t ≤ 5 → 0 ≤ o → o ≤ 5 → (hv A (295 + 2 * t) 0 = -1 ∨ hv A (295 + 2 * o) 0 = -1) → Q (some (vi (-11))) A)
  (hC : 0 ≤ t → t ≤ 5 → 0 ≤ o → o ≤ 5 → hv A (295 + 2 * t) 0 ≠ -1 → hv A (295 + 2 * o) 0 ≠ -1 → hv A (295 + 2 * t) 0 ≠ hv A (295 + 2 * o) 0 → Q (some (vi (-12))) A)
  (hP : 0 ≤ t → t ≤ 5 → 0 ≤ o → o ≤ 5 → hv A (295 + 2 * t) 0 ≠ -1 → hv A (295 + 2 * t) 0 = hv A (295 + 2 * o) 0 → ¬ (0 ≤ n ∧ 0 ≤ i ∧ 0 ≤ j ∧ n ≤ hv A (295 + 2 * t) 1 - i ∧ n ≤ hv A (295 + 2 * o) 1 - j) → Q (some (vi (-13))) A)
  (hO : 0 ≤ t → t ≤ 5 → 0 ≤ o → o ≤ 5 → hv A (295 + 2 * t) 0 ≠ -1 → hv A (295 + 2 * t) 0 = hv A (295 + 2 * o) 0 → 0 ≤ n → 0 ≤ i → 0 ≤ j → n ≤ hv A (295 + 2 * t) 1 - i → n ≤ hv A (295 + 2 * o) 1 - j → Q (some (vi n)) (hcpy A (295 + 2 * t + 1) i (295 + 2 * o + 1) j n)) : CALL d mX12_shift [vr 60, vi t, vi i, vi o, vi j, vi n] A Q := by
  refine CALL.of (by decide) (Nat.le_of_ble_eq_true rfl) ?_
  change AW d mX12_shift 0 [some (vr 60), some (vi t), some (vi i), some (vi o), some (vi j), some (vi n), none, none] [] A Q
  refine aw_iload_n (pc' := 1) rfl dX12_shift_0 rfl ?_
  refine aw_callS (d' := d - 1) (as := [_]) (pc' := 4) kX12_isTape tX12_isTape lX12_229 dX12_shift_1 rfl rfl (Nat.le_of_ble_eq_true rfl) (by omega) ?_
  refine x_isTape (by omega) (fun e1_1 => ?_) (fun e0_1 => ?_)
  · have hz_t := hsz t (by omega) (by omega)
    have hy_t := hso t (by omega) (by omega)
    refine aw_if_eq (pt := 14) (pf := 7) dX12_shift_4 (by decide) rfl (fun c_4 => absurd c_4 (by decide)) (fun _ => ?_)
    refine aw_iload_n (pc' := 8) rfl dX12_shift_7 rfl ?_
    refine aw_callS (d' := d - 1) (as := [_]) (pc' := 11) kX12_isTape tX12_isTape lX12_229 dX12_shift_8 rfl rfl (Nat.le_of_ble_eq_true rfl) (by omega) ?_
    refine x_isTape (by omega) (fun e1_8 => ?_) (fun e0_8 => ?_)
    · have hz_o := hsz o (by omega) (by omega)
      have hy_o := hso o (by omega) (by omega)
      refine aw_if_ne (pt := 16) (pf := 14) dX12_shift_11 (by decide) rfl (fun _ => ?_) (fun c_11 => absurd (by decide) c_11)
      refine aw_aload_n (pc' := 17) rfl dX12_shift_16 rfl ?_
      refine aw_getp (pc' := 20) (k9 := 10) (p := 266) dX12_shift_17 rfl fX12_56 rfl rfl rfl (XO (A := A) hX) (X_tapes (A := A) hX) ?_
      refine aw_iload_n (pc' := 21) rfl dX12_shift_20 rfl ?_
      refine aw_aald (pc' := 22) (t0 := 7) (fun _ => rfl) (by decide) dX12_shift_21 rfl (XA_tapes (A := A) hX) (by omega) (by omega) ?_
      rw [hTP t (by omega) (by omega)]
      refine aw_astore (pc' := 24) (lv' := [_, _, _, _, _, _, _, _]) dX12_shift_22 rfl (by decide) rfl ?_
      refine aw_aload_n (pc' := 25) rfl dX12_shift_24 rfl ?_
      refine aw_getp (pc' := 28) (k9 := 10) (p := 266) dX12_shift_25 rfl fX12_56 rfl rfl rfl (XO (A := A) hX) (X_tapes (A := A) hX) ?_
      refine aw_iload_n (pc' := 29) rfl dX12_shift_28 rfl ?_
      refine aw_aald (pc' := 30) (t0 := 7) (fun _ => rfl) (by decide) dX12_shift_29 rfl (XA_tapes (A := A) hX) (by omega) (by omega) ?_
      rw [hTP o (by omega) (by omega)]
      refine aw_astore (pc' := 32) (lv' := [_, _, _, _, _, _, _, _]) dX12_shift_30 rfl (by decide) rfl ?_
      refine aw_aload (pc' := 34) rfl dX12_shift_32 rfl ?_
      refine aw_geti (pc' := 37) (k9 := 0) dX12_shift_34 rfl fX12_232 rfl (by decide) rfl (XT_tape (A := A) hX t (by omega) (by omega)).1 ?_
      refine aw_if_lt (pt := 48) (pf := 40) dX12_shift_37 (by decide) rfl (fun c_37 => ?_) (fun c_37 => ?_)
      · refine aw_bipush (pc' := 50) (by decide +kernel) dX12_shift_48 rfl ?_
        refine AW.ret (some (vi _)) dX12_shift_50 trivial ?_
        first | exact hN (by omega) | exact h0 (by omega) (by omega) (by omega) (by omega) (by omega) | exact hC (by omega) (by omega) (by omega) (by omega) (by omega) (by omega) (by omega) | exact hP (by omega) (by omega) (by omega) (by omega) (by omega) (by omega) (by omega) | exact hO (by omega) (by omega) (by omega) (by omega) (by omega) (by omega) (by omega) (by omega) (by omega) (by omega) (by omega)
      · refine aw_aload (pc' := 42) rfl dX12_shift_40 rfl ?_
        refine aw_geti (pc' := 45) (k9 := 0) dX12_shift_42 rfl fX12_232 rfl (by decide) rfl (XT_tape (A := A) hX o (by omega) (by omega)).1 ?_
        refine aw_if_ge (pt := 51) (pf := 48) dX12_shift_45 (by decide) rfl (fun c_45 => ?_) (fun c_45 => ?_)
        · refine aw_aload (pc' := 53) rfl dX12_shift_51 rfl ?_
          refine aw_geti (pc' := 56) (k9 := 0) dX12_shift_53 rfl fX12_232 rfl (by decide) rfl (XT_tape (A := A) hX t (by omega) (by omega)).1 ?_
          refine aw_aload (pc' := 58) rfl dX12_shift_56 rfl ?_
          refine aw_geti (pc' := 61) (k9 := 0) dX12_shift_58 rfl fX12_232 rfl (by decide) rfl (XT_tape (A := A) hX o (by omega) (by omega)).1 ?_
          refine aw_icmp_eq (pt := 67) (pf := 64) dX12_shift_61 (by decide) rfl (fun c_61 => ?_) (fun c_61 => ?_)
          · refine aw_aload (pc' := 69) rfl dX12_shift_67 rfl ?_
            refine aw_iload_n (pc' := 70) rfl dX12_shift_69 rfl ?_
            refine aw_iload (pc' := 72) rfl dX12_shift_70 rfl ?_
            refine aw_callV (ci := 9) (d' := d - 1) (as := [_, _]) (pc' := 75) (by decide) rfl kX10_has iX10_has sX10_has lX12_254 (XT_tape (A := A) hX t (by omega) (by omega)).1 dX12_shift_72 rfl rfl (Nat.le_of_ble_eq_true rfl) (by omega) ?_
            refine x_has (by omega) (XT_tape (A := A) hX t (by omega) (by omega)) hz_t (fun f1_72 f2_72 f3_72 f4_72 => ?_) (fun f0_72 => ?_)
            · refine aw_if_eq (pt := 90) (pf := 78) dX12_shift_75 (by decide) rfl (fun c_75 => absurd c_75 (by decide)) (fun _ => ?_)
              refine aw_aload (pc' := 80) rfl dX12_shift_78 rfl ?_
              refine aw_iload (pc' := 82) rfl dX12_shift_80 rfl ?_
              refine aw_iload (pc' := 84) rfl dX12_shift_82 rfl ?_
              refine aw_callV (ci := 9) (d' := d - 1) (as := [_, _]) (pc' := 87) (by decide) rfl kX10_has iX10_has sX10_has lX12_254 (XT_tape (A := A) hX o (by omega) (by omega)).1 dX12_shift_84 rfl rfl (Nat.le_of_ble_eq_true rfl) (by omega) ?_
              refine x_has (by omega) (XT_tape (A := A) hX o (by omega) (by omega)) hz_o (fun f1_84 f2_84 f3_84 f4_84 => ?_) (fun f0_84 => ?_)
              · refine aw_if_ne (pt := 93) (pf := 90) dX12_shift_87 (by decide) rfl (fun _ => ?_) (fun c_87 => absurd (by decide) c_87)
                refine aw_aload (pc' := 95) rfl dX12_shift_93 rfl ?_
                refine aw_getp (pc' := 98) (k9 := 2) (p := ((295 + 2 * t) + 1)) dX12_shift_95 rfl fX12_236 rfl rfl rfl (XT_tape (A := A) hX t (by omega) (by omega)).1 (XT_tape (A := A) hX t (by omega) (by omega)).2.1 ?_
                refine aw_iload_n (pc' := 99) rfl dX12_shift_98 rfl ?_
                refine aw_aload (pc' := 101) rfl dX12_shift_99 rfl ?_
                refine aw_getp (pc' := 104) (k9 := 2) (p := ((295 + 2 * o) + 1)) dX12_shift_101 rfl fX12_236 rfl rfl rfl (XT_tape (A := A) hX o (by omega) (by omega)).1 (XT_tape (A := A) hX o (by omega) (by omega)).2.1 ?_
                refine aw_iload (pc' := 106) rfl dX12_shift_104 rfl ?_
                refine aw_iload (pc' := 108) rfl dX12_shift_106 rfl ?_
                refine aw_copy (pc' := 111) (t0 := 1) (fun _ => rfl) (Or.inr ⟨rfl, rfl⟩) lX12_257 (by omega) (Nat.le_of_ble_eq_true rfl) dX12_shift_108 rfl (XT_tape (A := A) hX t (by omega) (by omega)).2.2 (XT_tape (A := A) hX o (by omega) (by omega)).2.2 (by omega) (by omega) (by omega) (by omega) (by omega) ?_
                refine aw_iload (pc' := 113) rfl dX12_shift_111 rfl ?_
                refine AW.ret (some (vi _)) dX12_shift_113 trivial ?_
                first | exact hN (by omega) | exact h0 (by omega) (by omega) (by omega) (by omega) (by omega) | exact hC (by omega) (by omega) (by omega) (by omega) (by omega) (by omega) (by omega) | exact hP (by omega) (by omega) (by omega) (by omega) (by omega) (by omega) (by omega) | exact hO (by omega) (by omega) (by omega) (by omega) (by omega) (by omega) (by omega) (by omega) (by omega) (by omega) (by omega)
              · refine aw_if_ne (pt := 93) (pf := 90) dX12_shift_87 (by decide) rfl (fun c_87 => absurd c_87 (by decide)) (fun _ => ?_)
                refine aw_bipush (pc' := 92) (by decide +kernel) dX12_shift_90 rfl ?_
                refine AW.ret (some (vi _)) dX12_shift_92 trivial ?_
                first | exact hN (by omega) | exact h0 (by omega) (by omega) (by omega) (by omega) (by omega) | exact hC (by omega) (by omega) (by omega) (by omega) (by omega) (by omega) (by omega) | exact hP (by omega) (by omega) (by omega) (by omega) (by omega) (by omega) (by omega) | exact hO (by omega) (by omega) (by omega) (by omega) (by omega) (by omega) (by omega) (by omega) (by omega) (by omega) (by omega)
            · refine aw_if_eq (pt := 90) (pf := 78) dX12_shift_75 (by decide) rfl (fun _ => ?_) (fun c_75 => absurd (by decide) c_75)
              refine aw_bipush (pc' := 92) (by decide +kernel) dX12_shift_90 rfl ?_
              refine AW.ret (some (vi _)) dX12_shift_92 trivial ?_
              first | exact hN (by omega) | exact h0 (by omega) (by omega) (by omega) (by omega) (by omega) | exact hC (by omega) (by omega) (by omega) (by omega) (by omega) (by omega) (by omega) | exact hP (by omega) (by omega) (by omega) (by omega) (by omega) (by omega) (by omega) | exact hO (by omega) (by omega) (by omega) (by omega) (by omega) (by omega) (by omega) (by omega) (by omega) (by omega) (by omega)
          · refine aw_bipush (pc' := 66) (by decide +kernel) dX12_shift_64 rfl ?_
            refine AW.ret (some (vi _)) dX12_shift_66 trivial ?_
            first | exact hN (by omega) | exact h0 (by omega) (by omega) (by omega) (by omega) (by omega) | exact hC (by omega) (by omega) (by omega) (by omega) (by omega) (by omega) (by omega) | exact hP (by omega) (by omega) (by omega) (by omega) (by omega) (by omega) (by omega) | exact hO (by omega) (by omega) (by omega) (by omega) (by omega) (by omega) (by omega) (by omega) (by omega) (by omega) (by omega)
        · refine aw_bipush (pc' := 50) (by decide +kernel) dX12_shift_48 rfl ?_
          refine AW.ret (some (vi _)) dX12_shift_50 trivial ?_
          first | exact hN (by omega) | exact h0 (by omega) (by omega) (by omega) (by omega) (by omega) | exact hC (by omega) (by omega) (by omega) (by omega) (by omega) (by omega) (by omega) | exact hP (by omega) (by omega) (by omega) (by omega) (by omega) (by omega) (by omega) | exact hO (by omega) (by omega) (by omega) (by omega) (by omega) (by omega) (by omega) (by omega) (by omega) (by omega) (by omega)
    · refine aw_if_ne (pt := 16) (pf := 14) dX12_shift_11 (by decide) rfl (fun c_11 => absurd c_11 (by decide)) (fun _ => ?_)
      refine aw_iconst (pc' := 15) (by decide) dX12_shift_14 rfl ?_
      refine AW.ret (some (vi _)) dX12_shift_15 trivial ?_
      first | exact hN (by omega) | exact h0 (by omega) (by omega) (by omega) (by omega) (by omega) | exact hC (by omega) (by omega) (by omega) (by omega) (by omega) (by omega) (by omega) | exact hP (by omega) (by omega) (by omega) (by omega) (by omega) (by omega) (by omega) | exact hO (by omega) (by omega) (by omega) (by omega) (by omega) (by omega) (by omega) (by omega) (by omega) (by omega) (by omega)
  · refine aw_if_eq (pt := 14) (pf := 7) dX12_shift_4 (by decide) rfl (fun _ => ?_) (fun c_4 => absurd (by decide) c_4)
    refine aw_iconst (pc' := 15) (by decide) dX12_shift_14 rfl ?_
    refine AW.ret (some (vi _)) dX12_shift_15 trivial ?_
    first | exact hN (by omega) | exact h0 (by omega) (by omega) (by omega) (by omega) (by omega) | exact hC (by omega) (by omega) (by omega) (by omega) (by omega) (by omega) (by omega) | exact hP (by omega) (by omega) (by omega) (by omega) (by omega) (by omega) (by omega) | exact hO (by omega) (by omega) (by omega) (by omega) (by omega) (by omega) (by omega) (by omega) (by omega) (by omega) (by omega)
