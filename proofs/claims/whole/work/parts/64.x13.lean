/-! ===== the class: ends, jobs ===== -/
set_option maxRecDepth 20000 in
theorem x_carryOut {d : Nat} {w a : Int} {A : AHp} {v : Sg} {Q : Option AV → AHp → Prop} (hd : 3 ≤ d) (hX : XLAY A) (h0 : w = 0 → 0 ≤ a → a < v 64 1 → CALL (d - 1) mX4_runLine [vr 64, vr 235, vi a] (cl A v) (fun r B => ∃ u, r = none ∧ B = cl A u ∧ Q none (cl A u)))
  (h1 : w = 1 → 0 ≤ a → a ≤ 4 → Q none (cl A (sset v 236 a 0))) (h2 : w = 2 → 0 ≤ a → a ≤ 2 → Q none (cl A (sset v 237 a (-5)))) (h3 : w = 3 → Q none (cl A (sset v 235 2 (-5))))
  (hx : ¬ (w = 0 ∧ 0 ≤ a ∧ a < v 64 1 ∨ w = 1 ∧ 0 ≤ a ∧ a ≤ 4 ∨ w = 2 ∧ 0 ≤ a ∧ a ≤ 2 ∨ w = 3) → Q none (cl A v)) : CALL d mX12_carryOut [vr 60, vi w, vi a] (cl A v) Q := by
  refine CALL.of (by decide) (Nat.le_of_ble_eq_true rfl) ?_
  change AW d mX12_carryOut 0 [some (vr 60), some (vi w), some (vi a)] [] (cl A v) Q
  refine aw_iload_n (pc' := 1) rfl dX12_carryOut_0 rfl ?_
  refine aw_if_ne (pt := 27) (pf := 4) dX12_carryOut_1 (by decide) rfl (fun c_1 => ?_) (fun c_1 => ?_)
  · refine aw_iload_n (pc' := 28) rfl dX12_carryOut_27 rfl ?_
    refine aw_iconst (pc' := 29) (by decide) dX12_carryOut_28 rfl ?_
    refine aw_icmp_ne (pt := 52) (pf := 32) dX12_carryOut_29 (by decide) rfl (fun c_29 => ?_) (fun c_29 => ?_)
    · refine aw_iload_n (pc' := 53) rfl dX12_carryOut_52 rfl ?_
      refine aw_iconst (pc' := 54) (by decide) dX12_carryOut_53 rfl ?_
      refine aw_icmp_ne (pt := 78) (pf := 57) dX12_carryOut_54 (by decide) rfl (fun c_54 => ?_) (fun c_54 => ?_)
      · refine aw_iload_n (pc' := 79) rfl dX12_carryOut_78 rfl ?_
        refine aw_iconst (pc' := 80) (by decide) dX12_carryOut_79 rfl ?_
        refine aw_icmp_ne (pt := 92) (pf := 83) dX12_carryOut_80 (by decide) rfl (fun c_80 => ?_) (fun c_80 => ?_)
        · refine AW.ret none dX12_carryOut_92 trivial ?_
          first | exact hQ2 | exact h1 (by omega) (by omega) (by omega) | exact h2 (by omega) (by omega) (by omega) | exact h3 (by omega) | exact hx (by omega)
        · replace c_80 := Classical.not_not.mp c_80
          refine aw_aload_n (pc' := 84) rfl dX12_carryOut_83 rfl ?_
          refine aw_getp (pc' := 87) (k9 := 5) (p := 235) dX12_carryOut_84 rfl fX12_35 rfl rfl rfl (XO (A := (cl A v)) hX) (X_trial (A := (cl A v)) hX) ?_
          refine aw_bipush (pc' := 89) (by decide +kernel) dX12_carryOut_87 rfl ?_
          refine aw_puti (pc' := 92) (k9 := 2) dX12_carryOut_89 rfl fX12_110 rfl rfl rfl (XK_trial (A := (cl A v)) hX).1 ?_
          refine AW.ret none dX12_carryOut_92 trivial ?_
          first | exact hQ2 | exact h1 (by omega) (by omega) (by omega) | exact h2 (by omega) (by omega) (by omega) | exact h3 (by omega) | exact hx (by omega)
      · replace c_54 := Classical.not_not.mp c_54
        refine aw_iload_n (pc' := 58) rfl dX12_carryOut_57 rfl ?_
        refine aw_callS (d' := d - 1) (as := [_]) (pc' := 61) kX12_isFunction tX12_isFunction lX12_101 dX12_carryOut_58 rfl rfl (Nat.le_of_ble_eq_true rfl) (by omega) ?_
        refine x_isFunction (by omega)  (fun e1_58 => ?_) (fun e0_58 => ?_)
        · refine aw_if_eq (pt := 78) (pf := 64) dX12_carryOut_61 (by decide) rfl (fun c_61 => absurd c_61 (by decide)) (fun _ => ?_)
          refine aw_aload_n (pc' := 65) rfl dX12_carryOut_64 rfl ?_
          refine aw_getp (pc' := 68) (k9 := 5) (p := 235) dX12_carryOut_65 rfl fX12_35 rfl rfl rfl (XO (A := (cl A v)) hX) (X_trial (A := (cl A v)) hX) ?_
          refine aw_getp (pc' := 71) (k9 := 1) (p := 237) dX12_carryOut_68 rfl fX12_107 rfl rfl rfl (XK_trial (A := (cl A v)) hX).1 (XK_trial (A := (cl A v)) hX).2.2.1.1 ?_
          refine aw_iload_n (pc' := 72) rfl dX12_carryOut_71 rfl ?_
          refine aw_bipush (pc' := 74) (by decide +kernel) dX12_carryOut_72 rfl ?_
          refine aw_iast (pc' := 75) dX12_carryOut_74 rfl (XK_trial (A := (cl A v)) hX).2.2.1.2 (by omega) (by omega) ?_
          refine aw_goto (pc' := 92) dX12_carryOut_75 (by decide) ?_
          refine AW.ret none dX12_carryOut_92 trivial ?_
          first | exact hQ2 | exact h1 (by omega) (by omega) (by omega) | exact h2 (by omega) (by omega) (by omega) | exact h3 (by omega) | exact hx (by omega)
        · refine aw_if_eq (pt := 78) (pf := 64) dX12_carryOut_61 (by decide) rfl (fun _ => ?_) (fun c_61 => absurd (by decide) c_61)
          refine aw_iload_n (pc' := 79) rfl dX12_carryOut_78 rfl ?_
          refine aw_iconst (pc' := 80) (by decide) dX12_carryOut_79 rfl ?_
          refine aw_icmp_ne (pt := 92) (pf := 83) dX12_carryOut_80 (by decide) rfl (fun c_80 => ?_) (fun c_80 => ?_)
          · refine AW.ret none dX12_carryOut_92 trivial ?_
            first | exact hQ2 | exact h1 (by omega) (by omega) (by omega) | exact h2 (by omega) (by omega) (by omega) | exact h3 (by omega) | exact hx (by omega)
          · replace c_80 := Classical.not_not.mp c_80
            refine aw_aload_n (pc' := 84) rfl dX12_carryOut_83 rfl ?_
            refine aw_getp (pc' := 87) (k9 := 5) (p := 235) dX12_carryOut_84 rfl fX12_35 rfl rfl rfl (XO (A := (cl A v)) hX) (X_trial (A := (cl A v)) hX) ?_
            refine aw_bipush (pc' := 89) (by decide +kernel) dX12_carryOut_87 rfl ?_
            refine aw_puti (pc' := 92) (k9 := 2) dX12_carryOut_89 rfl fX12_110 rfl rfl rfl (XK_trial (A := (cl A v)) hX).1 ?_
            refine AW.ret none dX12_carryOut_92 trivial ?_
            first | exact hQ2 | exact h1 (by omega) (by omega) (by omega) | exact h2 (by omega) (by omega) (by omega) | exact h3 (by omega) | exact hx (by omega)
    · replace c_29 := Classical.not_not.mp c_29
      refine aw_iload_n (pc' := 33) rfl dX12_carryOut_32 rfl ?_
      refine aw_callS (d' := d - 1) (as := [_]) (pc' := 36) kX12_isName tX12_isName lX12_113 dX12_carryOut_33 rfl rfl (Nat.le_of_ble_eq_true rfl) (by omega) ?_
      refine x_isName (by omega)  (fun e1_33 => ?_) (fun e0_33 => ?_)
      · refine aw_if_eq (pt := 52) (pf := 39) dX12_carryOut_36 (by decide) rfl (fun c_36 => absurd c_36 (by decide)) (fun _ => ?_)
        refine aw_aload_n (pc' := 40) rfl dX12_carryOut_39 rfl ?_
        refine aw_getp (pc' := 43) (k9 := 5) (p := 235) dX12_carryOut_40 rfl fX12_35 rfl rfl rfl (XO (A := (cl A v)) hX) (X_trial (A := (cl A v)) hX) ?_
        refine aw_getp (pc' := 46) (k9 := 0) (p := 236) dX12_carryOut_43 rfl fX12_118 rfl rfl rfl (XK_trial (A := (cl A v)) hX).1 (XK_trial (A := (cl A v)) hX).2.1.1 ?_
        refine aw_iload_n (pc' := 47) rfl dX12_carryOut_46 rfl ?_
        refine aw_iconst (pc' := 48) (by decide) dX12_carryOut_47 rfl ?_
        refine aw_iast (pc' := 49) dX12_carryOut_48 rfl (XK_trial (A := (cl A v)) hX).2.1.2 (by omega) (by omega) ?_
        refine aw_goto (pc' := 92) dX12_carryOut_49 (by decide) ?_
        refine AW.ret none dX12_carryOut_92 trivial ?_
        first | exact hQ2 | exact h1 (by omega) (by omega) (by omega) | exact h2 (by omega) (by omega) (by omega) | exact h3 (by omega) | exact hx (by omega)
      · refine aw_if_eq (pt := 52) (pf := 39) dX12_carryOut_36 (by decide) rfl (fun _ => ?_) (fun c_36 => absurd (by decide) c_36)
        refine aw_iload_n (pc' := 53) rfl dX12_carryOut_52 rfl ?_
        refine aw_iconst (pc' := 54) (by decide) dX12_carryOut_53 rfl ?_
        refine aw_icmp_ne (pt := 78) (pf := 57) dX12_carryOut_54 (by decide) rfl (fun c_54 => ?_) (fun c_54 => ?_)
        · refine aw_iload_n (pc' := 79) rfl dX12_carryOut_78 rfl ?_
          refine aw_iconst (pc' := 80) (by decide) dX12_carryOut_79 rfl ?_
          refine aw_icmp_ne (pt := 92) (pf := 83) dX12_carryOut_80 (by decide) rfl (fun c_80 => ?_) (fun c_80 => ?_)
          · refine AW.ret none dX12_carryOut_92 trivial ?_
            first | exact hQ2 | exact h1 (by omega) (by omega) (by omega) | exact h2 (by omega) (by omega) (by omega) | exact h3 (by omega) | exact hx (by omega)
          · replace c_80 := Classical.not_not.mp c_80
            refine aw_aload_n (pc' := 84) rfl dX12_carryOut_83 rfl ?_
            refine aw_getp (pc' := 87) (k9 := 5) (p := 235) dX12_carryOut_84 rfl fX12_35 rfl rfl rfl (XO (A := (cl A v)) hX) (X_trial (A := (cl A v)) hX) ?_
            refine aw_bipush (pc' := 89) (by decide +kernel) dX12_carryOut_87 rfl ?_
            refine aw_puti (pc' := 92) (k9 := 2) dX12_carryOut_89 rfl fX12_110 rfl rfl rfl (XK_trial (A := (cl A v)) hX).1 ?_
            refine AW.ret none dX12_carryOut_92 trivial ?_
            first | exact hQ2 | exact h1 (by omega) (by omega) (by omega) | exact h2 (by omega) (by omega) (by omega) | exact h3 (by omega) | exact hx (by omega)
        · replace c_54 := Classical.not_not.mp c_54
          refine aw_iload_n (pc' := 58) rfl dX12_carryOut_57 rfl ?_
          refine aw_callS (d' := d - 1) (as := [_]) (pc' := 61) kX12_isFunction tX12_isFunction lX12_101 dX12_carryOut_58 rfl rfl (Nat.le_of_ble_eq_true rfl) (by omega) ?_
          refine x_isFunction (by omega)  (fun e1_58 => ?_) (fun e0_58 => ?_)
          · refine aw_if_eq (pt := 78) (pf := 64) dX12_carryOut_61 (by decide) rfl (fun c_61 => absurd c_61 (by decide)) (fun _ => ?_)
            refine aw_aload_n (pc' := 65) rfl dX12_carryOut_64 rfl ?_
            refine aw_getp (pc' := 68) (k9 := 5) (p := 235) dX12_carryOut_65 rfl fX12_35 rfl rfl rfl (XO (A := (cl A v)) hX) (X_trial (A := (cl A v)) hX) ?_
            refine aw_getp (pc' := 71) (k9 := 1) (p := 237) dX12_carryOut_68 rfl fX12_107 rfl rfl rfl (XK_trial (A := (cl A v)) hX).1 (XK_trial (A := (cl A v)) hX).2.2.1.1 ?_
            refine aw_iload_n (pc' := 72) rfl dX12_carryOut_71 rfl ?_
            refine aw_bipush (pc' := 74) (by decide +kernel) dX12_carryOut_72 rfl ?_
            refine aw_iast (pc' := 75) dX12_carryOut_74 rfl (XK_trial (A := (cl A v)) hX).2.2.1.2 (by omega) (by omega) ?_
            refine aw_goto (pc' := 92) dX12_carryOut_75 (by decide) ?_
            refine AW.ret none dX12_carryOut_92 trivial ?_
            first | exact hQ2 | exact h1 (by omega) (by omega) (by omega) | exact h2 (by omega) (by omega) (by omega) | exact h3 (by omega) | exact hx (by omega)
          · refine aw_if_eq (pt := 78) (pf := 64) dX12_carryOut_61 (by decide) rfl (fun _ => ?_) (fun c_61 => absurd (by decide) c_61)
            refine aw_iload_n (pc' := 79) rfl dX12_carryOut_78 rfl ?_
            refine aw_iconst (pc' := 80) (by decide) dX12_carryOut_79 rfl ?_
            refine aw_icmp_ne (pt := 92) (pf := 83) dX12_carryOut_80 (by decide) rfl (fun c_80 => ?_) (fun c_80 => ?_)
            · refine AW.ret none dX12_carryOut_92 trivial ?_
              first | exact hQ2 | exact h1 (by omega) (by omega) (by omega) | exact h2 (by omega) (by omega) (by omega) | exact h3 (by omega) | exact hx (by omega)
            · replace c_80 := Classical.not_not.mp c_80
              refine aw_aload_n (pc' := 84) rfl dX12_carryOut_83 rfl ?_
              refine aw_getp (pc' := 87) (k9 := 5) (p := 235) dX12_carryOut_84 rfl fX12_35 rfl rfl rfl (XO (A := (cl A v)) hX) (X_trial (A := (cl A v)) hX) ?_
              refine aw_bipush (pc' := 89) (by decide +kernel) dX12_carryOut_87 rfl ?_
              refine aw_puti (pc' := 92) (k9 := 2) dX12_carryOut_89 rfl fX12_110 rfl rfl rfl (XK_trial (A := (cl A v)) hX).1 ?_
              refine AW.ret none dX12_carryOut_92 trivial ?_
              first | exact hQ2 | exact h1 (by omega) (by omega) (by omega) | exact h2 (by omega) (by omega) (by omega) | exact h3 (by omega) | exact hx (by omega)
  · replace c_1 := Classical.not_not.mp c_1
    refine aw_aload_n (pc' := 5) rfl dX12_carryOut_4 rfl ?_
    refine aw_iload_n (pc' := 6) rfl dX12_carryOut_5 rfl ?_
    refine aw_callV (ci := 10) (d' := d - 1) (as := [_]) (pc' := 9) (by decide) rfl kX12_isLine iX12_isLine sX12_isLine lX12_83 (XO (A := (cl A v)) hX) dX12_carryOut_6 rfl rfl (Nat.le_of_ble_eq_true rfl) (by omega) ?_
    refine x_isLine (by omega) hX (fun e1_6 e2_6 => ?_) (fun e0_6 => ?_)
    · rw [hv_cl] at e2_6
      refine aw_if_eq (pt := 27) (pf := 12) dX12_carryOut_9 (by decide) rfl (fun c_9 => absurd c_9 (by decide)) (fun _ => ?_)
      refine aw_aload_n (pc' := 13) rfl dX12_carryOut_12 rfl ?_
      refine aw_getp (pc' := 16) (k9 := 1) (p := 64) dX12_carryOut_13 rfl fX12_21 rfl rfl rfl (XO (A := (cl A v)) hX) (X_machine (A := (cl A v)) hX) ?_
      refine aw_aload_n (pc' := 17) rfl dX12_carryOut_16 rfl ?_
      refine aw_getp (pc' := 20) (k9 := 5) (p := 235) dX12_carryOut_17 rfl fX12_35 rfl rfl rfl (XO (A := (cl A v)) hX) (X_trial (A := (cl A v)) hX) ?_
      refine aw_iload_n (pc' := 21) rfl dX12_carryOut_20 rfl ?_
      refine aw_callV (ci := 3) (d' := d - 1) (as := [_, _]) (pc' := 24) (by decide) rfl kX4_runLine iX4_runLine sX4_runLine lX12_121 (XO_machine (A := (cl A v)) hX) dX12_carryOut_21 rfl rfl (Nat.le_of_ble_eq_true rfl) (by omega) ?_
      refine CALL.mono (h0 (by omega) (by omega) (by omega)) ?_
      rintro r B ⟨u, rfl, rfl, hQ2⟩
      refine aw_goto (pc' := 92) dX12_carryOut_24 (by decide) ?_
      refine AW.ret none dX12_carryOut_92 trivial ?_
      first | exact hQ2 | exact h1 (by omega) (by omega) (by omega) | exact h2 (by omega) (by omega) (by omega) | exact h3 (by omega) | exact hx (by omega)
    · rw [hv_cl] at e0_6
      refine aw_if_eq (pt := 27) (pf := 12) dX12_carryOut_9 (by decide) rfl (fun _ => ?_) (fun c_9 => absurd (by decide) c_9)
      refine aw_iload_n (pc' := 28) rfl dX12_carryOut_27 rfl ?_
      refine aw_iconst (pc' := 29) (by decide) dX12_carryOut_28 rfl ?_
      refine aw_icmp_ne (pt := 52) (pf := 32) dX12_carryOut_29 (by decide) rfl (fun c_29 => ?_) (fun c_29 => ?_)
      · refine aw_iload_n (pc' := 53) rfl dX12_carryOut_52 rfl ?_
        refine aw_iconst (pc' := 54) (by decide) dX12_carryOut_53 rfl ?_
        refine aw_icmp_ne (pt := 78) (pf := 57) dX12_carryOut_54 (by decide) rfl (fun c_54 => ?_) (fun c_54 => ?_)
        · refine aw_iload_n (pc' := 79) rfl dX12_carryOut_78 rfl ?_
          refine aw_iconst (pc' := 80) (by decide) dX12_carryOut_79 rfl ?_
          refine aw_icmp_ne (pt := 92) (pf := 83) dX12_carryOut_80 (by decide) rfl (fun c_80 => ?_) (fun c_80 => ?_)
          · refine AW.ret none dX12_carryOut_92 trivial ?_
            first | exact hQ2 | exact h1 (by omega) (by omega) (by omega) | exact h2 (by omega) (by omega) (by omega) | exact h3 (by omega) | exact hx (by omega)
          · replace c_80 := Classical.not_not.mp c_80
            refine aw_aload_n (pc' := 84) rfl dX12_carryOut_83 rfl ?_
            refine aw_getp (pc' := 87) (k9 := 5) (p := 235) dX12_carryOut_84 rfl fX12_35 rfl rfl rfl (XO (A := (cl A v)) hX) (X_trial (A := (cl A v)) hX) ?_
            refine aw_bipush (pc' := 89) (by decide +kernel) dX12_carryOut_87 rfl ?_
            refine aw_puti (pc' := 92) (k9 := 2) dX12_carryOut_89 rfl fX12_110 rfl rfl rfl (XK_trial (A := (cl A v)) hX).1 ?_
            refine AW.ret none dX12_carryOut_92 trivial ?_
            first | exact hQ2 | exact h1 (by omega) (by omega) (by omega) | exact h2 (by omega) (by omega) (by omega) | exact h3 (by omega) | exact hx (by omega)
        · replace c_54 := Classical.not_not.mp c_54
          refine aw_iload_n (pc' := 58) rfl dX12_carryOut_57 rfl ?_
          refine aw_callS (d' := d - 1) (as := [_]) (pc' := 61) kX12_isFunction tX12_isFunction lX12_101 dX12_carryOut_58 rfl rfl (Nat.le_of_ble_eq_true rfl) (by omega) ?_
          refine x_isFunction (by omega)  (fun e1_58 => ?_) (fun e0_58 => ?_)
          · refine aw_if_eq (pt := 78) (pf := 64) dX12_carryOut_61 (by decide) rfl (fun c_61 => absurd c_61 (by decide)) (fun _ => ?_)
            refine aw_aload_n (pc' := 65) rfl dX12_carryOut_64 rfl ?_
            refine aw_getp (pc' := 68) (k9 := 5) (p := 235) dX12_carryOut_65 rfl fX12_35 rfl rfl rfl (XO (A := (cl A v)) hX) (X_trial (A := (cl A v)) hX) ?_
            refine aw_getp (pc' := 71) (k9 := 1) (p := 237) dX12_carryOut_68 rfl fX12_107 rfl rfl rfl (XK_trial (A := (cl A v)) hX).1 (XK_trial (A := (cl A v)) hX).2.2.1.1 ?_
            refine aw_iload_n (pc' := 72) rfl dX12_carryOut_71 rfl ?_
            refine aw_bipush (pc' := 74) (by decide +kernel) dX12_carryOut_72 rfl ?_
            refine aw_iast (pc' := 75) dX12_carryOut_74 rfl (XK_trial (A := (cl A v)) hX).2.2.1.2 (by omega) (by omega) ?_
            refine aw_goto (pc' := 92) dX12_carryOut_75 (by decide) ?_
            refine AW.ret none dX12_carryOut_92 trivial ?_
            first | exact hQ2 | exact h1 (by omega) (by omega) (by omega) | exact h2 (by omega) (by omega) (by omega) | exact h3 (by omega) | exact hx (by omega)
          · refine aw_if_eq (pt := 78) (pf := 64) dX12_carryOut_61 (by decide) rfl (fun _ => ?_) (fun c_61 => absurd (by decide) c_61)
            refine aw_iload_n (pc' := 79) rfl dX12_carryOut_78 rfl ?_
            refine aw_iconst (pc' := 80) (by decide) dX12_carryOut_79 rfl ?_
            refine aw_icmp_ne (pt := 92) (pf := 83) dX12_carryOut_80 (by decide) rfl (fun c_80 => ?_) (fun c_80 => ?_)
            · refine AW.ret none dX12_carryOut_92 trivial ?_
              first | exact hQ2 | exact h1 (by omega) (by omega) (by omega) | exact h2 (by omega) (by omega) (by omega) | exact h3 (by omega) | exact hx (by omega)
            · replace c_80 := Classical.not_not.mp c_80
              refine aw_aload_n (pc' := 84) rfl dX12_carryOut_83 rfl ?_
              refine aw_getp (pc' := 87) (k9 := 5) (p := 235) dX12_carryOut_84 rfl fX12_35 rfl rfl rfl (XO (A := (cl A v)) hX) (X_trial (A := (cl A v)) hX) ?_
              refine aw_bipush (pc' := 89) (by decide +kernel) dX12_carryOut_87 rfl ?_
              refine aw_puti (pc' := 92) (k9 := 2) dX12_carryOut_89 rfl fX12_110 rfl rfl rfl (XK_trial (A := (cl A v)) hX).1 ?_
              refine AW.ret none dX12_carryOut_92 trivial ?_
              first | exact hQ2 | exact h1 (by omega) (by omega) (by omega) | exact h2 (by omega) (by omega) (by omega) | exact h3 (by omega) | exact hx (by omega)
      · replace c_29 := Classical.not_not.mp c_29
        refine aw_iload_n (pc' := 33) rfl dX12_carryOut_32 rfl ?_
        refine aw_callS (d' := d - 1) (as := [_]) (pc' := 36) kX12_isName tX12_isName lX12_113 dX12_carryOut_33 rfl rfl (Nat.le_of_ble_eq_true rfl) (by omega) ?_
        refine x_isName (by omega)  (fun e1_33 => ?_) (fun e0_33 => ?_)
        · refine aw_if_eq (pt := 52) (pf := 39) dX12_carryOut_36 (by decide) rfl (fun c_36 => absurd c_36 (by decide)) (fun _ => ?_)
          refine aw_aload_n (pc' := 40) rfl dX12_carryOut_39 rfl ?_
          refine aw_getp (pc' := 43) (k9 := 5) (p := 235) dX12_carryOut_40 rfl fX12_35 rfl rfl rfl (XO (A := (cl A v)) hX) (X_trial (A := (cl A v)) hX) ?_
          refine aw_getp (pc' := 46) (k9 := 0) (p := 236) dX12_carryOut_43 rfl fX12_118 rfl rfl rfl (XK_trial (A := (cl A v)) hX).1 (XK_trial (A := (cl A v)) hX).2.1.1 ?_
          refine aw_iload_n (pc' := 47) rfl dX12_carryOut_46 rfl ?_
          refine aw_iconst (pc' := 48) (by decide) dX12_carryOut_47 rfl ?_
          refine aw_iast (pc' := 49) dX12_carryOut_48 rfl (XK_trial (A := (cl A v)) hX).2.1.2 (by omega) (by omega) ?_
          refine aw_goto (pc' := 92) dX12_carryOut_49 (by decide) ?_
          refine AW.ret none dX12_carryOut_92 trivial ?_
          first | exact hQ2 | exact h1 (by omega) (by omega) (by omega) | exact h2 (by omega) (by omega) (by omega) | exact h3 (by omega) | exact hx (by omega)
        · refine aw_if_eq (pt := 52) (pf := 39) dX12_carryOut_36 (by decide) rfl (fun _ => ?_) (fun c_36 => absurd (by decide) c_36)
          refine aw_iload_n (pc' := 53) rfl dX12_carryOut_52 rfl ?_
          refine aw_iconst (pc' := 54) (by decide) dX12_carryOut_53 rfl ?_
          refine aw_icmp_ne (pt := 78) (pf := 57) dX12_carryOut_54 (by decide) rfl (fun c_54 => ?_) (fun c_54 => ?_)
          · refine aw_iload_n (pc' := 79) rfl dX12_carryOut_78 rfl ?_
            refine aw_iconst (pc' := 80) (by decide) dX12_carryOut_79 rfl ?_
            refine aw_icmp_ne (pt := 92) (pf := 83) dX12_carryOut_80 (by decide) rfl (fun c_80 => ?_) (fun c_80 => ?_)
            · refine AW.ret none dX12_carryOut_92 trivial ?_
              first | exact hQ2 | exact h1 (by omega) (by omega) (by omega) | exact h2 (by omega) (by omega) (by omega) | exact h3 (by omega) | exact hx (by omega)
            · replace c_80 := Classical.not_not.mp c_80
              refine aw_aload_n (pc' := 84) rfl dX12_carryOut_83 rfl ?_
              refine aw_getp (pc' := 87) (k9 := 5) (p := 235) dX12_carryOut_84 rfl fX12_35 rfl rfl rfl (XO (A := (cl A v)) hX) (X_trial (A := (cl A v)) hX) ?_
              refine aw_bipush (pc' := 89) (by decide +kernel) dX12_carryOut_87 rfl ?_
              refine aw_puti (pc' := 92) (k9 := 2) dX12_carryOut_89 rfl fX12_110 rfl rfl rfl (XK_trial (A := (cl A v)) hX).1 ?_
              refine AW.ret none dX12_carryOut_92 trivial ?_
              first | exact hQ2 | exact h1 (by omega) (by omega) (by omega) | exact h2 (by omega) (by omega) (by omega) | exact h3 (by omega) | exact hx (by omega)
          · replace c_54 := Classical.not_not.mp c_54
            refine aw_iload_n (pc' := 58) rfl dX12_carryOut_57 rfl ?_
            refine aw_callS (d' := d - 1) (as := [_]) (pc' := 61) kX12_isFunction tX12_isFunction lX12_101 dX12_carryOut_58 rfl rfl (Nat.le_of_ble_eq_true rfl) (by omega) ?_
            refine x_isFunction (by omega)  (fun e1_58 => ?_) (fun e0_58 => ?_)
            · refine aw_if_eq (pt := 78) (pf := 64) dX12_carryOut_61 (by decide) rfl (fun c_61 => absurd c_61 (by decide)) (fun _ => ?_)
              refine aw_aload_n (pc' := 65) rfl dX12_carryOut_64 rfl ?_
              refine aw_getp (pc' := 68) (k9 := 5) (p := 235) dX12_carryOut_65 rfl fX12_35 rfl rfl rfl (XO (A := (cl A v)) hX) (X_trial (A := (cl A v)) hX) ?_
              refine aw_getp (pc' := 71) (k9 := 1) (p := 237) dX12_carryOut_68 rfl fX12_107 rfl rfl rfl (XK_trial (A := (cl A v)) hX).1 (XK_trial (A := (cl A v)) hX).2.2.1.1 ?_
              refine aw_iload_n (pc' := 72) rfl dX12_carryOut_71 rfl ?_
              refine aw_bipush (pc' := 74) (by decide +kernel) dX12_carryOut_72 rfl ?_
              refine aw_iast (pc' := 75) dX12_carryOut_74 rfl (XK_trial (A := (cl A v)) hX).2.2.1.2 (by omega) (by omega) ?_
              refine aw_goto (pc' := 92) dX12_carryOut_75 (by decide) ?_
              refine AW.ret none dX12_carryOut_92 trivial ?_
              first | exact hQ2 | exact h1 (by omega) (by omega) (by omega) | exact h2 (by omega) (by omega) (by omega) | exact h3 (by omega) | exact hx (by omega)
            · refine aw_if_eq (pt := 78) (pf := 64) dX12_carryOut_61 (by decide) rfl (fun _ => ?_) (fun c_61 => absurd (by decide) c_61)
              refine aw_iload_n (pc' := 79) rfl dX12_carryOut_78 rfl ?_
              refine aw_iconst (pc' := 80) (by decide) dX12_carryOut_79 rfl ?_
              refine aw_icmp_ne (pt := 92) (pf := 83) dX12_carryOut_80 (by decide) rfl (fun c_80 => ?_) (fun c_80 => ?_)
              · refine AW.ret none dX12_carryOut_92 trivial ?_
                first | exact hQ2 | exact h1 (by omega) (by omega) (by omega) | exact h2 (by omega) (by omega) (by omega) | exact h3 (by omega) | exact hx (by omega)
              · replace c_80 := Classical.not_not.mp c_80
                refine aw_aload_n (pc' := 84) rfl dX12_carryOut_83 rfl ?_
                refine aw_getp (pc' := 87) (k9 := 5) (p := 235) dX12_carryOut_84 rfl fX12_35 rfl rfl rfl (XO (A := (cl A v)) hX) (X_trial (A := (cl A v)) hX) ?_
                refine aw_bipush (pc' := 89) (by decide +kernel) dX12_carryOut_87 rfl ?_
                refine aw_puti (pc' := 92) (k9 := 2) dX12_carryOut_89 rfl fX12_110 rfl rfl rfl (XK_trial (A := (cl A v)) hX).1 ?_
                refine AW.ret none dX12_carryOut_92 trivial ?_
                first | exact hQ2 | exact h1 (by omega) (by omega) (by omega) | exact h2 (by omega) (by omega) (by omega) | exact h3 (by omega) | exact hx (by omega)

set_option maxRecDepth 20000 in
theorem lx_ends {d : Nat} {A : AHp} {name : Int} {c : Nat} {Inv : Nat → Sg → Prop} {Q : Option AV → AHp → Prop} : ∀ (m : Nat) (i : Nat) (v : Sg) (k : Int), c - i = m → 5 ≤ d → XLAY A → i ≤ c → c ≤ 10 → k = (i : Int) → (0 ≤ name ∧ name ≤ 4) → Inv i v → (∀ (i : Nat) (v : Sg), i ≤ c → Inv i v → v 215 2 = c ∧ (i < c → CALL (d - 1) mX12_carryOut [vr 60, vi (v 216 i), vi (v 217 i)] (cl A v) (fun r B => ∃ u, r = none ∧ B = cl A u ∧ Inv (i + 1) u))) → (∀ v, Inv c v → Q (some (vl (v 236 name))) (cl A v)) → AW d mX12_ends 24 [some (vr 60), some (vi name), some (vi k)] [] (cl A v) Q := by
  intro m
  induction m using Nat.strongRecOn with
  | _ m ih =>
    intro i v k hm hd hX hi hc ek hnm hI hst hQ
    obtain ⟨e2, hst2⟩ := hst i v hi hI
    rw [← ek] at hst2
    refine aw_iload_n (pc' := 25) rfl dX12_ends_24 rfl ?_
    refine aw_aload_n (pc' := 26) rfl dX12_ends_25 rfl ?_
    refine aw_getp (pc' := 29) (k9 := 2) (p := 207) dX12_ends_26 rfl fX12_28 rfl rfl rfl (XO (A := (cl A v)) hX) (X_now (A := (cl A v)) hX) ?_
    refine aw_getp (pc' := 32) (k9 := 7) (p := 215) dX12_ends_29 rfl fX12_215 rfl rfl rfl (XK_now (A := (cl A v)) hX).1 (XK_now (A := (cl A v)) hX).2.2.2.2.2.1.1 ?_
    refine aw_geti (pc' := 35) (k9 := 2) dX12_ends_32 rfl fX12_194 rfl (by decide) rfl (XK_now (A := (cl A v)) hX).2.2.2.2.2.1.2.1 ?_
    try simp (disch := omega) only [hv_cl, cl_set, sset_e, sset_1, sset_2]
    refine aw_icmp_ge (pt := 72) (pf := 38) dX12_ends_35 (by decide) rfl (fun c_35 => ?_) (fun c_35 => ?_)
    · refine aw_aload_n (pc' := 73) rfl dX12_ends_72 rfl ?_
      refine aw_getp (pc' := 76) (k9 := 5) (p := 235) dX12_ends_73 rfl fX12_35 rfl rfl rfl (XO (A := (cl A v)) hX) (X_trial (A := (cl A v)) hX) ?_
      refine aw_getp (pc' := 79) (k9 := 0) (p := 236) dX12_ends_76 rfl fX12_118 rfl rfl rfl (XK_trial (A := (cl A v)) hX).1 (XK_trial (A := (cl A v)) hX).2.1.1 ?_
      refine aw_iload_n (pc' := 80) rfl dX12_ends_79 rfl ?_
      refine aw_iald (pc' := 81) dX12_ends_80 rfl (XK_trial (A := (cl A v)) hX).2.1.2 (by omega) (by omega) ?_
      try simp (disch := omega) only [hv_cl, cl_set, sset_e, sset_1, sset_2]
      refine aw_i2l (pc' := 82) dX12_ends_81 rfl ?_
      refine AW.ret (some (vl _)) dX12_ends_82 trivial ?_
      rw [show i = c by omega] at hI
      exact hQ v hI
    · refine aw_aload_n (pc' := 39) rfl dX12_ends_38 rfl ?_
      refine aw_aload_n (pc' := 40) rfl dX12_ends_39 rfl ?_
      refine aw_getp (pc' := 43) (k9 := 2) (p := 207) dX12_ends_40 rfl fX12_28 rfl rfl rfl (XO (A := (cl A v)) hX) (X_now (A := (cl A v)) hX) ?_
      refine aw_getp (pc' := 46) (k9 := 7) (p := 215) dX12_ends_43 rfl fX12_215 rfl rfl rfl (XK_now (A := (cl A v)) hX).1 (XK_now (A := (cl A v)) hX).2.2.2.2.2.1.1 ?_
      refine aw_getp (pc' := 49) (k9 := 0) (p := 216) dX12_ends_46 rfl fX12_195 rfl rfl rfl (XK_now (A := (cl A v)) hX).2.2.2.2.2.1.2.1 (XK_now (A := (cl A v)) hX).2.2.2.2.2.1.2.2.1 ?_
      refine aw_iload_n (pc' := 50) rfl dX12_ends_49 rfl ?_
      refine aw_iald (pc' := 51) dX12_ends_50 rfl (XK_now (A := (cl A v)) hX).2.2.2.2.2.1.2.2.2.2.1 (by omega) (by omega) ?_
      try simp (disch := omega) only [hv_cl, cl_set, sset_e, sset_1, sset_2]
      refine aw_aload_n (pc' := 52) rfl dX12_ends_51 rfl ?_
      refine aw_getp (pc' := 55) (k9 := 2) (p := 207) dX12_ends_52 rfl fX12_28 rfl rfl rfl (XO (A := (cl A v)) hX) (X_now (A := (cl A v)) hX) ?_
      refine aw_getp (pc' := 58) (k9 := 7) (p := 215) dX12_ends_55 rfl fX12_215 rfl rfl rfl (XK_now (A := (cl A v)) hX).1 (XK_now (A := (cl A v)) hX).2.2.2.2.2.1.1 ?_
      refine aw_getp (pc' := 61) (k9 := 1) (p := 217) dX12_ends_58 rfl fX12_198 rfl rfl rfl (XK_now (A := (cl A v)) hX).2.2.2.2.2.1.2.1 (XK_now (A := (cl A v)) hX).2.2.2.2.2.1.2.2.2.1 ?_
      refine aw_iload_n (pc' := 62) rfl dX12_ends_61 rfl ?_
      refine aw_iald (pc' := 63) dX12_ends_62 rfl (XK_now (A := (cl A v)) hX).2.2.2.2.2.1.2.2.2.2.2 (by omega) (by omega) ?_
      try simp (disch := omega) only [hv_cl, cl_set, sset_e, sset_1, sset_2]
      refine aw_callV (ci := 10) (d' := d - 1) (as := [_, _]) (pc' := 66) (by decide) rfl kX12_carryOut iX12_carryOut sX12_carryOut lX12_222 (XO (A := (cl A v)) hX) dX12_ends_63 rfl rfl (Nat.le_of_ble_eq_true rfl) (by omega) ?_
      try simp (disch := omega) only [hv_cl, cl_set, sset_e, sset_1, sset_2]
      refine CALL.mono (hst2 (by omega)) ?_
      rintro r B ⟨u, rfl, rfl, hI2⟩
      refine aw_iinc (pc' := 69) (lv' := [_, _, _]) dX12_ends_66 rfl rfl (by decide) (by first | exact w32_id (by omega) (by omega) | rfl) rfl ?_
      refine aw_goto (pc' := 24) dX12_ends_69 (by decide) ?_
      exact ih _ (by omega) (i + 1) u (k + 1) rfl hd hX (by omega) hc (by omega) hnm hI2 hst hQ

set_option maxRecDepth 20000 in
theorem x_ends {d : Nat} {name : Int} {c : Nat} {Inv : Nat → Sg → Prop} {A : AHp} {v : Sg} {Q : Option AV → AHp → Prop} (hd : 5 ≤ d) (hX : XLAY A) (hz : KSZ (cl A v) 207) (hc : c ≤ 10) (hN : ¬ (0 ≤ name ∧ name ≤ 4) → Q (some (vl (-9223372036854775808))) (cl A v))
  (hI : Inv 0 (kcv A v 235)) (hst : (∀ (i : Nat) (v : Sg), i ≤ c → Inv i v → v 215 2 = c ∧ (i < c → CALL (d - 1) mX12_carryOut [vr 60, vi (v 216 i), vi (v 217 i)] (cl A v) (fun r B => ∃ u, r = none ∧ B = cl A u ∧ Inv (i + 1) u)))) (hQ : 0 ≤ name → name ≤ 4 → ∀ v, Inv c v → Q (some (vl (v 236 name))) (cl A v)) : CALL d mX12_ends [vr 60, vi name] (cl A v) Q := by
  refine CALL.of (by decide) (Nat.le_of_ble_eq_true rfl) ?_
  change AW d mX12_ends 0 [some (vr 60), some (vi name), none] [] (cl A v) Q
  refine aw_iload_n (pc' := 1) rfl dX12_ends_0 rfl ?_
  refine aw_callS (d' := d - 1) (as := [_]) (pc' := 4) kX12_isName tX12_isName lX12_113 dX12_ends_1 rfl rfl (Nat.le_of_ble_eq_true rfl) (by omega) ?_
  refine x_isName (by omega)  (fun e1_1 => ?_) (fun e0_1 => ?_)
  · refine aw_if_ne (pt := 11) (pf := 7) dX12_ends_4 (by decide) rfl (fun _ => ?_) (fun c_4 => absurd (by decide) c_4)
    refine aw_aload_n (pc' := 12) rfl dX12_ends_11 rfl ?_
    refine aw_getp (pc' := 15) (k9 := 5) (p := 235) dX12_ends_12 rfl fX12_35 rfl rfl rfl (XO (A := (cl A v)) hX) (X_trial (A := (cl A v)) hX) ?_
    refine aw_aload_n (pc' := 16) rfl dX12_ends_15 rfl ?_
    refine aw_getp (pc' := 19) (k9 := 2) (p := 207) dX12_ends_16 rfl fX12_28 rfl rfl rfl (XO (A := (cl A v)) hX) (X_now (A := (cl A v)) hX) ?_
    refine aw_callV (ci := 1) (d' := d - 1) (as := [_]) (pc' := 22) (by decide) rfl kX2_copyFrom iX2_copyFrom sX2_copyFrom lX12_169 (XK_trial (A := (cl A v)) hX).1 dX12_ends_19 rfl rfl (Nat.le_of_ble_eq_true rfl) (by omega) ?_
    refine x_kcopy (by omega) (XK_trial (A := cl A v) hX) (XK_now (A := cl A v) hX) hz (by omega) ?_
    rw [kcv_cl]
    refine aw_iconst (pc' := 23) (by decide) dX12_ends_22 rfl ?_
    refine aw_istore_n (pc' := 24) (lv' := [_, _, _]) dX12_ends_23 rfl (by decide) rfl ?_
    exact lx_ends (Inv := Inv) _ 0 _ 0 rfl hd hX (by omega) hc rfl (by omega) hI hst (hQ (by omega) (by omega))
  · refine aw_if_ne (pt := 11) (pf := 7) dX12_ends_4 (by decide) rfl (fun c_4 => absurd c_4 (by decide)) (fun _ => ?_)
    refine aw_ldc2 (x := (-9223372036854775808)) (pc' := 10) qX12_116 (by decide) dX12_ends_7 rfl ?_
    refine AW.ret (some (vl _)) dX12_ends_10 trivial ?_
    exact hN (by omega)

set_option maxRecDepth 20000 in
theorem lx_job {d : Nat} {A : AHp} {v : Sg} {l : Int} {Q : Option AV → AHp → Prop} : ∀ (m : Nat) (k : Int), (4 - k).toNat = m → 2 ≤ d → XLAY A → 0 ≤ k → k ≤ 4 → (0 ≤ v 64 1 ∧ v 64 1 ≤ 8) → (∀ j, 0 ≤ j → j < v 64 1 → isO A (v 65 j) 3) → (0 ≤ l ∧ l < v 64 1) → (∀ j, 0 ≤ j → j < 4 → v 263 j = 267 + 7 * j) → (∀ j, 0 ≤ j → j < k → v 264 j ≠ -5) → ((∀ j, 0 ≤ j → j ≤ 3 → v 264 j ≠ -5) → Q (some (vi (-4))) (cl A v)) → (∀ k, 0 ≤ k → k ≤ 3 → (∀ j, 0 ≤ j → j < k → v 264 j ≠ -5) → v 264 k = -5 → Q (some (vi k)) (cl A (sset (sset (sset (sset (sset (sset (sset v 264 k l) 265 k 60) (267 + 7 * k) 0 (hp A (v 65 l) 0)) (267 + 7 * k) 1 0) (267 + 7 * k) 2 0) (267 + 7 * k) 3 0) (267 + 7 * k) 4 0))) → AW d mX12_job 12 [some (vr 60), some (vi l), some (vi k)] [] (cl A v) Q := by
  intro m
  induction m using Nat.strongRecOn with
  | _ m ih =>
    intro k hm hd hX hk0 hkn hln hls hl hj hall hF hO
    refine aw_iload_n (pc' := 13) rfl dX12_job_12 rfl ?_
    refine aw_iconst (pc' := 14) (by decide) dX12_job_13 rfl ?_
    refine aw_icmp_ge (pt := 70) (pf := 17) dX12_job_14 (by decide) rfl (fun c_14 => ?_) (fun c_14 => ?_)
    · refine aw_bipush (pc' := 72) (by decide +kernel) dX12_job_70 rfl ?_
      refine AW.ret (some (vi _)) dX12_job_72 trivial ?_
      exact hF (fun j g1 g2 => hall j g1 (by omega))
    · refine aw_aload_n (pc' := 18) rfl dX12_job_17 rfl ?_
      refine aw_getp (pc' := 21) (k9 := 8) (p := 264) dX12_job_18 rfl fX12_47 rfl rfl rfl (XO (A := (cl A v)) hX) (X_jobLines (A := (cl A v)) hX) ?_
      refine aw_iload_n (pc' := 22) rfl dX12_job_21 rfl ?_
      refine aw_iald (pc' := 23) dX12_job_22 rfl (XA_jobLines (A := (cl A v)) hX) (by omega) (by omega) ?_
      try simp (disch := omega) only [hv_cl, cl_set, sset_e, sset_1, sset_2]
      refine aw_bipush (pc' := 25) (by decide +kernel) dX12_job_23 rfl ?_
      refine aw_icmp_ne (pt := 64) (pf := 28) dX12_job_25 (by decide) rfl (fun c_25 => ?_) (fun c_25 => ?_)
      · refine aw_iinc (pc' := 67) (lv' := [_, _, _]) dX12_job_64 rfl rfl (by decide) (by first | exact w32_id (by omega) (by omega) | rfl) rfl ?_
        refine aw_goto (pc' := 12) dX12_job_67 (by decide) ?_
        exact ih _ (by omega) (k + 1) rfl hd hX (by omega) (by omega) hln hls hl hj (fun j g1 g2 => by by_cases e : j = k; subst e; omega; exact hall j g1 (by omega)) hF hO
      · replace c_25 := Classical.not_not.mp c_25
        refine aw_aload_n (pc' := 29) rfl dX12_job_28 rfl ?_
        refine aw_getp (pc' := 32) (k9 := 8) (p := 264) dX12_job_29 rfl fX12_47 rfl rfl rfl (XO (A := (cl A v)) hX) (X_jobLines (A := (cl A v)) hX) ?_
        refine aw_iload_n (pc' := 33) rfl dX12_job_32 rfl ?_
        refine aw_iload_n (pc' := 34) rfl dX12_job_33 rfl ?_
        refine aw_iast (pc' := 35) dX12_job_34 rfl (XA_jobLines (A := (cl A v)) hX) (by omega) (by omega) ?_
        refine aw_aload_n (pc' := 36) rfl dX12_job_35 rfl ?_
        refine aw_getp (pc' := 39) (k9 := 9) (p := 265) dX12_job_36 rfl fX12_51 rfl rfl rfl (XO (A := (cl A v)) hX) (X_jobFuel (A := (cl A v)) hX) ?_
        refine aw_iload_n (pc' := 40) rfl dX12_job_39 rfl ?_
        refine aw_bipush (pc' := 42) (by decide +kernel) dX12_job_40 rfl ?_
        refine aw_iast (pc' := 43) dX12_job_42 rfl (XA_jobFuel (A := (cl A v)) hX) (by omega) (by omega) ?_
        refine aw_aload_n (pc' := 44) rfl dX12_job_43 rfl ?_
        refine aw_getp (pc' := 47) (k9 := 7) (p := 263) dX12_job_44 rfl fX12_43 rfl rfl rfl (XO (A := (cl A v)) hX) (X_jobs (A := (cl A v)) hX) ?_
        refine aw_iload_n (pc' := 48) rfl dX12_job_47 rfl ?_
        refine aw_aald (pc' := 49) (t0 := 4) (fun _ => rfl) (by decide) dX12_job_48 rfl (XA_jobs (A := (cl A v)) hX) (by omega) (by omega) ?_
        try simp (disch := omega) only [hv_cl, cl_set, sset_e, sset_1, sset_2]
        rw [hj k (by omega) (by omega)]
        have hFJ := XF_job hX k (by omega) (by omega)
        try simp (disch := omega) only [hv_cl, cl_set, sset_e, sset_1, sset_2]
        refine aw_aload_n (pc' := 50) rfl dX12_job_49 rfl ?_
        refine aw_getp (pc' := 53) (k9 := 1) (p := 64) dX12_job_50 rfl fX12_21 rfl rfl rfl (XO (A := (cl A v)) hX) (X_machine (A := (cl A v)) hX) ?_
        refine aw_iload_n (pc' := 54) rfl dX12_job_53 rfl ?_
        refine aw_callV (ci := 3) (d' := d - 1) (as := [_]) (pc' := 57) (by decide) rfl kX4_firstOf iX4_firstOf sX4_firstOf lX12_148 (XO_machine (A := (cl A v)) hX) dX12_job_54 rfl rfl (Nat.le_of_ble_eq_true rfl) (by omega) ?_
        try simp (disch := omega) only [hv_cl, cl_set, sset_e, sset_1, sset_2]
        refine x_firstOf (by omega) hX (by simp (disch := omega) only [sset_1]; exact hln) (by simp (disch := omega) only [sset_1]; exact hls) ?_
        simp (disch := omega) only [sset_1]
        rw [if_pos hl]
        refine aw_iconst (pc' := 58) (by decide) dX12_job_57 rfl ?_
        refine aw_iconst (pc' := 59) (by decide) dX12_job_58 rfl ?_
        refine aw_callV (ci := 0) (d' := d - 1) (as := [_, _, _]) (pc' := 62) (by decide) rfl kX1_open iX1_open sX1_open lX12_152 hFJ.1 dX12_job_59 rfl rfl (Nat.le_of_ble_eq_true rfl) (by omega) ?_
        refine x_open (by omega) hFJ ?_
        refine aw_iload_n (pc' := 63) rfl dX12_job_62 rfl ?_
        refine AW.ret (some (vi _)) dX12_job_63 trivial ?_
        exact hO k (by omega) (by omega) hall (by omega)

set_option maxRecDepth 20000 in
theorem x_job {d : Nat} {l : Int} {A : AHp} {v : Sg} {Q : Option AV → AHp → Prop} (hd : 2 ≤ d) (hX : XLAY A) (hln : 0 ≤ v 64 1 ∧ v 64 1 ≤ 8) (hls : ∀ j, 0 ≤ j → j < v 64 1 → isO A (v 65 j) 3) (hj : ∀ j, 0 ≤ j → j < 4 → v 263 j = 267 + 7 * j) (hN : ¬ (0 ≤ l ∧ l < v 64 1) → Q (some (vi (-1))) (cl A v))
  (hF : 0 ≤ l → l < v 64 1 → (∀ j, 0 ≤ j → j ≤ 3 → v 264 j ≠ -5) → Q (some (vi (-4))) (cl A v))
  (hO : 0 ≤ l → l < v 64 1 → ∀ k, 0 ≤ k → k ≤ 3 → (∀ j, 0 ≤ j → j < k → v 264 j ≠ -5) → v 264 k = -5 → Q (some (vi k)) (cl A (sset (sset (sset (sset (sset (sset (sset v 264 k l) 265 k 60) (267 + 7 * k) 0 (hp A (v 65 l) 0)) (267 + 7 * k) 1 0) (267 + 7 * k) 2 0) (267 + 7 * k) 3 0) (267 + 7 * k) 4 0))) : CALL d mX12_job [vr 60, vi l] (cl A v) Q := by
  refine CALL.of (by decide) (Nat.le_of_ble_eq_true rfl) ?_
  change AW d mX12_job 0 [some (vr 60), some (vi l), none] [] (cl A v) Q
  refine aw_aload_n (pc' := 1) rfl dX12_job_0 rfl ?_
  refine aw_iload_n (pc' := 2) rfl dX12_job_1 rfl ?_
  refine aw_callV (ci := 10) (d' := d - 1) (as := [_]) (pc' := 5) (by decide) rfl kX12_isLine iX12_isLine sX12_isLine lX12_83 (XO (A := (cl A v)) hX) dX12_job_2 rfl rfl (Nat.le_of_ble_eq_true rfl) (by omega) ?_
  refine x_isLine (by omega) hX (fun e1_2 e2_2 => ?_) (fun e0_2 => ?_)
  · rw [hv_cl] at e2_2
    refine aw_if_ne (pt := 10) (pf := 8) dX12_job_5 (by decide) rfl (fun _ => ?_) (fun c_5 => absurd (by decide) c_5)
    refine aw_iconst (pc' := 11) (by decide) dX12_job_10 rfl ?_
    refine aw_istore_n (pc' := 12) (lv' := [_, _, _]) dX12_job_11 rfl (by decide) rfl ?_
    exact lx_job _ 0 rfl hd hX (by omega) (by omega) hln hls (by omega) hj (fun j g1 g2 => by omega) (hF (by omega) (by omega)) (hO (by omega) (by omega))
  · rw [hv_cl] at e0_2
    refine aw_if_ne (pt := 10) (pf := 8) dX12_job_5 (by decide) rfl (fun c_5 => absurd c_5 (by decide)) (fun _ => ?_)
    refine aw_iconst (pc' := 9) (by decide) dX12_job_8 rfl ?_
    refine AW.ret (some (vi _)) dX12_job_9 trivial ?_
    exact hN (by omega)

set_option maxRecDepth 20000 in
theorem x_turn {d : Nat} {j : Int} {A : AHp} {v : Sg} {Q : Option AV → AHp → Prop} (hd : 1 ≤ d) (hX : XLAY A) (hj : ∀ j, 0 ≤ j → j < 4 → v 263 j = 267 + 7 * j) (hN : ¬ (0 ≤ j ∧ j ≤ 3 ∧ v 264 j ≠ -5) → Q (some (vl (-9223372036854775808))) (cl A v))
  (hO : 0 ≤ j → j ≤ 3 → v 264 j ≠ -5 → CALL (d - 1) mX4_goOn [vr 64, vr 207, vr (267 + 7 * j), vi 0] (cl A (sset v 64 3 (v 265 j))) (fun r B => ∃ x u, r = some (vl x) ∧ B = cl A u ∧ (x = (-9223372036854775808) → Q (some (vl x)) (cl A (sset (sset u 265 j (u 64 3)) 264 j (-5)))) ∧ (x ≠ (-9223372036854775808) → Q (some (vl x)) (cl A (sset u 265 j (u 64 3)))))) : CALL d mX12_turn [vr 60, vi j] (cl A v) Q := by
  refine CALL.of (by decide) (Nat.le_of_ble_eq_true rfl) ?_
  change AW d mX12_turn 0 [some (vr 60), some (vi j), none, none] [] (cl A v) Q
  refine aw_aload_n (pc' := 1) rfl dX12_turn_0 rfl ?_
  refine aw_iload_n (pc' := 2) rfl dX12_turn_1 rfl ?_
  refine aw_callV (ci := 10) (d' := d - 1) (as := [_]) (pc' := 5) (by decide) rfl kX12_isJob iX12_isJob sX12_isJob lX12_156 (XO (A := (cl A v)) hX) dX12_turn_2 rfl rfl (Nat.le_of_ble_eq_true rfl) (by omega) ?_
  refine x_isJob (by omega) hX (fun e1_2 e2_2 e3_2 => ?_) (fun e0_2 => ?_)
  · rw [hv_cl] at e3_2
    refine aw_if_ne (pt := 12) (pf := 8) dX12_turn_5 (by decide) rfl (fun _ => ?_) (fun c_5 => absurd (by decide) c_5)
    refine aw_aload_n (pc' := 13) rfl dX12_turn_12 rfl ?_
    refine aw_getp (pc' := 16) (k9 := 1) (p := 64) dX12_turn_13 rfl fX12_21 rfl rfl rfl (XO (A := (cl A v)) hX) (X_machine (A := (cl A v)) hX) ?_
    refine aw_aload_n (pc' := 17) rfl dX12_turn_16 rfl ?_
    refine aw_getp (pc' := 20) (k9 := 9) (p := 265) dX12_turn_17 rfl fX12_51 rfl rfl rfl (XO (A := (cl A v)) hX) (X_jobFuel (A := (cl A v)) hX) ?_
    refine aw_iload_n (pc' := 21) rfl dX12_turn_20 rfl ?_
    refine aw_iald (pc' := 22) dX12_turn_21 rfl (XA_jobFuel (A := (cl A v)) hX) (by omega) (by omega) ?_
    try simp (disch := omega) only [hv_cl, cl_set, sset_e, sset_1, sset_2]
    refine aw_puti (pc' := 25) (k9 := 3) dX12_turn_22 rfl fX12_159 rfl rfl rfl (XO_machine (A := (cl A v)) hX) ?_
    refine aw_aload_n (pc' := 26) rfl dX12_turn_25 rfl ?_
    refine aw_getp (pc' := 29) (k9 := 1) (p := 64) dX12_turn_26 rfl fX12_21 rfl rfl rfl (XO (A := (cl A v)) hX) (X_machine (A := (cl A v)) hX) ?_
    refine aw_aload_n (pc' := 30) rfl dX12_turn_29 rfl ?_
    refine aw_getp (pc' := 33) (k9 := 2) (p := 207) dX12_turn_30 rfl fX12_28 rfl rfl rfl (XO (A := (cl A v)) hX) (X_now (A := (cl A v)) hX) ?_
    refine aw_aload_n (pc' := 34) rfl dX12_turn_33 rfl ?_
    refine aw_getp (pc' := 37) (k9 := 7) (p := 263) dX12_turn_34 rfl fX12_43 rfl rfl rfl (XO (A := (cl A v)) hX) (X_jobs (A := (cl A v)) hX) ?_
    refine aw_iload_n (pc' := 38) rfl dX12_turn_37 rfl ?_
    refine aw_aald (pc' := 39) (t0 := 4) (fun _ => rfl) (by decide) dX12_turn_38 rfl (XA_jobs (A := (cl A v)) hX) (by omega) (by omega) ?_
    try simp (disch := omega) only [hv_cl, cl_set, sset_e, sset_1, sset_2]
    rw [hj j (by omega) (by omega)]
    have hFJ := XF_job hX j (by omega) (by omega)
    try simp (disch := omega) only [hv_cl, cl_set, sset_e, sset_1, sset_2]
    refine aw_iconst (pc' := 40) (by decide) dX12_turn_39 rfl ?_
    refine aw_callV (ci := 3) (d' := d - 1) (as := [_, _, _]) (pc' := 43) (by decide) rfl kX4_goOn iX4_goOn sX4_goOn lX12_162 (XO_machine (A := (cl A v)) hX) dX12_turn_40 rfl rfl (Nat.le_of_ble_eq_true rfl) (by omega) ?_
    refine CALL.mono (hO (by omega) (by omega) (by omega)) ?_
    rintro r B ⟨x, u, rfl, rfl, hq1, hq0⟩
    refine aw_lstore_n (pc' := 44) (lv' := [_, _, _, _]) dX12_turn_43 rfl (by decide) rfl ?_
    refine aw_aload_n (pc' := 45) rfl dX12_turn_44 rfl ?_
    refine aw_getp (pc' := 48) (k9 := 9) (p := 265) dX12_turn_45 rfl fX12_51 rfl rfl rfl (XO (A := (cl A v)) hX) (X_jobFuel (A := (cl A v)) hX) ?_
    refine aw_iload_n (pc' := 49) rfl dX12_turn_48 rfl ?_
    refine aw_aload_n (pc' := 50) rfl dX12_turn_49 rfl ?_
    refine aw_getp (pc' := 53) (k9 := 1) (p := 64) dX12_turn_50 rfl fX12_21 rfl rfl rfl (XO (A := (cl A v)) hX) (X_machine (A := (cl A v)) hX) ?_
    refine aw_geti (pc' := 56) (k9 := 3) dX12_turn_53 rfl fX12_159 rfl (by decide) rfl (XO_machine (A := (cl A v)) hX) ?_
    try simp (disch := omega) only [hv_cl, cl_set, sset_e, sset_1, sset_2]
    refine aw_iast (pc' := 57) dX12_turn_56 rfl (XA_jobFuel (A := (cl A v)) hX) (by omega) (by omega) ?_
    refine aw_lload_n (pc' := 58) rfl dX12_turn_57 rfl ?_
    refine aw_ldc2 (x := (-9223372036854775808)) (pc' := 61) qX12_116 (by decide) dX12_turn_58 rfl ?_
    refine aw_lcmp (pc' := 62) dX12_turn_61 rfl ?_
    refine aw_if_ne (pt := 73) (pf := 65) dX12_turn_62 (by decide) rfl (fun c_62 => ?_) (fun c_62 => ?_)
    · replace c_62 := (not_congr cmp_eq).mp c_62
      refine aw_lload_n (pc' := 74) rfl dX12_turn_73 rfl ?_
      refine AW.ret (some (vl _)) dX12_turn_74 trivial ?_
      try simp (disch := omega) only [hv_cl, cl_set, sset_e, sset_1, sset_2]
      first | exact hq1 (by omega) | exact hq0 (by omega)
    · replace c_62 := Classical.not_not.mp c_62
      replace c_62 := (cmp_eq).mp c_62
      refine aw_aload_n (pc' := 66) rfl dX12_turn_65 rfl ?_
      refine aw_getp (pc' := 69) (k9 := 8) (p := 264) dX12_turn_66 rfl fX12_47 rfl rfl rfl (XO (A := (cl A v)) hX) (X_jobLines (A := (cl A v)) hX) ?_
      refine aw_iload_n (pc' := 70) rfl dX12_turn_69 rfl ?_
      refine aw_bipush (pc' := 72) (by decide +kernel) dX12_turn_70 rfl ?_
      refine aw_iast (pc' := 73) dX12_turn_72 rfl (XA_jobLines (A := (cl A v)) hX) (by omega) (by omega) ?_
      refine aw_lload_n (pc' := 74) rfl dX12_turn_73 rfl ?_
      refine AW.ret (some (vl _)) dX12_turn_74 trivial ?_
      try simp (disch := omega) only [hv_cl, cl_set, sset_e, sset_1, sset_2]
      first | exact hq1 (by omega) | exact hq0 (by omega)
  · rw [hv_cl] at e0_2
    refine aw_if_ne (pt := 12) (pf := 8) dX12_turn_5 (by decide) rfl (fun c_5 => absurd c_5 (by decide)) (fun _ => ?_)
    refine aw_ldc2 (x := (-9223372036854775808)) (pc' := 11) qX12_116 (by decide) dX12_turn_8 rfl ?_
    refine AW.ret (some (vl _)) dX12_turn_11 trivial ?_
    exact hN (by omega)
