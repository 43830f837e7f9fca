/-! ===== the reference: runs ===== -/
set_option maxRecDepth 20000 in
theorem c_writes {d : Nat} {a v : Int} {A : AHp} {s : Sg} {Q : Option AV → AHp → Prop} (hd : 0 ≤ d) (hM : MLAY A) (h1 : 0 ≤ s 307 36 ∧ s 307 36 ≤ 60) (ha : a < 28) (h2 : 0 ≤ a → 0 ≤ s 330 a ∧ s 330 a ≤ 60) (hQ : Q none (lift A (writesS s a v))) : CALL d mX13_writes [vr 307, vi a, vi v] (lift A s) Q := by
  refine CALL.of (by decide) (Nat.le_of_ble_eq_true rfl) ?_
  change AW d mX13_writes 0 [some (vr 307), some (vi a), some (vi v)] [] (lift A s) Q
  refine aw_iload_n (pc' := 1) rfl dX13_writes_0 rfl ?_
  refine aw_if_ge (pt := 36) (pf := 4) dX13_writes_1 (by decide) rfl (fun c_1 => ?_) (fun c_1 => ?_)
  · refine aw_aload_n (pc' := 37) rfl dX13_writes_36 rfl ?_
    refine aw_getp (pc' := 40) (k9 := 31) (p := 330) dX13_writes_37 rfl fX13_114 rfl rfl rfl (MO (A := (lift A s)) hM) (M_writtenMany (A := (lift A s)) hM) ?_
    refine aw_iload_n (pc' := 41) rfl dX13_writes_40 rfl ?_
    refine aw_iald (pc' := 42) dX13_writes_41 rfl (MA_writtenMany (A := (lift A s)) hM) (by omega) (by omega) ?_
    try simp (disch := omega) only [hv_in, lift_set, sset_e, sset_1, sset_2]
    refine aw_bipush (pc' := 44) (by decide +kernel) dX13_writes_42 rfl ?_
    refine aw_icmp_ge (pt := 74) (pf := 47) dX13_writes_44 (by decide) rfl (fun c_44 => ?_) (fun c_44 => ?_)
    · refine AW.ret none dX13_writes_74 trivial ?_
      try simp (disch := omega) only [hv_in, lift_set, sset_e, sset_1, sset_2]
      simp (disch := omega) only [writesS, if_pos, if_neg] at hQ
      exact hQ
    · refine aw_aload_n (pc' := 48) rfl dX13_writes_47 rfl ?_
      refine aw_getp (pc' := 51) (k9 := 30) (p := 329) dX13_writes_48 rfl fX13_111 rfl rfl rfl (MO (A := (lift A s)) hM) (M_written (A := (lift A s)) hM) ?_
      refine aw_bipush (pc' := 53) (by decide +kernel) dX13_writes_51 rfl ?_
      refine aw_iload_n (pc' := 54) rfl dX13_writes_53 rfl ?_
      refine aw_imul (pc' := 55) (by first | exact w32_id (by omega) (by omega) | rfl) dX13_writes_54 rfl ?_
      refine aw_aload_n (pc' := 56) rfl dX13_writes_55 rfl ?_
      refine aw_getp (pc' := 59) (k9 := 31) (p := 330) dX13_writes_56 rfl fX13_114 rfl rfl rfl (MO (A := (lift A s)) hM) (M_writtenMany (A := (lift A s)) hM) ?_
      refine aw_iload_n (pc' := 60) rfl dX13_writes_59 rfl ?_
      refine aw_iald (pc' := 61) dX13_writes_60 rfl (MA_writtenMany (A := (lift A s)) hM) (by omega) (by omega) ?_
      try simp (disch := omega) only [hv_in, lift_set, sset_e, sset_1, sset_2]
      refine aw_iadd (pc' := 62) (by first | exact w32_id (by omega) (by omega) | rfl) dX13_writes_61 rfl ?_
      refine aw_iload_n (pc' := 63) rfl dX13_writes_62 rfl ?_
      refine aw_iast (pc' := 64) dX13_writes_63 rfl (MA_written (A := (lift A s)) hM) (by omega) (by omega) ?_
      refine aw_aload_n (pc' := 65) rfl dX13_writes_64 rfl ?_
      refine aw_getp (pc' := 68) (k9 := 31) (p := 330) dX13_writes_65 rfl fX13_114 rfl rfl rfl (MO (A := (lift A s)) hM) (M_writtenMany (A := (lift A s)) hM) ?_
      refine aw_iload_n (pc' := 69) rfl dX13_writes_68 rfl ?_
      refine aw_dup2 (pc' := 70) rfl rfl dX13_writes_69 rfl ?_
      refine aw_iald (pc' := 71) dX13_writes_70 rfl (MA_writtenMany (A := (lift A s)) hM) (by omega) (by omega) ?_
      try simp (disch := omega) only [hv_in, lift_set, sset_e, sset_1, sset_2]
      refine aw_iconst (pc' := 72) (by decide) dX13_writes_71 rfl ?_
      refine aw_iadd (pc' := 73) (by first | exact w32_id (by omega) (by omega) | rfl) dX13_writes_72 rfl ?_
      refine aw_iast (pc' := 74) dX13_writes_73 rfl (MA_writtenMany (A := (lift A s)) hM) (by omega) (by omega) ?_
      refine AW.ret none dX13_writes_74 trivial ?_
      try simp (disch := omega) only [hv_in, lift_set, sset_e, sset_1, sset_2]
      simp (disch := omega) only [writesS, if_pos, if_neg] at hQ
      exact hQ
  · refine aw_aload_n (pc' := 5) rfl dX13_writes_4 rfl ?_
    refine aw_geti (pc' := 8) (k9 := 36) dX13_writes_5 rfl fX13_269 rfl (by decide) rfl (MO (A := (lift A s)) hM) ?_
    try simp (disch := omega) only [hv_in, lift_set, sset_e, sset_1, sset_2]
    refine aw_bipush (pc' := 10) (by decide +kernel) dX13_writes_8 rfl ?_
    refine aw_icmp_ge (pt := 74) (pf := 13) dX13_writes_10 (by decide) rfl (fun c_10 => ?_) (fun c_10 => ?_)
    · refine AW.ret none dX13_writes_74 trivial ?_
      try simp (disch := omega) only [hv_in, lift_set, sset_e, sset_1, sset_2]
      simp (disch := omega) only [writesS, if_pos, if_neg] at hQ
      exact hQ
    · refine aw_aload_n (pc' := 14) rfl dX13_writes_13 rfl ?_
      refine aw_getp (pc' := 17) (k9 := 35) (p := 331) dX13_writes_14 rfl fX13_117 rfl rfl rfl (MO (A := (lift A s)) hM) (M_out (A := (lift A s)) hM) ?_
      refine aw_aload_n (pc' := 18) rfl dX13_writes_17 rfl ?_
      refine aw_geti (pc' := 21) (k9 := 36) dX13_writes_18 rfl fX13_269 rfl (by decide) rfl (MO (A := (lift A s)) hM) ?_
      try simp (disch := omega) only [hv_in, lift_set, sset_e, sset_1, sset_2]
      refine aw_iload_n (pc' := 22) rfl dX13_writes_21 rfl ?_
      refine aw_iast (pc' := 23) dX13_writes_22 rfl (MA_out (A := (lift A s)) hM) (by omega) (by omega) ?_
      refine aw_aload_n (pc' := 24) rfl dX13_writes_23 rfl ?_
      refine aw_dup (pc' := 25) rfl dX13_writes_24 rfl ?_
      refine aw_geti (pc' := 28) (k9 := 36) dX13_writes_25 rfl fX13_269 rfl (by decide) rfl (MO (A := (lift A s)) hM) ?_
      try simp (disch := omega) only [hv_in, lift_set, sset_e, sset_1, sset_2]
      refine aw_iconst (pc' := 29) (by decide) dX13_writes_28 rfl ?_
      refine aw_iadd (pc' := 30) (by first | exact w32_id (by omega) (by omega) | rfl) dX13_writes_29 rfl ?_
      refine aw_puti (pc' := 33) (k9 := 36) dX13_writes_30 rfl fX13_269 rfl rfl rfl (MO (A := (lift A s)) hM) ?_
      refine aw_goto (pc' := 74) dX13_writes_33 (by decide) ?_
      refine AW.ret none dX13_writes_74 trivial ?_
      try simp (disch := omega) only [hv_in, lift_set, sset_e, sset_1, sset_2]
      simp (disch := omega) only [writesS, if_pos, if_neg] at hQ
      exact hQ

set_option maxRecDepth 20000 in
theorem c_stageAt {d : Nat} {p k : Int} {A : AHp} {s : Sg} {Q : Option AV → AHp → Prop} (hd : 0 ≤ d) (hM : MLAY A) (h1 : 0 ≤ p ∧ p < 480) (hQ : Q (some (vi (stAt s p k))) (lift A s)) : CALL d mX13_stageAt [vr 307, vi p, vi k] (lift A s) Q := by
  refine CALL.of (by decide) (Nat.le_of_ble_eq_true rfl) ?_
  change AW d mX13_stageAt 0 [some (vr 307), some (vi p), some (vi k)] [] (lift A s) Q
  refine aw_aload_n (pc' := 1) rfl dX13_stageAt_0 rfl ?_
  refine aw_getp (pc' := 4) (k9 := 4) (p := 312) dX13_stageAt_1 rfl fX13_55 rfl rfl rfl (MO (A := (lift A s)) hM) (M_stageFirst (A := (lift A s)) hM) ?_
  refine aw_iload_n (pc' := 5) rfl dX13_stageAt_4 rfl ?_
  refine aw_iald (pc' := 6) dX13_stageAt_5 rfl (MA_stageFirst (A := (lift A s)) hM) (by omega) (by omega) ?_
  try simp (disch := omega) only [hv_in, lift_set, sset_e, sset_1, sset_2]
  refine aw_iload_n (pc' := 7) rfl dX13_stageAt_6 rfl ?_
  refine aw_iadd (pc' := 8) rfl dX13_stageAt_7 rfl ?_
  refine AW.ret (some (vi _)) dX13_stageAt_8 trivial ?_
  exact hQ

set_option maxRecDepth 20000 in
theorem c_isOn {d : Nat} {j t : Int} {A : AHp} {Q : Option AV → AHp → Prop} (hd : 0 ≤ d) (h1 : onS j t = true → Q (some (vi 1)) A) (h0 : onS j t = false → Q (some (vi 0)) A) : CALL d mX13_isOn [vi j, vi t] A Q := by
  refine CALL.of (by decide) (Nat.le_of_ble_eq_true rfl) ?_
  change AW d mX13_isOn 0 [some (vi j), some (vi t)] [] A Q
  refine aw_iload_n (pc' := 1) rfl dX13_isOn_0 rfl ?_
  refine aw_bipush (pc' := 3) (by decide +kernel) dX13_isOn_1 rfl ?_
  refine aw_icmp_eq (pt := 29) (pf := 6) dX13_isOn_3 (by decide) rfl (fun c_3 => ?_) (fun c_3 => ?_)
  · refine aw_iconst (pc' := 30) (by decide) dX13_isOn_29 rfl ?_
    refine aw_goto (pc' := 34) dX13_isOn_30 (by decide) ?_
    refine AW.ret (some (vi _)) dX13_isOn_34 (Or.inr rfl) ?_
    refine h1 ?_
    unfold onS
    first | (rw [decide_eq_true_iff]; omega) | (rw [decide_eq_false_iff_not]; omega)
  · refine aw_iload_n (pc' := 7) rfl dX13_isOn_6 rfl ?_
    refine aw_bipush (pc' := 9) (by decide +kernel) dX13_isOn_7 rfl ?_
    refine aw_icmp_ne (pt := 16) (pf := 12) dX13_isOn_9 (by decide) rfl (fun c_9 => ?_) (fun c_9 => ?_)
    · refine aw_iconst (pc' := 17) (by decide) dX13_isOn_16 rfl ?_
      refine aw_iload_n (pc' := 18) rfl dX13_isOn_17 rfl ?_
      refine aw_if_ne (pt := 25) (pf := 21) dX13_isOn_18 (by decide) rfl (fun c_18 => ?_) (fun c_18 => ?_)
      · refine aw_iconst (pc' := 26) (by decide) dX13_isOn_25 rfl ?_
        refine aw_icmp_ne (pt := 33) (pf := 29) dX13_isOn_26 (by decide) rfl (fun c_26 => absurd c_26 (by decide)) (fun _ => ?_)
        refine aw_iconst (pc' := 30) (by decide) dX13_isOn_29 rfl ?_
        refine aw_goto (pc' := 34) dX13_isOn_30 (by decide) ?_
        refine AW.ret (some (vi _)) dX13_isOn_34 (Or.inr rfl) ?_
        refine h1 ?_
        unfold onS
        first | (rw [decide_eq_true_iff]; omega) | (rw [decide_eq_false_iff_not]; omega)
      · replace c_18 := Classical.not_not.mp c_18
        refine aw_iconst (pc' := 22) (by decide) dX13_isOn_21 rfl ?_
        refine aw_goto (pc' := 26) dX13_isOn_22 (by decide) ?_
        refine aw_icmp_ne (pt := 33) (pf := 29) dX13_isOn_26 (by decide) rfl (fun _ => ?_) (fun c_26 => absurd (by decide) c_26)
        refine aw_iconst (pc' := 34) (by decide) dX13_isOn_33 rfl ?_
        refine AW.ret (some (vi _)) dX13_isOn_34 (Or.inl rfl) ?_
        refine h0 ?_
        unfold onS
        first | (rw [decide_eq_true_iff]; omega) | (rw [decide_eq_false_iff_not]; omega)
    · replace c_9 := Classical.not_not.mp c_9
      refine aw_iconst (pc' := 13) (by decide) dX13_isOn_12 rfl ?_
      refine aw_goto (pc' := 17) dX13_isOn_13 (by decide) ?_
      refine aw_iload_n (pc' := 18) rfl dX13_isOn_17 rfl ?_
      refine aw_if_ne (pt := 25) (pf := 21) dX13_isOn_18 (by decide) rfl (fun c_18 => ?_) (fun c_18 => ?_)
      · refine aw_iconst (pc' := 26) (by decide) dX13_isOn_25 rfl ?_
        refine aw_icmp_ne (pt := 33) (pf := 29) dX13_isOn_26 (by decide) rfl (fun _ => ?_) (fun c_26 => absurd (by decide) c_26)
        refine aw_iconst (pc' := 34) (by decide) dX13_isOn_33 rfl ?_
        refine AW.ret (some (vi _)) dX13_isOn_34 (Or.inl rfl) ?_
        refine h0 ?_
        unfold onS
        first | (rw [decide_eq_true_iff]; omega) | (rw [decide_eq_false_iff_not]; omega)
      · replace c_18 := Classical.not_not.mp c_18
        refine aw_iconst (pc' := 22) (by decide) dX13_isOn_21 rfl ?_
        refine aw_goto (pc' := 26) dX13_isOn_22 (by decide) ?_
        refine aw_icmp_ne (pt := 33) (pf := 29) dX13_isOn_26 (by decide) rfl (fun c_26 => absurd c_26 (by decide)) (fun _ => ?_)
        refine aw_iconst (pc' := 30) (by decide) dX13_isOn_29 rfl ?_
        refine aw_goto (pc' := 34) dX13_isOn_30 (by decide) ?_
        refine AW.ret (some (vi _)) dX13_isOn_34 (Or.inr rfl) ?_
        refine h1 ?_
        unfold onS
        first | (rw [decide_eq_true_iff]; omega) | (rw [decide_eq_false_iff_not]; omega)
