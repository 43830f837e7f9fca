/-! ===== the reference: runs ===== -/
set_option maxRecDepth 20000 in
theorem c_writes {d : Nat} {a v : Int} {A : AHp} {s : Sg} {Q : Option AV → AHp → Prop} (hd : 0 ≤ d) (hM : MLAY A) (h1 : 0 ≤ s 307 36 ∧ s 307 36 ≤ 60) (ha : a < 28) (h2 : 0 ≤ a → 0 ≤ s 330 a ∧ s 330 a ≤ 60) (hQ : Q none (lift A (writesS s a v))) : CALL d mX13_writes [vr 307, vi a, vi v] (lift A s) Q := by
  refine CALL.of (by decide) (Nat.le_of_ble_eq_true rfl) ?_
  change AW d mX13_writes 0 [some (vr 307), some (vi a), some (vi v)] [] (lift A s) Q
  refine aw_iload_n (pc' := 1) rfl dX13_writes_0 rfl ?_
  refine aw_if_ge (pt := 36) (pf := 4) dX13_writes_1 (by decide) rfl (fun c_1 => ?_) (fun c_1 => ?_)
  · refine aw_aload_n (pc' := 37) rfl dX13_writes_36 rfl ?_
    refine aw_getp (pc' := 40) (k9 := 31) (p := 330) dX13_writes_37 rfl fX13_114 rfl rfl rfl (MO (A := (lift A s)) hM) (M_writtenMany (A := (lift A s)) hM) ?_
    refine aw_iload_n (pc' := 41) rfl dX13_writes_40 rfl ?_
    refine aw_iald (pc' := 42) dX13_writes_41 rfl (MA_writtenMany (A := (lift A s)) hM) (by omega) (by omega) ?_
    try simp (disch := omega) only [hv_in, lift_set, sset_e, sset_1, sset_2]
    refine aw_bipush (pc' := 44) (by decide +kernel) dX13_writes_42 rfl ?_
    refine aw_icmp_ge (pt := 74) (pf := 47) dX13_writes_44 (by decide) rfl (fun c_44 => ?_) (fun c_44 => ?_)
    · refine AW.ret none dX13_writes_74 trivial ?_
      try simp (disch := omega) only [hv_in, lift_set, sset_e, sset_1, sset_2]
      simp (disch := omega) only [writesS, if_pos, if_neg] at hQ
      exact hQ
    · refine aw_aload_n (pc' := 48) rfl dX13_writes_47 rfl ?_
      refine aw_getp (pc' := 51) (k9 := 30) (p := 329) dX13_writes_48 rfl fX13_111 rfl rfl rfl (MO (A := (lift A s)) hM) (M_written (A := (lift A s)) hM) ?_
      refine aw_bipush (pc' := 53) (by decide +kernel) dX13_writes_51 rfl ?_
      refine aw_iload_n (pc' := 54) rfl dX13_writes_53 rfl ?_
      refine aw_imul (pc' := 55) (by first | exact w32_id (by omega) (by omega) | rfl) dX13_writes_54 rfl ?_
      refine aw_aload_n (pc' := 56) rfl dX13_writes_55 rfl ?_
      refine aw_getp (pc' := 59) (k9 := 31) (p := 330) dX13_writes_56 rfl fX13_114 rfl rfl rfl (MO (A := (lift A s)) hM) (M_writtenMany (A := (lift A s)) hM) ?_
      refine aw_iload_n (pc' := 60) rfl dX13_writes_59 rfl ?_
      refine aw_iald (pc' := 61) dX13_writes_60 rfl (MA_writtenMany (A := (lift A s)) hM) (by omega) (by omega) ?_
      try simp (disch := omega) only [hv_in, lift_set, sset_e, sset_1, sset_2]
      refine aw_iadd (pc' := 62) (by first | exact w32_id (by omega) (by omega) | rfl) dX13_writes_61 rfl ?_
      refine aw_iload_n (pc' := 63) rfl dX13_writes_62 rfl ?_
      refine aw_iast (pc' := 64) dX13_writes_63 rfl (MA_written (A := (lift A s)) hM) (by omega) (by omega) ?_
      refine aw_aload_n (pc' := 65) rfl dX13_writes_64 rfl ?_
      refine aw_getp (pc' := 68) (k9 := 31) (p := 330) dX13_writes_65 rfl fX13_114 rfl rfl rfl (MO (A := (lift A s)) hM) (M_writtenMany (A := (lift A s)) hM) ?_
      refine aw_iload_n (pc' := 69) rfl dX13_writes_68 rfl ?_
      refine aw_dup2 (pc' := 70) rfl rfl dX13_writes_69 rfl ?_
      refine aw_iald (pc' := 71) dX13_writes_70 rfl (MA_writtenMany (A := (lift A s)) hM) (by omega) (by omega) ?_
      try simp (disch := omega) only [hv_in, lift_set, sset_e, sset_1, sset_2]
      refine aw_iconst (pc' := 72) (by decide) dX13_writes_71 rfl ?_
      refine aw_iadd (pc' := 73) (by first | exact w32_id (by omega) (by omega) | rfl) dX13_writes_72 rfl ?_
      refine aw_iast (pc' := 74) dX13_writes_73 rfl (MA_writtenMany (A := (lift A s)) hM) (by omega) (by omega) ?_
      refine AW.ret none dX13_writes_74 trivial ?_
      try simp (disch := omega) only [hv_in, lift_set, sset_e, sset_1, sset_2]
      simp (disch := omega) only [writesS, if_pos, if_neg] at hQ
      exact hQ
  · refine aw_aload_n (pc' := 5) rfl dX13_writes_4 rfl ?_
    refine aw_geti (pc' := 8) (k9 := 36) dX13_writes_5 rfl fX13_269 rfl (by decide) rfl (MO (A := (lift A s)) hM) ?_
    try simp (disch := omega) only [hv_in, lift_set, sset_e, sset_1, sset_2]
    refine aw_bipush (pc' := 10) (by decide +kernel) dX13_writes_8 rfl ?_
    refine aw_icmp_ge (pt := 74) (pf := 13) dX13_writes_10 (by decide) rfl (fun c_10 => ?_) (fun c_10 => ?_)
    · refine AW.ret none dX13_writes_74 trivial ?_
      try simp (disch := omega) only [hv_in, lift_set, sset_e, sset_1, sset_2]
      simp (disch := omega) only [writesS, if_pos, if_neg] at hQ
      exact hQ
    · refine aw_aload_n (pc' := 14) rfl dX13_writes_13 rfl ?_
      refine aw_getp (pc' := 17) (k9 := 35) (p := 331) dX13_writes_14 rfl fX13_117 rfl rfl rfl (MO (A := (lift A s)) hM) (M_out (A := (lift A s)) hM) ?_
      refine aw_aload_n (pc' := 18) rfl dX13_writes_17 rfl ?_
      refine aw_geti (pc' := 21) (k9 := 36) dX13_writes_18 rfl fX13_269 rfl (by decide) rfl (MO (A := (lift A s)) hM) ?_
      try simp (disch := omega) only [hv_in, lift_set, sset_e, sset_1, sset_2]
      refine aw_iload_n (pc' := 22) rfl dX13_writes_21 rfl ?_
      refine aw_iast (pc' := 23) dX13_writes_22 rfl (MA_out (A := (lift A s)) hM) (by omega) (by omega) ?_
      refine aw_aload_n (pc' := 24) rfl dX13_writes_23 rfl ?_
      refine aw_dup (pc' := 25) rfl dX13_writes_24 rfl ?_
      refine aw_geti (pc' := 28) (k9 := 36) dX13_writes_25 rfl fX13_269 rfl (by decide) rfl (MO (A := (lift A s)) hM) ?_
      try simp (disch := omega) only [hv_in, lift_set, sset_e, sset_1, sset_2]
      refine aw_iconst (pc' := 29) (by decide) dX13_writes_28 rfl ?_
      refine aw_iadd (pc' := 30) (by first | exact w32_id (by omega) (by omega) | rfl) dX13_writes_29 rfl ?_
      refine aw_puti (pc' := 33) (k9 := 36) dX13_writes_30 rfl fX13_269 rfl rfl rfl (MO (A := (lift A s)) hM) ?_
      refine aw_goto (pc' := 74) dX13_writes_33 (by decide) ?_
      refine AW.ret none dX13_writes_74 trivial ?_
      try simp (disch := omega) only [hv_in, lift_set, sset_e, sset_1, sset_2]
      simp (disch := omega) only [writesS, if_pos, if_neg] at hQ
      exact hQ

set_option maxRecDepth 20000 in
theorem c_stageAt {d : Nat} {p k : Int} {A : AHp} {s : Sg} {Q : Option AV → AHp → Prop} (hd : 0 ≤ d) (hM : MLAY A) (h1 : 0 ≤ p ∧ p < 480) (hQ : Q (some (vi (stAt s p k))) (lift A s)) : CALL d mX13_stageAt [vr 307, vi p, vi k] (lift A s) Q := by
  refine CALL.of (by decide) (Nat.le_of_ble_eq_true rfl) ?_
  change AW d mX13_stageAt 0 [some (vr 307), some (vi p), some (vi k)] [] (lift A s) Q
  refine aw_aload_n (pc' := 1) rfl dX13_stageAt_0 rfl ?_
  refine aw_getp (pc' := 4) (k9 := 4) (p := 312) dX13_stageAt_1 rfl fX13_55 rfl rfl rfl (MO (A := (lift A s)) hM) (M_stageFirst (A := (lift A s)) hM) ?_
  refine aw_iload_n (pc' := 5) rfl dX13_stageAt_4 rfl ?_
  refine aw_iald (pc' := 6) dX13_stageAt_5 rfl (MA_stageFirst (A := (lift A s)) hM) (by omega) (by omega) ?_
  try simp (disch := omega) only [hv_in, lift_set, sset_e, sset_1, sset_2]
  refine aw_iload_n (pc' := 7) rfl dX13_stageAt_6 rfl ?_
  refine aw_iadd (pc' := 8) rfl dX13_stageAt_7 rfl ?_
  refine AW.ret (some (vi _)) dX13_stageAt_8 trivial ?_
  exact hQ

set_option maxRecDepth 20000 in
theorem c_isOn {d : Nat} {j t : Int} {A : AHp} {Q : Option AV → AHp → Prop} (hd : 0 ≤ d) (h1 : onS j t = true → Q (some (vi 1)) A) (h0 : onS j t = false → Q (some (vi 0)) A) : CALL d mX13_isOn [vi j, vi t] A Q := by
  refine CALL.of (by decide) (Nat.le_of_ble_eq_true rfl) ?_
  change AW d mX13_isOn 0 [some (vi j), some (vi t)] [] A Q
  refine aw_iload_n (pc' := 1) rfl dX13_isOn_0 rfl ?_
  refine aw_bipush (pc' := 3) (by decide +kernel) dX13_isOn_1 rfl ?_
  refine aw_icmp_eq (pt := 29) (pf := 6) dX13_isOn_3 (by decide) rfl (fun c_3 => ?_) (fun c_3 => ?_)
  · refine aw_iconst (pc' := 30) (by decide) dX13_isOn_29 rfl ?_
    refine aw_goto (pc' := 34) dX13_isOn_30 (by decide) ?_
    refine AW.ret (some (vi _)) dX13_isOn_34 (Or.inr rfl) ?_
    refine h1 ?_
    unfold onS
    first | (rw [decide_eq_true_iff]; omega) | (rw [decide_eq_false_iff_not]; omega)
  · refine aw_iload_n (pc' := 7) rfl dX13_isOn_6 rfl ?_
    refine aw_bipush (pc' := 9) (by decide +kernel) dX13_isOn_7 rfl ?_
    refine aw_icmp_ne (pt := 16) (pf := 12) dX13_isOn_9 (by decide) rfl (fun c_9 => ?_) (fun c_9 => ?_)
    · refine aw_iconst (pc' := 17) (by decide) dX13_isOn_16 rfl ?_
      refine aw_iload_n (pc' := 18) rfl dX13_isOn_17 rfl ?_
      refine aw_if_ne (pt := 25) (pf := 21) dX13_isOn_18 (by decide) rfl (fun c_18 => ?_) (fun c_18 => ?_)
      · refine aw_iconst (pc' := 26) (by decide) dX13_isOn_25 rfl ?_
        refine aw_icmp_ne (pt := 33) (pf := 29) dX13_isOn_26 (by decide) rfl (fun c_26 => absurd c_26 (by decide)) (fun _ => ?_)
        refine aw_iconst (pc' := 30) (by decide) dX13_isOn_29 rfl ?_
        refine aw_goto (pc' := 34) dX13_isOn_30 (by decide) ?_
        refine AW.ret (some (vi _)) dX13_isOn_34 (Or.inr rfl) ?_
        refine h1 ?_
        unfold onS
        first | (rw [decide_eq_true_iff]; omega) | (rw [decide_eq_false_iff_not]; omega)
      · replace c_18 := Classical.not_not.mp c_18
        refine aw_iconst (pc' := 22) (by decide) dX13_isOn_21 rfl ?_
        refine aw_goto (pc' := 26) dX13_isOn_22 (by decide) ?_
        refine aw_icmp_ne (pt := 33) (pf := 29) dX13_isOn_26 (by decide) rfl (fun _ => ?_) (fun c_26 => absurd (by decide) c_26)
        refine aw_iconst (pc' := 34) (by decide) dX13_isOn_33 rfl ?_
        refine AW.ret (some (vi _)) dX13_isOn_34 (Or.inl rfl) ?_
        refine h0 ?_
        unfold onS
        first | (rw [decide_eq_true_iff]; omega) | (rw [decide_eq_false_iff_not]; omega)
    · replace c_9 := Classical.not_not.mp c_9
      refine aw_iconst (pc' := 13) (by decide) dX13_isOn_12 rfl ?_
      refine aw_goto (pc' := 17) dX13_isOn_13 (by decide) ?_
      refine aw_iload_n (pc' := 18) rfl dX13_isOn_17 rfl ?_
      refine aw_if_ne (pt := 25) (pf := 21) dX13_isOn_18 (by decide) rfl (fun c_18 => ?_) (fun c_18 => ?_)
      · refine aw_iconst (pc' := 26) (by decide) dX13_isOn_25 rfl ?_
        refine aw_icmp_ne (pt := 33) (pf := 29) dX13_isOn_26 (by decide) rfl (fun _ => ?_) (fun c_26 => absurd (by decide) c_26)
        refine aw_iconst (pc' := 34) (by decide) dX13_isOn_33 rfl ?_
        refine AW.ret (some (vi _)) dX13_isOn_34 (Or.inl rfl) ?_
        refine h0 ?_
        unfold onS
        first | (rw [decide_eq_true_iff]; omega) | (rw [decide_eq_false_iff_not]; omega)
      · replace c_18 := Classical.not_not.mp c_18
        refine aw_iconst (pc' := 22) (by decide) dX13_isOn_21 rfl ?_
        refine aw_goto (pc' := 26) dX13_isOn_22 (by decide) ?_
        refine aw_icmp_ne (pt := 33) (pf := 29) dX13_isOn_26 (by decide) rfl (fun c_26 => absurd c_26 (by decide)) (fun _ => ?_)
        refine aw_iconst (pc' := 30) (by decide) dX13_isOn_29 rfl ?_
        refine aw_goto (pc' := 34) dX13_isOn_30 (by decide) ?_
        refine AW.ret (some (vi _)) dX13_isOn_34 (Or.inr rfl) ?_
        refine h1 ?_
        unfold onS
        first | (rw [decide_eq_true_iff]; omega) | (rw [decide_eq_false_iff_not]; omega)

theorem workS_o {s : Sg} {fr k st par : Int} {n : Nat} {o j : Int} (h : o ≠ 325) : workS s fr k st par n o j = s o j := by
  induction n with
  | zero => rfl
  | succ n ih => unfold workS; rw [sset_1 h, ih]
theorem oneS_o {s : Sg} {fr k st par o j : Int} (h : o < 325 ∨ 328 < o) : oneS s fr k st par o j = s o j := by
  unfold oneS clearS
  simp (disch := omega) only [sset_1, workS_o]
theorem stagesS_o {s : Sg} {fr p par : Int} {n : Nat} {o j : Int} (h : o < 325 ∨ 328 < o) : stagesS s fr p par n o j = s o j := by
  induction n with
  | zero => rfl
  | succ n ih => unfold stagesS; rw [oneS_o h, ih]
theorem beginsS_o {s : Sg} {fr p par : Int} {o j : Int} (h : o < 323 ∨ 330 < o ∨ o = 329) : beginsS s fr p par o j = s o j := by
  unfold beginsS
  simp (disch := omega) only [stagesS_o, sset_1]
theorem stAt_id {s : Sg} {p k : Int} (hP : PTB s p) (h : 0 ≤ k ∧ k < s 313 p) : stAt s p k = s 312 p + k := by
  obtain ⟨h1, h2, h3, h4, h5, h6, _⟩ := hP
  exact w32_id (by omega) (by omega)
theorem work_step {A : AHp} {s : Sg} {fr k st par i y : Int} {n : Nat} (hi : i = n) (hy : y = worthS s par (s 317 (4 * st + i))) :
    lift A (sset (workS s fr k st par n) 325 (24 * fr + 4 * k + i) y) = lift A (workS s fr k st par (n + 1)) := by
  subst hi
  rw [hy]
  conv => rhs; unfold workS
  have e1 : worthS (workS s fr k st par n) par (workS s fr k st par n 317 (4 * st + n)) = worthS s par (s 317 (4 * st + n)) := by
    rw [workS_o (by omega)]
    unfold worthS
    rw [workS_o (by omega)]
  rw [e1]
set_option maxRecDepth 20000 in
theorem l_begW {d : Nat} {A : AHp} {s : Sg} {fr p par k st : Int} {Q : Option AV → AHp → Prop} : ∀ (m : Nat) (i : Int) (n : Nat), (s 316 st - i).toNat = m → i = n → i ≤ s 316 st → MLAY A → (0 ≤ fr ∧ fr < 28) → (0 ≤ k ∧ k ≤ 5) → (0 ≤ st ∧ st < 480) → (0 ≤ s 316 st ∧ s 316 st ≤ 4) → (∀ i, 0 ≤ i → i < s 316 st → -6 ≤ s 317 (4 * st + i)) → (∀ L7, AW d mX13_begins 126 [some (vr 307), some (vi fr), some (vi p), some (vi par), some (vi k), some (vi st), some (vi (s 316 st)), L7] [] (lift A (workS s fr k st par (s 316 st).toNat)) Q) → ∀ (L7 : Option AV), AW d mX13_begins 47 [some (vr 307), some (vi fr), some (vi p), some (vi par), some (vi k), some (vi st), some (vi i), L7] [] (lift A (workS s fr k st par n)) Q := by
  intro m
  induction m using Nat.strongRecOn with
  | _ m ih =>
    intro i n hm ei hin hM hfr hk hst hmn hnum hE L7
    refine aw_iload (pc' := 49) rfl dX13_begins_47 rfl ?_
    refine aw_aload_n (pc' := 50) rfl dX13_begins_49 rfl ?_
    refine aw_getp (pc' := 53) (k9 := 8) (p := 316) dX13_begins_50 rfl fX13_67 rfl rfl rfl (MO (A := (lift A (workS s fr k st par n))) hM) (M_many (A := (lift A (workS s fr k st par n))) hM) ?_
    refine aw_iload (pc' := 55) rfl dX13_begins_53 rfl ?_
    refine aw_iald (pc' := 56) dX13_begins_55 rfl (MA_many (A := (lift A (workS s fr k st par n))) hM) (by omega) (by omega) ?_
    try simp (disch := omega) only [hv_in, lift_set, sset_e, sset_1, sset_2, workS_o, stagesS_o, beginsS_o]
    refine aw_icmp_ge (pt := 126) (pf := 59) dX13_begins_56 (by decide) rfl (fun c_56 => ?_) (fun c_56 => ?_)
    · have e8 : i = s 316 st := by omega
      have e9 : (s 316 st).toNat = n := by omega
      rw [e9, ← e8] at hE
      exact hE _
    · have hnu := hnum i (by omega) (by omega)
      refine aw_aload_n (pc' := 60) rfl dX13_begins_59 rfl ?_
      refine aw_getp (pc' := 63) (k9 := 9) (p := 317) dX13_begins_60 rfl fX13_70 rfl rfl rfl (MO (A := (lift A (workS s fr k st par n))) hM) (M_number (A := (lift A (workS s fr k st par n))) hM) ?_
      refine aw_iconst (pc' := 64) (by decide) dX13_begins_63 rfl ?_
      refine aw_iload (pc' := 66) rfl dX13_begins_64 rfl ?_
      refine aw_imul (pc' := 67) (by first | exact w32_id (by omega) (by omega) | rfl) dX13_begins_66 rfl ?_
      refine aw_iload (pc' := 69) rfl dX13_begins_67 rfl ?_
      refine aw_iadd (pc' := 70) (by first | exact w32_id (by omega) (by omega) | rfl) dX13_begins_69 rfl ?_
      refine aw_iald (pc' := 71) dX13_begins_70 rfl (MA_number (A := (lift A (workS s fr k st par n))) hM) (by omega) (by omega) ?_
      try simp (disch := omega) only [hv_in, lift_set, sset_e, sset_1, sset_2, workS_o, stagesS_o, beginsS_o]
      refine aw_istore (pc' := 73) (lv' := [_, _, _, _, _, _, _, _]) dX13_begins_71 rfl (by decide) rfl ?_
      refine aw_aload_n (pc' := 74) rfl dX13_begins_73 rfl ?_
      refine aw_getp (pc' := 77) (k9 := 26) (p := 325) dX13_begins_74 rfl fX13_98 rfl rfl rfl (MO (A := (lift A (workS s fr k st par n))) hM) (M_worked (A := (lift A (workS s fr k st par n))) hM) ?_
      refine aw_bipush (pc' := 79) (by decide +kernel) dX13_begins_77 rfl ?_
      refine aw_iload_n (pc' := 80) rfl dX13_begins_79 rfl ?_
      refine aw_imul (pc' := 81) (by first | exact w32_id (by omega) (by omega) | rfl) dX13_begins_80 rfl ?_
      refine aw_iconst (pc' := 82) (by decide) dX13_begins_81 rfl ?_
      refine aw_iload (pc' := 84) rfl dX13_begins_82 rfl ?_
      refine aw_imul (pc' := 85) (by first | exact w32_id (by omega) (by omega) | rfl) dX13_begins_84 rfl ?_
      refine aw_iadd (pc' := 86) (by first | exact w32_id (by omega) (by omega) | rfl) dX13_begins_85 rfl ?_
      refine aw_iload (pc' := 88) rfl dX13_begins_86 rfl ?_
      refine aw_iadd (pc' := 89) (by first | exact w32_id (by omega) (by omega) | rfl) dX13_begins_88 rfl ?_
      refine aw_iload (pc' := 91) rfl dX13_begins_89 rfl ?_
      refine aw_bipush (pc' := 93) (by decide +kernel) dX13_begins_91 rfl ?_
      refine aw_icmp_ne (pt := 100) (pf := 96) dX13_begins_93 (by decide) rfl (fun c_93 => ?_) (fun c_93 => ?_)
      · refine aw_iload (pc' := 102) rfl dX13_begins_100 rfl ?_
        refine aw_if_ge (pt := 117) (pf := 105) dX13_begins_102 (by decide) rfl (fun c_102 => ?_) (fun c_102 => ?_)
        · refine aw_iload (pc' := 119) rfl dX13_begins_117 rfl ?_
          refine aw_iast (pc' := 120) dX13_begins_119 rfl (MA_worked (A := (lift A (workS s fr k st par n))) hM) (by omega) (by omega) ?_
          refine aw_iinc (pc' := 123) (lv' := [_, _, _, _, _, _, _, _]) dX13_begins_120 rfl rfl (by decide) (by first | exact w32_id (by omega) (by omega) | rfl) rfl ?_
          refine aw_goto (pc' := 47) dX13_begins_123 (by decide) ?_
          try simp (disch := omega) only [hv_in, lift_set, sset_e, sset_1, sset_2, workS_o, stagesS_o, beginsS_o]
          rw [work_step ei ?_]
          · exact ih _ (by omega) (i + 1) (n + 1) rfl (by omega) (by omega) hM hfr hk hst hmn hnum hE _
          · unfold worthS
            first | rw [if_pos (by omega)] | rw [if_neg (by omega), if_pos (by omega)] | rw [if_neg (by omega), if_neg (by omega)]
        · refine aw_aload_n (pc' := 106) rfl dX13_begins_105 rfl ?_
          refine aw_getp (pc' := 109) (k9 := 13) (p := 320) dX13_begins_106 rfl fX13_79 rfl rfl rfl (MO (A := (lift A (workS s fr k st par n))) hM) (M_values (A := (lift A (workS s fr k st par n))) hM) ?_
          refine aw_iconst (pc' := 110) (by decide) dX13_begins_109 rfl ?_
          refine aw_iload (pc' := 112) rfl dX13_begins_110 rfl ?_
          refine aw_isub (pc' := 113) (by first | exact w32_id (by omega) (by omega) | rfl) dX13_begins_112 rfl ?_
          refine aw_iald (pc' := 114) dX13_begins_113 rfl (MA_values (A := (lift A (workS s fr k st par n))) hM) (by omega) (by omega) ?_
          try simp (disch := omega) only [hv_in, lift_set, sset_e, sset_1, sset_2, workS_o, stagesS_o, beginsS_o]
          refine aw_goto (pc' := 119) dX13_begins_114 (by decide) ?_
          refine aw_iast (pc' := 120) dX13_begins_119 rfl (MA_worked (A := (lift A (workS s fr k st par n))) hM) (by omega) (by omega) ?_
          refine aw_iinc (pc' := 123) (lv' := [_, _, _, _, _, _, _, _]) dX13_begins_120 rfl rfl (by decide) (by first | exact w32_id (by omega) (by omega) | rfl) rfl ?_
          refine aw_goto (pc' := 47) dX13_begins_123 (by decide) ?_
          try simp (disch := omega) only [hv_in, lift_set, sset_e, sset_1, sset_2, workS_o, stagesS_o, beginsS_o]
          rw [work_step ei ?_]
          · exact ih _ (by omega) (i + 1) (n + 1) rfl (by omega) (by omega) hM hfr hk hst hmn hnum hE _
          · unfold worthS
            first | rw [if_pos (by omega)] | rw [if_neg (by omega), if_pos (by omega)] | rw [if_neg (by omega), if_neg (by omega)]
      · replace c_93 := Classical.not_not.mp c_93
        refine aw_iload_n (pc' := 97) rfl dX13_begins_96 rfl ?_
        refine aw_goto (pc' := 119) dX13_begins_97 (by decide) ?_
        refine aw_iast (pc' := 120) dX13_begins_119 rfl (MA_worked (A := (lift A (workS s fr k st par n))) hM) (by omega) (by omega) ?_
        refine aw_iinc (pc' := 123) (lv' := [_, _, _, _, _, _, _, _]) dX13_begins_120 rfl rfl (by decide) (by first | exact w32_id (by omega) (by omega) | rfl) rfl ?_
        refine aw_goto (pc' := 47) dX13_begins_123 (by decide) ?_
        try simp (disch := omega) only [hv_in, lift_set, sset_e, sset_1, sset_2, workS_o, stagesS_o, beginsS_o]
        rw [work_step ei ?_]
        · exact ih _ (by omega) (i + 1) (n + 1) rfl (by omega) (by omega) hM hfr hk hst hmn hnum hE _
        · unfold worthS
          first | rw [if_pos (by omega)] | rw [if_neg (by omega), if_pos (by omega)] | rw [if_neg (by omega), if_neg (by omega)]

set_option maxRecDepth 20000 in
theorem l_begT {d : Nat} {A : AHp} {t : Sg} {fr p par k st i : Int} {L7 : Option AV} {Q : Option AV → AHp → Prop} (hM : MLAY A) (hfr : 0 ≤ fr ∧ fr < 28) (hk : 0 ≤ k ∧ k ≤ 5) (hst : 0 ≤ st ∧ st < 480) (hK : ∀ L5 L6 L7, AW d mX13_begins 24 [some (vr 307), some (vi fr), some (vi p), some (vi par), some (vi (k + 1)), L5, L6, L7] [] (lift A (sset (clearS t fr k) 328 (6 * fr + k) (status0 (clearS t fr k) fr k st))) Q) : AW d mX13_begins 126 [some (vr 307), some (vi fr), some (vi p), some (vi par), some (vi k), some (vi st), some (vi i), L7] [] (lift A t) Q := by
  refine aw_aload_n (pc' := 127) rfl dX13_begins_126 rfl ?_
  refine aw_getp (pc' := 130) (k9 := 27) (p := 326) dX13_begins_127 rfl fX13_101 rfl rfl rfl (MO (A := (lift A t)) hM) (M_place (A := (lift A t)) hM) ?_
  refine aw_bipush (pc' := 132) (by decide +kernel) dX13_begins_130 rfl ?_
  refine aw_iload_n (pc' := 133) rfl dX13_begins_132 rfl ?_
  refine aw_imul (pc' := 134) (by first | exact w32_id (by omega) (by omega) | rfl) dX13_begins_133 rfl ?_
  refine aw_iload (pc' := 136) rfl dX13_begins_134 rfl ?_
  refine aw_iadd (pc' := 137) (by first | exact w32_id (by omega) (by omega) | rfl) dX13_begins_136 rfl ?_
  refine aw_iconst (pc' := 138) (by decide) dX13_begins_137 rfl ?_
  refine aw_iast (pc' := 139) dX13_begins_138 rfl (MA_place (A := (lift A t)) hM) (by omega) (by omega) ?_
  refine aw_aload_n (pc' := 140) rfl dX13_begins_139 rfl ?_
  refine aw_getp (pc' := 143) (k9 := 28) (p := 327) dX13_begins_140 rfl fX13_104 rfl rfl rfl (MO (A := (lift A t)) hM) (M_ended (A := (lift A t)) hM) ?_
  refine aw_bipush (pc' := 145) (by decide +kernel) dX13_begins_143 rfl ?_
  refine aw_iload_n (pc' := 146) rfl dX13_begins_145 rfl ?_
  refine aw_imul (pc' := 147) (by first | exact w32_id (by omega) (by omega) | rfl) dX13_begins_146 rfl ?_
  refine aw_iload (pc' := 149) rfl dX13_begins_147 rfl ?_
  refine aw_iadd (pc' := 150) (by first | exact w32_id (by omega) (by omega) | rfl) dX13_begins_149 rfl ?_
  refine aw_iconst (pc' := 151) (by decide) dX13_begins_150 rfl ?_
  refine aw_zast (pc' := 152) dX13_begins_151 rfl (MA_ended (A := (lift A t)) hM) (by omega) (by omega) (by omega) ?_
  refine aw_aload_n (pc' := 153) rfl dX13_begins_152 rfl ?_
  refine aw_getp (pc' := 156) (k9 := 29) (p := 328) dX13_begins_153 rfl fX13_108 rfl rfl rfl (MO (A := (lift A t)) hM) (M_status (A := (lift A t)) hM) ?_
  refine aw_bipush (pc' := 158) (by decide +kernel) dX13_begins_156 rfl ?_
  refine aw_iload_n (pc' := 159) rfl dX13_begins_158 rfl ?_
  refine aw_imul (pc' := 160) (by first | exact w32_id (by omega) (by omega) | rfl) dX13_begins_159 rfl ?_
  refine aw_iload (pc' := 162) rfl dX13_begins_160 rfl ?_
  refine aw_iadd (pc' := 163) (by first | exact w32_id (by omega) (by omega) | rfl) dX13_begins_162 rfl ?_
  refine aw_aload_n (pc' := 164) rfl dX13_begins_163 rfl ?_
  refine aw_getp (pc' := 167) (k9 := 6) (p := 314) dX13_begins_164 rfl fX13_61 rfl rfl rfl (MO (A := (lift A t)) hM) (M_word (A := (lift A t)) hM) ?_
  refine aw_iload (pc' := 169) rfl dX13_begins_167 rfl ?_
  refine aw_iald (pc' := 170) dX13_begins_169 rfl (MA_word (A := (lift A t)) hM) (by omega) (by omega) ?_
  try simp (disch := omega) only [hv_in, lift_set, sset_e, sset_1, sset_2, workS_o, stagesS_o, beginsS_o]
  refine aw_bipush (pc' := 172) (by decide +kernel) dX13_begins_170 rfl ?_
  refine aw_icmp_ne (pt := 192) (pf := 175) dX13_begins_172 (by decide) rfl (fun c_172 => ?_) (fun c_172 => ?_)
  · refine aw_aload_n (pc' := 193) rfl dX13_begins_192 rfl ?_
    refine aw_getp (pc' := 196) (k9 := 6) (p := 314) dX13_begins_193 rfl fX13_61 rfl rfl rfl (MO (A := (lift A t)) hM) (M_word (A := (lift A t)) hM) ?_
    refine aw_iload (pc' := 198) rfl dX13_begins_196 rfl ?_
    refine aw_iald (pc' := 199) dX13_begins_198 rfl (MA_word (A := (lift A t)) hM) (by omega) (by omega) ?_
    try simp (disch := omega) only [hv_in, lift_set, sset_e, sset_1, sset_2, workS_o, stagesS_o, beginsS_o]
    refine aw_iconst (pc' := 200) (by decide) dX13_begins_199 rfl ?_
    refine aw_icmp_ne (pt := 224) (pf := 203) dX13_begins_200 (by decide) rfl (fun c_200 => ?_) (fun c_200 => ?_)
    · refine aw_aload_n (pc' := 225) rfl dX13_begins_224 rfl ?_
      refine aw_getp (pc' := 228) (k9 := 6) (p := 314) dX13_begins_225 rfl fX13_61 rfl rfl rfl (MO (A := (lift A t)) hM) (M_word (A := (lift A t)) hM) ?_
      refine aw_iload (pc' := 230) rfl dX13_begins_228 rfl ?_
      refine aw_iald (pc' := 231) dX13_begins_230 rfl (MA_word (A := (lift A t)) hM) (by omega) (by omega) ?_
      try simp (disch := omega) only [hv_in, lift_set, sset_e, sset_1, sset_2, workS_o, stagesS_o, beginsS_o]
      refine aw_bipush (pc' := 233) (by decide +kernel) dX13_begins_231 rfl ?_
      refine aw_icmp_ne (pt := 240) (pf := 236) dX13_begins_233 (by decide) rfl (fun c_233 => ?_) (fun c_233 => ?_)
      · refine aw_iconst (pc' := 241) (by decide) dX13_begins_240 rfl ?_
        refine aw_iast (pc' := 242) dX13_begins_241 rfl (MA_status (A := (lift A t)) hM) (by omega) (by omega) ?_
        refine aw_iinc (pc' := 245) (lv' := [_, _, _, _, _, _, _, _]) dX13_begins_242 rfl rfl (by decide) (by first | exact w32_id (by omega) (by omega) | rfl) rfl ?_
        refine aw_goto (pc' := 24) dX13_begins_245 (by decide) ?_
        try simp (disch := omega) only [hv_in, lift_set, sset_e, sset_1, sset_2, workS_o, stagesS_o, beginsS_o]
        unfold status0 clearS at hK
        simp (disch := omega) only [sset_1, if_pos, if_neg] at hK
        first | (exfalso; omega) | exact hK _ _ _
      · replace c_233 := Classical.not_not.mp c_233
        refine aw_iconst (pc' := 237) (by decide) dX13_begins_236 rfl ?_
        refine aw_goto (pc' := 241) dX13_begins_237 (by decide) ?_
        refine aw_iast (pc' := 242) dX13_begins_241 rfl (MA_status (A := (lift A t)) hM) (by omega) (by omega) ?_
        refine aw_iinc (pc' := 245) (lv' := [_, _, _, _, _, _, _, _]) dX13_begins_242 rfl rfl (by decide) (by first | exact w32_id (by omega) (by omega) | rfl) rfl ?_
        refine aw_goto (pc' := 24) dX13_begins_245 (by decide) ?_
        try simp (disch := omega) only [hv_in, lift_set, sset_e, sset_1, sset_2, workS_o, stagesS_o, beginsS_o]
        unfold status0 clearS at hK
        simp (disch := omega) only [sset_1, if_pos, if_neg] at hK
        first | (exfalso; omega) | exact hK _ _ _
    · replace c_200 := Classical.not_not.mp c_200
      refine aw_aload_n (pc' := 204) rfl dX13_begins_203 rfl ?_
      refine aw_getp (pc' := 207) (k9 := 26) (p := 325) dX13_begins_204 rfl fX13_98 rfl rfl rfl (MO (A := (lift A t)) hM) (M_worked (A := (lift A t)) hM) ?_
      refine aw_bipush (pc' := 209) (by decide +kernel) dX13_begins_207 rfl ?_
      refine aw_iload_n (pc' := 210) rfl dX13_begins_209 rfl ?_
      refine aw_imul (pc' := 211) (by first | exact w32_id (by omega) (by omega) | rfl) dX13_begins_210 rfl ?_
      refine aw_iconst (pc' := 212) (by decide) dX13_begins_211 rfl ?_
      refine aw_iload (pc' := 214) rfl dX13_begins_212 rfl ?_
      refine aw_imul (pc' := 215) (by first | exact w32_id (by omega) (by omega) | rfl) dX13_begins_214 rfl ?_
      refine aw_iadd (pc' := 216) (by first | exact w32_id (by omega) (by omega) | rfl) dX13_begins_215 rfl ?_
      refine aw_iald (pc' := 217) dX13_begins_216 rfl (MA_worked (A := (lift A t)) hM) (by omega) (by omega) ?_
      try simp (disch := omega) only [hv_in, lift_set, sset_e, sset_1, sset_2, workS_o, stagesS_o, beginsS_o]
      refine aw_if_ne (pt := 224) (pf := 220) dX13_begins_217 (by decide) rfl (fun c_217 => ?_) (fun c_217 => ?_)
      · refine aw_aload_n (pc' := 225) rfl dX13_begins_224 rfl ?_
        refine aw_getp (pc' := 228) (k9 := 6) (p := 314) dX13_begins_225 rfl fX13_61 rfl rfl rfl (MO (A := (lift A t)) hM) (M_word (A := (lift A t)) hM) ?_
        refine aw_iload (pc' := 230) rfl dX13_begins_228 rfl ?_
        refine aw_iald (pc' := 231) dX13_begins_230 rfl (MA_word (A := (lift A t)) hM) (by omega) (by omega) ?_
        try simp (disch := omega) only [hv_in, lift_set, sset_e, sset_1, sset_2, workS_o, stagesS_o, beginsS_o]
        refine aw_bipush (pc' := 233) (by decide +kernel) dX13_begins_231 rfl ?_
        refine aw_icmp_ne (pt := 240) (pf := 236) dX13_begins_233 (by decide) rfl (fun c_233 => ?_) (fun c_233 => ?_)
        · refine aw_iconst (pc' := 241) (by decide) dX13_begins_240 rfl ?_
          refine aw_iast (pc' := 242) dX13_begins_241 rfl (MA_status (A := (lift A t)) hM) (by omega) (by omega) ?_
          refine aw_iinc (pc' := 245) (lv' := [_, _, _, _, _, _, _, _]) dX13_begins_242 rfl rfl (by decide) (by first | exact w32_id (by omega) (by omega) | rfl) rfl ?_
          refine aw_goto (pc' := 24) dX13_begins_245 (by decide) ?_
          try simp (disch := omega) only [hv_in, lift_set, sset_e, sset_1, sset_2, workS_o, stagesS_o, beginsS_o]
          unfold status0 clearS at hK
          simp (disch := omega) only [sset_1, if_pos, if_neg] at hK
          first | (exfalso; omega) | exact hK _ _ _
        · replace c_233 := Classical.not_not.mp c_233
          refine aw_iconst (pc' := 237) (by decide) dX13_begins_236 rfl ?_
          refine aw_goto (pc' := 241) dX13_begins_237 (by decide) ?_
          refine aw_iast (pc' := 242) dX13_begins_241 rfl (MA_status (A := (lift A t)) hM) (by omega) (by omega) ?_
          refine aw_iinc (pc' := 245) (lv' := [_, _, _, _, _, _, _, _]) dX13_begins_242 rfl rfl (by decide) (by first | exact w32_id (by omega) (by omega) | rfl) rfl ?_
          refine aw_goto (pc' := 24) dX13_begins_245 (by decide) ?_
          try simp (disch := omega) only [hv_in, lift_set, sset_e, sset_1, sset_2, workS_o, stagesS_o, beginsS_o]
          unfold status0 clearS at hK
          simp (disch := omega) only [sset_1, if_pos, if_neg] at hK
          first | (exfalso; omega) | exact hK _ _ _
      · replace c_217 := Classical.not_not.mp c_217
        refine aw_iconst (pc' := 221) (by decide) dX13_begins_220 rfl ?_
        refine aw_goto (pc' := 241) dX13_begins_221 (by decide) ?_
        refine aw_iast (pc' := 242) dX13_begins_241 rfl (MA_status (A := (lift A t)) hM) (by omega) (by omega) ?_
        refine aw_iinc (pc' := 245) (lv' := [_, _, _, _, _, _, _, _]) dX13_begins_242 rfl rfl (by decide) (by first | exact w32_id (by omega) (by omega) | rfl) rfl ?_
        refine aw_goto (pc' := 24) dX13_begins_245 (by decide) ?_
        try simp (disch := omega) only [hv_in, lift_set, sset_e, sset_1, sset_2, workS_o, stagesS_o, beginsS_o]
        unfold status0 clearS at hK
        simp (disch := omega) only [sset_1, if_pos, if_neg] at hK
        first | (exfalso; omega) | exact hK _ _ _
  · replace c_172 := Classical.not_not.mp c_172
    refine aw_aload_n (pc' := 176) rfl dX13_begins_175 rfl ?_
    refine aw_getp (pc' := 179) (k9 := 26) (p := 325) dX13_begins_176 rfl fX13_98 rfl rfl rfl (MO (A := (lift A t)) hM) (M_worked (A := (lift A t)) hM) ?_
    refine aw_bipush (pc' := 181) (by decide +kernel) dX13_begins_179 rfl ?_
    refine aw_iload_n (pc' := 182) rfl dX13_begins_181 rfl ?_
    refine aw_imul (pc' := 183) (by first | exact w32_id (by omega) (by omega) | rfl) dX13_begins_182 rfl ?_
    refine aw_iconst (pc' := 184) (by decide) dX13_begins_183 rfl ?_
    refine aw_iload (pc' := 186) rfl dX13_begins_184 rfl ?_
    refine aw_imul (pc' := 187) (by first | exact w32_id (by omega) (by omega) | rfl) dX13_begins_186 rfl ?_
    refine aw_iadd (pc' := 188) (by first | exact w32_id (by omega) (by omega) | rfl) dX13_begins_187 rfl ?_
    refine aw_iald (pc' := 189) dX13_begins_188 rfl (MA_worked (A := (lift A t)) hM) (by omega) (by omega) ?_
    try simp (disch := omega) only [hv_in, lift_set, sset_e, sset_1, sset_2, workS_o, stagesS_o, beginsS_o]
    refine aw_goto (pc' := 241) dX13_begins_189 (by decide) ?_
    refine aw_iast (pc' := 242) dX13_begins_241 rfl (MA_status (A := (lift A t)) hM) (by omega) (by omega) ?_
    refine aw_iinc (pc' := 245) (lv' := [_, _, _, _, _, _, _, _]) dX13_begins_242 rfl rfl (by decide) (by first | exact w32_id (by omega) (by omega) | rfl) rfl ?_
    refine aw_goto (pc' := 24) dX13_begins_245 (by decide) ?_
    try simp (disch := omega) only [hv_in, lift_set, sset_e, sset_1, sset_2, workS_o, stagesS_o, beginsS_o]
    unfold status0 clearS at hK
    simp (disch := omega) only [sset_1, if_pos, if_neg] at hK
    first | (exfalso; omega) | exact hK _ _ _

set_option maxRecDepth 20000 in
theorem l_begS {d : Nat} {A : AHp} {s : Sg} {fr p par : Int} {Q : Option AV → AHp → Prop} : ∀ (m : Nat) (k : Int) (n : Nat), (s 313 p - k).toNat = m → k = n → k ≤ s 313 p → 1 ≤ d → MLAY A → (0 ≤ fr ∧ fr < 28) → PTB s p → Q none (lift A (stagesS s fr p par (s 313 p).toNat)) → ∀ (L5 L6 L7 : Option AV), AW d mX13_begins 24 [some (vr 307), some (vi fr), some (vi p), some (vi par), some (vi k), L5, L6, L7] [] (lift A (stagesS s fr p par n)) Q := by
  intro m
  induction m using Nat.strongRecOn with
  | _ m ih =>
    intro k n hm ek hkn hd hM hfr hP hQ L5 L6 L7
    have hP9 := hP
    obtain ⟨h1, h2, h3, h4, h5, h6, h7⟩ := hP9
    have e316 : ∀ j, stagesS s fr p par n 316 j = s 316 j := fun j => stagesS_o (by omega)
    have e317 : ∀ j, stagesS s fr p par n 317 j = s 317 j := fun j => stagesS_o (by omega)
    refine aw_iload (pc' := 26) rfl dX13_begins_24 rfl ?_
    refine aw_aload_n (pc' := 27) rfl dX13_begins_26 rfl ?_
    refine aw_getp (pc' := 30) (k9 := 5) (p := 313) dX13_begins_27 rfl fX13_58 rfl rfl rfl (MO (A := (lift A (stagesS s fr p par n))) hM) (M_stageMany (A := (lift A (stagesS s fr p par n))) hM) ?_
    refine aw_iload_n (pc' := 31) rfl dX13_begins_30 rfl ?_
    refine aw_iald (pc' := 32) dX13_begins_31 rfl (MA_stageMany (A := (lift A (stagesS s fr p par n))) hM) (by omega) (by omega) ?_
    try simp (disch := omega) only [hv_in, lift_set, sset_e, sset_1, sset_2, workS_o, stagesS_o, beginsS_o]
    refine aw_icmp_ge (pt := 248) (pf := 35) dX13_begins_32 (by decide) rfl (fun c_32 => ?_) (fun c_32 => ?_)
    · refine AW.ret none dX13_begins_248 trivial ?_
      rw [show (s 313 p).toNat = n by omega] at hQ
      exact hQ
    · refine aw_aload_n (pc' := 36) rfl dX13_begins_35 rfl ?_
      refine aw_iload_n (pc' := 37) rfl dX13_begins_36 rfl ?_
      refine aw_iload (pc' := 39) rfl dX13_begins_37 rfl ?_
      refine aw_callV (ci := 11) (d' := d - 1) (as := [_, _]) (pc' := 42) (by decide) rfl kX13_stageAt iX13_stageAt sX13_stageAt lX13_272 (MO (A := (lift A (stagesS s fr p par n))) hM) dX13_begins_39 rfl rfl (Nat.le_of_ble_eq_true rfl) (by omega) ?_
      refine c_stageAt (by omega) hM (by omega) ?_
      have est : stAt (stagesS s fr p par n) p k = s 312 p + k := by
        unfold stAt
        rw [stagesS_o (by omega)]
        exact w32_id (by omega) (by omega)
      rw [est]
      obtain ⟨g1, g2, _, _, g5⟩ := h7 k (by omega) (by omega)
      refine aw_istore (pc' := 44) (lv' := [_, _, _, _, _, _, _, _]) dX13_begins_42 rfl (by decide) rfl ?_
      refine aw_iconst (pc' := 45) (by decide) dX13_begins_44 rfl ?_
      refine aw_istore (pc' := 47) (lv' := [_, _, _, _, _, _, _, _]) dX13_begins_45 rfl (by decide) rfl ?_
      refine l_begW (s := stagesS s fr p par n) _ 0 0 rfl rfl (by rw [e316]; omega) hM hfr (by omega) (by omega) (by rw [e316]; omega) (fun i q1 q2 => by rw [e317]; exact g5 i q1 (by rw [e316] at q2; exact q2)) (fun L7 => ?_) _
      refine l_begT hM hfr (by omega) (by omega) (fun M5 M6 M7 => ?_)
      have e9 : sset (clearS (workS (stagesS s fr p par n) fr k (s 312 p + k) par (stagesS s fr p par n 316 (s 312 p + k)).toNat) fr k) 328 (6 * fr + k) (status0 (clearS (workS (stagesS s fr p par n) fr k (s 312 p + k) par (stagesS s fr p par n 316 (s 312 p + k)).toNat) fr k) fr k (s 312 p + k)) = stagesS s fr p par (n + 1) := by
        subst ek
        conv => rhs; unfold stagesS oneS
        rw [est]
      rw [e9]
      exact ih _ (by omega) (k + 1) (n + 1) rfl (by omega) (by omega) hd hM hfr hP hQ _ _ _

set_option maxRecDepth 20000 in
theorem c_begins {d : Nat} {fr p par : Int} {A : AHp} {s : Sg} {Q : Option AV → AHp → Prop} (hd : 1 ≤ d) (hM : MLAY A) (hfr : 0 ≤ fr ∧ fr < 28) (hP : PTB s p) (hQ : Q none (lift A (beginsS s fr p par))) : CALL d mX13_begins [vr 307, vi fr, vi p, vi par] (lift A s) Q := by
  refine CALL.of (by decide) (Nat.le_of_ble_eq_true rfl) ?_
  change AW d mX13_begins 0 [some (vr 307), some (vi fr), some (vi p), some (vi par), none, none, none, none] [] (lift A s) Q
  have h1 := hP.1
  have h2 := hP.2.1
  refine aw_aload_n (pc' := 1) rfl dX13_begins_0 rfl ?_
  refine aw_getp (pc' := 4) (k9 := 24) (p := 323) dX13_begins_1 rfl fX13_92 rfl rfl rfl (MO (A := (lift A s)) hM) (M_pipeOf (A := (lift A s)) hM) ?_
  refine aw_iload_n (pc' := 5) rfl dX13_begins_4 rfl ?_
  refine aw_iload_n (pc' := 6) rfl dX13_begins_5 rfl ?_
  refine aw_iast (pc' := 7) dX13_begins_6 rfl (MA_pipeOf (A := (lift A s)) hM) (by omega) (by omega) ?_
  refine aw_aload_n (pc' := 8) rfl dX13_begins_7 rfl ?_
  refine aw_getp (pc' := 11) (k9 := 25) (p := 324) dX13_begins_8 rfl fX13_95 rfl rfl rfl (MO (A := (lift A s)) hM) (M_parameter (A := (lift A s)) hM) ?_
  refine aw_iload_n (pc' := 12) rfl dX13_begins_11 rfl ?_
  refine aw_iload_n (pc' := 13) rfl dX13_begins_12 rfl ?_
  refine aw_iast (pc' := 14) dX13_begins_13 rfl (MA_parameter (A := (lift A s)) hM) (by omega) (by omega) ?_
  refine aw_aload_n (pc' := 15) rfl dX13_begins_14 rfl ?_
  refine aw_getp (pc' := 18) (k9 := 31) (p := 330) dX13_begins_15 rfl fX13_114 rfl rfl rfl (MO (A := (lift A s)) hM) (M_writtenMany (A := (lift A s)) hM) ?_
  refine aw_iload_n (pc' := 19) rfl dX13_begins_18 rfl ?_
  refine aw_iconst (pc' := 20) (by decide) dX13_begins_19 rfl ?_
  refine aw_iast (pc' := 21) dX13_begins_20 rfl (MA_writtenMany (A := (lift A s)) hM) (by omega) (by omega) ?_
  refine aw_iconst (pc' := 22) (by decide) dX13_begins_21 rfl ?_
  refine aw_istore (pc' := 24) (lv' := [_, _, _, _, _, _, _, _]) dX13_begins_22 rfl (by decide) rfl ?_
  try simp (disch := omega) only [hv_in, lift_set, sset_e, sset_1, sset_2, workS_o, stagesS_o, beginsS_o]
  have e9 : ∀ j, (sset (sset (sset s 323 fr p) 324 fr par) 330 fr 0) 313 j = s 313 j := fun j => by simp (disch := omega) only [sset_1]
  have hP2 : PTB (sset (sset (sset s 323 fr p) 324 fr par) 330 fr 0) p := by
    unfold PTB at hP ⊢
    simp (disch := omega) only [sset_1]
    exact hP
  exact l_begS (s := sset (sset (sset s 323 fr p) 324 fr par) 330 fr 0) _ 0 0 rfl rfl (by rw [e9]; have := hP.2.2.1; omega) hd hM hfr hP2 hQ _ _ _
