/-! ===== the reference: runs ===== -/
set_option maxRecDepth 20000 in
theorem c_writes {d : Nat} {a v : Int} {A : AHp} {s : Sg} {Q : Option AV → AHp → Prop} (hd : 0 ≤ d) (hM : MLAY A) (h1 : 0 ≤ s 307 36 ∧ s 307 36 ≤ 60) (ha : a < 28) (h2 : 0 ≤ a → 0 ≤ s 330 a ∧ s 330 a ≤ 60) (hQ : Q none (lift A (writesS s a v))) : CALL d mX13_writes [vr 307, vi a, vi v] (lift A s) Q := by
  refine CALL.of (by decide) (Nat.le_of_ble_eq_true rfl) ?_
  change AW d mX13_writes 0 [some (vr 307), some (vi a), some (vi v)] [] (lift A s) Q
  refine aw_iload_n (pc' := 1) rfl dX13_writes_0 rfl ?_
  refine aw_if_ge (pt := 36) (pf := 4) dX13_writes_1 (by decide) rfl (fun c_1 => ?_) (fun c_1 => ?_)
  · refine aw_aload_n (pc' := 37) rfl dX13_writes_36 rfl ?_
    refine aw_getp (pc' := 40) (k9 := 31) (p := 330) dX13_writes_37 rfl fX13_114 rfl rfl rfl (MO (A := (lift A s)) hM) (M_writtenMany (A := (lift A s)) hM) ?_
    refine aw_iload_n (pc' := 41) rfl dX13_writes_40 rfl ?_
    refine aw_iald (pc' := 42) dX13_writes_41 rfl (MA_writtenMany (A := (lift A s)) hM) (by omega) (by omega) ?_
    try simp (disch := omega) only [hv_in, lift_set, sset_e, sset_1, sset_2]
    refine aw_bipush (pc' := 44) (by decide +kernel) dX13_writes_42 rfl ?_
    refine aw_icmp_ge (pt := 74) (pf := 47) dX13_writes_44 (by decide) rfl (fun c_44 => ?_) (fun c_44 => ?_)
    · refine AW.ret none dX13_writes_74 trivial ?_
      try simp (disch := omega) only [hv_in, lift_set, sset_e, sset_1, sset_2]
      simp (disch := omega) only [writesS, if_pos, if_neg] at hQ
      exact hQ
    · refine aw_aload_n (pc' := 48) rfl dX13_writes_47 rfl ?_
      refine aw_getp (pc' := 51) (k9 := 30) (p := 329) dX13_writes_48 rfl fX13_111 rfl rfl rfl (MO (A := (lift A s)) hM) (M_written (A := (lift A s)) hM) ?_
      refine aw_bipush (pc' := 53) (by decide +kernel) dX13_writes_51 rfl ?_
      refine aw_iload_n (pc' := 54) rfl dX13_writes_53 rfl ?_
      refine aw_imul (pc' := 55) (by first | exact w32_id (by omega) (by omega) | rfl) dX13_writes_54 rfl ?_
      refine aw_aload_n (pc' := 56) rfl dX13_writes_55 rfl ?_
      refine aw_getp (pc' := 59) (k9 := 31) (p := 330) dX13_writes_56 rfl fX13_114 rfl rfl rfl (MO (A := (lift A s)) hM) (M_writtenMany (A := (lift A s)) hM) ?_
      refine aw_iload_n (pc' := 60) rfl dX13_writes_59 rfl ?_
      refine aw_iald (pc' := 61) dX13_writes_60 rfl (MA_writtenMany (A := (lift A s)) hM) (by omega) (by omega) ?_
      try simp (disch := omega) only [hv_in, lift_set, sset_e, sset_1, sset_2]
      refine aw_iadd (pc' := 62) (by first | exact w32_id (by omega) (by omega) | rfl) dX13_writes_61 rfl ?_
      refine aw_iload_n (pc' := 63) rfl dX13_writes_62 rfl ?_
      refine aw_iast (pc' := 64) dX13_writes_63 rfl (MA_written (A := (lift A s)) hM) (by omega) (by omega) ?_
      refine aw_aload_n (pc' := 65) rfl dX13_writes_64 rfl ?_
      refine aw_getp (pc' := 68) (k9 := 31) (p := 330) dX13_writes_65 rfl fX13_114 rfl rfl rfl (MO (A := (lift A s)) hM) (M_writtenMany (A := (lift A s)) hM) ?_
      refine aw_iload_n (pc' := 69) rfl dX13_writes_68 rfl ?_
      refine aw_dup2 (pc' := 70) rfl rfl dX13_writes_69 rfl ?_
      refine aw_iald (pc' := 71) dX13_writes_70 rfl (MA_writtenMany (A := (lift A s)) hM) (by omega) (by omega) ?_
      try simp (disch := omega) only [hv_in, lift_set, sset_e, sset_1, sset_2]
      refine aw_iconst (pc' := 72) (by decide) dX13_writes_71 rfl ?_
      refine aw_iadd (pc' := 73) (by first | exact w32_id (by omega) (by omega) | rfl) dX13_writes_72 rfl ?_
      refine aw_iast (pc' := 74) dX13_writes_73 rfl (MA_writtenMany (A := (lift A s)) hM) (by omega) (by omega) ?_
      refine AW.ret none dX13_writes_74 trivial ?_
      try simp (disch := omega) only [hv_in, lift_set, sset_e, sset_1, sset_2]
      simp (disch := omega) only [writesS, if_pos, if_neg] at hQ
      exact hQ
  · refine aw_aload_n (pc' := 5) rfl dX13_writes_4 rfl ?_
    refine aw_geti (pc' := 8) (k9 := 36) dX13_writes_5 rfl fX13_269 rfl (by decide) rfl (MO (A := (lift A s)) hM) ?_
    try simp (disch := omega) only [hv_in, lift_set, sset_e, sset_1, sset_2]
    refine aw_bipush (pc' := 10) (by decide +kernel) dX13_writes_8 rfl ?_
    refine aw_icmp_ge (pt := 74) (pf := 13) dX13_writes_10 (by decide) rfl (fun c_10 => ?_) (fun c_10 => ?_)
    · refine AW.ret none dX13_writes_74 trivial ?_
      try simp (disch := omega) only [hv_in, lift_set, sset_e, sset_1, sset_2]
      simp (disch := omega) only [writesS, if_pos, if_neg] at hQ
      exact hQ
    · refine aw_aload_n (pc' := 14) rfl dX13_writes_13 rfl ?_
      refine aw_getp (pc' := 17) (k9 := 35) (p := 331) dX13_writes_14 rfl fX13_117 rfl rfl rfl (MO (A := (lift A s)) hM) (M_out (A := (lift A s)) hM) ?_
      refine aw_aload_n (pc' := 18) rfl dX13_writes_17 rfl ?_
      refine aw_geti (pc' := 21) (k9 := 36) dX13_writes_18 rfl fX13_269 rfl (by decide) rfl (MO (A := (lift A s)) hM) ?_
      try simp (disch := omega) only [hv_in, lift_set, sset_e, sset_1, sset_2]
      refine aw_iload_n (pc' := 22) rfl dX13_writes_21 rfl ?_
      refine aw_iast (pc' := 23) dX13_writes_22 rfl (MA_out (A := (lift A s)) hM) (by omega) (by omega) ?_
      refine aw_aload_n (pc' := 24) rfl dX13_writes_23 rfl ?_
      refine aw_dup (pc' := 25) rfl dX13_writes_24 rfl ?_
      refine aw_geti (pc' := 28) (k9 := 36) dX13_writes_25 rfl fX13_269 rfl (by decide) rfl (MO (A := (lift A s)) hM) ?_
      try simp (disch := omega) only [hv_in, lift_set, sset_e, sset_1, sset_2]
      refine aw_iconst (pc' := 29) (by decide) dX13_writes_28 rfl ?_
      refine aw_iadd (pc' := 30) (by first | exact w32_id (by omega) (by omega) | rfl) dX13_writes_29 rfl ?_
      refine aw_puti (pc' := 33) (k9 := 36) dX13_writes_30 rfl fX13_269 rfl rfl rfl (MO (A := (lift A s)) hM) ?_
      refine aw_goto (pc' := 74) dX13_writes_33 (by decide) ?_
      refine AW.ret none dX13_writes_74 trivial ?_
      try simp (disch := omega) only [hv_in, lift_set, sset_e, sset_1, sset_2]
      simp (disch := omega) only [writesS, if_pos, if_neg] at hQ
      exact hQ

set_option maxRecDepth 20000 in
theorem c_stageAt {d : Nat} {p k : Int} {A : AHp} {s : Sg} {Q : Option AV → AHp → Prop} (hd : 0 ≤ d) (hM : MLAY A) (h1 : 0 ≤ p ∧ p < 480) (hQ : Q (some (vi (stAt s p k))) (lift A s)) : CALL d mX13_stageAt [vr 307, vi p, vi k] (lift A s) Q := by
  refine CALL.of (by decide) (Nat.le_of_ble_eq_true rfl) ?_
  change AW d mX13_stageAt 0 [some (vr 307), some (vi p), some (vi k)] [] (lift A s) Q
  refine aw_aload_n (pc' := 1) rfl dX13_stageAt_0 rfl ?_
  refine aw_getp (pc' := 4) (k9 := 4) (p := 312) dX13_stageAt_1 rfl fX13_55 rfl rfl rfl (MO (A := (lift A s)) hM) (M_stageFirst (A := (lift A s)) hM) ?_
  refine aw_iload_n (pc' := 5) rfl dX13_stageAt_4 rfl ?_
  refine aw_iald (pc' := 6) dX13_stageAt_5 rfl (MA_stageFirst (A := (lift A s)) hM) (by omega) (by omega) ?_
  try simp (disch := omega) only [hv_in, lift_set, sset_e, sset_1, sset_2]
  refine aw_iload_n (pc' := 7) rfl dX13_stageAt_6 rfl ?_
  refine aw_iadd (pc' := 8) rfl dX13_stageAt_7 rfl ?_
  refine AW.ret (some (vi _)) dX13_stageAt_8 trivial ?_
  exact hQ

set_option maxRecDepth 20000 in
theorem c_isOn {d : Nat} {j t : Int} {A : AHp} {Q : Option AV → AHp → Prop} (hd : 0 ≤ d) (h1 : onS j t = true → Q (some (vi 1)) A) (h0 : onS j t = false → Q (some (vi 0)) A) : CALL d mX13_isOn [vi j, vi t] A Q := by
  refine CALL.of (by decide) (Nat.le_of_ble_eq_true rfl) ?_
  change AW d mX13_isOn 0 [some (vi j), some (vi t)] [] A Q
  refine aw_iload_n (pc' := 1) rfl dX13_isOn_0 rfl ?_
  refine aw_bipush (pc' := 3) (by decide +kernel) dX13_isOn_1 rfl ?_
  refine aw_icmp_eq (pt := 29) (pf := 6) dX13_isOn_3 (by decide) rfl (fun c_3 => ?_) (fun c_3 => ?_)
  · refine aw_iconst (pc' := 30) (by decide) dX13_isOn_29 rfl ?_
    refine aw_goto (pc' := 34) dX13_isOn_30 (by decide) ?_
    refine AW.ret (some (vi _)) dX13_isOn_34 (Or.inr rfl) ?_
    refine h1 ?_
    unfold onS
    first | (rw [decide_eq_true_iff]; omega) | (rw [decide_eq_false_iff_not]; omega)
  · refine aw_iload_n (pc' := 7) rfl dX13_isOn_6 rfl ?_
    refine aw_bipush (pc' := 9) (by decide +kernel) dX13_isOn_7 rfl ?_
    refine aw_icmp_ne (pt := 16) (pf := 12) dX13_isOn_9 (by decide) rfl (fun c_9 => ?_) (fun c_9 => ?_)
    · refine aw_iconst (pc' := 17) (by decide) dX13_isOn_16 rfl ?_
      refine aw_iload_n (pc' := 18) rfl dX13_isOn_17 rfl ?_
      refine aw_if_ne (pt := 25) (pf := 21) dX13_isOn_18 (by decide) rfl (fun c_18 => ?_) (fun c_18 => ?_)
      · refine aw_iconst (pc' := 26) (by decide) dX13_isOn_25 rfl ?_
        refine aw_icmp_ne (pt := 33) (pf := 29) dX13_isOn_26 (by decide) rfl (fun c_26 => absurd c_26 (by decide)) (fun _ => ?_)
        refine aw_iconst (pc' := 30) (by decide) dX13_isOn_29 rfl ?_
        refine aw_goto (pc' := 34) dX13_isOn_30 (by decide) ?_
        refine AW.ret (some (vi _)) dX13_isOn_34 (Or.inr rfl) ?_
        refine h1 ?_
        unfold onS
        first | (rw [decide_eq_true_iff]; omega) | (rw [decide_eq_false_iff_not]; omega)
      · replace c_18 := Classical.not_not.mp c_18
        refine aw_iconst (pc' := 22) (by decide) dX13_isOn_21 rfl ?_
        refine aw_goto (pc' := 26) dX13_isOn_22 (by decide) ?_
        refine aw_icmp_ne (pt := 33) (pf := 29) dX13_isOn_26 (by decide) rfl (fun _ => ?_) (fun c_26 => absurd (by decide) c_26)
        refine aw_iconst (pc' := 34) (by decide) dX13_isOn_33 rfl ?_
        refine AW.ret (some (vi _)) dX13_isOn_34 (Or.inl rfl) ?_
        refine h0 ?_
        unfold onS
        first | (rw [decide_eq_true_iff]; omega) | (rw [decide_eq_false_iff_not]; omega)
    · replace c_9 := Classical.not_not.mp c_9
      refine aw_iconst (pc' := 13) (by decide) dX13_isOn_12 rfl ?_
      refine aw_goto (pc' := 17) dX13_isOn_13 (by decide) ?_
      refine aw_iload_n (pc' := 18) rfl dX13_isOn_17 rfl ?_
      refine aw_if_ne (pt := 25) (pf := 21) dX13_isOn_18 (by decide) rfl (fun c_18 => ?_) (fun c_18 => ?_)
      · refine aw_iconst (pc' := 26) (by decide) dX13_isOn_25 rfl ?_
        refine aw_icmp_ne (pt := 33) (pf := 29) dX13_isOn_26 (by decide) rfl (fun _ => ?_) (fun c_26 => absurd (by decide) c_26)
        refine aw_iconst (pc' := 34) (by decide) dX13_isOn_33 rfl ?_
        refine AW.ret (some (vi _)) dX13_isOn_34 (Or.inl rfl) ?_
        refine h0 ?_
        unfold onS
        first | (rw [decide_eq_true_iff]; omega) | (rw [decide_eq_false_iff_not]; omega)
      · replace c_18 := Classical.not_not.mp c_18
        refine aw_iconst (pc' := 22) (by decide) dX13_isOn_21 rfl ?_
        refine aw_goto (pc' := 26) dX13_isOn_22 (by decide) ?_
        refine aw_icmp_ne (pt := 33) (pf := 29) dX13_isOn_26 (by decide) rfl (fun c_26 => absurd c_26 (by decide)) (fun _ => ?_)
        refine aw_iconst (pc' := 30) (by decide) dX13_isOn_29 rfl ?_
        refine aw_goto (pc' := 34) dX13_isOn_30 (by decide) ?_
        refine AW.ret (some (vi _)) dX13_isOn_34 (Or.inr rfl) ?_
        refine h1 ?_
        unfold onS
        first | (rw [decide_eq_true_iff]; omega) | (rw [decide_eq_false_iff_not]; omega)

/-- what the tables say of a pipe -/
def PTB (s : Sg) (p : Int) : Prop := 0 ≤ p ∧ p < 480 ∧ 1 ≤ s 313 p ∧ s 313 p ≤ 6 ∧ 0 ≤ s 312 p ∧ s 312 p + s 313 p ≤ 480 ∧
  ∀ k, 0 ≤ k → k < s 313 p → 0 ≤ s 316 (s 312 p + k) ∧ s 316 (s 312 p + k) ≤ 4 ∧ 0 ≤ s 314 (s 312 p + k) ∧ s 314 (s 312 p + k) ≤ 14 ∧ ∀ i, 0 ≤ i → i < s 316 (s 312 p + k) → -6 ≤ s 317 (4 * (s 312 p + k) + i)
theorem workS_o {s : Sg} {fr k st par : Int} {n : Nat} {o j : Int} (h : o ≠ 325) : workS s fr k st par n o j = s o j := by
  induction n with
  | zero => rfl
  | succ n ih => unfold workS; rw [sset_1 h, ih]
theorem oneS_o {s : Sg} {fr k st par o j : Int} (h : o < 325 ∨ 328 < o) : oneS s fr k st par o j = s o j := by
  unfold oneS clearS
  simp (disch := omega) only [sset_1, workS_o]
theorem stagesS_o {s : Sg} {fr p par : Int} {n : Nat} {o j : Int} (h : o < 325 ∨ 328 < o) : stagesS s fr p par n o j = s o j := by
  induction n with
  | zero => rfl
  | succ n ih => unfold stagesS; rw [oneS_o h, ih]
theorem beginsS_o {s : Sg} {fr p par : Int} {o j : Int} (h : o < 323 ∨ 330 < o ∨ o = 329) : beginsS s fr p par o j = s o j := by
  unfold beginsS
  simp (disch := omega) only [stagesS_o, sset_1]
theorem stAt_id {s : Sg} {p k : Int} (hP : PTB s p) (h : 0 ≤ k ∧ k < s 313 p) : stAt s p k = s 312 p + k := by
  obtain ⟨h1, h2, h3, h4, h5, h6, _⟩ := hP
  exact w32_id (by omega) (by omega)
theorem work_step {A : AHp} {s : Sg} {fr k st par i y : Int} {n : Nat} (hi : i = n) (hy : y = worthS s par (s 317 (4 * st + i))) :
    lift A (sset (workS s fr k st par n) 325 (24 * fr + 4 * k + i) y) = lift A (workS s fr k st par (n + 1)) := by
  subst hi
  rw [hy]
  conv => rhs; unfold workS
  have e1 : worthS (workS s fr k st par n) par (workS s fr k st par n 317 (4 * st + n)) = worthS s par (s 317 (4 * st + n)) := by
    rw [workS_o (by omega)]
    unfold worthS
    rw [workS_o (by omega)]
  rw [e1]
set_option maxRecDepth 20000 in
theorem l_begW {d : Nat} {A : AHp} {s : Sg} {fr p par k st : Int} {Q : Option AV → AHp → Prop} : ∀ (m : Nat) (i : Int) (n : Nat), (s 316 st - i).toNat = m → i = n → i ≤ s 316 st → MLAY A → (0 ≤ fr ∧ fr < 28) → (0 ≤ k ∧ k ≤ 5) → (0 ≤ st ∧ st < 480) → (0 ≤ s 316 st ∧ s 316 st ≤ 4) → (∀ i, 0 ≤ i → i < s 316 st → -6 ≤ s 317 (4 * st + i)) → (∀ L7, AW d mX13_begins 126 [some (vr 307), some (vi fr), some (vi p), some (vi par), some (vi k), some (vi st), some (vi (s 316 st)), L7] [] (lift A (workS s fr k st par (s 316 st).toNat)) Q) → ∀ (L7 : Option AV), AW d mX13_begins 47 [some (vr 307), some (vi fr), some (vi p), some (vi par), some (vi k), some (vi st), some (vi i), L7] [] (lift A (workS s fr k st par n)) Q := by
  intro m
  induction m using Nat.strongRecOn with
  | _ m ih =>
    intro i n hm ei hin hM hfr hk hst hmn hnum hE L7
    refine aw_iload (pc' := 49) rfl dX13_begins_47 rfl ?_
    refine aw_aload_n (pc' := 50) rfl dX13_begins_49 rfl ?_
    refine aw_getp (pc' := 53) (k9 := 8) (p := 316) dX13_begins_50 rfl fX13_67 rfl rfl rfl (MO (A := (lift A (workS s fr k st par n))) hM) (M_many (A := (lift A (workS s fr k st par n))) hM) ?_
    refine aw_iload (pc' := 55) rfl dX13_begins_53 rfl ?_
    refine aw_iald (pc' := 56) dX13_begins_55 rfl (MA_many (A := (lift A (workS s fr k st par n))) hM) (by omega) (by omega) ?_
    try simp (disch := omega) only [hv_in, lift_set, sset_e, sset_1, sset_2, workS_o, stagesS_o, beginsS_o]
    refine aw_icmp_ge (pt := 126) (pf := 59) dX13_begins_56 (by decide) rfl (fun c_56 => ?_) (fun c_56 => ?_)
    · have e8 : i = s 316 st := by omega
      have e9 : (s 316 st).toNat = n := by omega
      rw [e9, ← e8] at hE
      exact hE _
    · have hnu := hnum i (by omega) (by omega)
      refine aw_aload_n (pc' := 60) rfl dX13_begins_59 rfl ?_
      refine aw_getp (pc' := 63) (k9 := 9) (p := 317) dX13_begins_60 rfl fX13_70 rfl rfl rfl (MO (A := (lift A (workS s fr k st par n))) hM) (M_number (A := (lift A (workS s fr k st par n))) hM) ?_
      refine aw_iconst (pc' := 64) (by decide) dX13_begins_63 rfl ?_
      refine aw_iload (pc' := 66) rfl dX13_begins_64 rfl ?_
      refine aw_imul (pc' := 67) (by first | exact w32_id (by omega) (by omega) | rfl) dX13_begins_66 rfl ?_
      refine aw_iload (pc' := 69) rfl dX13_begins_67 rfl ?_
      refine aw_iadd (pc' := 70) (by first | exact w32_id (by omega) (by omega) | rfl) dX13_begins_69 rfl ?_
      refine aw_iald (pc' := 71) dX13_begins_70 rfl (MA_number (A := (lift A (workS s fr k st par n))) hM) (by omega) (by omega) ?_
      try simp (disch := omega) only [hv_in, lift_set, sset_e, sset_1, sset_2, workS_o, stagesS_o, beginsS_o]
      refine aw_istore (pc' := 73) (lv' := [_, _, _, _, _, _, _, _]) dX13_begins_71 rfl (by decide) rfl ?_
      refine aw_aload_n (pc' := 74) rfl dX13_begins_73 rfl ?_
      refine aw_getp (pc' := 77) (k9 := 26) (p := 325) dX13_begins_74 rfl fX13_98 rfl rfl rfl (MO (A := (lift A (workS s fr k st par n))) hM) (M_worked (A := (lift A (workS s fr k st par n))) hM) ?_
      refine aw_bipush (pc' := 79) (by decide +kernel) dX13_begins_77 rfl ?_
      refine aw_iload_n (pc' := 80) rfl dX13_begins_79 rfl ?_
      refine aw_imul (pc' := 81) (by first | exact w32_id (by omega) (by omega) | rfl) dX13_begins_80 rfl ?_
      refine aw_iconst (pc' := 82) (by decide) dX13_begins_81 rfl ?_
      refine aw_iload (pc' := 84) rfl dX13_begins_82 rfl ?_
      refine aw_imul (pc' := 85) (by first | exact w32_id (by omega) (by omega) | rfl) dX13_begins_84 rfl ?_
      refine aw_iadd (pc' := 86) (by first | exact w32_id (by omega) (by omega) | rfl) dX13_begins_85 rfl ?_
      refine aw_iload (pc' := 88) rfl dX13_begins_86 rfl ?_
      refine aw_iadd (pc' := 89) (by first | exact w32_id (by omega) (by omega) | rfl) dX13_begins_88 rfl ?_
      refine aw_iload (pc' := 91) rfl dX13_begins_89 rfl ?_
      refine aw_bipush (pc' := 93) (by decide +kernel) dX13_begins_91 rfl ?_
      refine aw_icmp_ne (pt := 100) (pf := 96) dX13_begins_93 (by decide) rfl (fun c_93 => ?_) (fun c_93 => ?_)
      · refine aw_iload (pc' := 102) rfl dX13_begins_100 rfl ?_
        refine aw_if_ge (pt := 117) (pf := 105) dX13_begins_102 (by decide) rfl (fun c_102 => ?_) (fun c_102 => ?_)
        · refine aw_iload (pc' := 119) rfl dX13_begins_117 rfl ?_
          refine aw_iast (pc' := 120) dX13_begins_119 rfl (MA_worked (A := (lift A (workS s fr k st par n))) hM) (by omega) (by omega) ?_
          refine aw_iinc (pc' := 123) (lv' := [_, _, _, _, _, _, _, _]) dX13_begins_120 rfl rfl (by decide) (by first | exact w32_id (by omega) (by omega) | rfl) rfl ?_
          refine aw_goto (pc' := 47) dX13_begins_123 (by decide) ?_
          try simp (disch := omega) only [hv_in, lift_set, sset_e, sset_1, sset_2, workS_o, stagesS_o, beginsS_o]
          rw [work_step ei ?_]
          · exact ih _ (by omega) (i + 1) (n + 1) rfl (by omega) (by omega) hM hfr hk hst hmn hnum hE _
          · unfold worthS
            first | rw [if_pos (by omega)] | rw [if_neg (by omega), if_pos (by omega)] | rw [if_neg (by omega), if_neg (by omega)]
        · refine aw_aload_n (pc' := 106) rfl dX13_begins_105 rfl ?_
          refine aw_getp (pc' := 109) (k9 := 13) (p := 320) dX13_begins_106 rfl fX13_79 rfl rfl rfl (MO (A := (lift A (workS s fr k st par n))) hM) (M_values (A := (lift A (workS s fr k st par n))) hM) ?_
          refine aw_iconst (pc' := 110) (by decide) dX13_begins_109 rfl ?_
          refine aw_iload (pc' := 112) rfl dX13_begins_110 rfl ?_
          refine aw_isub (pc' := 113) (by first | exact w32_id (by omega) (by omega) | rfl) dX13_begins_112 rfl ?_
          refine aw_iald (pc' := 114) dX13_begins_113 rfl (MA_values (A := (lift A (workS s fr k st par n))) hM) (by omega) (by omega) ?_
          try simp (disch := omega) only [hv_in, lift_set, sset_e, sset_1, sset_2, workS_o, stagesS_o, beginsS_o]
          refine aw_goto (pc' := 119) dX13_begins_114 (by decide) ?_
          refine aw_iast (pc' := 120) dX13_begins_119 rfl (MA_worked (A := (lift A (workS s fr k st par n))) hM) (by omega) (by omega) ?_
          refine aw_iinc (pc' := 123) (lv' := [_, _, _, _, _, _, _, _]) dX13_begins_120 rfl rfl (by decide) (by first | exact w32_id (by omega) (by omega) | rfl) rfl ?_
          refine aw_goto (pc' := 47) dX13_begins_123 (by decide) ?_
          try simp (disch := omega) only [hv_in, lift_set, sset_e, sset_1, sset_2, workS_o, stagesS_o, beginsS_o]
          rw [work_step ei ?_]
          · exact ih _ (by omega) (i + 1) (n + 1) rfl (by omega) (by omega) hM hfr hk hst hmn hnum hE _
          · unfold worthS
            first | rw [if_pos (by omega)] | rw [if_neg (by omega), if_pos (by omega)] | rw [if_neg (by omega), if_neg (by omega)]
      · replace c_93 := Classical.not_not.mp c_93
        refine aw_iload_n (pc' := 97) rfl dX13_begins_96 rfl ?_
        refine aw_goto (pc' := 119) dX13_begins_97 (by decide) ?_
        refine aw_iast (pc' := 120) dX13_begins_119 rfl (MA_worked (A := (lift A (workS s fr k st par n))) hM) (by omega) (by omega) ?_
        refine aw_iinc (pc' := 123) (lv' := [_, _, _, _, _, _, _, _]) dX13_begins_120 rfl rfl (by decide) (by first | exact w32_id (by omega) (by omega) | rfl) rfl ?_
        refine aw_goto (pc' := 47) dX13_begins_123 (by decide) ?_
        try simp (disch := omega) only [hv_in, lift_set, sset_e, sset_1, sset_2, workS_o, stagesS_o, beginsS_o]
        rw [work_step ei ?_]
        · exact ih _ (by omega) (i + 1) (n + 1) rfl (by omega) (by omega) hM hfr hk hst hmn hnum hE _
        · unfold worthS
          first | rw [if_pos (by omega)] | rw [if_neg (by omega), if_pos (by omega)] | rw [if_neg (by omega), if_neg (by omega)]
