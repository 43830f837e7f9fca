/-! ===== the reference: lists go ===== -/
theorem flow_s {nx : Sg → Int → Int → Option (Int × Sg)} {s t : Sg} {fr at9 k : Int} {m : Nat} (h : flowS nx fr at9 k m s = some t) : ∃ m' x r, m = m' + 1 ∧ nx s fr k = some (x, r) ∧ (if x = (-9223372036854775808) then some r else grd ((0 ≤ r 307 36 ∧ r 307 36 ≤ 60) ∧ at9 < 28 ∧ (0 ≤ at9 → 0 ≤ r 330 at9 ∧ r 330 at9 ≤ 60)) (flowS nx fr at9 k m' (writesS r at9 (w32 x)))) = some t := by
  cases m with
  | zero => simp [flowS] at h
  | succ m =>
    unfold flowS at h
    obtain ⟨⟨x, r⟩, h1, h2⟩ := Option.bind_eq_some_iff.mp h
    exact ⟨m, x, r, rfl, h1, h2⟩
theorem pipe_s {nx : Sg → Int → Int → Option (Int × Sg)} {s t : Sg} {p par fr at9 z : Int} (h : pipeS nx p par fr at9 s = some (z, t)) : ((0 ≤ fr ∧ fr < 28) ∧ PTB s p) ∧ flowS nx fr at9 (s 313 p - 1) 200 (beginsS (sset s 307 32 (w32 (s 307 32 - 1))) fr p par) = some t ∧ z = t 328 (6 * fr + (s 313 p - 1)) := by
  unfold pipeS at h
  simp only at h
  obtain ⟨h1, h2⟩ := grd_some h
  refine ⟨h1, ?_⟩
  obtain ⟨r, h3, h4⟩ := Option.bind_eq_some_iff.mp h2
  rw [Option.some.injEq, Prod.mk.injEq] at h4
  obtain ⟨h5, h6⟩ := h4
  subst h6
  rw [beginsS_o (by omega), sset_1 (by omega)] at h3 h5
  exact ⟨h3, h5.symm⟩
theorem list_s {nx : Sg → Int → Int → Option (Int × Sg)} {s t : Sg} {par fr at9 p st z : Int} {m : Nat} (h : listS nx par fr at9 m p st s = some (z, t)) : ∃ m', m = m' + 1 ∧ ((p < 0 ∧ z = st ∧ t = s) ∨ (0 ≤ p ∧ p < 480 ∧ ∃ st2 r, (if onS (s 311 p) st then (if s 307 32 = 0 then some (8, s) else pipeS nx p par fr at9 s) else some (st, s)) = some (st2, r) ∧ listS nx par fr at9 m' (r 310 p) st2 r = some (z, t))) := by
  cases m with
  | zero => simp [listS] at h
  | succ m =>
    refine ⟨m, rfl, ?_⟩
    unfold listS at h
    by_cases e : p < 0
    · rw [if_pos e, Option.some.injEq, Prod.mk.injEq] at h
      exact Or.inl ⟨e, h.1.symm, h.2.symm⟩
    · rw [if_neg e] at h
      obtain ⟨h1, h2⟩ := grd_some h
      obtain ⟨⟨a, r⟩, h3, h4⟩ := Option.bind_eq_some_iff.mp h2
      exact Or.inr ⟨by omega, h1, a, r, h3, h4⟩
set_option maxRecDepth 20000 in
theorem l_flow {d : Nat} {A : AHp} {nx : Sg → Int → Int → Option (Int × Sg)} {K : Nat} {p par fr at9 k : Int} {t : Sg} {Q : Option AV → AHp → Prop} : ∀ (m : Nat) (x : Int) (r : Sg), K + 2 ≤ d → MLAY A → NXC nx K → (0 ≤ fr ∧ fr < 28) → (0 ≤ k ∧ k ≤ 5) → (if x = (-9223372036854775808) then some r else grd ((0 ≤ r 307 36 ∧ r 307 36 ≤ 60) ∧ at9 < 28 ∧ (0 ≤ at9 → 0 ≤ r 330 at9 ∧ r 330 at9 ≤ 60)) (flowS nx fr at9 k m (writesS r at9 (w32 x)))) = some t → Q (some (vi (t 328 (6 * fr + k)))) (lift A t) → AW d mX13_pipeGoes 36 [some (vr 307), some (vi p), some (vi par), some (vi fr), some (vi at9), some (vi k), some (vl x), none] [] (lift A r) Q := by
  intro m
  induction m using Nat.strongRecOn with
  | _ m ih =>
    intro x r hd hM hN hfr hk h hQ
    refine aw_lload (pc' := 38) rfl dX13_pipeGoes_36 rfl ?_
    refine aw_ldc2 (x := (-9223372036854775808)) (pc' := 41) qX13_267 (by decide) dX13_pipeGoes_38 rfl ?_
    refine aw_lcmp (pc' := 42) dX13_pipeGoes_41 rfl ?_
    refine aw_if_eq (pt := 66) (pf := 45) dX13_pipeGoes_42 (by decide) rfl (fun c_42 => ?_) (fun c_42 => ?_)
    · replace c_42 := (cmp_eq).mp c_42
      refine aw_aload_n (pc' := 67) rfl dX13_pipeGoes_66 rfl ?_
      refine aw_getp (pc' := 70) (k9 := 29) (p := 328) dX13_pipeGoes_67 rfl fX13_108 rfl rfl rfl (MO (A := (lift A r)) hM) (M_status (A := (lift A r)) hM) ?_
      refine aw_bipush (pc' := 72) (by decide +kernel) dX13_pipeGoes_70 rfl ?_
      refine aw_iload_n (pc' := 73) rfl dX13_pipeGoes_72 rfl ?_
      refine aw_imul (pc' := 74) (by first | exact w32_id (by omega) (by omega) | rfl) dX13_pipeGoes_73 rfl ?_
      refine aw_iload (pc' := 76) rfl dX13_pipeGoes_74 rfl ?_
      refine aw_iadd (pc' := 77) (by first | exact w32_id (by omega) (by omega) | rfl) dX13_pipeGoes_76 rfl ?_
      refine aw_iald (pc' := 78) dX13_pipeGoes_77 rfl (MA_status (A := (lift A r)) hM) (by omega) (by omega) ?_
      try simp (disch := omega) only [hv_in, lift_set, sset_e, sset_1, sset_2, workS_o, stagesS_o, beginsS_o]
      refine AW.ret (some (vi _)) dX13_pipeGoes_78 trivial ?_
      rw [if_pos (by omega), Option.some.injEq] at h
      subst h
      exact hQ
    · replace c_42 := (not_congr cmp_eq).mp c_42
      refine aw_aload_n (pc' := 46) rfl dX13_pipeGoes_45 rfl ?_
      refine aw_iload (pc' := 48) rfl dX13_pipeGoes_46 rfl ?_
      refine aw_lload (pc' := 50) rfl dX13_pipeGoes_48 rfl ?_
      refine aw_l2i (pc' := 51) (by first | exact w32_id (by omega) (by omega) | rfl) dX13_pipeGoes_50 rfl ?_
      refine aw_callV (ci := 11) (d' := d - 1) (as := [_, _]) (pc' := 54) (by decide) rfl kX13_writes iX13_writes sX13_writes lX13_325 (MO (A := (lift A r)) hM) dX13_pipeGoes_51 rfl rfl (Nat.le_of_ble_eq_true rfl) (by omega) ?_
      rw [if_neg (by omega)] at h
      obtain ⟨⟨h1, h2, h3⟩, h⟩ := grd_some h
      obtain ⟨m1, x1, r1, g1, g2, g3⟩ := flow_s h
      refine c_writes (by omega) hM h1 h2 h3 ?_
      refine aw_aload_n (pc' := 55) rfl dX13_pipeGoes_54 rfl ?_
      refine aw_iload_n (pc' := 56) rfl dX13_pipeGoes_55 rfl ?_
      refine aw_iload (pc' := 58) rfl dX13_pipeGoes_56 rfl ?_
      refine aw_callV (ci := 11) (d' := d - 1) (as := [_, _]) (pc' := 61) (by decide) rfl kX13_next iX13_next sX13_next lX13_275 (MO (A := (lift A r)) hM) dX13_pipeGoes_58 rfl rfl (Nat.le_of_ble_eq_true rfl) (by omega) ?_
      refine hN _ A _ _ _ _ _ _ (by omega) hM g2 ?_
      refine aw_lstore (pc' := 63) (lv' := [_, _, _, _, _, _, _, _]) dX13_pipeGoes_61 rfl (by decide) rfl ?_
      refine aw_goto (pc' := 36) dX13_pipeGoes_63 (by decide) ?_
      exact ih m1 (by omega) _ _ hd hM hN hfr hk g3 hQ

set_option maxRecDepth 20000 in
theorem c_pipeGoes {d : Nat} {nx : Sg → Int → Int → Option (Int × Sg)} {K : Nat} {p par fr at9 z : Int} {t : Sg} {A : AHp} {s : Sg} {Q : Option AV → AHp → Prop} (hd : K + 2 ≤ d) (hM : MLAY A) (hN : NXC nx K) (h : pipeS nx p par fr at9 s = some (z, t)) (hQ : Q (some (vi z)) (lift A t)) : CALL d mX13_pipeGoes [vr 307, vi p, vi par, vi fr, vi at9] (lift A s) Q := by
  refine CALL.of (by decide) (Nat.le_of_ble_eq_true rfl) ?_
  change AW d mX13_pipeGoes 0 [some (vr 307), some (vi p), some (vi par), some (vi fr), some (vi at9), none, none, none] [] (lift A s) Q
  obtain ⟨⟨hfr, hP⟩, hfl, hz⟩ := pipe_s h
  subst hz
  have h1 := hP.1
  have h2 := hP.2.1
  have h3 := hP.2.2.1
  have h4 := hP.2.2.2.1
  refine aw_aload_n (pc' := 1) rfl dX13_pipeGoes_0 rfl ?_
  refine aw_dup (pc' := 2) rfl dX13_pipeGoes_1 rfl ?_
  refine aw_geti (pc' := 5) (k9 := 32) dX13_pipeGoes_2 rfl fX13_315 rfl (by decide) rfl (MO (A := (lift A s)) hM) ?_
  try simp (disch := omega) only [hv_in, lift_set, sset_e, sset_1, sset_2, workS_o, stagesS_o, beginsS_o]
  refine aw_iconst (pc' := 6) (by decide) dX13_pipeGoes_5 rfl ?_
  refine aw_isub (pc' := 7) rfl dX13_pipeGoes_6 rfl ?_
  refine aw_puti (pc' := 10) (k9 := 32) dX13_pipeGoes_7 rfl fX13_315 rfl rfl rfl (MO (A := (lift A s)) hM) ?_
  refine aw_aload_n (pc' := 11) rfl dX13_pipeGoes_10 rfl ?_
  refine aw_iload_n (pc' := 12) rfl dX13_pipeGoes_11 rfl ?_
  refine aw_iload_n (pc' := 13) rfl dX13_pipeGoes_12 rfl ?_
  refine aw_iload_n (pc' := 14) rfl dX13_pipeGoes_13 rfl ?_
  refine aw_callV (ci := 11) (d' := d - 1) (as := [_, _, _]) (pc' := 17) (by decide) rfl kX13_begins iX13_begins sX13_begins lX13_321 (MO (A := (lift A s)) hM) dX13_pipeGoes_14 rfl rfl (Nat.le_of_ble_eq_true rfl) (by omega) ?_
  try simp (disch := omega) only [hv_in, lift_set, sset_e, sset_1, sset_2, workS_o, stagesS_o, beginsS_o]
  have hP2 : PTB (sset s 307 32 (w32 (s 307 32 - 1))) p := by
    unfold PTB at hP ⊢
    simp (disch := omega) only [sset_1]
    exact hP
  refine c_begins (by omega) hM hfr hP2 ?_
  refine aw_aload_n (pc' := 18) rfl dX13_pipeGoes_17 rfl ?_
  refine aw_getp (pc' := 21) (k9 := 5) (p := 313) dX13_pipeGoes_18 rfl fX13_58 rfl rfl rfl (MO (A := (lift A s)) hM) (M_stageMany (A := (lift A s)) hM) ?_
  refine aw_iload_n (pc' := 22) rfl dX13_pipeGoes_21 rfl ?_
  refine aw_iald (pc' := 23) dX13_pipeGoes_22 rfl (MA_stageMany (A := (lift A s)) hM) (by omega) (by omega) ?_
  try simp (disch := omega) only [hv_in, lift_set, sset_e, sset_1, sset_2, workS_o, stagesS_o, beginsS_o]
  refine aw_iconst (pc' := 24) (by decide) dX13_pipeGoes_23 rfl ?_
  refine aw_isub (pc' := 25) (by first | exact w32_id (by omega) (by omega) | rfl) dX13_pipeGoes_24 rfl ?_
  refine aw_istore (pc' := 27) (lv' := [_, _, _, _, _, _, _, _]) dX13_pipeGoes_25 rfl (by decide) rfl ?_
  refine aw_aload_n (pc' := 28) rfl dX13_pipeGoes_27 rfl ?_
  refine aw_iload_n (pc' := 29) rfl dX13_pipeGoes_28 rfl ?_
  refine aw_iload (pc' := 31) rfl dX13_pipeGoes_29 rfl ?_
  refine aw_callV (ci := 11) (d' := d - 1) (as := [_, _]) (pc' := 34) (by decide) rfl kX13_next iX13_next sX13_next lX13_275 (MO (A := (lift A s)) hM) dX13_pipeGoes_31 rfl rfl (Nat.le_of_ble_eq_true rfl) (by omega) ?_
  obtain ⟨m1, x1, r1, g1, g2, g3⟩ := flow_s hfl
  refine hN _ A _ _ _ _ _ _ (by omega) hM g2 ?_
  refine aw_lstore (pc' := 36) (lv' := [_, _, _, _, _, _, _, _]) dX13_pipeGoes_34 rfl (by decide) rfl ?_
  exact l_flow m1 x1 r1 hd hM hN hfr (by omega) g3 hQ

set_option maxRecDepth 20000 in
theorem l_list {d : Nat} {A : AHp} {nx : Sg → Int → Int → Option (Int × Sg)} {K : Nat} {l par fr at9 z : Int} {t : Sg} {Q : Option AV → AHp → Prop} : ∀ (m : Nat) (st p : Int) (s : Sg), K + 3 ≤ d → MLAY A → NXC nx K → listS nx par fr at9 m p st s = some (z, t) → Q (some (vi z)) (lift A t) → AW d mX13_goes 11 [some (vr 307), some (vi l), some (vi par), some (vi fr), some (vi at9), some (vi st), some (vi p)] [] (lift A s) Q := by
  intro m
  induction m using Nat.strongRecOn with
  | _ m ih =>
    intro st p s hd hM hN h hQ
    obtain ⟨m1, e1, g⟩ := list_s h
    refine aw_iload (pc' := 13) rfl dX13_goes_11 rfl ?_
    refine aw_if_lt (pt := 67) (pf := 16) dX13_goes_13 (by decide) rfl (fun c_13 => ?_) (fun c_13 => ?_)
    · 
      refine aw_iload (pc' := 69) rfl dX13_goes_67 rfl ?_
      refine AW.ret (some (vi _)) dX13_goes_69 trivial ?_
      rcases g with ⟨_, g1, g2⟩ | ⟨g1, _⟩
      · subst g1 g2
        exact hQ
      · omega
    · 
      refine aw_aload_n (pc' := 17) rfl dX13_goes_16 rfl ?_
      refine aw_getp (pc' := 20) (k9 := 3) (p := 311) dX13_goes_17 rfl fX13_52 rfl rfl rfl (MO (A := (lift A s)) hM) (M_joint (A := (lift A s)) hM) ?_
      refine aw_iload (pc' := 22) rfl dX13_goes_20 rfl ?_
      refine aw_iald (pc' := 23) dX13_goes_22 rfl (MA_joint (A := (lift A s)) hM) (by omega) (by omega) ?_
      try simp (disch := omega) only [hv_in, lift_set, sset_e, sset_1, sset_2, workS_o, stagesS_o, beginsS_o]
      refine aw_iload (pc' := 25) rfl dX13_goes_23 rfl ?_
      refine aw_callS (d' := d - 1) (as := [_, _]) (pc' := 28) kX13_isOn tX13_isOn lX13_312 dX13_goes_25 rfl rfl (Nat.le_of_ble_eq_true rfl) (by omega) ?_
      obtain ⟨g1, g2, st2, r, g4, g5⟩ : 0 ≤ p ∧ p < 480 ∧ ∃ st2 r, (if onS (s 311 p) st then (if s 307 32 = 0 then some (8, s) else pipeS nx p par fr at9 s) else some (st, s)) = some (st2, r) ∧ listS nx par fr at9 m1 (r 310 p) st2 r = some (z, t) := by
        rcases g with ⟨g, _⟩ | g
        · omega
        · exact g
      refine c_isOn (by omega) (fun gon => ?_) (fun gon => ?_)
      · refine aw_if_eq (pt := 55) (pf := 31) dX13_goes_28 (by decide) rfl (fun c_28 => absurd c_28 (by decide)) (fun _ => ?_)
        refine aw_aload_n (pc' := 32) rfl dX13_goes_31 rfl ?_
        refine aw_geti (pc' := 35) (k9 := 32) dX13_goes_32 rfl fX13_315 rfl (by decide) rfl (MO (A := (lift A s)) hM) ?_
        try simp (disch := omega) only [hv_in, lift_set, sset_e, sset_1, sset_2, workS_o, stagesS_o, beginsS_o]
        refine aw_if_ne (pt := 43) (pf := 38) dX13_goes_35 (by decide) rfl (fun c_35 => ?_) (fun c_35 => ?_)
        · refine aw_aload_n (pc' := 44) rfl dX13_goes_43 rfl ?_
          refine aw_iload (pc' := 46) rfl dX13_goes_44 rfl ?_
          refine aw_iload_n (pc' := 47) rfl dX13_goes_46 rfl ?_
          refine aw_iload_n (pc' := 48) rfl dX13_goes_47 rfl ?_
          refine aw_iload (pc' := 50) rfl dX13_goes_48 rfl ?_
          refine aw_callV (ci := 11) (d' := d - 1) (as := [_, _, _, _]) (pc' := 53) (by decide) rfl kX13_pipeGoes iX13_pipeGoes sX13_pipeGoes lX13_318 (MO (A := (lift A s)) hM) dX13_goes_50 rfl rfl (Nat.le_of_ble_eq_true rfl) (by omega) ?_
          rw [if_pos gon, if_neg (by omega)] at g4
          refine c_pipeGoes (by omega) hM hN g4 ?_
          refine aw_istore (pc' := 55) (lv' := [_, _, _, _, _, _, _]) dX13_goes_53 rfl (by decide) rfl ?_
          refine aw_aload_n (pc' := 56) rfl dX13_goes_55 rfl ?_
          refine aw_getp (pc' := 59) (k9 := 2) (p := 310) dX13_goes_56 rfl fX13_49 rfl rfl rfl (MO (A := (lift A s)) hM) (M_listNext (A := (lift A s)) hM) ?_
          refine aw_iload (pc' := 61) rfl dX13_goes_59 rfl ?_
          refine aw_iald (pc' := 62) dX13_goes_61 rfl (MA_listNext (A := (lift A s)) hM) (by omega) (by omega) ?_
          try simp (disch := omega) only [hv_in, lift_set, sset_e, sset_1, sset_2, workS_o, stagesS_o, beginsS_o]
          refine aw_istore (pc' := 64) (lv' := [_, _, _, _, _, _, _]) dX13_goes_62 rfl (by decide) rfl ?_
          refine aw_goto (pc' := 11) dX13_goes_64 (by decide) ?_
          exact ih m1 (by omega) _ _ _ hd hM hN g5 hQ
        · replace c_35 := Classical.not_not.mp c_35
          refine aw_bipush (pc' := 40) (by decide +kernel) dX13_goes_38 rfl ?_
          refine aw_goto (pc' := 53) dX13_goes_40 (by decide) ?_
          refine aw_istore (pc' := 55) (lv' := [_, _, _, _, _, _, _]) dX13_goes_53 rfl (by decide) rfl ?_
          refine aw_aload_n (pc' := 56) rfl dX13_goes_55 rfl ?_
          refine aw_getp (pc' := 59) (k9 := 2) (p := 310) dX13_goes_56 rfl fX13_49 rfl rfl rfl (MO (A := (lift A s)) hM) (M_listNext (A := (lift A s)) hM) ?_
          refine aw_iload (pc' := 61) rfl dX13_goes_59 rfl ?_
          refine aw_iald (pc' := 62) dX13_goes_61 rfl (MA_listNext (A := (lift A s)) hM) (by omega) (by omega) ?_
          try simp (disch := omega) only [hv_in, lift_set, sset_e, sset_1, sset_2, workS_o, stagesS_o, beginsS_o]
          refine aw_istore (pc' := 64) (lv' := [_, _, _, _, _, _, _]) dX13_goes_62 rfl (by decide) rfl ?_
          refine aw_goto (pc' := 11) dX13_goes_64 (by decide) ?_
          first | rw [if_neg (by rw [gon]; decide)] at g4 | rw [if_pos gon, if_pos (by omega)] at g4
          rw [Option.some.injEq, Prod.mk.injEq] at g4
          obtain ⟨q1, q2⟩ := g4
          subst q1 q2
          exact ih m1 (by omega) _ _ _ hd hM hN g5 hQ
      · refine aw_if_eq (pt := 55) (pf := 31) dX13_goes_28 (by decide) rfl (fun _ => ?_) (fun c_28 => absurd (by decide) c_28)
        refine aw_aload_n (pc' := 56) rfl dX13_goes_55 rfl ?_
        refine aw_getp (pc' := 59) (k9 := 2) (p := 310) dX13_goes_56 rfl fX13_49 rfl rfl rfl (MO (A := (lift A s)) hM) (M_listNext (A := (lift A s)) hM) ?_
        refine aw_iload (pc' := 61) rfl dX13_goes_59 rfl ?_
        refine aw_iald (pc' := 62) dX13_goes_61 rfl (MA_listNext (A := (lift A s)) hM) (by omega) (by omega) ?_
        try simp (disch := omega) only [hv_in, lift_set, sset_e, sset_1, sset_2, workS_o, stagesS_o, beginsS_o]
        refine aw_istore (pc' := 64) (lv' := [_, _, _, _, _, _, _]) dX13_goes_62 rfl (by decide) rfl ?_
        refine aw_goto (pc' := 11) dX13_goes_64 (by decide) ?_
        first | rw [if_neg (by rw [gon]; decide)] at g4 | rw [if_pos gon, if_pos (by omega)] at g4
        rw [Option.some.injEq, Prod.mk.injEq] at g4
        obtain ⟨q1, q2⟩ := g4
        subst q1 q2
        exact ih m1 (by omega) _ _ _ hd hM hN g5 hQ
