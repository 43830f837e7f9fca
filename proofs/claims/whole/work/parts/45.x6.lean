/-! ===== the class: runs; heaps of the form cl A v: the shape of A, the slots v ===== -/
def cl (A : AHp) (v : Sg) : AHp := (v, A.2)
theorem hv_cl (A : AHp) (v : Sg) (o k : Int) : hv (cl A v) o k = v o k := rfl
theorem cl_set {A : AHp} {v : Sg} {o k x : Int} : hset (cl A v) o k x = cl A (sset v o k x) := rfl
theorem cl_hv (A : AHp) : cl A (hv A) = A := rfl
theorem cl_lift (A : AHp) (s : Sg) : ∃ v, lift A s = cl A v := ⟨(lift A s).1, rfl⟩
theorem aw_acmp_ne {d : Nat} {M : MD} {pc pt pf : Nat} {lv : LV} {st : List AV} {A : AHp} {Q : Option AV → AHp → Prop} {x y off : Int} (hx9 : 1 ≤ x ∧ x ≤ 15) (hy9 : 1 ≤ y ∧ y ≤ 15) (hd : decode M.2.1 pc = .ok (.if_acmp .ne off, 3)) (ht : (pc : Int) + off = (pt : Int)) (hf : pc + 3 = pf) (kt : ¬ x = y → AW d M pt lv st A Q) (kf : x = y → AW d M pf lv st A Q) : AW d M pc lv (vr y :: vr x :: st) A Q := by
  subst hf
  by_cases hc : x = y
  · refine AW.pure (fun l G p e R s m args below meth c H locs ls C S Qr hC hS hl9 ho hst hva kk => ?_) (kf hc)
    subst hc
    change W p l e R s m args below meth c H locs C S Qr (F0 m pc ls (rR G x :: rR G x :: st.map (rV G)))
    rw [← rO_rf]
    exact lv_acmp_ne hC.1 hC.2.1 hd ht (fun q => absurd rfl q) (fun _ => kk ls hl9 ho (okt (okt hst)))
  · refine AW.pure (fun l G p e R s m args below meth c H locs ls C S Qr hC hS hl9 ho hst hva kk => ?_) (kt hc)
    change W p l e R s m args below meth c H locs C S Qr (F0 m pc ls (rR G y :: rR G x :: st.map (rV G)))
    rw [← rO_rf, ← rO_rf]
    refine lv_acmp_ne hC.1 hC.2.1 hd ht (fun _ => kk ls hl9 ho (okt (okt hst))) (fun q => absurd ?_ hc)
    unfold rO at q
    rw [if_neg (by omega), if_neg (by omega)] at q
    injection q with q
    unfold rA at q
    rw [if_pos (by omega), if_pos (by omega)] at q
    have := hC.2.2.2.2.2.2.1.2.1.1.2 (x - 1).toNat (y - 1).toNat (by show _ < 15; omega) (by show _ < 15; omega) (by show gA G (1 + (x - 1).toNat) = gA G (1 + (y - 1).toNat); rw [show 1 + (x - 1).toNat = x.toNat by omega, show 1 + (y - 1).toNat = y.toNat by omega]; exact q)
    omega
theorem aw_acmp_eq {d : Nat} {M : MD} {pc pt pf : Nat} {lv : LV} {st : List AV} {A : AHp} {Q : Option AV → AHp → Prop} {x y off : Int} (hx9 : 1 ≤ x ∧ x ≤ 15) (hy9 : 1 ≤ y ∧ y ≤ 15) (hd : decode M.2.1 pc = .ok (.if_acmp .eq off, 3)) (ht : (pc : Int) + off = (pt : Int)) (hf : pc + 3 = pf) (kt : x = y → AW d M pt lv st A Q) (kf : ¬ x = y → AW d M pf lv st A Q) : AW d M pc lv (vr y :: vr x :: st) A Q := by
  subst hf
  by_cases hc : x = y
  · refine AW.pure (fun l G p e R s m args below meth c H locs ls C S Qr hC hS hl9 ho hst hva kk => ?_) (kt hc)
    subst hc
    change W p l e R s m args below meth c H locs C S Qr (F0 m pc ls (rR G x :: rR G x :: st.map (rV G)))
    rw [← rO_rf]
    exact lv_acmp_eq hC.1 hC.2.1 hd ht (fun _ => kk ls hl9 ho (okt (okt hst))) (fun q => absurd rfl q)
  · refine AW.pure (fun l G p e R s m args below meth c H locs ls C S Qr hC hS hl9 ho hst hva kk => ?_) (kf hc)
    change W p l e R s m args below meth c H locs C S Qr (F0 m pc ls (rR G y :: rR G x :: st.map (rV G)))
    rw [← rO_rf, ← rO_rf]
    refine lv_acmp_eq hC.1 hC.2.1 hd ht (fun q => absurd ?_ hc) (fun _ => kk ls hl9 ho (okt (okt hst)))
    unfold rO at q
    rw [if_neg (by omega), if_neg (by omega)] at q
    injection q with q
    unfold rA at q
    rw [if_pos (by omega), if_pos (by omega)] at q
    have := hC.2.2.2.2.2.2.1.2.1.1.2 (x - 1).toNat (y - 1).toNat (by show _ < 15; omega) (by show _ < 15; omega) (by show gA G (1 + (x - 1).toNat) = gA G (1 + (y - 1).toNat); rw [show 1 + (x - 1).toNat = x.toNat by omega, show 1 + (y - 1).toNat = y.toNat by omega]; exact q)
    omega
theorem w_ordAll {cls : String} {idx : Nat} (h : Cond.methodLink cls idx ⟨RX11, "ordinal", "()I"⟩ ∈ TB) : ∀ w ∈ ([.methodLink cls idx ⟨RX11, "ordinal", "()I"⟩, .sameMethod RX11 "java/lang/Enum" "ordinal" "()I", .selects RX11 ⟨RX11, "ordinal", "()I"⟩ (mJx29ce0_ordinal_8abf5).1, .instanceMethod (mJx29ce0_ordinal_8abf5).1] : List Cond), w ∈ TB := by
  intro w hw
  simp only [List.mem_cons, List.not_mem_nil, or_false] at hw
  rcases hw with rfl | rfl | rfl | rfl
  · exact h
  · exact w_osame
  · exact w_osel
  · exact iJx29ce0_ordinal_8abf5
theorem sw_tab {o : Int} (h1 : 1 ≤ o) (h2 : o ≤ 15) : o = 1 ∧ swL.getD (o - 1).toNat 0 = 4 ∨ o = 2 ∧ swL.getD (o - 1).toNat 0 = 5 ∨ o = 3 ∧ swL.getD (o - 1).toNat 0 = 12 ∨ o = 4 ∧ swL.getD (o - 1).toNat 0 = 13 ∨ o = 5 ∧ swL.getD (o - 1).toNat 0 = 2 ∨ o = 6 ∧ swL.getD (o - 1).toNat 0 = 14 ∨ o = 7 ∧ swL.getD (o - 1).toNat 0 = 11 ∨ o = 8 ∧ swL.getD (o - 1).toNat 0 = 15 ∨ o = 9 ∧ swL.getD (o - 1).toNat 0 = 3 ∨ o = 10 ∧ swL.getD (o - 1).toNat 0 = 10 ∨ o = 11 ∧ swL.getD (o - 1).toNat 0 = 1 ∨ o = 12 ∧ swL.getD (o - 1).toNat 0 = 7 ∨ o = 13 ∧ swL.getD (o - 1).toNat 0 = 8 ∨ o = 14 ∧ swL.getD (o - 1).toNat 0 = 9 ∨ o = 15 ∧ swL.getD (o - 1).toNat 0 = 6 := by
  have h : o = 1 ∨ o = 2 ∨ o = 3 ∨ o = 4 ∨ o = 5 ∨ o = 6 ∨ o = 7 ∨ o = 8 ∨ o = 9 ∨ o = 10 ∨ o = 11 ∨ o = 12 ∨ o = 13 ∨ o = 14 ∨ o = 15 := by omega
  rcases h with rfl | rfl | rfl | rfl | rfl | rfl | rfl | rfl | rfl | rfl | rfl | rfl | rfl | rfl | rfl <;> simp [swL]
theorem wf_tab {o : Int} (h1 : 1 ≤ o) (h2 : o ≤ 15) : wFun o = if 12 ≤ o ∧ o ≤ 14 then o - 12 else -1 := by
  have h : o = 1 ∨ o = 2 ∨ o = 3 ∨ o = 4 ∨ o = 5 ∨ o = 6 ∨ o = 7 ∨ o = 8 ∨ o = 9 ∨ o = 10 ∨ o = 11 ∨ o = 12 ∨ o = 13 ∨ o = 14 ∨ o = 15 := by omega
  rcases h with rfl | rfl | rfl | rfl | rfl | rfl | rfl | rfl | rfl | rfl | rfl | rfl | rfl | rfl | rfl <;> simp [wFun, wdF]
/-- a stage and a pipe of the class as they were made -/
def STG (A : AHp) (v : Sg) (so : Int) : Prop := 350 ≤ so ∧ isO A so 9 ∧ (1 ≤ hp A so 0 ∧ hp A so 0 ≤ 15) ∧ 350 ≤ hp A so 1 ∧ isA A (hp A so 1) 20 4 ∧ (0 ≤ v so 2 ∧ v so 2 ≤ 4) ∧ ∀ i, 0 ≤ i → i < 4 → -7 ≤ v (hp A so 1) i ∧ v (hp A so 1) i ≤ 999
def PIP (A : AHp) (po : Int) : Prop := 350 ≤ po ∧ isO A po 6 ∧ 350 ≤ hp A po 0 ∧ isA A (hp A po 0) 38 6
def worthX (v : Sg) (ko fo t : Int) : Int := if 0 ≤ t then t else if -1 - t ≤ 4 then v (ko + 1) (-1 - t) else v fo 3

set_option maxRecDepth 20000 in
theorem c_ordinal {d : Nat} {o : Int} {A : AHp} {Q : Option AV → AHp → Prop} (hd : 0 ≤ d) (h1 : 1 ≤ o) (h2 : o ≤ 15) (hQ : Q (some (vi (o - 1))) A) : CALL d mJx29ce0_ordinal_8abf5 [vr o] A Q := by
  refine CALL.ofF (by decide +kernel) (Nat.le_of_ble_eq_true rfl) ?_
  change AW d mJx29ce0_ordinal_8abf5 0 [some (vr o)] [] A Q
  refine aw_aload_n (pc' := 1) rfl dJx29ce0_ordinal_8abf5_0 rfl ?_
  refine aw_wOrd (pc' := 4) (by omega) (by omega) fJx29ce0_7 dJx29ce0_ordinal_8abf5_1 rfl ?_
  refine AW.ret (some (vi _)) dJx29ce0_ordinal_8abf5_4 trivial ?_
  exact hQ

set_option maxRecDepth 20000 in
theorem x_worth {d : Nat} {ko fo t : Int} {A : AHp} {v : Sg} {Q : Option AV → AHp → Prop} (hd : 1 ≤ d) (hK : KeptAt A ko) (hF : FrameAt A fo) (ht : -1000 ≤ t) (hQ : Q (some (vi (worthX v ko fo t))) (cl A v)) : CALL d mX4_worth [vr ko, vr fo, vi t] (cl A v) Q := by
  refine CALL.of (by decide) (Nat.le_of_ble_eq_true rfl) ?_
  change AW d mX4_worth 0 [some (vr ko), some (vr fo), some (vi t), none] [] (cl A v) Q
  refine aw_iload_n (pc' := 1) rfl dX4_worth_0 rfl ?_
  refine aw_if_lt (pt := 6) (pf := 4) dX4_worth_1 (by decide) rfl (fun c_1 => ?_) (fun c_1 => ?_)
  · refine aw_iconst (pc' := 7) (by decide) dX4_worth_6 rfl ?_
    refine aw_iload_n (pc' := 8) rfl dX4_worth_7 rfl ?_
    refine aw_isub (pc' := 9) (by first | exact w32_id (by omega) (by omega) | rfl) dX4_worth_8 rfl ?_
    refine aw_istore_n (pc' := 10) (lv' := [_, _, _, _]) dX4_worth_9 rfl (by decide) rfl ?_
    refine aw_iload_n (pc' := 11) rfl dX4_worth_10 rfl ?_
    refine aw_callSN (d' := d - 1) (as := [_]) (pc' := 14) kX12_isName tX12_isName nX4_142 dX4_worth_11 rfl rfl (Nat.le_of_ble_eq_true rfl) (by omega) ?_
    refine x_isName (by omega)  (fun e1_11 => ?_) (fun e0_11 => ?_)
    · refine aw_if_eq (pt := 26) (pf := 17) dX4_worth_14 (by decide) rfl (fun c_14 => absurd c_14 (by decide)) (fun _ => ?_)
      refine aw_aload_n (pc' := 18) rfl dX4_worth_17 rfl ?_
      refine aw_getp (pc' := 21) (k9 := 0) (p := (ko + 1)) dX4_worth_18 rfl fX4_146 rfl rfl rfl hK.1 hK.2.1.1 ?_
      refine aw_iload_n (pc' := 22) rfl dX4_worth_21 rfl ?_
      refine aw_iald (pc' := 23) dX4_worth_22 rfl hK.2.1.2 (by omega) (by omega) ?_
      try simp (disch := omega) only [hv_cl, cl_set, sset_e, sset_1, sset_2]
      refine aw_goto (pc' := 30) dX4_worth_23 (by decide) ?_
      refine AW.ret (some (vi _)) dX4_worth_30 trivial ?_
      try simp (disch := omega) only [hv_cl, cl_set, sset_e, sset_1, sset_2]
      unfold worthX at hQ
      simp (disch := omega) only [if_pos, if_neg] at hQ
      exact hQ
    · refine aw_if_eq (pt := 26) (pf := 17) dX4_worth_14 (by decide) rfl (fun _ => ?_) (fun c_14 => absurd (by decide) c_14)
      refine aw_aload_n (pc' := 27) rfl dX4_worth_26 rfl ?_
      refine aw_geti (pc' := 30) (k9 := 3) dX4_worth_27 rfl fX4_149 rfl (by decide) rfl hF.1 ?_
      try simp (disch := omega) only [hv_cl, cl_set, sset_e, sset_1, sset_2]
      refine AW.ret (some (vi _)) dX4_worth_30 trivial ?_
      try simp (disch := omega) only [hv_cl, cl_set, sset_e, sset_1, sset_2]
      unfold worthX at hQ
      simp (disch := omega) only [if_pos, if_neg] at hQ
      exact hQ
  · refine aw_iload_n (pc' := 5) rfl dX4_worth_4 rfl ?_
    refine AW.ret (some (vi _)) dX4_worth_5 trivial ?_
    try simp (disch := omega) only [hv_cl, cl_set, sset_e, sset_1, sset_2]
    unfold worthX at hQ
    simp (disch := omega) only [if_pos, if_neg] at hQ
    exact hQ

set_option maxRecDepth 20000 in
theorem x_stFirst {d : Nat} {o n : Int} {A : AHp} {v : Sg} {Q : Option AV → AHp → Prop} (hd : 1 ≤ d) (z3 : 1 ≤ o ∧ o ≤ 15) (hQ : Q (some (vi (statV (o - 1) n))) (cl A v)) : CALL d mX4_statusAtFirst [vr o, vi n] (cl A v) Q := by
  refine CALL.of (by decide) (Nat.le_of_ble_eq_true rfl) ?_
  change AW d mX4_statusAtFirst 0 [some (vr o), some (vi n)] [] (cl A v) Q
  refine aw_gsS (pc' := 3) fX4_152 dX4_statusAtFirst_0 rfl ?_
  refine aw_aload_n (pc' := 4) rfl dX4_statusAtFirst_3 rfl ?_
  refine aw_callOrd (d' := d - 1) (pc' := 7) kJx29ce0_ordinal_8abf5 rfl (w_ordAll lX4_157) (by omega) (by omega) dX4_statusAtFirst_4 rfl (Nat.le_of_ble_eq_true rfl) (by omega) (c_ordinal (by omega) (by omega) (by omega) ?_)
  refine aw_sw (pc' := 8) (by omega) (by omega) dX4_statusAtFirst_7 rfl ?_
  have hsw := sw_tab z3.1 z3.2
  generalize swL.getD (o - 1).toNat 0 = y9 at hsw ⊢
  try simp (disch := omega) only [hv_cl, cl_set, sset_e, sset_1, sset_2]
  by_cases z_8_0 : y9 = 1
  · refine aw_tabIn (pc' := 36) dX4_statusAtFirst_8 (by omega) (by omega) (off := 28) (by rw [z_8_0]; rfl) (by decide) ?_
    refine aw_iload_n (pc' := 37) rfl dX4_statusAtFirst_36 rfl ?_
    refine AW.ret (some (vi _)) dX4_statusAtFirst_37 trivial ?_
    try simp (disch := omega) only [hv_cl, cl_set, sset_e, sset_1, sset_2]
    unfold statV at hQ
    simp (disch := omega) only [if_pos, if_neg] at hQ
    exact hQ
  by_cases z_8_1 : y9 = 2
  · refine aw_tabIn (pc' := 38) dX4_statusAtFirst_8 (by omega) (by omega) (off := 30) (by rw [z_8_1]; rfl) (by decide) ?_
    refine aw_iload_n (pc' := 39) rfl dX4_statusAtFirst_38 rfl ?_
    refine aw_if_ne (pt := 46) (pf := 42) dX4_statusAtFirst_39 (by decide) rfl (fun c_39 => ?_) (fun c_39 => ?_)
    · refine aw_iconst (pc' := 47) (by decide) dX4_statusAtFirst_46 rfl ?_
      refine AW.ret (some (vi _)) dX4_statusAtFirst_47 trivial ?_
      try simp (disch := omega) only [hv_cl, cl_set, sset_e, sset_1, sset_2]
      unfold statV at hQ
      simp (disch := omega) only [if_pos, if_neg] at hQ
      exact hQ
    · replace c_39 := Classical.not_not.mp c_39
      refine aw_iconst (pc' := 43) (by decide) dX4_statusAtFirst_42 rfl ?_
      refine aw_goto (pc' := 47) dX4_statusAtFirst_43 (by decide) ?_
      refine AW.ret (some (vi _)) dX4_statusAtFirst_47 trivial ?_
      try simp (disch := omega) only [hv_cl, cl_set, sset_e, sset_1, sset_2]
      unfold statV at hQ
      simp (disch := omega) only [if_pos, if_neg] at hQ
      exact hQ
  by_cases z_8_2 : y9 = 3
  · refine aw_tabIn (pc' := 48) dX4_statusAtFirst_8 (by omega) (by omega) (off := 40) (by rw [z_8_2]; rfl) (by decide) ?_
    refine aw_iconst (pc' := 49) (by decide) dX4_statusAtFirst_48 rfl ?_
    refine AW.ret (some (vi _)) dX4_statusAtFirst_49 trivial ?_
    try simp (disch := omega) only [hv_cl, cl_set, sset_e, sset_1, sset_2]
    unfold statV at hQ
    simp (disch := omega) only [if_pos, if_neg] at hQ
    exact hQ
  refine aw_tabOut (pc' := 50) dX4_statusAtFirst_8 (by omega) (by decide) ?_
  refine aw_iconst (pc' := 51) (by decide) dX4_statusAtFirst_50 rfl ?_
  refine AW.ret (some (vi _)) dX4_statusAtFirst_51 trivial ?_
  try simp (disch := omega) only [hv_cl, cl_set, sset_e, sset_1, sset_2]
  unfold statV at hQ
  simp (disch := omega) only [if_pos, if_neg] at hQ
  exact hQ

set_option maxRecDepth 20000 in
theorem x_firstOf {d : Nat} {l : Int} {A : AHp} {v : Sg} {Q : Option AV → AHp → Prop} (hd : 0 ≤ d) (hX : XLAY A) (hln : 0 ≤ v 64 1 ∧ v 64 1 ≤ 8) (hls : ∀ j, 0 ≤ j → j < v 64 1 → isO A (v 65 j) 3) (hQ : Q (some (vr (if 0 ≤ l ∧ l < v 64 1 then hp A (v 65 l) 0 else 0))) (cl A v)) : CALL d mX4_firstOf [vr 64, vi l] (cl A v) Q := by
  refine CALL.of (by decide) (Nat.le_of_ble_eq_true rfl) ?_
  change AW d mX4_firstOf 0 [some (vr 64), some (vi l)] [] (cl A v) Q
  refine aw_iload_n (pc' := 1) rfl dX4_firstOf_0 rfl ?_
  refine aw_if_lt (pt := 24) (pf := 4) dX4_firstOf_1 (by decide) rfl (fun c_1 => ?_) (fun c_1 => ?_)
  · refine aw_null (pc' := 25) dX4_firstOf_24 rfl ?_
    refine AW.ret (some (vr _)) dX4_firstOf_25 trivial ?_
    try simp (disch := omega) only [hv_cl, cl_set, sset_e, sset_1, sset_2]
    simp (disch := omega) only [if_pos, if_neg] at hQ
    exact hQ
  · refine aw_iload_n (pc' := 5) rfl dX4_firstOf_4 rfl ?_
    refine aw_aload_n (pc' := 6) rfl dX4_firstOf_5 rfl ?_
    refine aw_geti (pc' := 9) (k9 := 1) dX4_firstOf_6 rfl fX4_24 rfl (by decide) rfl (XO_machine (A := (cl A v)) hX) ?_
    try simp (disch := omega) only [hv_cl, cl_set, sset_e, sset_1, sset_2]
    refine aw_icmp_ge (pt := 24) (pf := 12) dX4_firstOf_9 (by decide) rfl (fun c_9 => ?_) (fun c_9 => ?_)
    · refine aw_null (pc' := 25) dX4_firstOf_24 rfl ?_
      refine AW.ret (some (vr _)) dX4_firstOf_25 trivial ?_
      try simp (disch := omega) only [hv_cl, cl_set, sset_e, sset_1, sset_2]
      simp (disch := omega) only [if_pos, if_neg] at hQ
      exact hQ
    · refine aw_aload_n (pc' := 13) rfl dX4_firstOf_12 rfl ?_
      refine aw_getp (pc' := 16) (k9 := 0) (p := 65) dX4_firstOf_13 rfl fX4_11 rfl rfl rfl (XO_machine (A := (cl A v)) hX) (X_lines (A := (cl A v)) hX) ?_
      refine aw_iload_n (pc' := 17) rfl dX4_firstOf_16 rfl ?_
      refine aw_aald (pc' := 18) (t0 := 5) (fun _ => rfl) (by decide) dX4_firstOf_17 rfl (XA_lines (A := (cl A v)) hX) (by omega) (by omega) ?_
      try simp (disch := omega) only [hv_cl, cl_set, sset_e, sset_1, sset_2]
      have hL9 := hls l (by omega) (by omega)
      try simp (disch := omega) only [hv_cl, cl_set, sset_e, sset_1, sset_2]
      refine aw_getfr (pc' := 21) (k9 := 0) dX4_firstOf_18 rfl fX4_60 rfl rfl rfl hL9 ?_
      try simp (disch := omega) only [hv_cl, cl_set, sset_e, sset_1, sset_2]
      refine aw_goto (pc' := 25) dX4_firstOf_21 (by decide) ?_
      refine AW.ret (some (vr _)) dX4_firstOf_25 trivial ?_
      try simp (disch := omega) only [hv_cl, cl_set, sset_e, sset_1, sset_2]
      simp (disch := omega) only [if_pos, if_neg] at hQ
      exact hQ

set_option maxRecDepth 20000 in
theorem x_open {d : Nat} {fo r par g : Int} {A : AHp} {v : Sg} {Q : Option AV → AHp → Prop} (hd : 0 ≤ d) (hF : FrameAt A fo) (hQ : Q none (cl A (sset (sset (sset (sset (sset v fo 0 r) fo 1 0) fo 2 0) fo 3 par) fo 4 g))) : CALL d mX1_open [vr fo, vr r, vi par, vi g] (cl A v) Q := by
  refine CALL.of (by decide) (Nat.le_of_ble_eq_true rfl) ?_
  change AW d mX1_open 0 [some (vr fo), some (vr r), some (vi par), some (vi g)] [] (cl A v) Q
  refine aw_aload_n (pc' := 1) rfl dX1_open_0 rfl ?_
  refine aw_aload_n (pc' := 2) rfl dX1_open_1 rfl ?_
  refine aw_putr (pc' := 5) (k9 := 0) dX1_open_2 rfl fX1_32 rfl rfl rfl hF.1 ?_
  refine aw_aload_n (pc' := 6) rfl dX1_open_5 rfl ?_
  refine aw_null (pc' := 7) dX1_open_6 rfl ?_
  refine aw_putr (pc' := 10) (k9 := 1) dX1_open_7 rfl fX1_36 rfl rfl rfl hF.1 ?_
  refine aw_aload_n (pc' := 11) rfl dX1_open_10 rfl ?_
  refine aw_iconst (pc' := 12) (by decide) dX1_open_11 rfl ?_
  refine aw_puti (pc' := 15) (k9 := 2) dX1_open_12 rfl fX1_39 rfl rfl rfl hF.1 ?_
  refine aw_aload_n (pc' := 16) rfl dX1_open_15 rfl ?_
  refine aw_iload_n (pc' := 17) rfl dX1_open_16 rfl ?_
  refine aw_puti (pc' := 20) (k9 := 3) dX1_open_17 rfl fX1_43 rfl rfl rfl hF.1 ?_
  refine aw_aload_n (pc' := 21) rfl dX1_open_20 rfl ?_
  refine aw_iload_n (pc' := 22) rfl dX1_open_21 rfl ?_
  refine aw_puti (pc' := 25) (k9 := 4) dX1_open_22 rfl fX1_46 rfl rfl rfl hF.1 ?_
  refine AW.ret none dX1_open_25 trivial ?_
  exact hQ

set_option maxRecDepth 20000 in
theorem x_getsTo {d : Nat} {fo po : Int} {A : AHp} {v : Sg} {Q : Option AV → AHp → Prop} (hd : 0 ≤ d) (hF : FrameAt A fo) (hfo : 66 < fo ∧ fo < 300 ∧ (fo < 201 ∨ 266 < fo)) (hPo : PIP A po) (h1 : onS (v po 2) (v fo 2) = true → Q (some (vi 1)) (cl A (sset v fo 0 (v po 3)))) (h0 : onS (v po 2) (v fo 2) = false → Q (some (vi 0)) (cl A (sset v fo 0 (v po 3)))) : CALL d mX1_getsTo [vr fo, vr po] (cl A v) Q := by
  refine CALL.of (by decide) (Nat.le_of_ble_eq_true rfl) ?_
  change AW d mX1_getsTo 0 [some (vr fo), some (vr po)] [] (cl A v) Q
  obtain ⟨y1, y2, y3, y4⟩ := id hPo
  refine aw_aload_n (pc' := 1) rfl dX1_getsTo_0 rfl ?_
  refine aw_aload_n (pc' := 2) rfl dX1_getsTo_1 rfl ?_
  refine aw_getr (pc' := 5) (k9 := 3) dX1_getsTo_2 rfl fX1_49 rfl rfl rfl hPo.2.1 ?_
  try simp (disch := omega) only [hv_cl, cl_set, sset_e, sset_1, sset_2]
  refine aw_putr (pc' := 8) (k9 := 0) dX1_getsTo_5 rfl fX1_32 rfl rfl rfl hF.1 ?_
  refine aw_aload_n (pc' := 9) rfl dX1_getsTo_8 rfl ?_
  refine aw_geti (pc' := 12) (k9 := 2) dX1_getsTo_9 rfl fX1_54 rfl (by decide) rfl hPo.2.1 ?_
  try simp (disch := omega) only [hv_cl, cl_set, sset_e, sset_1, sset_2]
  refine aw_bipush (pc' := 14) (by decide +kernel) dX1_getsTo_12 rfl ?_
  refine aw_icmp_eq (pt := 46) (pf := 17) dX1_getsTo_14 (by decide) rfl (fun c_14 => ?_) (fun c_14 => ?_)
  · refine aw_iconst (pc' := 47) (by decide) dX1_getsTo_46 rfl ?_
    refine aw_goto (pc' := 51) dX1_getsTo_47 (by decide) ?_
    refine AW.ret (some (vi _)) dX1_getsTo_51 (Or.inr rfl) ?_
    refine h1 ?_
    unfold onS
    first | (rw [decide_eq_true_iff]; omega) | (rw [decide_eq_false_iff_not]; omega)
  · refine aw_aload_n (pc' := 18) rfl dX1_getsTo_17 rfl ?_
    refine aw_geti (pc' := 21) (k9 := 2) dX1_getsTo_18 rfl fX1_54 rfl (by decide) rfl hPo.2.1 ?_
    try simp (disch := omega) only [hv_cl, cl_set, sset_e, sset_1, sset_2]
    refine aw_bipush (pc' := 23) (by decide +kernel) dX1_getsTo_21 rfl ?_
    refine aw_icmp_ne (pt := 30) (pf := 26) dX1_getsTo_23 (by decide) rfl (fun c_23 => ?_) (fun c_23 => ?_)
    · refine aw_iconst (pc' := 31) (by decide) dX1_getsTo_30 rfl ?_
      refine aw_aload_n (pc' := 32) rfl dX1_getsTo_31 rfl ?_
      refine aw_geti (pc' := 35) (k9 := 2) dX1_getsTo_32 rfl fX1_39 rfl (by decide) rfl hF.1 ?_
      try simp (disch := omega) only [hv_cl, cl_set, sset_e, sset_1, sset_2]
      refine aw_if_ne (pt := 42) (pf := 38) dX1_getsTo_35 (by decide) rfl (fun c_35 => ?_) (fun c_35 => ?_)
      · refine aw_iconst (pc' := 43) (by decide) dX1_getsTo_42 rfl ?_
        refine aw_icmp_ne (pt := 50) (pf := 46) dX1_getsTo_43 (by decide) rfl (fun c_43 => absurd c_43 (by decide)) (fun _ => ?_)
        refine aw_iconst (pc' := 47) (by decide) dX1_getsTo_46 rfl ?_
        refine aw_goto (pc' := 51) dX1_getsTo_47 (by decide) ?_
        refine AW.ret (some (vi _)) dX1_getsTo_51 (Or.inr rfl) ?_
        refine h1 ?_
        unfold onS
        first | (rw [decide_eq_true_iff]; omega) | (rw [decide_eq_false_iff_not]; omega)
      · replace c_35 := Classical.not_not.mp c_35
        refine aw_iconst (pc' := 39) (by decide) dX1_getsTo_38 rfl ?_
        refine aw_goto (pc' := 43) dX1_getsTo_39 (by decide) ?_
        refine aw_icmp_ne (pt := 50) (pf := 46) dX1_getsTo_43 (by decide) rfl (fun _ => ?_) (fun c_43 => absurd (by decide) c_43)
        refine aw_iconst (pc' := 51) (by decide) dX1_getsTo_50 rfl ?_
        refine AW.ret (some (vi _)) dX1_getsTo_51 (Or.inl rfl) ?_
        refine h0 ?_
        unfold onS
        first | (rw [decide_eq_true_iff]; omega) | (rw [decide_eq_false_iff_not]; omega)
    · replace c_23 := Classical.not_not.mp c_23
      refine aw_iconst (pc' := 27) (by decide) dX1_getsTo_26 rfl ?_
      refine aw_goto (pc' := 31) dX1_getsTo_27 (by decide) ?_
      refine aw_aload_n (pc' := 32) rfl dX1_getsTo_31 rfl ?_
      refine aw_geti (pc' := 35) (k9 := 2) dX1_getsTo_32 rfl fX1_39 rfl (by decide) rfl hF.1 ?_
      try simp (disch := omega) only [hv_cl, cl_set, sset_e, sset_1, sset_2]
      refine aw_if_ne (pt := 42) (pf := 38) dX1_getsTo_35 (by decide) rfl (fun c_35 => ?_) (fun c_35 => ?_)
      · refine aw_iconst (pc' := 43) (by decide) dX1_getsTo_42 rfl ?_
        refine aw_icmp_ne (pt := 50) (pf := 46) dX1_getsTo_43 (by decide) rfl (fun _ => ?_) (fun c_43 => absurd (by decide) c_43)
        refine aw_iconst (pc' := 51) (by decide) dX1_getsTo_50 rfl ?_
        refine AW.ret (some (vi _)) dX1_getsTo_51 (Or.inl rfl) ?_
        refine h0 ?_
        unfold onS
        first | (rw [decide_eq_true_iff]; omega) | (rw [decide_eq_false_iff_not]; omega)
      · replace c_35 := Classical.not_not.mp c_35
        refine aw_iconst (pc' := 39) (by decide) dX1_getsTo_38 rfl ?_
        refine aw_goto (pc' := 43) dX1_getsTo_39 (by decide) ?_
        refine aw_icmp_ne (pt := 50) (pf := 46) dX1_getsTo_43 (by decide) rfl (fun c_43 => absurd c_43 (by decide)) (fun _ => ?_)
        refine aw_iconst (pc' := 47) (by decide) dX1_getsTo_46 rfl ?_
        refine aw_goto (pc' := 51) dX1_getsTo_47 (by decide) ?_
        refine AW.ret (some (vi _)) dX1_getsTo_51 (Or.inr rfl) ?_
        refine h1 ?_
        unfold onS
        first | (rw [decide_eq_true_iff]; omega) | (rw [decide_eq_false_iff_not]; omega)

set_option maxRecDepth 20000 in
theorem x_gives {d : Nat} {fo k x : Int} {A : AHp} {v : Sg} {Q : Option AV → AHp → Prop} (hd : 0 ≤ d) (hF : FrameAt A fo) (hk : 0 ≤ k ∧ k < 6) (hQ : Q (some (vl x)) (cl A (sset v (fo + 2) k (w32 (v (fo + 2) k + 1))))) : CALL d mX4_gives [vr fo, vi k, vl x] (cl A v) Q := by
  refine CALL.of (by decide) (Nat.le_of_ble_eq_true rfl) ?_
  change AW d mX4_gives 0 [some (vr fo), some (vi k), some (vl x), none] [] (cl A v) Q
  refine aw_aload_n (pc' := 1) rfl dX4_gives_0 rfl ?_
  refine aw_getp (pc' := 4) (k9 := 6) (p := (fo + 2)) dX4_gives_1 rfl fX4_127 rfl rfl rfl hF.1 hF.2.2.1.1 ?_
  refine aw_iload_n (pc' := 5) rfl dX4_gives_4 rfl ?_
  refine aw_dup2 (pc' := 6) rfl rfl dX4_gives_5 rfl ?_
  refine aw_iald (pc' := 7) dX4_gives_6 rfl hF.2.2.1.2 (by omega) (by omega) ?_
  try simp (disch := omega) only [hv_cl, cl_set, sset_e, sset_1, sset_2]
  refine aw_iconst (pc' := 8) (by decide) dX4_gives_7 rfl ?_
  refine aw_iadd (pc' := 9) rfl dX4_gives_8 rfl ?_
  refine aw_iast (pc' := 10) dX4_gives_9 rfl hF.2.2.1.2 (by omega) (by omega) ?_
  refine aw_lload_n (pc' := 11) rfl dX4_gives_10 rfl ?_
  refine AW.ret (some (vl _)) dX4_gives_11 trivial ?_
  exact hQ

set_option maxRecDepth 20000 in
theorem x_end {d : Nat} {fo k : Int} {A : AHp} {v : Sg} {Q : Option AV → AHp → Prop} (hd : 0 ≤ d) (hF : FrameAt A fo) (hk : 0 ≤ k ∧ k < 6) (hQ : Q (some (vl (-9223372036854775808))) (cl A (sset v (fo + 3) k 1))) : CALL d mX4_end [vr fo, vi k] (cl A v) Q := by
  refine CALL.of (by decide) (Nat.le_of_ble_eq_true rfl) ?_
  change AW d mX4_end 0 [some (vr fo), some (vi k)] [] (cl A v) Q
  refine aw_aload_n (pc' := 1) rfl dX4_end_0 rfl ?_
  refine aw_getp (pc' := 4) (k9 := 7) (p := (fo + 3)) dX4_end_1 rfl fX4_130 rfl rfl rfl hF.1 hF.2.2.2.1.1 ?_
  refine aw_iload_n (pc' := 5) rfl dX4_end_4 rfl ?_
  refine aw_iconst (pc' := 6) (by decide) dX4_end_5 rfl ?_
  refine aw_zast (pc' := 7) dX4_end_6 rfl hF.2.2.2.1.2 (by omega) (by omega) (by omega) ?_
  refine aw_ldc2 (x := (-9223372036854775808)) (pc' := 10) qX4_73 (by decide) dX4_end_7 rfl ?_
  refine AW.ret (some (vl _)) dX4_end_10 trivial ?_
  exact hQ

set_option maxRecDepth 20000 in
theorem x_hasList {d : Nat} {so o : Int} {A : AHp} {v : Sg} {Q : Option AV → AHp → Prop} (hd : 0 ≤ d) (hSt : STG A v so) (ho : hp A so 0 = o) (h1 : 12 ≤ o → Q (some (vi 1)) (cl A v)) (h0 : ¬ 12 ≤ o → Q (some (vi 0)) (cl A v)) : CALL d mX9_hasList [vr so] (cl A v) Q := by
  refine CALL.of (by decide) (Nat.le_of_ble_eq_true rfl) ?_
  change AW d mX9_hasList 0 [some (vr so)] [] (cl A v) Q
  obtain ⟨z1, z2, z3, z4, z5, z6, z7⟩ := id hSt
  rw [ho] at z3
  have hwf := wf_tab z3.1 z3.2
  refine aw_aload_n (pc' := 1) rfl dX9_hasList_0 rfl ?_
  refine aw_getp (pc' := 4) (k9 := 0) (p := o) dX9_hasList_1 rfl fX9_15 rfl rfl rfl hSt.2.1 ho ?_
  refine aw_gsW (j := 14) (pc' := 7) (by decide) fX9_19 dX9_hasList_4 rfl ?_
  refine aw_acmp_eq (pt := 20) (pf := 10) (by omega) (by omega) dX9_hasList_7 (by decide) rfl (fun c_7 => ?_) (fun c_7 => ?_)
  · refine aw_iconst (pc' := 21) (by decide) dX9_hasList_20 rfl ?_
    refine aw_goto (pc' := 25) dX9_hasList_21 (by decide) ?_
    refine AW.ret (some (vi _)) dX9_hasList_25 (Or.inr rfl) ?_
    exact h1 (by omega)
  · refine aw_aload_n (pc' := 11) rfl dX9_hasList_10 rfl ?_
    refine aw_getp (pc' := 14) (k9 := 0) (p := o) dX9_hasList_11 rfl fX9_15 rfl rfl rfl hSt.2.1 ho ?_
    refine aw_wFun (pc' := 17) (by omega) (by omega) fX9_24 dX9_hasList_14 rfl ?_
    try simp (disch := omega) only [hv_cl, cl_set, sset_e, sset_1, sset_2]
    refine aw_if_lt (pt := 24) (pf := 20) dX9_hasList_17 (by decide) rfl (fun c_17 => ?_) (fun c_17 => ?_)
    · rw [hwf] at c_17
      split at c_17 <;> first | omega | skip
      refine aw_iconst (pc' := 25) (by decide) dX9_hasList_24 rfl ?_
      refine AW.ret (some (vi _)) dX9_hasList_25 (Or.inl rfl) ?_
      exact h0 (by omega)
    · rw [hwf] at c_17
      split at c_17 <;> first | omega | skip
      refine aw_iconst (pc' := 21) (by decide) dX9_hasList_20 rfl ?_
      refine aw_goto (pc' := 25) dX9_hasList_21 (by decide) ?_
      refine AW.ret (some (vi _)) dX9_hasList_25 (Or.inr rfl) ?_
      exact h1 (by omega)

def gotEndX (A : AHp) (v : Sg) (ko fo so o k : Int) : Int × Sg :=
  if o = 8 then (v (fo + 2) k, sset v (fo + 3) k 1) else
  if o = 9 ∧ v (fo + 4) k = 0 ∧ 0 ≤ -1 - v (hp A so 1) 0 ∧ -1 - v (hp A so 1) 0 ≤ 4 then ((-9223372036854775808), sset (sset v (fo + 3) k 1) (ko + 1) (-1 - v (hp A so 1) 0) (v (fo + 2) k)) else
  ((-9223372036854775808), sset v (fo + 3) k 1)
set_option maxRecDepth 20000 in
theorem x_gotEnd {d : Nat} {ko fo po so o k : Int} {A : AHp} {v : Sg} {Q : Option AV → AHp → Prop} (hd : 1 ≤ d) (hK : KeptAt A ko) (hF : FrameAt A fo) (hfo : 66 < fo ∧ fo < 300 ∧ (fo < 201 ∨ 266 < fo)) (hko : 206 < ko ∧ ko < 250) (hk : 0 ≤ k ∧ k < 6) (hpo : v fo 1 = po) (hPo : PIP A po) (hso : v (hp A po 0) k = so) (hSt : STG A v so) (ho : hp A so 0 = o) (hQ : Q (some (vl (gotEndX A v ko fo so o k).1)) (cl A (gotEndX A v ko fo so o k).2)) : CALL d mX4_gotEnd [vr ko, vr fo, vi k] (cl A v) Q := by
  refine CALL.of (by decide) (Nat.le_of_ble_eq_true rfl) ?_
  change AW d mX4_gotEnd 0 [some (vr ko), some (vr fo), some (vi k), none, none] [] (cl A v) Q
  obtain ⟨y1, y2, y3, y4⟩ := id hPo
  obtain ⟨z1, z2, z3, z4, z5, z6, z7⟩ := id hSt
  rw [ho] at z3
  have z8 := z7 0 (by omega) (by omega)
  refine aw_aload_n (pc' := 1) rfl dX4_gotEnd_0 rfl ?_
  refine aw_getr (pc' := 4) (k9 := 1) dX4_gotEnd_1 rfl fX4_80 rfl rfl rfl hF.1 ?_
  try simp (disch := omega) only [hv_cl, cl_set, sset_e, sset_1, sset_2]
  rw [hpo]
  refine aw_getp (pc' := 7) (k9 := 0) (p := (hp A po 0)) dX4_gotEnd_4 rfl fX4_108 rfl rfl rfl hPo.2.1 rfl ?_
  refine aw_iload_n (pc' := 8) rfl dX4_gotEnd_7 rfl ?_
  refine aw_aald (pc' := 9) (t0 := 6) (fun _ => rfl) (by decide) dX4_gotEnd_8 rfl hPo.2.2.2 (by omega) (by omega) ?_
  try simp (disch := omega) only [hv_cl, cl_set, sset_e, sset_1, sset_2]
  rw [hso]
  try simp (disch := omega) only [hv_cl, cl_set, sset_e, sset_1, sset_2]
  refine aw_astore_n (pc' := 10) (lv' := [_, _, _, _, _]) dX4_gotEnd_9 rfl (by decide) rfl ?_
  refine aw_aload_n (pc' := 11) rfl dX4_gotEnd_10 rfl ?_
  refine aw_getp (pc' := 14) (k9 := 7) (p := (fo + 3)) dX4_gotEnd_11 rfl fX4_130 rfl rfl rfl hF.1 hF.2.2.2.1.1 ?_
  refine aw_iload_n (pc' := 15) rfl dX4_gotEnd_14 rfl ?_
  refine aw_iconst (pc' := 16) (by decide) dX4_gotEnd_15 rfl ?_
  refine aw_zast (pc' := 17) dX4_gotEnd_16 rfl hF.2.2.2.1.2 (by omega) (by omega) (by omega) ?_
  refine aw_aload_n (pc' := 18) rfl dX4_gotEnd_17 rfl ?_
  refine aw_getp (pc' := 21) (k9 := 0) (p := o) dX4_gotEnd_18 rfl fX4_134 rfl rfl rfl hSt.2.1 ho ?_
  refine aw_gsW (j := 7) (pc' := 24) (by decide) fX4_205 dX4_gotEnd_21 rfl ?_
  refine aw_acmp_ne (pt := 35) (pf := 27) (by omega) (by omega) dX4_gotEnd_24 (by decide) rfl (fun c_24 => ?_) (fun c_24 => ?_)
  · refine aw_iconst (pc' := 36) (by decide) dX4_gotEnd_35 rfl ?_
    refine aw_aload_n (pc' := 37) rfl dX4_gotEnd_36 rfl ?_
    refine aw_getp (pc' := 40) (k9 := 1) (p := (hp A so 1)) dX4_gotEnd_37 rfl fX4_120 rfl rfl rfl hSt.2.1 rfl ?_
    refine aw_iconst (pc' := 41) (by decide) dX4_gotEnd_40 rfl ?_
    refine aw_iald (pc' := 42) dX4_gotEnd_41 rfl hSt.2.2.2.2.1 (by omega) (by omega) ?_
    try simp (disch := omega) only [hv_cl, cl_set, sset_e, sset_1, sset_2]
    refine aw_isub (pc' := 43) (by first | exact w32_id (by omega) (by omega) | rfl) dX4_gotEnd_42 rfl ?_
    refine aw_istore (pc' := 45) (lv' := [_, _, _, _, _]) dX4_gotEnd_43 rfl (by decide) rfl ?_
    refine aw_aload_n (pc' := 46) rfl dX4_gotEnd_45 rfl ?_
    refine aw_getp (pc' := 49) (k9 := 0) (p := o) dX4_gotEnd_46 rfl fX4_134 rfl rfl rfl hSt.2.1 ho ?_
    refine aw_gsW (j := 8) (pc' := 52) (by decide) fX4_208 dX4_gotEnd_49 rfl ?_
    refine aw_acmp_ne (pt := 85) (pf := 55) (by omega) (by omega) dX4_gotEnd_52 (by decide) rfl (fun c_52 => ?_) (fun c_52 => ?_)
    · refine aw_ldc2 (x := (-9223372036854775808)) (pc' := 88) qX4_73 (by decide) dX4_gotEnd_85 rfl ?_
      refine AW.ret (some (vl _)) dX4_gotEnd_88 trivial ?_
      try simp (disch := omega) only [hv_cl, cl_set, sset_e, sset_1, sset_2]
      unfold gotEndX at hQ
      simp (disch := omega) only [if_pos, if_neg] at hQ
      exact hQ
    · refine aw_aload_n (pc' := 56) rfl dX4_gotEnd_55 rfl ?_
      refine aw_getp (pc' := 59) (k9 := 8) (p := (fo + 4)) dX4_gotEnd_56 rfl fX4_93 rfl rfl rfl hF.1 hF.2.2.2.2.1.1 ?_
      refine aw_iload_n (pc' := 60) rfl dX4_gotEnd_59 rfl ?_
      refine aw_iald (pc' := 61) dX4_gotEnd_60 rfl hF.2.2.2.2.1.2 (by omega) (by omega) ?_
      try simp (disch := omega) only [hv_cl, cl_set, sset_e, sset_1, sset_2]
      refine aw_if_ne (pt := 85) (pf := 64) dX4_gotEnd_61 (by decide) rfl (fun c_61 => ?_) (fun c_61 => ?_)
      · refine aw_ldc2 (x := (-9223372036854775808)) (pc' := 88) qX4_73 (by decide) dX4_gotEnd_85 rfl ?_
        refine AW.ret (some (vl _)) dX4_gotEnd_88 trivial ?_
        try simp (disch := omega) only [hv_cl, cl_set, sset_e, sset_1, sset_2]
        unfold gotEndX at hQ
        simp (disch := omega) only [if_pos, if_neg] at hQ
        exact hQ
      · replace c_61 := Classical.not_not.mp c_61
        refine aw_iload (pc' := 66) rfl dX4_gotEnd_64 rfl ?_
        refine aw_callSN (d' := d - 1) (as := [_]) (pc' := 69) kX12_isName tX12_isName nX4_142 dX4_gotEnd_66 rfl rfl (Nat.le_of_ble_eq_true rfl) (by omega) ?_
        refine x_isName (by omega)  (fun e1_66 => ?_) (fun e0_66 => ?_)
        · refine aw_if_eq (pt := 85) (pf := 72) dX4_gotEnd_69 (by decide) rfl (fun c_69 => absurd c_69 (by decide)) (fun _ => ?_)
          refine aw_aload_n (pc' := 73) rfl dX4_gotEnd_72 rfl ?_
          refine aw_getp (pc' := 76) (k9 := 0) (p := (ko + 1)) dX4_gotEnd_73 rfl fX4_146 rfl rfl rfl hK.1 hK.2.1.1 ?_
          refine aw_iload (pc' := 78) rfl dX4_gotEnd_76 rfl ?_
          refine aw_aload_n (pc' := 79) rfl dX4_gotEnd_78 rfl ?_
          refine aw_getp (pc' := 82) (k9 := 6) (p := (fo + 2)) dX4_gotEnd_79 rfl fX4_127 rfl rfl rfl hF.1 hF.2.2.1.1 ?_
          refine aw_iload_n (pc' := 83) rfl dX4_gotEnd_82 rfl ?_
          refine aw_iald (pc' := 84) dX4_gotEnd_83 rfl hF.2.2.1.2 (by omega) (by omega) ?_
          try simp (disch := omega) only [hv_cl, cl_set, sset_e, sset_1, sset_2]
          refine aw_iast (pc' := 85) dX4_gotEnd_84 rfl hK.2.1.2 (by omega) (by omega) ?_
          refine aw_ldc2 (x := (-9223372036854775808)) (pc' := 88) qX4_73 (by decide) dX4_gotEnd_85 rfl ?_
          refine AW.ret (some (vl _)) dX4_gotEnd_88 trivial ?_
          try simp (disch := omega) only [hv_cl, cl_set, sset_e, sset_1, sset_2]
          unfold gotEndX at hQ
          simp (disch := omega) only [if_pos, if_neg] at hQ
          exact hQ
        · refine aw_if_eq (pt := 85) (pf := 72) dX4_gotEnd_69 (by decide) rfl (fun _ => ?_) (fun c_69 => absurd (by decide) c_69)
          refine aw_ldc2 (x := (-9223372036854775808)) (pc' := 88) qX4_73 (by decide) dX4_gotEnd_85 rfl ?_
          refine AW.ret (some (vl _)) dX4_gotEnd_88 trivial ?_
          try simp (disch := omega) only [hv_cl, cl_set, sset_e, sset_1, sset_2]
          unfold gotEndX at hQ
          simp (disch := omega) only [if_pos, if_neg] at hQ
          exact hQ
  · refine aw_aload_n (pc' := 28) rfl dX4_gotEnd_27 rfl ?_
    refine aw_getp (pc' := 31) (k9 := 6) (p := (fo + 2)) dX4_gotEnd_28 rfl fX4_127 rfl rfl rfl hF.1 hF.2.2.1.1 ?_
    refine aw_iload_n (pc' := 32) rfl dX4_gotEnd_31 rfl ?_
    refine aw_iald (pc' := 33) dX4_gotEnd_32 rfl hF.2.2.1.2 (by omega) (by omega) ?_
    try simp (disch := omega) only [hv_cl, cl_set, sset_e, sset_1, sset_2]
    refine aw_i2l (pc' := 34) dX4_gotEnd_33 rfl ?_
    refine AW.ret (some (vl _)) dX4_gotEnd_34 trivial ?_
    try simp (disch := omega) only [hv_cl, cl_set, sset_e, sset_1, sset_2]
    unfold gotEndX at hQ
    simp (disch := omega) only [if_pos, if_neg] at hQ
    exact hQ

def gotX (A : AHp) (v : Sg) (ko fo so o k x : Int) : Int × Sg :=
  if x = (-9223372036854775808) then gotEndX A v ko fo so o k else
  if o = 3 then (w32 (w32 x + v (fo + 1) (k * 4)), sset v 64 4 (w32 (v 64 4 + 1))) else
  if o = 4 then (w32 (w32 x * v (fo + 1) (k * 4)), sset v 64 4 (w32 (v 64 4 + 1))) else
  if o = 5 then (if v (fo + 1) (k * 4) = 0 then ((-9223372036854775808), sset (sset v 64 4 (w32 (v 64 4 + 1))) (fo + 3) k 1) else ((w32 x).tmod (v (fo + 1) (k * 4)), sset v 64 4 (w32 (v 64 4 + 1)))) else
  if o = 6 then ((if (if v (fo + 1) (k * 4) = 0 then w32 x = 0 else (w32 x).tmod (v (fo + 1) (k * 4)) = 0) then w32 x else 9223372036854775807), sset v 64 4 (w32 (v 64 4 + 1))) else
  if o = 7 then (w32 x, sset (sset v 64 4 (w32 (v 64 4 + 1))) (fo + 2) k (w32 (v (fo + 2) k + 1))) else
  if o = 8 then (9223372036854775807, sset (sset v 64 4 (w32 (v 64 4 + 1))) (fo + 2) k (w32 (v (fo + 2) k + w32 x))) else
  if o = 9 then (9223372036854775807, sset (sset (sset v 64 4 (w32 (v 64 4 + 1))) (fo + 2) k (w32 x)) (fo + 4) k 0) else
  ((-9223372036854775808), sset (sset v 64 4 (w32 (v 64 4 + 1))) (fo + 3) k 1)
set_option maxRecDepth 20000 in
theorem x_got {d : Nat} {ko fo po so o k x : Int} {A : AHp} {v : Sg} {Q : Option AV → AHp → Prop} (hd : 2 ≤ d) (hX : XLAY A) (hK : KeptAt A ko) (hF : FrameAt A fo) (hfo : 66 < fo ∧ fo < 300 ∧ (fo < 201 ∨ 266 < fo)) (hko : 206 < ko ∧ ko < 250) (hk : 0 ≤ k ∧ k < 6) (hpo : v fo 1 = po) (hPo : PIP A po) (hso : v (hp A po 0) k = so) (hSt : STG A v so) (ho : hp A so 0 = o) (hQ : Q (some (vl (gotX A v ko fo so o k x).1)) (cl A (gotX A v ko fo so o k x).2)) : CALL d mX4_got [vr 64, vr ko, vr fo, vi k, vl x] (cl A v) Q := by
  refine CALL.of (by decide) (Nat.le_of_ble_eq_true rfl) ?_
  change AW d mX4_got 0 [some (vr 64), some (vr ko), some (vr fo), some (vi k), some (vl x), none, none, none] [] (cl A v) Q
  obtain ⟨y1, y2, y3, y4⟩ := id hPo
  obtain ⟨z1, z2, z3, z4, z5, z6, z7⟩ := id hSt
  rw [ho] at z3
  refine aw_lload (pc' := 2) rfl dX4_got_0 rfl ?_
  refine aw_ldc2 (x := (-9223372036854775808)) (pc' := 5) qX4_73 (by decide) dX4_got_2 rfl ?_
  refine aw_lcmp (pc' := 6) dX4_got_5 rfl ?_
  refine aw_if_ne (pt := 16) (pf := 9) dX4_got_6 (by decide) rfl (fun c_6 => ?_) (fun c_6 => ?_)
  · replace c_6 := (not_congr cmp_eq).mp c_6
    refine aw_aload_n (pc' := 17) rfl dX4_got_16 rfl ?_
    refine aw_dup (pc' := 18) rfl dX4_got_17 rfl ?_
    refine aw_geti (pc' := 21) (k9 := 4) dX4_got_18 rfl fX4_31 rfl (by decide) rfl (XO_machine (A := (cl A v)) hX) ?_
    try simp (disch := omega) only [hv_cl, cl_set, sset_e, sset_1, sset_2]
    refine aw_iconst (pc' := 22) (by decide) dX4_got_21 rfl ?_
    refine aw_iadd (pc' := 23) rfl dX4_got_22 rfl ?_
    refine aw_puti (pc' := 26) (k9 := 4) dX4_got_23 rfl fX4_31 rfl rfl rfl (XO_machine (A := (cl A v)) hX) ?_
    refine aw_lload (pc' := 28) rfl dX4_got_26 rfl ?_
    refine aw_l2i (pc' := 29) rfl dX4_got_28 rfl ?_
    refine aw_istore (pc' := 31) (lv' := [_, _, _, _, _, _, _, _]) dX4_got_29 rfl (by decide) rfl ?_
    refine aw_aload_n (pc' := 32) rfl dX4_got_31 rfl ?_
    refine aw_getp (pc' := 35) (k9 := 5) (p := (fo + 1)) dX4_got_32 rfl fX4_117 rfl rfl rfl hF.1 hF.2.1.1 ?_
    refine aw_iload_n (pc' := 36) rfl dX4_got_35 rfl ?_
    refine aw_iconst (pc' := 37) (by decide) dX4_got_36 rfl ?_
    refine aw_imul (pc' := 38) (by first | exact w32_id (by omega) (by omega) | rfl) dX4_got_37 rfl ?_
    refine aw_iald (pc' := 39) dX4_got_38 rfl hF.2.1.2 (by omega) (by omega) ?_
    try simp (disch := omega) only [hv_cl, cl_set, sset_e, sset_1, sset_2]
    refine aw_istore (pc' := 41) (lv' := [_, _, _, _, _, _, _, _]) dX4_got_39 rfl (by decide) rfl ?_
    refine aw_gsS (pc' := 44) fX4_152 dX4_got_41 rfl ?_
    refine aw_aload_n (pc' := 45) rfl dX4_got_44 rfl ?_
    refine aw_getr (pc' := 48) (k9 := 1) dX4_got_45 rfl fX4_80 rfl rfl rfl hF.1 ?_
    try simp (disch := omega) only [hv_cl, cl_set, sset_e, sset_1, sset_2]
    try simp (disch := omega) only [hv_cl, cl_set, sset_e, sset_1, sset_2]
    rw [hpo]
    refine aw_getp (pc' := 51) (k9 := 0) (p := (hp A po 0)) dX4_got_48 rfl fX4_108 rfl rfl rfl hPo.2.1 rfl ?_
    refine aw_iload_n (pc' := 52) rfl dX4_got_51 rfl ?_
    refine aw_aald (pc' := 53) (t0 := 6) (fun _ => rfl) (by decide) dX4_got_52 rfl hPo.2.2.2 (by omega) (by omega) ?_
    try simp (disch := omega) only [hv_cl, cl_set, sset_e, sset_1, sset_2]
    rw [hso]
    try simp (disch := omega) only [hv_cl, cl_set, sset_e, sset_1, sset_2]
    refine aw_getp (pc' := 56) (k9 := 0) (p := o) dX4_got_53 rfl fX4_134 rfl rfl rfl hSt.2.1 ho ?_
    refine aw_callOrd (d' := d - 1) (pc' := 59) kJx29ce0_ordinal_8abf5 rfl (w_ordAll lX4_157) (by omega) (by omega) dX4_got_56 rfl (Nat.le_of_ble_eq_true rfl) (by omega) (c_ordinal (by omega) (by omega) (by omega) ?_)
    refine aw_sw (pc' := 60) (by omega) (by omega) dX4_got_59 rfl ?_
    have hsw := sw_tab z3.1 z3.2
    generalize swL.getD (o - 1).toNat 0 = y9 at hsw ⊢
    try simp (disch := omega) only [hv_cl, cl_set, sset_e, sset_1, sset_2]
    by_cases z_60_0 : y9 = 2
    · refine aw_tabIn (pc' := 146) dX4_got_60 (by omega) (by omega) (off := 86) (by rw [z_60_0]; rfl) (by decide) ?_
      refine aw_iload (pc' := 148) rfl dX4_got_146 rfl ?_
      refine aw_if_ne (pt := 159) (pf := 151) dX4_got_148 (by decide) rfl (fun c_148 => ?_) (fun c_148 => ?_)
      · refine aw_iload (pc' := 161) rfl dX4_got_159 rfl ?_
        refine aw_iload (pc' := 163) rfl dX4_got_161 rfl ?_
        refine aw_irem (pc' := 164) (by omega) rfl dX4_got_163 rfl ?_
        refine aw_i2l (pc' := 165) dX4_got_164 rfl ?_
        refine AW.ret (some (vl _)) dX4_got_165 trivial ?_
        try simp (disch := omega) only [hv_cl, cl_set, sset_e, sset_1, sset_2]
        unfold gotX at hQ
        try simp (disch := omega) only [if_pos, if_neg] at hQ
        first | exact hQ | (exfalso; omega)
      · replace c_148 := Classical.not_not.mp c_148
        refine aw_aload_n (pc' := 152) rfl dX4_got_151 rfl ?_
        refine aw_iload_n (pc' := 153) rfl dX4_got_152 rfl ?_
        refine aw_callS (d' := d - 1) (as := [_, _]) (pc' := 156) kX4_end tX4_end lX4_188 dX4_got_153 rfl rfl (Nat.le_of_ble_eq_true rfl) (by omega) ?_
        refine x_end (by omega) hF hk ?_
        refine aw_goto (pc' := 165) dX4_got_156 (by decide) ?_
        refine AW.ret (some (vl _)) dX4_got_165 trivial ?_
        try simp (disch := omega) only [hv_cl, cl_set, sset_e, sset_1, sset_2]
        unfold gotX at hQ
        try simp (disch := omega) only [if_pos, if_neg] at hQ
        first | exact hQ | (exfalso; omega)
    by_cases z_60_1 : y9 = 3
    · refine aw_tabIn (pc' := 221) dX4_got_60 (by omega) (by omega) (off := 161) (by rw [z_60_1]; rfl) (by decide) ?_
      refine aw_aload_n (pc' := 222) rfl dX4_got_221 rfl ?_
      refine aw_getp (pc' := 225) (k9 := 6) (p := (fo + 2)) dX4_got_222 rfl fX4_127 rfl rfl rfl hF.1 hF.2.2.1.1 ?_
      refine aw_iload_n (pc' := 226) rfl dX4_got_225 rfl ?_
      refine aw_iload (pc' := 228) rfl dX4_got_226 rfl ?_
      refine aw_iast (pc' := 229) dX4_got_228 rfl hF.2.2.1.2 (by omega) (by omega) ?_
      refine aw_aload_n (pc' := 230) rfl dX4_got_229 rfl ?_
      refine aw_getp (pc' := 233) (k9 := 8) (p := (fo + 4)) dX4_got_230 rfl fX4_93 rfl rfl rfl hF.1 hF.2.2.2.2.1.1 ?_
      refine aw_iload_n (pc' := 234) rfl dX4_got_233 rfl ?_
      refine aw_iconst (pc' := 235) (by decide) dX4_got_234 rfl ?_
      refine aw_iast (pc' := 236) dX4_got_235 rfl hF.2.2.2.2.1.2 (by omega) (by omega) ?_
      refine aw_ldc2 (x := (9223372036854775807)) (pc' := 239) qX4_167 (by decide) dX4_got_236 rfl ?_
      refine AW.ret (some (vl _)) dX4_got_239 trivial ?_
      try simp (disch := omega) only [hv_cl, cl_set, sset_e, sset_1, sset_2]
      unfold gotX at hQ
      try simp (disch := omega) only [if_pos, if_neg] at hQ
      first | exact hQ | (exfalso; omega)
    by_cases z_60_2 : y9 = 4
    · refine aw_tabIn (pc' := 240) dX4_got_60 (by omega) (by omega) (off := 180) (by rw [z_60_2]; rfl) (by decide) ?_
      refine aw_aload_n (pc' := 241) rfl dX4_got_240 rfl ?_
      refine aw_iload_n (pc' := 242) rfl dX4_got_241 rfl ?_
      refine aw_callS (d' := d - 1) (as := [_, _]) (pc' := 245) kX4_end tX4_end lX4_188 dX4_got_242 rfl rfl (Nat.le_of_ble_eq_true rfl) (by omega) ?_
      refine x_end (by omega) hF hk ?_
      refine AW.ret (some (vl _)) dX4_got_245 trivial ?_
      try simp (disch := omega) only [hv_cl, cl_set, sset_e, sset_1, sset_2]
      unfold gotX at hQ
      try simp (disch := omega) only [if_pos, if_neg] at hQ
      first | exact hQ | (exfalso; omega)
    by_cases z_60_3 : y9 = 5
    · refine aw_tabIn (pc' := 240) dX4_got_60 (by omega) (by omega) (off := 180) (by rw [z_60_3]; rfl) (by decide) ?_
      refine aw_aload_n (pc' := 241) rfl dX4_got_240 rfl ?_
      refine aw_iload_n (pc' := 242) rfl dX4_got_241 rfl ?_
      refine aw_callS (d' := d - 1) (as := [_, _]) (pc' := 245) kX4_end tX4_end lX4_188 dX4_got_242 rfl rfl (Nat.le_of_ble_eq_true rfl) (by omega) ?_
      refine x_end (by omega) hF hk ?_
      refine AW.ret (some (vl _)) dX4_got_245 trivial ?_
      try simp (disch := omega) only [hv_cl, cl_set, sset_e, sset_1, sset_2]
      unfold gotX at hQ
      try simp (disch := omega) only [if_pos, if_neg] at hQ
      first | exact hQ | (exfalso; omega)
    by_cases z_60_4 : y9 = 6
    · refine aw_tabIn (pc' := 240) dX4_got_60 (by omega) (by omega) (off := 180) (by rw [z_60_4]; rfl) (by decide) ?_
      refine aw_aload_n (pc' := 241) rfl dX4_got_240 rfl ?_
      refine aw_iload_n (pc' := 242) rfl dX4_got_241 rfl ?_
      refine aw_callS (d' := d - 1) (as := [_, _]) (pc' := 245) kX4_end tX4_end lX4_188 dX4_got_242 rfl rfl (Nat.le_of_ble_eq_true rfl) (by omega) ?_
      refine x_end (by omega) hF hk ?_
      refine AW.ret (some (vl _)) dX4_got_245 trivial ?_
      try simp (disch := omega) only [hv_cl, cl_set, sset_e, sset_1, sset_2]
      unfold gotX at hQ
      try simp (disch := omega) only [if_pos, if_neg] at hQ
      first | exact hQ | (exfalso; omega)
    by_cases z_60_5 : y9 = 7
    · refine aw_tabIn (pc' := 240) dX4_got_60 (by omega) (by omega) (off := 180) (by rw [z_60_5]; rfl) (by decide) ?_
      refine aw_aload_n (pc' := 241) rfl dX4_got_240 rfl ?_
      refine aw_iload_n (pc' := 242) rfl dX4_got_241 rfl ?_
      refine aw_callS (d' := d - 1) (as := [_, _]) (pc' := 245) kX4_end tX4_end lX4_188 dX4_got_242 rfl rfl (Nat.le_of_ble_eq_true rfl) (by omega) ?_
      refine x_end (by omega) hF hk ?_
      refine AW.ret (some (vl _)) dX4_got_245 trivial ?_
      try simp (disch := omega) only [hv_cl, cl_set, sset_e, sset_1, sset_2]
      unfold gotX at hQ
      try simp (disch := omega) only [if_pos, if_neg] at hQ
      first | exact hQ | (exfalso; omega)
    by_cases z_60_6 : y9 = 8
    · refine aw_tabIn (pc' := 240) dX4_got_60 (by omega) (by omega) (off := 180) (by rw [z_60_6]; rfl) (by decide) ?_
      refine aw_aload_n (pc' := 241) rfl dX4_got_240 rfl ?_
      refine aw_iload_n (pc' := 242) rfl dX4_got_241 rfl ?_
      refine aw_callS (d' := d - 1) (as := [_, _]) (pc' := 245) kX4_end tX4_end lX4_188 dX4_got_242 rfl rfl (Nat.le_of_ble_eq_true rfl) (by omega) ?_
      refine x_end (by omega) hF hk ?_
      refine AW.ret (some (vl _)) dX4_got_245 trivial ?_
      try simp (disch := omega) only [hv_cl, cl_set, sset_e, sset_1, sset_2]
      unfold gotX at hQ
      try simp (disch := omega) only [if_pos, if_neg] at hQ
      first | exact hQ | (exfalso; omega)
    by_cases z_60_7 : y9 = 9
    · refine aw_tabIn (pc' := 240) dX4_got_60 (by omega) (by omega) (off := 180) (by rw [z_60_7]; rfl) (by decide) ?_
      refine aw_aload_n (pc' := 241) rfl dX4_got_240 rfl ?_
      refine aw_iload_n (pc' := 242) rfl dX4_got_241 rfl ?_
      refine aw_callS (d' := d - 1) (as := [_, _]) (pc' := 245) kX4_end tX4_end lX4_188 dX4_got_242 rfl rfl (Nat.le_of_ble_eq_true rfl) (by omega) ?_
      refine x_end (by omega) hF hk ?_
      refine AW.ret (some (vl _)) dX4_got_245 trivial ?_
      try simp (disch := omega) only [hv_cl, cl_set, sset_e, sset_1, sset_2]
      unfold gotX at hQ
      try simp (disch := omega) only [if_pos, if_neg] at hQ
      first | exact hQ | (exfalso; omega)
    by_cases z_60_8 : y9 = 10
    · refine aw_tabIn (pc' := 240) dX4_got_60 (by omega) (by omega) (off := 180) (by rw [z_60_8]; rfl) (by decide) ?_
      refine aw_aload_n (pc' := 241) rfl dX4_got_240 rfl ?_
      refine aw_iload_n (pc' := 242) rfl dX4_got_241 rfl ?_
      refine aw_callS (d' := d - 1) (as := [_, _]) (pc' := 245) kX4_end tX4_end lX4_188 dX4_got_242 rfl rfl (Nat.le_of_ble_eq_true rfl) (by omega) ?_
      refine x_end (by omega) hF hk ?_
      refine AW.ret (some (vl _)) dX4_got_245 trivial ?_
      try simp (disch := omega) only [hv_cl, cl_set, sset_e, sset_1, sset_2]
      unfold gotX at hQ
      try simp (disch := omega) only [if_pos, if_neg] at hQ
      first | exact hQ | (exfalso; omega)
    by_cases z_60_9 : y9 = 11
    · refine aw_tabIn (pc' := 197) dX4_got_60 (by omega) (by omega) (off := 137) (by rw [z_60_9]; rfl) (by decide) ?_
      refine aw_aload_n (pc' := 198) rfl dX4_got_197 rfl ?_
      refine aw_iload_n (pc' := 199) rfl dX4_got_198 rfl ?_
      refine aw_iload (pc' := 201) rfl dX4_got_199 rfl ?_
      refine aw_i2l (pc' := 202) dX4_got_201 rfl ?_
      refine aw_callS (d' := d - 1) (as := [_, _, _]) (pc' := 205) kX4_gives tX4_gives lX4_184 dX4_got_202 rfl rfl (Nat.le_of_ble_eq_true rfl) (by omega) ?_
      refine x_gives (by omega) hF hk ?_
      refine AW.ret (some (vl _)) dX4_got_205 trivial ?_
      try simp (disch := omega) only [hv_cl, cl_set, sset_e, sset_1, sset_2]
      unfold gotX at hQ
      try simp (disch := omega) only [if_pos, if_neg] at hQ
      first | exact hQ | (exfalso; omega)
    by_cases z_60_10 : y9 = 12
    · refine aw_tabIn (pc' := 132) dX4_got_60 (by omega) (by omega) (off := 72) (by rw [z_60_10]; rfl) (by decide) ?_
      refine aw_iload (pc' := 134) rfl dX4_got_132 rfl ?_
      refine aw_iload (pc' := 136) rfl dX4_got_134 rfl ?_
      refine aw_iadd (pc' := 137) rfl dX4_got_136 rfl ?_
      refine aw_i2l (pc' := 138) dX4_got_137 rfl ?_
      refine AW.ret (some (vl _)) dX4_got_138 trivial ?_
      try simp (disch := omega) only [hv_cl, cl_set, sset_e, sset_1, sset_2]
      unfold gotX at hQ
      try simp (disch := omega) only [if_pos, if_neg] at hQ
      first | exact hQ | (exfalso; omega)
    by_cases z_60_11 : y9 = 13
    · refine aw_tabIn (pc' := 139) dX4_got_60 (by omega) (by omega) (off := 79) (by rw [z_60_11]; rfl) (by decide) ?_
      refine aw_iload (pc' := 141) rfl dX4_got_139 rfl ?_
      refine aw_iload (pc' := 143) rfl dX4_got_141 rfl ?_
      refine aw_imul (pc' := 144) rfl dX4_got_143 rfl ?_
      refine aw_i2l (pc' := 145) dX4_got_144 rfl ?_
      refine AW.ret (some (vl _)) dX4_got_145 trivial ?_
      try simp (disch := omega) only [hv_cl, cl_set, sset_e, sset_1, sset_2]
      unfold gotX at hQ
      try simp (disch := omega) only [if_pos, if_neg] at hQ
      first | exact hQ | (exfalso; omega)
    by_cases z_60_12 : y9 = 14
    · refine aw_tabIn (pc' := 166) dX4_got_60 (by omega) (by omega) (off := 106) (by rw [z_60_12]; rfl) (by decide) ?_
      refine aw_iload (pc' := 168) rfl dX4_got_166 rfl ?_
      refine aw_if_ne (pt := 179) (pf := 171) dX4_got_168 (by decide) rfl (fun c_168 => ?_) (fun c_168 => ?_)
      · refine aw_iload (pc' := 181) rfl dX4_got_179 rfl ?_
        refine aw_iload (pc' := 183) rfl dX4_got_181 rfl ?_
        refine aw_irem (pc' := 184) (by omega) rfl dX4_got_183 rfl ?_
        refine aw_if_ne (pt := 193) (pf := 187) dX4_got_184 (by decide) rfl (fun c_184 => ?_) (fun c_184 => ?_)
        · refine aw_ldc2 (x := (9223372036854775807)) (pc' := 196) qX4_167 (by decide) dX4_got_193 rfl ?_
          refine AW.ret (some (vl _)) dX4_got_196 trivial ?_
          try simp (disch := omega) only [hv_cl, cl_set, sset_e, sset_1, sset_2]
          unfold gotX at hQ
          try simp (disch := omega) only [if_pos, if_neg] at hQ
          first | exact hQ | (exfalso; omega)
        · replace c_184 := Classical.not_not.mp c_184
          refine aw_iload (pc' := 189) rfl dX4_got_187 rfl ?_
          refine aw_i2l (pc' := 190) dX4_got_189 rfl ?_
          refine aw_goto (pc' := 196) dX4_got_190 (by decide) ?_
          refine AW.ret (some (vl _)) dX4_got_196 trivial ?_
          try simp (disch := omega) only [hv_cl, cl_set, sset_e, sset_1, sset_2]
          unfold gotX at hQ
          try simp (disch := omega) only [if_pos, if_neg] at hQ
          first | exact hQ | (exfalso; omega)
      · replace c_168 := Classical.not_not.mp c_168
        refine aw_iload (pc' := 173) rfl dX4_got_171 rfl ?_
        refine aw_if_ne (pt := 193) (pf := 176) dX4_got_173 (by decide) rfl (fun c_173 => ?_) (fun c_173 => ?_)
        · refine aw_ldc2 (x := (9223372036854775807)) (pc' := 196) qX4_167 (by decide) dX4_got_193 rfl ?_
          refine AW.ret (some (vl _)) dX4_got_196 trivial ?_
          try simp (disch := omega) only [hv_cl, cl_set, sset_e, sset_1, sset_2]
          unfold gotX at hQ
          try simp (disch := omega) only [if_pos, if_neg] at hQ
          first | exact hQ | (exfalso; omega)
        · replace c_173 := Classical.not_not.mp c_173
          refine aw_goto (pc' := 187) dX4_got_176 (by decide) ?_
          refine aw_iload (pc' := 189) rfl dX4_got_187 rfl ?_
          refine aw_i2l (pc' := 190) dX4_got_189 rfl ?_
          refine aw_goto (pc' := 196) dX4_got_190 (by decide) ?_
          refine AW.ret (some (vl _)) dX4_got_196 trivial ?_
          try simp (disch := omega) only [hv_cl, cl_set, sset_e, sset_1, sset_2]
          unfold gotX at hQ
          try simp (disch := omega) only [if_pos, if_neg] at hQ
          first | exact hQ | (exfalso; omega)
    by_cases z_60_13 : y9 = 15
    · refine aw_tabIn (pc' := 206) dX4_got_60 (by omega) (by omega) (off := 146) (by rw [z_60_13]; rfl) (by decide) ?_
      refine aw_aload_n (pc' := 207) rfl dX4_got_206 rfl ?_
      refine aw_getp (pc' := 210) (k9 := 6) (p := (fo + 2)) dX4_got_207 rfl fX4_127 rfl rfl rfl hF.1 hF.2.2.1.1 ?_
      refine aw_iload_n (pc' := 211) rfl dX4_got_210 rfl ?_
      refine aw_dup2 (pc' := 212) rfl rfl dX4_got_211 rfl ?_
      refine aw_iald (pc' := 213) dX4_got_212 rfl hF.2.2.1.2 (by omega) (by omega) ?_
      try simp (disch := omega) only [hv_cl, cl_set, sset_e, sset_1, sset_2]
      refine aw_iload (pc' := 215) rfl dX4_got_213 rfl ?_
      refine aw_iadd (pc' := 216) rfl dX4_got_215 rfl ?_
      refine aw_iast (pc' := 217) dX4_got_216 rfl hF.2.2.1.2 (by omega) (by omega) ?_
      refine aw_ldc2 (x := (9223372036854775807)) (pc' := 220) qX4_167 (by decide) dX4_got_217 rfl ?_
      refine AW.ret (some (vl _)) dX4_got_220 trivial ?_
      try simp (disch := omega) only [hv_cl, cl_set, sset_e, sset_1, sset_2]
      unfold gotX at hQ
      try simp (disch := omega) only [if_pos, if_neg] at hQ
      first | exact hQ | (exfalso; omega)
    refine aw_tabOut (pc' := 240) dX4_got_60 (by omega) (by decide) ?_
    refine aw_aload_n (pc' := 241) rfl dX4_got_240 rfl ?_
    refine aw_iload_n (pc' := 242) rfl dX4_got_241 rfl ?_
    refine aw_callS (d' := d - 1) (as := [_, _]) (pc' := 245) kX4_end tX4_end lX4_188 dX4_got_242 rfl rfl (Nat.le_of_ble_eq_true rfl) (by omega) ?_
    refine x_end (by omega) hF hk ?_
    refine AW.ret (some (vl _)) dX4_got_245 trivial ?_
    try simp (disch := omega) only [hv_cl, cl_set, sset_e, sset_1, sset_2]
    unfold gotX at hQ
    try simp (disch := omega) only [if_pos, if_neg] at hQ
    first | exact hQ | (exfalso; omega)
  · replace c_6 := Classical.not_not.mp c_6
    replace c_6 := (cmp_eq).mp c_6
    refine aw_aload_n (pc' := 10) rfl dX4_got_9 rfl ?_
    refine aw_aload_n (pc' := 11) rfl dX4_got_10 rfl ?_
    refine aw_iload_n (pc' := 12) rfl dX4_got_11 rfl ?_
    refine aw_callS (d' := d - 1) (as := [_, _, _]) (pc' := 15) kX4_gotEnd tX4_gotEnd lX4_202 dX4_got_12 rfl rfl (Nat.le_of_ble_eq_true rfl) (by omega) ?_
    unfold gotX at hQ
    rw [if_pos c_6] at hQ
    refine x_gotEnd (by omega) hK hF hfo hko hk hpo hPo hso hSt ho ?_
    refine AW.ret (some (vl _)) dX4_got_15 trivial ?_
    exact hQ
