/-! ===== pairs: tapes, stop, job, of, image, undo ===== -/
theorem sset_ne {s : Sg} {o k x o' k' : Int} (h : ¬ (o' = o ∧ k' = k)) : sset s o k x o' k' = s o' k' := if_neg h
theorem sfil_o {s : Sg} {o lo n x o' k' : Int} (h : ¬ (o' = o ∧ lo ≤ k' ∧ k' < lo + n)) : sfil s o lo n x o' k' = s o' k' := if_neg h
theorem sfil_i {s : Sg} {o lo n x k' : Int} (h : lo ≤ k' ∧ k' < lo + n) : sfil s o lo n x o k' = x := if_pos ⟨rfl, h⟩
set_option maxRecDepth 20000 in
theorem lc_of {d : Nat} {A : AHp} {v : Sg} {P : Int → Prop} {l w : Int} (hM : MLAY A) {Q : Option AV → AHp → Prop} : ∀ (m : Nat) (p n : Int), CH v P m p → 0 ≤ n → n + m ≤ 1000 → Q (some (vi (n + cnT v m p))) (cl A v) → AW d mX13_of 60 [some (vr 307), some (vi l), some (vi w), some (vi n), some (vi p)] [] (cl A v) Q := by
  intro m
  induction m using Nat.strongRecOn with
  | _ m ih =>
    intro p n hC hn0 hnm hQ
    have hcs : p = -1 ∨ ∃ m2, m = m2 + 1 ∧ (0 ≤ p ∧ p < 480) ∧ CH v P m2 (v 310 p) := by
      cases m with
      | zero => exact Or.inl hC
      | succ m =>
        rcases hC with q | ⟨q1, _, q2⟩
        · exact Or.inl q
        · exact Or.inr ⟨m, rfl, q1, q2⟩
    clear hC
    refine aw_iload (pc' := 62) rfl dX13_of_60 rfl ?_
    refine aw_if_lt (pt := 80) (pf := 65) dX13_of_62 (by decide) rfl (fun c_62 => ?_) (fun c_62 => ?_)
    · refine aw_iload_n (pc' := 81) rfl dX13_of_80 rfl ?_
      refine AW.ret (some (vi _)) dX13_of_81 trivial ?_
      rw [cnT_no (by omega), Int.add_zero] at hQ
      exact hQ
    · obtain ⟨m2, hm2, hp0, hC2⟩ : ∃ m2, m = m2 + 1 ∧ (0 ≤ p ∧ p < 480) ∧ CH v P m2 (v 310 p) := by
        rcases hcs with q | q
        · omega
        · exact q
      subst hm2
      clear hcs
      refine aw_iinc (pc' := 68) (lv' := [_, _, _, _, _]) dX13_of_65 rfl rfl (by decide) (by first | exact w32_id (by omega) (by omega) | rfl) rfl ?_
      refine aw_aload_n (pc' := 69) rfl dX13_of_68 rfl ?_
      refine aw_getp (pc' := 72) (k9 := 2) (p := 310) dX13_of_69 rfl fX13_49 rfl rfl rfl (MO (A := (cl A v)) hM) (M_listNext (A := (cl A v)) hM) ?_
      refine aw_iload (pc' := 74) rfl dX13_of_72 rfl ?_
      refine aw_iald (pc' := 75) dX13_of_74 rfl (MA_listNext (A := (cl A v)) hM) (by omega) (by omega) ?_
      try simp (disch := omega) only [hv_cl, cl_set, sset_e, sset_1, sset_2]
      refine aw_istore (pc' := 77) (lv' := [_, _, _, _, _]) dX13_of_75 rfl (by decide) rfl ?_
      refine aw_goto (pc' := 60) dX13_of_77 (by decide) ?_
      refine ih m2 (by omega) (v 310 p) (n + 1) hC2 (by omega) (by omega) ?_
      rw [show n + 1 + cnT v m2 (v 310 p) = n + (1 + cnT v m2 (v 310 p)) by omega]
      have e9 : cnT v (m2 + 1) p = 1 + cnT v m2 (v 310 p) := if_neg (by omega)
      rw [← e9]
      exact hQ

set_option maxRecDepth 20000 in
theorem c_of {d : Nat} {P : Int → Prop} {l w : Int} {A : AHp} {v : Sg} {Q : Option AV → AHp → Prop} (hd : 2 ≤ d) (hM : MLAY A) (hln : 0 ≤ v 307 12 ∧ v 307 12 ≤ 8) (hw : in32 w) (hC : 0 ≤ l → l < v 307 12 → CH v P 60 (v 309 (60 * l))) (hN : ¬ (0 ≤ l ∧ l < v 307 12 ∧ 0 ≤ w ∧ w ≤ 2) → Q (some (vi (-1))) (cl A v)) (h0 : 0 ≤ l → l < v 307 12 → w = 0 → Q (some (vi (cnT v 60 (v 309 (60 * l))))) (cl A v)) (h1 : 0 ≤ l → l < v 307 12 → w = 1 → Q (some (vi (v 318 l))) (cl A v)) (h2 : 0 ≤ l → l < v 307 12 → w = 2 → Q (some (vi (v 319 l))) (cl A v)) : CALL d mX13_of [vr 307, vi l, vi w] (cl A v) Q := by
  refine CALL.of (by decide) (Nat.le_of_ble_eq_true rfl) ?_
  change AW d mX13_of 0 [some (vr 307), some (vi l), some (vi w), none, none] [] (cl A v) Q
  refine aw_aload_n (pc' := 1) rfl dX13_of_0 rfl ?_
  refine aw_iload_n (pc' := 2) rfl dX13_of_1 rfl ?_
  refine aw_callV (ci := 11) (d' := d - 1) (as := [_]) (pc' := 5) (by decide) rfl kX13_isLine iX13_isLine sX13_isLine lX13_260 (MO (A := (cl A v)) hM) dX13_of_2 rfl rfl (Nat.le_of_ble_eq_true rfl) (by omega) ?_
  refine c_isLine (A := cl A v) (by omega) hM hln (fun i1 i2 => ?_) (fun i0 => ?_)
  · rw [hv_cl] at i2
    refine aw_if_eq (pt := 20) (pf := 8) dX13_of_5 (by decide) rfl (fun c_5 => absurd c_5 (by decide)) (fun _ => ?_)
    refine aw_iload_n (pc' := 9) rfl dX13_of_8 rfl ?_
    refine aw_i2l (pc' := 10) dX13_of_9 rfl ?_
    refine aw_lconst (x := 0) (pc' := 11) (by decide +kernel) dX13_of_10 rfl ?_
    refine aw_ldc2 (x := (2)) (pc' := 14) qX13_263 (by decide) dX13_of_11 rfl ?_
    refine aw_callS (d' := d - 1) (as := [_, _, _]) (pc' := 17) kX13_in tX13_in lX13_177 dX13_of_14 rfl rfl (Nat.le_of_ble_eq_true rfl) (by omega) ?_
    try simp (disch := omega) only [hv_cl, cl_set, sset_e, sset_1, sset_2]
    refine c_in (by omega) (fun e1_14 e2_14 => ?_) (fun e0_14 => ?_)
    · refine aw_if_ne (pt := 22) (pf := 20) dX13_of_17 (by decide) rfl (fun _ => ?_) (fun c_17 => absurd (by decide) c_17)
      refine aw_iload_n (pc' := 23) rfl dX13_of_22 rfl ?_
      refine aw_if_le (pt := 47) (pf := 26) dX13_of_23 (by decide) rfl (fun c_23 => ?_) (fun c_23 => ?_)
      · refine aw_iconst (pc' := 48) (by decide) dX13_of_47 rfl ?_
        refine aw_istore_n (pc' := 49) (lv' := [_, _, _, _, _]) dX13_of_48 rfl (by decide) rfl ?_
        refine aw_aload_n (pc' := 50) rfl dX13_of_49 rfl ?_
        refine aw_getp (pc' := 53) (k9 := 1) (p := 309) dX13_of_50 rfl fX13_45 rfl rfl rfl (MO (A := (cl A v)) hM) (M_listFirst (A := (cl A v)) hM) ?_
        refine aw_bipush (pc' := 55) (by decide +kernel) dX13_of_53 rfl ?_
        refine aw_iload_n (pc' := 56) rfl dX13_of_55 rfl ?_
        refine aw_imul (pc' := 57) (by first | exact w32_id (by omega) (by omega) | rfl) dX13_of_56 rfl ?_
        refine aw_iald (pc' := 58) dX13_of_57 rfl (MA_listFirst (A := (cl A v)) hM) (by omega) (by omega) ?_
        try simp (disch := omega) only [hv_cl, cl_set, sset_e, sset_1, sset_2]
        refine aw_istore (pc' := 60) (lv' := [_, _, _, _, _]) dX13_of_58 rfl (by decide) rfl ?_
        try simp (disch := omega) only [hv_cl, cl_set, sset_e, sset_1, sset_2]
        refine lc_of hM 60 (v 309 (60 * l)) 0 (hC (by omega) (by omega)) (by omega) (by omega) ?_
        rw [Int.zero_add]
        exact h0 (by omega) (by omega) (by omega)
      · refine aw_iload_n (pc' := 27) rfl dX13_of_26 rfl ?_
        refine aw_iconst (pc' := 28) (by decide) dX13_of_27 rfl ?_
        refine aw_icmp_ne (pt := 40) (pf := 31) dX13_of_28 (by decide) rfl (fun c_28 => ?_) (fun c_28 => ?_)
        · refine aw_aload_n (pc' := 41) rfl dX13_of_40 rfl ?_
          refine aw_getp (pc' := 44) (k9 := 11) (p := 319) dX13_of_41 rfl fX13_76 rfl rfl rfl (MO (A := (cl A v)) hM) (M_deepIn (A := (cl A v)) hM) ?_
          refine aw_iload_n (pc' := 45) rfl dX13_of_44 rfl ?_
          refine aw_iald (pc' := 46) dX13_of_45 rfl (MA_deepIn (A := (cl A v)) hM) (by omega) (by omega) ?_
          try simp (disch := omega) only [hv_cl, cl_set, sset_e, sset_1, sset_2]
          refine AW.ret (some (vi _)) dX13_of_46 trivial ?_
          first | exact hN (by omega) | exact h1 (by omega) (by omega) (by omega) | exact h2 (by omega) (by omega) (by omega)
        · replace c_28 := Classical.not_not.mp c_28
          refine aw_aload_n (pc' := 32) rfl dX13_of_31 rfl ?_
          refine aw_getp (pc' := 35) (k9 := 10) (p := 318) dX13_of_32 rfl fX13_73 rfl rfl rfl (MO (A := (cl A v)) hM) (M_stagesIn (A := (cl A v)) hM) ?_
          refine aw_iload_n (pc' := 36) rfl dX13_of_35 rfl ?_
          refine aw_iald (pc' := 37) dX13_of_36 rfl (MA_stagesIn (A := (cl A v)) hM) (by omega) (by omega) ?_
          try simp (disch := omega) only [hv_cl, cl_set, sset_e, sset_1, sset_2]
          refine aw_goto (pc' := 46) dX13_of_37 (by decide) ?_
          refine AW.ret (some (vi _)) dX13_of_46 trivial ?_
          first | exact hN (by omega) | exact h1 (by omega) (by omega) (by omega) | exact h2 (by omega) (by omega) (by omega)
    · refine aw_if_ne (pt := 22) (pf := 20) dX13_of_17 (by decide) rfl (fun c_17 => absurd c_17 (by decide)) (fun _ => ?_)
      refine aw_iconst (pc' := 21) (by decide) dX13_of_20 rfl ?_
      refine AW.ret (some (vi _)) dX13_of_21 trivial ?_
      first | exact hN (by omega) | exact h1 (by omega) (by omega) (by omega) | exact h2 (by omega) (by omega) (by omega)
  · rw [hv_cl] at i0
    refine aw_if_eq (pt := 20) (pf := 8) dX13_of_5 (by decide) rfl (fun _ => ?_) (fun c_5 => absurd (by decide) c_5)
    refine aw_iconst (pc' := 21) (by decide) dX13_of_20 rfl ?_
    refine AW.ret (some (vi _)) dX13_of_21 trivial ?_
    first | exact hN (by omega) | exact h1 (by omega) (by omega) (by omega) | exact h2 (by omega) (by omega) (by omega)

theorem p_of {A : AHp} {v : Sg} {l w : Int} (h : RR A v) (hw : in32 w) : PAIR A v mX12_of mX13_of [vi l, vi w] := by
  obtain ⟨h0, h1, h2, h3, h4, h5, h6, h7, h8, h9, h10⟩ := id h
  have hX := h0.1.2.1
  have hM := h0.1.2.2
  have hln := h1.1
  have hl12 := h1.2.1
  unfold PAIR
  have hL := h1.2.2.2
  have hC : 0 ≤ l → l < v 307 12 → CH v (fun _ => True) 60 (v 309 (60 * l)) := fun a b => CHR.ch (fun po p q => ⟨q.1.pw.2.1.2.1, trivial⟩) (hL l a (by omega)).now
  refine x_of (by omega) hX hln (fun j j0 j1 => (hL j j0 j1).1.1) (fun q => ?_) (fun q1 q2 q3 => ?_) (fun q1 q2 q3 => ?_) (fun q1 q2 q3 => ?_)
  · exact c_of (by omega) hM (by omega) hw hC (fun _ => ⟨rfl, A, v, rfl, h, GRO.rf, by omega⟩) (fun _ _ _ => by omega) (fun _ _ _ => by omega) (fun _ _ _ => by omega)
  · have e1 := ((hL l q1 q2).2 A v v (old_rfl A) (fun _ _ _ _ => rfl) (fun _ _ _ => rfl)).2
    exact c_of (by omega) hM (by omega) hw hC (fun _ => by omega) (fun _ _ _ => ⟨by rw [e1], A, v, rfl, h, GRO.rf, by omega⟩) (fun _ _ _ => by omega) (fun _ _ _ => by omega)
  · have e1 := (hL l q1 q2).1.2.2.1
    exact c_of (by omega) hM (by omega) hw hC (fun _ => by omega) (fun _ _ _ => by omega) (fun _ _ _ => ⟨by rw [e1], A, v, rfl, h, GRO.rf, by omega⟩) (fun _ _ _ => by omega)
  · have e1 := (hL l q1 q2).1.2.2.2
    exact c_of (by omega) hM (by omega) hw hC (fun _ => by omega) (fun _ _ _ => by omega) (fun _ _ _ => by omega) (fun _ _ _ => ⟨by rw [e1], A, v, rfl, h, GRO.rf, by omega⟩)
theorem p_read {A : AHp} {v : Sg} {t i : Int} (h : RR A v) : PAIR A v mX12_read mX13_read [vi t, vi i] := by
  obtain ⟨h0, h1, h2, h3, h4, h5, h6, h7, h8, h9, h10⟩ := id h
  have hX := h0.1.2.1
  have hM := h0.1.2.2
  have hln := h1.1
  have hl12 := h1.2.1
  unfold PAIR
  have tz : ∀ t, 0 ≤ t → t ≤ 5 → 0 ≤ v 348 t ∧ v 348 t ≤ 60 := fun t t0 t1 => (h9 t t0 t1).2.2.2.1
  have t0z : ∀ t, 0 ≤ t → t ≤ 5 → v (295 + 2 * t) 0 = v 347 t := fun t t0 t1 => (h9 t t0 t1).1
  have t1z : ∀ t, 0 ≤ t → t ≤ 5 → v (295 + 2 * t) 1 = v 348 t := fun t t0 t1 => (h9 t t0 t1).2.1
  have tsz : ∀ t, 0 ≤ t → t ≤ 5 → 0 ≤ v (295 + 2 * t) 1 ∧ v (295 + 2 * t) 1 ≤ 60 := fun t t0 t1 => by rw [t1z t t0 t1]; exact tz t t0 t1
  have tso : ∀ t, 0 ≤ t → t ≤ 5 → -1 ≤ v (295 + 2 * t) 0 ∧ v (295 + 2 * t) 0 ≤ 4 := fun t t0 t1 => by rw [t0z t t0 t1]; exact (h9 t t0 t1).2.2.1
  have hTP := h0.2.2.1
  refine yx_read (by omega) hX hTP tsz (fun q => ?_) (fun q1 q2 q3 q4 => ?_)
  · refine yc_read (by omega) hM tz (fun _ => ⟨rfl, A, v, rfl, h, GRO.rf, by omega⟩) (fun z1 z2 z3 z4 => ?_)
    have := t1z t z1 z2
    omega
  · have e1 := t1z t q1 q2
    have e2 := (h9 t q1 q2).2.2.2.2.2 i q3 (by have := tz t q1 q2; omega)
    exact yc_read (by omega) hM tz (fun _ => by omega) (fun _ _ _ _ => ⟨by rw [e2], A, v, rfl, h, GRO.rf, by omega⟩)
theorem p_item {A : AHp} {v : Sg} {t i x : Int} (h : RR A v) : PAIR A v mX12_item mX13_item [vi t, vi i, vl x] := by
  obtain ⟨h0, h1, h2, h3, h4, h5, h6, h7, h8, h9, h10⟩ := id h
  have hX := h0.1.2.1
  have hM := h0.1.2.2
  have hln := h1.1
  have hl12 := h1.2.1
  unfold PAIR
  have tz : ∀ t, 0 ≤ t → t ≤ 5 → 0 ≤ v 348 t ∧ v 348 t ≤ 60 := fun t t0 t1 => (h9 t t0 t1).2.2.2.1
  have t0z : ∀ t, 0 ≤ t → t ≤ 5 → v (295 + 2 * t) 0 = v 347 t := fun t t0 t1 => (h9 t t0 t1).1
  have t1z : ∀ t, 0 ≤ t → t ≤ 5 → v (295 + 2 * t) 1 = v 348 t := fun t t0 t1 => (h9 t t0 t1).2.1
  have tsz : ∀ t, 0 ≤ t → t ≤ 5 → 0 ≤ v (295 + 2 * t) 1 ∧ v (295 + 2 * t) 1 ≤ 60 := fun t t0 t1 => by rw [t1z t t0 t1]; exact tz t t0 t1
  have tso : ∀ t, 0 ≤ t → t ≤ 5 → -1 ≤ v (295 + 2 * t) 0 ∧ v (295 + 2 * t) 0 ≤ 4 := fun t t0 t1 => by rw [t0z t t0 t1]; exact (h9 t t0 t1).2.2.1
  have hTP := h0.2.2.1
  have e0 : 0 ≤ t → t ≤ 5 → v (295 + 2 * t) 0 = v 347 t := t0z t
  have e1 : 0 ≤ t → t ≤ 5 → v (295 + 2 * t) 1 = v 348 t := t1z t
  refine yx_item (by omega) hX hTP tsz tso (fun q => ?_) (fun q1 q2 q3 => ?_) (fun q1 q2 q3 q4 => ?_) (fun q1 q2 q3 q4 q5 => ?_)
  · exact yc_item (by omega) hM tz (fun _ => ⟨rfl, A, v, rfl, h, GRO.rf, by omega⟩) (fun _ _ _ => by omega) (fun _ _ _ _ => by omega) (fun _ _ _ _ _ => by omega)
  · have e0 := e0 q1 q2
    exact yc_item (by omega) hM tz (fun _ => by omega) (fun _ _ _ => ⟨rfl, A, v, rfl, h, GRO.rf, by omega⟩) (fun _ _ _ _ => by omega) (fun _ _ _ _ _ => by omega)
  · have e0 := e0 q1 q2
    have e1 := e1 q1 q2
    exact yc_item (by omega) hM tz (fun _ => by omega) (fun _ _ _ => by omega) (fun _ _ _ _ => ⟨rfl, A, v, rfl, h, GRO.rf, by omega⟩) (fun _ _ _ _ _ => by omega)
  · have f0 := e0 q1 q2
    have f1 := e1 q1 q2
    have htz := tz t q1 q2
    rw [f0]
    refine yc_item (by omega) hM (fun t2 g0 g1 => by simp (disch := omega) only [sset_1, sset_2, sset_e]; exact tz t2 g0 g1) (fun _ => by omega) (fun _ _ z => by simp (disch := omega) only [sset_1, sset_2, sset_e] at z; omega) (fun _ _ _ z => by simp (disch := omega) only [sset_1, sset_2, sset_e] at z; omega) (fun _ _ _ _ _ => ?_)
    simp (disch := omega) only [sset_1, sset_2, sset_e]
    have e : ∀ o k, ¬ ((o = 295 + 2 * t + 1 ∧ k = i) ∨ (o = 349 ∧ k = 60 * t + i)) → (sset (sset v (295 + 2 * t + 1) i (lowB (v 347 t) x)) 349 (60 * t + i) (lowB (v 347 t) x)) o k = v o k := fun o k q => by
      unfold sset
      rw [if_neg (by omega), if_neg (by omega)]
    have w1 : (sset (sset v (295 + 2 * t + 1) i (lowB (v 347 t) x)) 349 (60 * t + i) (lowB (v 347 t) x)) (295 + 2 * t + 1) i = lowB (v 347 t) x := by simp (disch := omega) only [sset_1, sset_2, sset_e]
    have w2 : (sset (sset v (295 + 2 * t + 1) i (lowB (v 347 t) x)) 349 (60 * t + i) (lowB (v 347 t) x)) 349 (60 * t + i) = lowB (v 347 t) x := by simp (disch := omega) only [sset_1, sset_2, sset_e]
    have w3 : ∀ k, k ≠ i → (sset (sset v (295 + 2 * t + 1) i (lowB (v 347 t) x)) 349 (60 * t + i) (lowB (v 347 t) x)) (295 + 2 * t + 1) k = v (295 + 2 * t + 1) k := fun k hk => by simp (disch := omega) only [sset_1, sset_2, sset_e]
    generalize sset (sset v (295 + 2 * t + 1) i (lowB (v 347 t) x)) 349 (60 * t + i) (lowB (v 347 t) x) = W at e w1 w2 w3 ⊢
    refine ⟨by trivial, A, W, rfl, ⟨h0.eq (fun o k q => e o k (by unfold FP0 at q; omega)), h1.eq (fun o k q => e o k (by unfold FP1 at q; omega)), h2.eq (fun o k q => e o k (by unfold FP2 at q; omega)), h3.eq (fun o k q => e o k (by unfold FP3 at q; omega)), h4.eq (fun o k q => e o k (by unfold FP4 at q; omega)), h5.eq (fun o k q => e o k (by unfold FP5 at q; omega)), h6.eq (fun o k q => e o k (by unfold FP6 at q; omega)), h7.eq (fun o k q => e o k (by unfold FP7 at q; omega)), h8.eq h1 (fun o k q => e o k (by unfold FP8 at q; omega)) (fun o k q => e o k (by unfold FP1 at q; omega)), ?_, h10.eq (fun o k q => e o k (by unfold FP10 at q; omega))⟩, GRO.rf, by omega⟩
    · intro t2 g0 g1
      obtain ⟨d1, d2, d3, d4, d5, d6⟩ := h9 t2 g0 g1
      by_cases c : t2 = t
      · subst c
        refine ⟨by rw [e _ _ (by omega), e 347 t2 (by omega)]; exact d1, by rw [e _ _ (by omega), e 348 t2 (by omega)]; exact d2, by rw [e 347 t2 (by omega)]; exact d3, by rw [e 348 t2 (by omega)]; exact d4, fun z => ?_, fun i2 i0 i1 => ?_⟩
        · rw [e 347 t2 (by omega)] at z
          rw [e 348 t2 (by omega)]
          exact d5 z
        · by_cases c2 : i2 = i
          · rw [c2, w1, w2]
          · rw [w3 i2 c2, e 349 (60 * t2 + i2) (by omega)]
            exact d6 i2 i0 i1
      · refine ⟨by rw [e _ _ (by omega), e 347 t2 (by omega)]; exact d1, by rw [e _ _ (by omega), e 348 t2 (by omega)]; exact d2, by rw [e 347 t2 (by omega)]; exact d3, by rw [e 348 t2 (by omega)]; exact d4, fun z => ?_, fun i2 i0 i1 => ?_⟩
        · rw [e 347 t2 (by omega)] at z
          rw [e 348 t2 (by omega)]
          exact d5 z
        · rw [e _ _ (by omega), e 349 (60 * t2 + i2) (by omega)]
          exact d6 i2 i0 i1
theorem p_tape {A : AHp} {v : Sg} {t s n : Int} (h : RR A v) : PAIR A v mX12_tape mX13_tape [vi t, vi s, vi n] := by
  obtain ⟨h0, h1, h2, h3, h4, h5, h6, h7, h8, h9, h10⟩ := id h
  have hX := h0.1.2.1
  have hM := h0.1.2.2
  have hln := h1.1
  have hl12 := h1.2.1
  unfold PAIR
  have tz : ∀ t, 0 ≤ t → t ≤ 5 → 0 ≤ v 348 t ∧ v 348 t ≤ 60 := fun t t0 t1 => (h9 t t0 t1).2.2.2.1
  have t0z : ∀ t, 0 ≤ t → t ≤ 5 → v (295 + 2 * t) 0 = v 347 t := fun t t0 t1 => (h9 t t0 t1).1
  have t1z : ∀ t, 0 ≤ t → t ≤ 5 → v (295 + 2 * t) 1 = v 348 t := fun t t0 t1 => (h9 t t0 t1).2.1
  have tsz : ∀ t, 0 ≤ t → t ≤ 5 → 0 ≤ v (295 + 2 * t) 1 ∧ v (295 + 2 * t) 1 ≤ 60 := fun t t0 t1 => by rw [t1z t t0 t1]; exact tz t t0 t1
  have tso : ∀ t, 0 ≤ t → t ≤ 5 → -1 ≤ v (295 + 2 * t) 0 ∧ v (295 + 2 * t) 0 ≤ 4 := fun t t0 t1 => by rw [t0z t t0 t1]; exact (h9 t t0 t1).2.2.1
  have hTP := h0.2.2.1
  refine yx_tape (by omega) hX hTP (fun t g0 g1 => (tsz t g0 g1).1) (fun q => ?_) (fun q1 q2 q3 => ?_) (fun q1 q2 q3 q4 q5 q6 => ?_) (fun q1 q2 q3 => ?_) (fun q1 q2 q3 q4 q5 q6 => ?_)
  · exact yc_tape (by omega) hM (fun _ => ⟨rfl, A, v, rfl, h, GRO.rf, by omega⟩) (fun _ _ _ => by omega) (fun _ _ _ _ _ _ => by omega) (fun _ _ _ => by omega) (fun _ _ _ _ _ _ => by omega)
  · exact yc_tape (by omega) hM (fun _ => by omega) (fun _ _ _ => ⟨rfl, A, v, rfl, h, GRO.rf, by omega⟩) (fun _ _ _ _ _ _ => by omega) (fun _ _ _ => by omega) (fun _ _ _ _ _ _ => by omega)
  · exact yc_tape (by omega) hM (fun _ => by omega) (fun _ _ _ => by omega) (fun _ _ _ _ _ _ => ⟨rfl, A, v, rfl, h, GRO.rf, by omega⟩) (fun _ _ _ => by omega) (fun _ _ _ _ _ _ => by omega)
  · subst q3
    refine yc_tape (by omega) hM (fun _ => by omega) (fun _ _ _ => by omega) (fun _ _ _ _ _ _ => by omega) (fun _ _ _ => ?_) (fun _ _ _ _ _ _ => by omega)
    have e : ∀ o k, ¬ ((o = 295 + 2 * t ∧ (k = 0 ∨ k = 1)) ∨ (o = 295 + 2 * t + 1) ∨ ((o = 347 ∨ o = 348) ∧ k = t) ∨ (o = 349 ∧ 60 * t ≤ k ∧ k < 60 * t + 60)) → (sfil (sset (sset (sfil (sset (sset v (295 + 2 * t) 0 (-1)) (295 + 2 * t) 1 0) (295 + 2 * t + 1) 0 60 0) 347 t (-1)) 348 t 0) 349 (60 * t) 60 0) o k = v o k := fun o k q => by
      rw [sfil_o (by omega), sset_ne (by omega), sset_ne (by omega), sfil_o (by omega), sset_ne (by omega), sset_ne (by omega)]
    have w1 : (sfil (sset (sset (sfil (sset (sset v (295 + 2 * t) 0 (-1)) (295 + 2 * t) 1 0) (295 + 2 * t + 1) 0 60 0) 347 t (-1)) 348 t 0) 349 (60 * t) 60 0) (295 + 2 * t) 0 = (-1) := by simp (disch := omega) only [sset_1, sset_2, sset_e, sfil_o, sfil_i]
    have w2 : (sfil (sset (sset (sfil (sset (sset v (295 + 2 * t) 0 (-1)) (295 + 2 * t) 1 0) (295 + 2 * t + 1) 0 60 0) 347 t (-1)) 348 t 0) 349 (60 * t) 60 0) 347 t = (-1) := by simp (disch := omega) only [sset_1, sset_2, sset_e, sfil_o, sfil_i]
    have w3 : (sfil (sset (sset (sfil (sset (sset v (295 + 2 * t) 0 (-1)) (295 + 2 * t) 1 0) (295 + 2 * t + 1) 0 60 0) 347 t (-1)) 348 t 0) 349 (60 * t) 60 0) (295 + 2 * t) 1 = 0 := by simp (disch := omega) only [sset_1, sset_2, sset_e, sfil_o, sfil_i]
    have w4 : (sfil (sset (sset (sfil (sset (sset v (295 + 2 * t) 0 (-1)) (295 + 2 * t) 1 0) (295 + 2 * t + 1) 0 60 0) 347 t (-1)) 348 t 0) 349 (60 * t) 60 0) 348 t = 0 := by simp (disch := omega) only [sset_1, sset_2, sset_e, sfil_o, sfil_i]
    have w5 : ∀ i, 0 ≤ i → i < 60 → (sfil (sset (sset (sfil (sset (sset v (295 + 2 * t) 0 (-1)) (295 + 2 * t) 1 0) (295 + 2 * t + 1) 0 60 0) 347 t (-1)) 348 t 0) 349 (60 * t) 60 0) (295 + 2 * t + 1) i = 0 := fun i i0 i1 => by simp (disch := omega) only [sset_1, sset_2, sset_e, sfil_o, sfil_i]
    have w6 : ∀ i, 0 ≤ i → i < 60 → (sfil (sset (sset (sfil (sset (sset v (295 + 2 * t) 0 (-1)) (295 + 2 * t) 1 0) (295 + 2 * t + 1) 0 60 0) 347 t (-1)) 348 t 0) 349 (60 * t) 60 0) 349 (60 * t + i) = 0 := fun i i0 i1 => by simp (disch := omega) only [sset_1, sset_2, sset_e, sfil_o, sfil_i]
    generalize sfil (sset (sset (sfil (sset (sset v (295 + 2 * t) 0 (-1)) (295 + 2 * t) 1 0) (295 + 2 * t + 1) 0 60 0) 347 t (-1)) 348 t 0) 349 (60 * t) 60 0 = W at e w1 w2 w3 w4 w5 w6 ⊢
    refine ⟨by trivial, A, W, rfl, ⟨h0.eq (fun o k q => e o k (by unfold FP0 at q; omega)), h1.eq (fun o k q => e o k (by unfold FP1 at q; omega)), h2.eq (fun o k q => e o k (by unfold FP2 at q; omega)), h3.eq (fun o k q => e o k (by unfold FP3 at q; omega)), h4.eq (fun o k q => e o k (by unfold FP4 at q; omega)), h5.eq (fun o k q => e o k (by unfold FP5 at q; omega)), h6.eq (fun o k q => e o k (by unfold FP6 at q; omega)), h7.eq (fun o k q => e o k (by unfold FP7 at q; omega)), h8.eq h1 (fun o k q => e o k (by unfold FP8 at q; omega)) (fun o k q => e o k (by unfold FP1 at q; omega)), ?_, h10.eq (fun o k q => e o k (by unfold FP10 at q; omega))⟩, GRO.rf, by omega⟩
    · intro t2 g0 g1
      obtain ⟨d1, d2, d3, d4, d5, d6⟩ := h9 t2 g0 g1
      by_cases c : t2 = t
      · subst c
        rw [w1, w2, w3, w4]
        refine ⟨rfl, rfl, by omega, by omega, fun z => by omega, fun i2 i0 i1 => ?_⟩
        rw [w5 i2 i0 i1, w6 i2 i0 i1]
      · refine ⟨by rw [e _ _ (by omega), e 347 t2 (by omega)]; exact d1, by rw [e _ _ (by omega), e 348 t2 (by omega)]; exact d2, by rw [e 347 t2 (by omega)]; exact d3, by rw [e 348 t2 (by omega)]; exact d4, fun z => ?_, fun i2 i0 i1 => ?_⟩
        · rw [e 347 t2 (by omega)] at z
          rw [e 348 t2 (by omega)]
          exact d5 z
        · rw [e _ _ (by omega), e 349 (60 * t2 + i2) (by omega)]
          exact d6 i2 i0 i1
  · refine yc_tape (by omega) hM (fun _ => by omega) (fun _ _ _ => by omega) (fun _ _ _ _ _ _ => by omega) (fun _ _ _ => by omega) (fun _ _ _ _ _ _ => ?_)
    have e : ∀ o k, ¬ ((o = 295 + 2 * t ∧ (k = 0 ∨ k = 1)) ∨ (o = 295 + 2 * t + 1) ∨ ((o = 347 ∨ o = 348) ∧ k = t) ∨ (o = 349 ∧ 60 * t ≤ k ∧ k < 60 * t + 60)) → (sfil (sset (sset (sfil (sset (sset v (295 + 2 * t) 0 s) (295 + 2 * t) 1 n) (295 + 2 * t + 1) 0 60 0) 347 t s) 348 t n) 349 (60 * t) 60 0) o k = v o k := fun o k q => by
      rw [sfil_o (by omega), sset_ne (by omega), sset_ne (by omega), sfil_o (by omega), sset_ne (by omega), sset_ne (by omega)]
    have w1 : (sfil (sset (sset (sfil (sset (sset v (295 + 2 * t) 0 s) (295 + 2 * t) 1 n) (295 + 2 * t + 1) 0 60 0) 347 t s) 348 t n) 349 (60 * t) 60 0) (295 + 2 * t) 0 = s := by simp (disch := omega) only [sset_1, sset_2, sset_e, sfil_o, sfil_i]
    have w2 : (sfil (sset (sset (sfil (sset (sset v (295 + 2 * t) 0 s) (295 + 2 * t) 1 n) (295 + 2 * t + 1) 0 60 0) 347 t s) 348 t n) 349 (60 * t) 60 0) 347 t = s := by simp (disch := omega) only [sset_1, sset_2, sset_e, sfil_o, sfil_i]
    have w3 : (sfil (sset (sset (sfil (sset (sset v (295 + 2 * t) 0 s) (295 + 2 * t) 1 n) (295 + 2 * t + 1) 0 60 0) 347 t s) 348 t n) 349 (60 * t) 60 0) (295 + 2 * t) 1 = n := by simp (disch := omega) only [sset_1, sset_2, sset_e, sfil_o, sfil_i]
    have w4 : (sfil (sset (sset (sfil (sset (sset v (295 + 2 * t) 0 s) (295 + 2 * t) 1 n) (295 + 2 * t + 1) 0 60 0) 347 t s) 348 t n) 349 (60 * t) 60 0) 348 t = n := by simp (disch := omega) only [sset_1, sset_2, sset_e, sfil_o, sfil_i]
    have w5 : ∀ i, 0 ≤ i → i < 60 → (sfil (sset (sset (sfil (sset (sset v (295 + 2 * t) 0 s) (295 + 2 * t) 1 n) (295 + 2 * t + 1) 0 60 0) 347 t s) 348 t n) 349 (60 * t) 60 0) (295 + 2 * t + 1) i = 0 := fun i i0 i1 => by simp (disch := omega) only [sset_1, sset_2, sset_e, sfil_o, sfil_i]
    have w6 : ∀ i, 0 ≤ i → i < 60 → (sfil (sset (sset (sfil (sset (sset v (295 + 2 * t) 0 s) (295 + 2 * t) 1 n) (295 + 2 * t + 1) 0 60 0) 347 t s) 348 t n) 349 (60 * t) 60 0) 349 (60 * t + i) = 0 := fun i i0 i1 => by simp (disch := omega) only [sset_1, sset_2, sset_e, sfil_o, sfil_i]
    generalize sfil (sset (sset (sfil (sset (sset v (295 + 2 * t) 0 s) (295 + 2 * t) 1 n) (295 + 2 * t + 1) 0 60 0) 347 t s) 348 t n) 349 (60 * t) 60 0 = W at e w1 w2 w3 w4 w5 w6 ⊢
    refine ⟨by trivial, A, W, rfl, ⟨h0.eq (fun o k q => e o k (by unfold FP0 at q; omega)), h1.eq (fun o k q => e o k (by unfold FP1 at q; omega)), h2.eq (fun o k q => e o k (by unfold FP2 at q; omega)), h3.eq (fun o k q => e o k (by unfold FP3 at q; omega)), h4.eq (fun o k q => e o k (by unfold FP4 at q; omega)), h5.eq (fun o k q => e o k (by unfold FP5 at q; omega)), h6.eq (fun o k q => e o k (by unfold FP6 at q; omega)), h7.eq (fun o k q => e o k (by unfold FP7 at q; omega)), h8.eq h1 (fun o k q => e o k (by unfold FP8 at q; omega)) (fun o k q => e o k (by unfold FP1 at q; omega)), ?_, h10.eq (fun o k q => e o k (by unfold FP10 at q; omega))⟩, GRO.rf, by omega⟩
    · intro t2 g0 g1
      obtain ⟨d1, d2, d3, d4, d5, d6⟩ := h9 t2 g0 g1
      by_cases c : t2 = t
      · subst c
        rw [w1, w2, w3, w4]
        refine ⟨rfl, rfl, by omega, by omega, fun z => by omega, fun i2 i0 i1 => ?_⟩
        rw [w5 i2 i0 i1, w6 i2 i0 i1]
      · refine ⟨by rw [e _ _ (by omega), e 347 t2 (by omega)]; exact d1, by rw [e _ _ (by omega), e 348 t2 (by omega)]; exact d2, by rw [e 347 t2 (by omega)]; exact d3, by rw [e 348 t2 (by omega)]; exact d4, fun z => ?_, fun i2 i0 i1 => ?_⟩
        · rw [e 347 t2 (by omega)] at z
          rw [e 348 t2 (by omega)]
          exact d5 z
        · rw [e _ _ (by omega), e 349 (60 * t2 + i2) (by omega)]
          exact d6 i2 i0 i1
