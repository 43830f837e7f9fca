/-! ===== the class: the object made, whole ===== -/
/-- what the class's slots hold at the start, told against what was there before -/
def C0 (v w : Sg) : Prop := (∀ j, 0 ≤ j → j < 15 → w 62 j = 1 + j) ∧ (∀ j, 0 ≤ j → j < 20 → w 66 j = 67 + 7 * j) ∧ (∀ a k, ((a = 207 ∨ a = 221 ∨ a = 235 ∨ a = 249) ∧ k = 2) ∨ ((a = 209 ∨ a = 223 ∨ a = 237 ∨ a = 251) ∧ 0 ≤ k ∧ k ≤ 2) → w a k = -5) ∧ (∀ j, 0 ≤ j → j < 4 → w 263 j = 267 + 7 * j ∧ w 264 j = -5) ∧ (∀ j, 0 ≤ j → j < 6 → w 266 j = 295 + 2 * j ∧ w (295 + 2 * j) 0 = -1)
  ∧ (∀ o k, (o = 62 → ¬ (0 ≤ k ∧ k < 15)) → (o = 66 → ¬ (0 ≤ k ∧ k < 20)) → (o = 207 ∨ o = 221 ∨ o = 235 ∨ o = 249 → k ≠ 2) → (o = 209 ∨ o = 223 ∨ o = 237 ∨ o = 251 → ¬ (0 ≤ k ∧ k ≤ 2)) → (o = 263 ∨ o = 264 → ¬ (0 ≤ k ∧ k < 4)) → (o = 266 → ¬ (0 ≤ k ∧ k < 6)) → ¬ (295 ≤ o ∧ o < 307 ∧ (o - 295) % 2 = 0 ∧ k = 0) → w o k = v o k)
set_option maxRecDepth 20000 in
theorem x_class {d : Nat}  {A : AHp} {v : Sg} {Q : Option AV → AHp → Prop} (hd : 6 ≤ d) (hA : hn A = 61) (hO : isO A 60 11) (hz : ZV v 61) (hQ : ∀ B w, NW 60 A B → hn B = 307 → hs B = hs A + 3847 → XLAY B → C0 v w → Q none (cl B w)) : CALL d mX12_init [vr 60] (cl A v) Q := by
  refine CALL.of (by decide) (Nat.le_of_ble_eq_true rfl) ?_
  change AW d mX12_init 0 [some (vr 60), none] [] (cl A v) Q
  have nb : NW 60 A A := nw_rfl
  have hb0 := hO
  have eh : hn A = 61 := hA
  have es : hs A = hs A + 0 := rfl
  have hz9 : ZV v 61 := hz
  refine aw_aload_n (pc' := 1) rfl dX12_init_0 rfl ?_
  refine aw_obj (pc' := 4) lX12_5 w_oi w_oc (by omega) (Nat.le_of_ble_eq_true rfl) dX12_init_1 rfl hO.1 ?_
  refine aw_aload_n (pc' := 5) rfl dX12_init_4 rfl ?_
  refine aw_new (ci := 6) (pc' := 8) (by decide) zX12_11 w6_new w6_ini dX12_init_5 rfl ?_
  obtain ⟨B1, e_, g_, h_, s_, hq_⟩ := mkO (A := A) (kd := 7) (sl := clN 6) hz9 (by omega) (by omega)
  rw [e_]
  rw [clN_6] at s_
  have n_ := nw_old (q := 61) g_
  simp only [hn_cl, eh]
  rw [eh] at hq_
  replace hb0 := nw_O n_ hb0
  replace nb := nw_tr nb n_ (Or.inr (by omega))
  replace eh : hn B1 = 62 := by omega
  replace es : hs B1 = hs A + 7 := by omega
  have hrd := hq_
  refine aw_dup (pc' := 9) rfl dX12_init_8 rfl ?_
  refine aw_callIN (d' := d - 1) (as := []) (pc' := 12) rfl kX7_init rfl iX7_init nX12_13 (by omega) dX12_init_9 rfl rfl (Nat.le_of_ble_eq_true rfl) (by omega) ?_
  refine x_newReader (q := 61) (by omega) hq_ (by omega) (hz9.mono (by omega)) (fun B2 n_ h_ s_ r0 r1 r2 r3 => ?_)
  simp only [Int.reduceAdd] at r0 r1 r2 r3 ⊢
  replace hrd := nw_O n_ hrd
  replace hb0 := nw_O n_ hb0
  replace nb := nw_tr nb n_ (Or.inr (by omega))
  replace eh : hn B2 = 64 := by omega
  replace es : hs B2 = hs A + 122 := by omega
  replace hz9 : ZV (vwd v 62) 64 := fun o z k => by
    rw [vwd_o (by omega)]
    exact hz9 o (by omega) k
  refine aw_putFr (pc' := 15) (k9 := 0) dX12_init_12 rfl fX12_14 rfl rfl rfl rfl rfl (by first | exact hb0 | exact old_O old_new hb0) ?_
  obtain ⟨B3, e_, n_, h_, s_, p0, o_⟩ := mkP (A := B2) (v := (vwd v 62)) (q := 60) (k := 0) (x := 61)
  rw [e_]
  replace hrd := nw_O n_ hrd
  replace r0 := (nw_hp n_ (by omega) (by omega)).trans r0
  replace r1 := (nw_hp n_ (by omega) (by omega)).trans r1
  replace r2 := nw_A n_ r2
  replace r3 := nw_A n_ r3
  replace hb0 := nw_O n_ hb0
  replace nb := nw_tr nb n_ (Or.inl rfl)
  replace eh : hn B3 = 64 := by omega
  replace es : hs B3 = hs A + 122 := by omega
  refine aw_aload_n (pc' := 16) rfl dX12_init_15 rfl ?_
  refine aw_new (ci := 3) (pc' := 19) (by decide) zX12_18 w3_new w3_ini dX12_init_16 rfl ?_
  obtain ⟨B4, e_, g_, h_, s_, hq_⟩ := mkO (A := B3) (kd := 4) (sl := clN 3) hz9 (by omega) (by omega)
  rw [e_]
  rw [clN_3] at s_
  have n_ := nw_old (q := 64) g_
  simp only [hn_cl, eh]
  rw [eh] at hq_
  replace hrd := nw_O n_ hrd
  replace r0 := (old_hp g_ (by omega)).trans r0
  replace r1 := (old_hp g_ (by omega)).trans r1
  replace r2 := nw_A n_ r2
  replace r3 := nw_A n_ r3
  replace p0 := (old_hp g_ (by omega)).trans p0
  replace hb0 := nw_O n_ hb0
  replace nb := nw_tr nb n_ (Or.inr (by omega))
  replace eh : hn B4 = 65 := by omega
  replace es : hs B4 = hs A + 127 := by omega
  have hmc := hq_
  refine aw_dup (pc' := 20) rfl dX12_init_19 rfl ?_
  refine aw_callI (d' := d - 1) (as := []) (pc' := 23) rfl kX4_init rfl iX4_init lX12_20 (by omega) dX12_init_20 rfl rfl (Nat.le_of_ble_eq_true rfl) (by omega) ?_
  refine x_newMachine (q := 64) (by omega) hq_ (by omega) (hz9.mono (by omega)) (fun B5 wm n_ h_ s_ t0 t1 t2 t3 t4 t5 t6 => ?_)
  simp only [Int.reduceAdd] at t0 t1 t2 t3 t4 t5 t6 ⊢
  replace hrd := nw_O n_ hrd
  replace r0 := (nw_hp n_ (by omega) (by omega)).trans r0
  replace r1 := (nw_hp n_ (by omega) (by omega)).trans r1
  replace r2 := nw_A n_ r2
  replace r3 := nw_A n_ r3
  replace p0 := (nw_hp n_ (by omega) (by omega)).trans p0
  replace hmc := nw_O n_ hmc
  replace hb0 := nw_O n_ hb0
  replace nb := nw_tr nb n_ (Or.inr (by omega))
  replace eh : hn B5 = 207 := by omega
  replace es : hs B5 = hs A + 2455 := by omega
  replace hz9 : ZV wm 207 := fun o z k => (t6 o k (by omega)).trans (hz9 o (by omega) k)
  refine aw_putFr (pc' := 26) (k9 := 1) dX12_init_23 rfl fX12_21 rfl rfl rfl rfl rfl (by first | exact hb0 | exact old_O old_new hb0) ?_
  obtain ⟨B6, e_, n_, h_, s_, p1, o_⟩ := mkP (A := B5) (v := wm) (q := 60) (k := 1) (x := 64)
  rw [e_]
  replace hrd := nw_O n_ hrd
  replace r0 := (nw_hp n_ (by omega) (by omega)).trans r0
  replace r1 := (nw_hp n_ (by omega) (by omega)).trans r1
  replace r2 := nw_A n_ r2
  replace r3 := nw_A n_ r3
  replace p0 := (o_ 0 (by decide)).trans p0
  replace hmc := nw_O n_ hmc
  replace t0 := (nw_hp n_ (by omega) (by omega)).trans t0
  replace t1 := (nw_hp n_ (by omega) (by omega)).trans t1
  replace t2 := nw_A n_ t2
  replace t3 := nw_A n_ t3
  replace t4 := fun j j0 j1 => frame_nw n_ (t4 j j0 j1) (by omega)
  replace hb0 := nw_O n_ hb0
  replace nb := nw_tr nb n_ (Or.inl rfl)
  replace eh : hn B6 = 207 := by omega
  replace es : hs B6 = hs A + 2455 := by omega
  refine aw_aload_n (pc' := 27) rfl dX12_init_26 rfl ?_
  refine aw_new (ci := 1) (pc' := 30) (by decide) zX12_25 w1_new w1_ini dX12_init_27 rfl ?_
  obtain ⟨B7, e_, g_, h_, s_, hq_⟩ := mkO (A := B6) (kd := 2) (sl := clN 1) hz9 (by omega) (by omega)
  rw [e_]
  rw [clN_1] at s_
  have n_ := nw_old (q := 207) g_
  simp only [hn_cl, eh]
  rw [eh] at hq_
  replace hrd := nw_O n_ hrd
  replace r0 := (old_hp g_ (by omega)).trans r0
  replace r1 := (old_hp g_ (by omega)).trans r1
  replace r2 := nw_A n_ r2
  replace r3 := nw_A n_ r3
  replace p0 := (old_hp g_ (by omega)).trans p0
  replace hmc := nw_O n_ hmc
  replace t0 := (old_hp g_ (by omega)).trans t0
  replace t1 := (old_hp g_ (by omega)).trans t1
  replace t2 := nw_A n_ t2
  replace t3 := nw_A n_ t3
  replace t4 := fun j j0 j1 => frame_nw n_ (t4 j j0 j1) (by omega)
  replace p1 := (old_hp g_ (by omega)).trans p1
  replace hb0 := nw_O n_ hb0
  replace nb := nw_tr nb n_ (Or.inr (by omega))
  replace eh : hn B7 = 208 := by omega
  replace es : hs B7 = hs A + 2464 := by omega
  refine aw_dup (pc' := 31) rfl dX12_init_30 rfl ?_
  refine aw_callI (d' := d - 1) (as := []) (pc' := 34) rfl kX2_init rfl iX2_init lX12_27 (by omega) dX12_init_31 rfl rfl (Nat.le_of_ble_eq_true rfl) (by omega) ?_
  refine x_newKept2 (q := 207) (by omega) hq_ (by omega) (hz9.mono (by omega)) (fun B8 n_ h_ s_ u0 => ?_)
  replace hrd := nw_O n_ hrd
  replace r0 := (nw_hp n_ (by omega) (by omega)).trans r0
  replace r1 := (nw_hp n_ (by omega) (by omega)).trans r1
  replace r2 := nw_A n_ r2
  replace r3 := nw_A n_ r3
  replace p0 := (nw_hp n_ (by omega) (by omega)).trans p0
  replace hmc := nw_O n_ hmc
  replace t0 := (nw_hp n_ (by omega) (by omega)).trans t0
  replace t1 := (nw_hp n_ (by omega) (by omega)).trans t1
  replace t2 := nw_A n_ t2
  replace t3 := nw_A n_ t3
  replace t4 := fun j j0 j1 => frame_nw n_ (t4 j j0 j1) (by omega)
  replace p1 := (nw_hp n_ (by omega) (by omega)).trans p1
  replace hb0 := nw_O n_ hb0
  replace nb := nw_tr nb n_ (Or.inr (by omega))
  replace eh : hn B8 = 221 := by omega
  replace es : hs B8 = hs A + 2589 := by omega
  replace hz9 : ZV (kpv wm 207) 221 := zv_kpv (hz9.mono (by decide)) (by decide)
  refine aw_putFr (pc' := 37) (k9 := 2) dX12_init_34 rfl fX12_28 rfl rfl rfl rfl rfl (by first | exact hb0 | exact old_O old_new hb0) ?_
  obtain ⟨B9, e_, n_, h_, s_, p2, o_⟩ := mkP (A := B8) (v := (kpv wm 207)) (q := 60) (k := 2) (x := 207)
  rw [e_]
  replace hrd := nw_O n_ hrd
  replace r0 := (nw_hp n_ (by omega) (by omega)).trans r0
  replace r1 := (nw_hp n_ (by omega) (by omega)).trans r1
  replace r2 := nw_A n_ r2
  replace r3 := nw_A n_ r3
  replace p0 := (o_ 0 (by decide)).trans p0
  replace hmc := nw_O n_ hmc
  replace t0 := (nw_hp n_ (by omega) (by omega)).trans t0
  replace t1 := (nw_hp n_ (by omega) (by omega)).trans t1
  replace t2 := nw_A n_ t2
  replace t3 := nw_A n_ t3
  replace t4 := fun j j0 j1 => frame_nw n_ (t4 j j0 j1) (by omega)
  replace p1 := (o_ 1 (by decide)).trans p1
  replace u0 := kept_nw n_ u0 (by omega)
  replace hb0 := nw_O n_ hb0
  replace nb := nw_tr nb n_ (Or.inl rfl)
  replace eh : hn B9 = 221 := by omega
  replace es : hs B9 = hs A + 2589 := by omega
  refine aw_aload_n (pc' := 38) rfl dX12_init_37 rfl ?_
  refine aw_new (ci := 1) (pc' := 41) (by decide) zX12_25 w1_new w1_ini dX12_init_38 rfl ?_
  obtain ⟨B10, e_, g_, h_, s_, hq_⟩ := mkO (A := B9) (kd := 2) (sl := clN 1) hz9 (by omega) (by omega)
  rw [e_]
  rw [clN_1] at s_
  have n_ := nw_old (q := 221) g_
  simp only [hn_cl, eh]
  rw [eh] at hq_
  replace hrd := nw_O n_ hrd
  replace r0 := (old_hp g_ (by omega)).trans r0
  replace r1 := (old_hp g_ (by omega)).trans r1
  replace r2 := nw_A n_ r2
  replace r3 := nw_A n_ r3
  replace p0 := (old_hp g_ (by omega)).trans p0
  replace hmc := nw_O n_ hmc
  replace t0 := (old_hp g_ (by omega)).trans t0
  replace t1 := (old_hp g_ (by omega)).trans t1
  replace t2 := nw_A n_ t2
  replace t3 := nw_A n_ t3
  replace t4 := fun j j0 j1 => frame_nw n_ (t4 j j0 j1) (by omega)
  replace p1 := (old_hp g_ (by omega)).trans p1
  replace u0 := kept_nw n_ u0 (by omega)
  replace p2 := (old_hp g_ (by omega)).trans p2
  replace hb0 := nw_O n_ hb0
  replace nb := nw_tr nb n_ (Or.inr (by omega))
  replace eh : hn B10 = 222 := by omega
  replace es : hs B10 = hs A + 2598 := by omega
  refine aw_dup (pc' := 42) rfl dX12_init_41 rfl ?_
  refine aw_callI (d' := d - 1) (as := []) (pc' := 45) rfl kX2_init rfl iX2_init lX12_27 (by omega) dX12_init_42 rfl rfl (Nat.le_of_ble_eq_true rfl) (by omega) ?_
  refine x_newKept2 (q := 221) (by omega) hq_ (by omega) (hz9.mono (by omega)) (fun B11 n_ h_ s_ u1 => ?_)
  replace hrd := nw_O n_ hrd
  replace r0 := (nw_hp n_ (by omega) (by omega)).trans r0
  replace r1 := (nw_hp n_ (by omega) (by omega)).trans r1
  replace r2 := nw_A n_ r2
  replace r3 := nw_A n_ r3
  replace p0 := (nw_hp n_ (by omega) (by omega)).trans p0
  replace hmc := nw_O n_ hmc
  replace t0 := (nw_hp n_ (by omega) (by omega)).trans t0
  replace t1 := (nw_hp n_ (by omega) (by omega)).trans t1
  replace t2 := nw_A n_ t2
  replace t3 := nw_A n_ t3
  replace t4 := fun j j0 j1 => frame_nw n_ (t4 j j0 j1) (by omega)
  replace p1 := (nw_hp n_ (by omega) (by omega)).trans p1
  replace u0 := kept_nw n_ u0 (by omega)
  replace p2 := (nw_hp n_ (by omega) (by omega)).trans p2
  replace hb0 := nw_O n_ hb0
  replace nb := nw_tr nb n_ (Or.inr (by omega))
  replace eh : hn B11 = 235 := by omega
  replace es : hs B11 = hs A + 2723 := by omega
  replace hz9 : ZV (kpv (kpv wm 207) 221) 235 := zv_kpv (hz9.mono (by decide)) (by decide)
  refine aw_putFr (pc' := 48) (k9 := 3) dX12_init_45 rfl fX12_32 rfl rfl rfl rfl rfl (by first | exact hb0 | exact old_O old_new hb0) ?_
  obtain ⟨B12, e_, n_, h_, s_, p3, o_⟩ := mkP (A := B11) (v := (kpv (kpv wm 207) 221)) (q := 60) (k := 3) (x := 221)
  rw [e_]
  replace hrd := nw_O n_ hrd
  replace r0 := (nw_hp n_ (by omega) (by omega)).trans r0
  replace r1 := (nw_hp n_ (by omega) (by omega)).trans r1
  replace r2 := nw_A n_ r2
  replace r3 := nw_A n_ r3
  replace p0 := (o_ 0 (by decide)).trans p0
  replace hmc := nw_O n_ hmc
  replace t0 := (nw_hp n_ (by omega) (by omega)).trans t0
  replace t1 := (nw_hp n_ (by omega) (by omega)).trans t1
  replace t2 := nw_A n_ t2
  replace t3 := nw_A n_ t3
  replace t4 := fun j j0 j1 => frame_nw n_ (t4 j j0 j1) (by omega)
  replace p1 := (o_ 1 (by decide)).trans p1
  replace u0 := kept_nw n_ u0 (by omega)
  replace p2 := (o_ 2 (by decide)).trans p2
  replace u1 := kept_nw n_ u1 (by omega)
  replace hb0 := nw_O n_ hb0
  replace nb := nw_tr nb n_ (Or.inl rfl)
  replace eh : hn B12 = 235 := by omega
  replace es : hs B12 = hs A + 2723 := by omega
  refine aw_aload_n (pc' := 49) rfl dX12_init_48 rfl ?_
  refine aw_new (ci := 1) (pc' := 52) (by decide) zX12_25 w1_new w1_ini dX12_init_49 rfl ?_
  obtain ⟨B13, e_, g_, h_, s_, hq_⟩ := mkO (A := B12) (kd := 2) (sl := clN 1) hz9 (by omega) (by omega)
  rw [e_]
  rw [clN_1] at s_
  have n_ := nw_old (q := 235) g_
  simp only [hn_cl, eh]
  rw [eh] at hq_
  replace hrd := nw_O n_ hrd
  replace r0 := (old_hp g_ (by omega)).trans r0
  replace r1 := (old_hp g_ (by omega)).trans r1
  replace r2 := nw_A n_ r2
  replace r3 := nw_A n_ r3
  replace p0 := (old_hp g_ (by omega)).trans p0
  replace hmc := nw_O n_ hmc
  replace t0 := (old_hp g_ (by omega)).trans t0
  replace t1 := (old_hp g_ (by omega)).trans t1
  replace t2 := nw_A n_ t2
  replace t3 := nw_A n_ t3
  replace t4 := fun j j0 j1 => frame_nw n_ (t4 j j0 j1) (by omega)
  replace p1 := (old_hp g_ (by omega)).trans p1
  replace u0 := kept_nw n_ u0 (by omega)
  replace p2 := (old_hp g_ (by omega)).trans p2
  replace u1 := kept_nw n_ u1 (by omega)
  replace p3 := (old_hp g_ (by omega)).trans p3
  replace hb0 := nw_O n_ hb0
  replace nb := nw_tr nb n_ (Or.inr (by omega))
  replace eh : hn B13 = 236 := by omega
  replace es : hs B13 = hs A + 2732 := by omega
  refine aw_dup (pc' := 53) rfl dX12_init_52 rfl ?_
  refine aw_callI (d' := d - 1) (as := []) (pc' := 56) rfl kX2_init rfl iX2_init lX12_27 (by omega) dX12_init_53 rfl rfl (Nat.le_of_ble_eq_true rfl) (by omega) ?_
  refine x_newKept2 (q := 235) (by omega) hq_ (by omega) (hz9.mono (by omega)) (fun B14 n_ h_ s_ u2 => ?_)
  replace hrd := nw_O n_ hrd
  replace r0 := (nw_hp n_ (by omega) (by omega)).trans r0
  replace r1 := (nw_hp n_ (by omega) (by omega)).trans r1
  replace r2 := nw_A n_ r2
  replace r3 := nw_A n_ r3
  replace p0 := (nw_hp n_ (by omega) (by omega)).trans p0
  replace hmc := nw_O n_ hmc
  replace t0 := (nw_hp n_ (by omega) (by omega)).trans t0
  replace t1 := (nw_hp n_ (by omega) (by omega)).trans t1
  replace t2 := nw_A n_ t2
  replace t3 := nw_A n_ t3
  replace t4 := fun j j0 j1 => frame_nw n_ (t4 j j0 j1) (by omega)
  replace p1 := (nw_hp n_ (by omega) (by omega)).trans p1
  replace u0 := kept_nw n_ u0 (by omega)
  replace p2 := (nw_hp n_ (by omega) (by omega)).trans p2
  replace u1 := kept_nw n_ u1 (by omega)
  replace p3 := (nw_hp n_ (by omega) (by omega)).trans p3
  replace hb0 := nw_O n_ hb0
  replace nb := nw_tr nb n_ (Or.inr (by omega))
  replace eh : hn B14 = 249 := by omega
  replace es : hs B14 = hs A + 2857 := by omega
  replace hz9 : ZV (kpv (kpv (kpv wm 207) 221) 235) 249 := zv_kpv (hz9.mono (by decide)) (by decide)
  refine aw_putFr (pc' := 59) (k9 := 5) dX12_init_56 rfl fX12_35 rfl rfl rfl rfl rfl (by first | exact hb0 | exact old_O old_new hb0) ?_
  obtain ⟨B15, e_, n_, h_, s_, p5, o_⟩ := mkP (A := B14) (v := (kpv (kpv (kpv wm 207) 221) 235)) (q := 60) (k := 5) (x := 235)
  rw [e_]
  replace hrd := nw_O n_ hrd
  replace r0 := (nw_hp n_ (by omega) (by omega)).trans r0
  replace r1 := (nw_hp n_ (by omega) (by omega)).trans r1
  replace r2 := nw_A n_ r2
  replace r3 := nw_A n_ r3
  replace p0 := (o_ 0 (by decide)).trans p0
  replace hmc := nw_O n_ hmc
  replace t0 := (nw_hp n_ (by omega) (by omega)).trans t0
  replace t1 := (nw_hp n_ (by omega) (by omega)).trans t1
  replace t2 := nw_A n_ t2
  replace t3 := nw_A n_ t3
  replace t4 := fun j j0 j1 => frame_nw n_ (t4 j j0 j1) (by omega)
  replace p1 := (o_ 1 (by decide)).trans p1
  replace u0 := kept_nw n_ u0 (by omega)
  replace p2 := (o_ 2 (by decide)).trans p2
  replace u1 := kept_nw n_ u1 (by omega)
  replace p3 := (o_ 3 (by decide)).trans p3
  replace u2 := kept_nw n_ u2 (by omega)
  replace hb0 := nw_O n_ hb0
  replace nb := nw_tr nb n_ (Or.inl rfl)
  replace eh : hn B15 = 249 := by omega
  replace es : hs B15 = hs A + 2857 := by omega
  refine aw_aload_n (pc' := 60) rfl dX12_init_59 rfl ?_
  refine aw_new (ci := 1) (pc' := 63) (by decide) zX12_25 w1_new w1_ini dX12_init_60 rfl ?_
  obtain ⟨B16, e_, g_, h_, s_, hq_⟩ := mkO (A := B15) (kd := 2) (sl := clN 1) hz9 (by omega) (by omega)
  rw [e_]
  rw [clN_1] at s_
  have n_ := nw_old (q := 249) g_
  simp only [hn_cl, eh]
  rw [eh] at hq_
  replace hrd := nw_O n_ hrd
  replace r0 := (old_hp g_ (by omega)).trans r0
  replace r1 := (old_hp g_ (by omega)).trans r1
  replace r2 := nw_A n_ r2
  replace r3 := nw_A n_ r3
  replace p0 := (old_hp g_ (by omega)).trans p0
  replace hmc := nw_O n_ hmc
  replace t0 := (old_hp g_ (by omega)).trans t0
  replace t1 := (old_hp g_ (by omega)).trans t1
  replace t2 := nw_A n_ t2
  replace t3 := nw_A n_ t3
  replace t4 := fun j j0 j1 => frame_nw n_ (t4 j j0 j1) (by omega)
  replace p1 := (old_hp g_ (by omega)).trans p1
  replace u0 := kept_nw n_ u0 (by omega)
  replace p2 := (old_hp g_ (by omega)).trans p2
  replace u1 := kept_nw n_ u1 (by omega)
  replace p3 := (old_hp g_ (by omega)).trans p3
  replace u2 := kept_nw n_ u2 (by omega)
  replace p5 := (old_hp g_ (by omega)).trans p5
  replace hb0 := nw_O n_ hb0
  replace nb := nw_tr nb n_ (Or.inr (by omega))
  replace eh : hn B16 = 250 := by omega
  replace es : hs B16 = hs A + 2866 := by omega
  refine aw_dup (pc' := 64) rfl dX12_init_63 rfl ?_
  refine aw_callI (d' := d - 1) (as := []) (pc' := 67) rfl kX2_init rfl iX2_init lX12_27 (by omega) dX12_init_64 rfl rfl (Nat.le_of_ble_eq_true rfl) (by omega) ?_
  refine x_newKept2 (q := 249) (by omega) hq_ (by omega) (hz9.mono (by omega)) (fun B17 n_ h_ s_ u3 => ?_)
  replace hrd := nw_O n_ hrd
  replace r0 := (nw_hp n_ (by omega) (by omega)).trans r0
  replace r1 := (nw_hp n_ (by omega) (by omega)).trans r1
  replace r2 := nw_A n_ r2
  replace r3 := nw_A n_ r3
  replace p0 := (nw_hp n_ (by omega) (by omega)).trans p0
  replace hmc := nw_O n_ hmc
  replace t0 := (nw_hp n_ (by omega) (by omega)).trans t0
  replace t1 := (nw_hp n_ (by omega) (by omega)).trans t1
  replace t2 := nw_A n_ t2
  replace t3 := nw_A n_ t3
  replace t4 := fun j j0 j1 => frame_nw n_ (t4 j j0 j1) (by omega)
  replace p1 := (nw_hp n_ (by omega) (by omega)).trans p1
  replace u0 := kept_nw n_ u0 (by omega)
  replace p2 := (nw_hp n_ (by omega) (by omega)).trans p2
  replace u1 := kept_nw n_ u1 (by omega)
  replace p3 := (nw_hp n_ (by omega) (by omega)).trans p3
  replace u2 := kept_nw n_ u2 (by omega)
  replace p5 := (nw_hp n_ (by omega) (by omega)).trans p5
  replace hb0 := nw_O n_ hb0
  replace nb := nw_tr nb n_ (Or.inr (by omega))
  replace eh : hn B17 = 263 := by omega
  replace es : hs B17 = hs A + 2991 := by omega
  replace hz9 : ZV (kpv (kpv (kpv (kpv wm 207) 221) 235) 249) 263 := zv_kpv (hz9.mono (by decide)) (by decide)
  refine aw_putFr (pc' := 70) (k9 := 6) dX12_init_67 rfl fX12_38 rfl rfl rfl rfl rfl (by first | exact hb0 | exact old_O old_new hb0) ?_
  obtain ⟨B18, e_, n_, h_, s_, p6, o_⟩ := mkP (A := B17) (v := (kpv (kpv (kpv (kpv wm 207) 221) 235) 249)) (q := 60) (k := 6) (x := 249)
  rw [e_]
  replace hrd := nw_O n_ hrd
  replace r0 := (nw_hp n_ (by omega) (by omega)).trans r0
  replace r1 := (nw_hp n_ (by omega) (by omega)).trans r1
  replace r2 := nw_A n_ r2
  replace r3 := nw_A n_ r3
  replace p0 := (o_ 0 (by decide)).trans p0
  replace hmc := nw_O n_ hmc
  replace t0 := (nw_hp n_ (by omega) (by omega)).trans t0
  replace t1 := (nw_hp n_ (by omega) (by omega)).trans t1
  replace t2 := nw_A n_ t2
  replace t3 := nw_A n_ t3
  replace t4 := fun j j0 j1 => frame_nw n_ (t4 j j0 j1) (by omega)
  replace p1 := (o_ 1 (by decide)).trans p1
  replace u0 := kept_nw n_ u0 (by omega)
  replace p2 := (o_ 2 (by decide)).trans p2
  replace u1 := kept_nw n_ u1 (by omega)
  replace p3 := (o_ 3 (by decide)).trans p3
  replace u2 := kept_nw n_ u2 (by omega)
  replace p5 := (o_ 5 (by decide)).trans p5
  replace u3 := kept_nw n_ u3 (by omega)
  replace hb0 := nw_O n_ hb0
  replace nb := nw_tr nb n_ (Or.inl rfl)
  replace eh : hn B18 = 263 := by omega
  replace es : hs B18 = hs A + 2991 := by omega
  refine aw_aload_n (pc' := 71) rfl dX12_init_70 rfl ?_
  refine aw_iconst (pc' := 72) (by decide) dX12_init_71 rfl ?_
  refine aw_newq (kd := 30) (t0 := 4) (pc' := 75) (fun _ => rfl) (by decide) zX12_41 (by decide) dX12_init_72 rfl (by omega) (by omega) ?_
  refine aw_putFr (pc' := 78) (k9 := 7) dX12_init_75 rfl fX12_43 rfl rfl rfl rfl rfl (by first | exact hb0 | exact old_O old_new hb0) ?_
  obtain ⟨B19, e_, n_, h_, s_, p7, o_, i7⟩ := mkA (A := B18) (q := 60) (k := 7) (kd := 30) (n := 4) (sl := Int.toNat 4) hz9 (by omega) (by omega) (by decide)
  rw [e_]
  rw [eh] at p7 i7
  replace hrd := nw_O n_ hrd
  replace r0 := (nw_hp n_ (by omega) (by omega)).trans r0
  replace r1 := (nw_hp n_ (by omega) (by omega)).trans r1
  replace r2 := nw_A n_ r2
  replace r3 := nw_A n_ r3
  replace p0 := (o_ 0 (by decide)).trans p0
  replace hmc := nw_O n_ hmc
  replace t0 := (nw_hp n_ (by omega) (by omega)).trans t0
  replace t1 := (nw_hp n_ (by omega) (by omega)).trans t1
  replace t2 := nw_A n_ t2
  replace t3 := nw_A n_ t3
  replace t4 := fun j j0 j1 => frame_nw n_ (t4 j j0 j1) (by omega)
  replace p1 := (o_ 1 (by decide)).trans p1
  replace u0 := kept_nw n_ u0 (by omega)
  replace p2 := (o_ 2 (by decide)).trans p2
  replace u1 := kept_nw n_ u1 (by omega)
  replace p3 := (o_ 3 (by decide)).trans p3
  replace u2 := kept_nw n_ u2 (by omega)
  replace p5 := (o_ 5 (by decide)).trans p5
  replace u3 := kept_nw n_ u3 (by omega)
  replace p6 := (o_ 6 (by decide)).trans p6
  replace hb0 := nw_O n_ hb0
  replace nb := nw_tr nb n_ (Or.inl rfl)
  replace eh : hn B19 = 264 := by omega
  replace es : hs B19 = hs A + 2995 := by omega
  refine aw_aload_n (pc' := 79) rfl dX12_init_78 rfl ?_
  refine aw_iconst (pc' := 80) (by decide) dX12_init_79 rfl ?_
  refine aw_newa (atype := .int) (kd := 20) (t0 := 0) (pc' := 82) (fun _ => rfl) (Or.inl ⟨rfl, rfl⟩) w_aint dX12_init_80 rfl (by omega) (by omega) ?_
  refine aw_putFr (pc' := 85) (k9 := 8) dX12_init_82 rfl fX12_47 rfl rfl rfl rfl rfl (by first | exact hb0 | exact old_O old_new hb0) ?_
  obtain ⟨B20, e_, n_, h_, s_, p8, o_, i8⟩ := mkA (A := B19) (q := 60) (k := 8) (kd := 20) (n := 4) (sl := Int.toNat 4) hz9 (by omega) (by omega) (by decide)
  rw [e_]
  rw [eh] at p8 i8
  replace hrd := nw_O n_ hrd
  replace r0 := (nw_hp n_ (by omega) (by omega)).trans r0
  replace r1 := (nw_hp n_ (by omega) (by omega)).trans r1
  replace r2 := nw_A n_ r2
  replace r3 := nw_A n_ r3
  replace p0 := (o_ 0 (by decide)).trans p0
  replace hmc := nw_O n_ hmc
  replace t0 := (nw_hp n_ (by omega) (by omega)).trans t0
  replace t1 := (nw_hp n_ (by omega) (by omega)).trans t1
  replace t2 := nw_A n_ t2
  replace t3 := nw_A n_ t3
  replace t4 := fun j j0 j1 => frame_nw n_ (t4 j j0 j1) (by omega)
  replace p1 := (o_ 1 (by decide)).trans p1
  replace u0 := kept_nw n_ u0 (by omega)
  replace p2 := (o_ 2 (by decide)).trans p2
  replace u1 := kept_nw n_ u1 (by omega)
  replace p3 := (o_ 3 (by decide)).trans p3
  replace u2 := kept_nw n_ u2 (by omega)
  replace p5 := (o_ 5 (by decide)).trans p5
  replace u3 := kept_nw n_ u3 (by omega)
  replace p6 := (o_ 6 (by decide)).trans p6
  replace p7 := (o_ 7 (by decide)).trans p7
  replace i7 := nw_A n_ i7
  replace hb0 := nw_O n_ hb0
  replace nb := nw_tr nb n_ (Or.inl rfl)
  replace eh : hn B20 = 265 := by omega
  replace es : hs B20 = hs A + 2999 := by omega
  refine aw_aload_n (pc' := 86) rfl dX12_init_85 rfl ?_
  refine aw_iconst (pc' := 87) (by decide) dX12_init_86 rfl ?_
  refine aw_newa (atype := .int) (kd := 20) (t0 := 0) (pc' := 89) (fun _ => rfl) (Or.inl ⟨rfl, rfl⟩) w_aint dX12_init_87 rfl (by omega) (by omega) ?_
  refine aw_putFr (pc' := 92) (k9 := 9) dX12_init_89 rfl fX12_51 rfl rfl rfl rfl rfl (by first | exact hb0 | exact old_O old_new hb0) ?_
  obtain ⟨B21, e_, n_, h_, s_, p9, o_, i9⟩ := mkA (A := B20) (q := 60) (k := 9) (kd := 20) (n := 4) (sl := Int.toNat 4) hz9 (by omega) (by omega) (by decide)
  rw [e_]
  rw [eh] at p9 i9
  replace hrd := nw_O n_ hrd
  replace r0 := (nw_hp n_ (by omega) (by omega)).trans r0
  replace r1 := (nw_hp n_ (by omega) (by omega)).trans r1
  replace r2 := nw_A n_ r2
  replace r3 := nw_A n_ r3
  replace p0 := (o_ 0 (by decide)).trans p0
  replace hmc := nw_O n_ hmc
  replace t0 := (nw_hp n_ (by omega) (by omega)).trans t0
  replace t1 := (nw_hp n_ (by omega) (by omega)).trans t1
  replace t2 := nw_A n_ t2
  replace t3 := nw_A n_ t3
  replace t4 := fun j j0 j1 => frame_nw n_ (t4 j j0 j1) (by omega)
  replace p1 := (o_ 1 (by decide)).trans p1
  replace u0 := kept_nw n_ u0 (by omega)
  replace p2 := (o_ 2 (by decide)).trans p2
  replace u1 := kept_nw n_ u1 (by omega)
  replace p3 := (o_ 3 (by decide)).trans p3
  replace u2 := kept_nw n_ u2 (by omega)
  replace p5 := (o_ 5 (by decide)).trans p5
  replace u3 := kept_nw n_ u3 (by omega)
  replace p6 := (o_ 6 (by decide)).trans p6
  replace p7 := (o_ 7 (by decide)).trans p7
  replace i7 := nw_A n_ i7
  replace p8 := (o_ 8 (by decide)).trans p8
  replace i8 := nw_A n_ i8
  replace hb0 := nw_O n_ hb0
  replace nb := nw_tr nb n_ (Or.inl rfl)
  replace eh : hn B21 = 266 := by omega
  replace es : hs B21 = hs A + 3003 := by omega
  refine aw_aload_n (pc' := 93) rfl dX12_init_92 rfl ?_
  refine aw_bipush (pc' := 95) (by decide +kernel) dX12_init_93 rfl ?_
  refine aw_newq (kd := 39) (t0 := 7) (pc' := 98) (fun _ => rfl) (by decide) zX12_54 (by decide) dX12_init_95 rfl (by omega) (by omega) ?_
  refine aw_putFr (pc' := 101) (k9 := 10) dX12_init_98 rfl fX12_56 rfl rfl rfl rfl rfl (by first | exact hb0 | exact old_O old_new hb0) ?_
  obtain ⟨B22, e_, n_, h_, s_, p10, o_, i10⟩ := mkA (A := B21) (q := 60) (k := 10) (kd := 39) (n := 6) (sl := Int.toNat 6) hz9 (by omega) (by omega) (by decide)
  rw [e_]
  rw [eh] at p10 i10
  replace hrd := nw_O n_ hrd
  replace r0 := (nw_hp n_ (by omega) (by omega)).trans r0
  replace r1 := (nw_hp n_ (by omega) (by omega)).trans r1
  replace r2 := nw_A n_ r2
  replace r3 := nw_A n_ r3
  replace p0 := (o_ 0 (by decide)).trans p0
  replace hmc := nw_O n_ hmc
  replace t0 := (nw_hp n_ (by omega) (by omega)).trans t0
  replace t1 := (nw_hp n_ (by omega) (by omega)).trans t1
  replace t2 := nw_A n_ t2
  replace t3 := nw_A n_ t3
  replace t4 := fun j j0 j1 => frame_nw n_ (t4 j j0 j1) (by omega)
  replace p1 := (o_ 1 (by decide)).trans p1
  replace u0 := kept_nw n_ u0 (by omega)
  replace p2 := (o_ 2 (by decide)).trans p2
  replace u1 := kept_nw n_ u1 (by omega)
  replace p3 := (o_ 3 (by decide)).trans p3
  replace u2 := kept_nw n_ u2 (by omega)
  replace p5 := (o_ 5 (by decide)).trans p5
  replace u3 := kept_nw n_ u3 (by omega)
  replace p6 := (o_ 6 (by decide)).trans p6
  replace p7 := (o_ 7 (by decide)).trans p7
  replace i7 := nw_A n_ i7
  replace p8 := (o_ 8 (by decide)).trans p8
  replace i8 := nw_A n_ i8
  replace p9 := (o_ 9 (by decide)).trans p9
  replace i9 := nw_A n_ i9
  replace hb0 := nw_O n_ hb0
  replace nb := nw_tr nb n_ (Or.inl rfl)
  replace eh : hn B22 = 267 := by omega
  replace es : hs B22 = hs A + 3009 := by omega
  refine aw_iconst (pc' := 102) (by decide) dX12_init_101 rfl ?_
  refine aw_istore_n (pc' := 103) (lv' := [_, _]) dX12_init_102 rfl (by decide) rfl ?_
  refine lx_jobs (C := B22) (by omega) eh (by rw [eh]; exact hz9.mono (by decide)) p7 p8 hb0 i7 i8 (fun D1 w1 hJ => ?_) 4 0 B22 (kpv (kpv (kpv (kpv wm 207) 221) 235) 249) (by omega) (by omega) (by omega) ⟨old_rfl _, by omega, by omega, fun j j0 j1 => by omega, fun j j0 j1 => by omega, fun o k _ => rfl⟩
  have hz8 := jlp_z hJ (by rw [eh]; exact hz9.mono (by decide)) eh (by decide)
  obtain ⟨j1, j2, j3, j4, j5, j6⟩ := hJ
  have jn := nw_old (q := 60) j1
  refine lx_tapes (C := D1) (by omega) (by omega) hz8 ((old_hp j1 (by omega)).trans p10) (nw_O jn hb0) (nw_A jn i10) (fun D2 w2 hT => ?_) 6 0 D1 w1 (by omega) (by omega) (by omega) ⟨old_rfl _, by omega, by omega, fun j j0 j1 => by omega, fun j j0 j1 => by omega, fun o k _ _ => rfl⟩
  obtain ⟨g1, g2, g3, g4, g5, g6⟩ := hT
  have o2 : OLD B22 D2 := old_tr j1 g1
  have on := nw_old (q := 60) o2
  have og := nw_old (q := 60) g1
  have P : ∀ {o k p : Int}, o < 267 → hp B22 o k = p → hp D2 o k = p := fun z e => (old_hp o2 (by omega)).trans e
  refine hQ D2 w2 (nw_tr nb on (Or.inl rfl)) (by omega) (by omega) ⟨nw_O on hb0, nw_O on hrd, nw_O on hmc, P (by decide) p0, P (by decide) p1, P (by decide) p2, P (by decide) p3, P (by decide) p5, P (by decide) p6, P (by decide) p7, P (by decide) p8, P (by decide) p9, P (by decide) p10, P (by decide) r0, P (by decide) r1, P (by decide) t0, P (by decide) t1, nw_A on i7, nw_A on i8, nw_A on i9, nw_A on i10, nw_A on r2, nw_A on r3, nw_A on t2, nw_A on t3, kept_nw on u0 (by decide), kept_nw on u1 (by decide), kept_nw on u2 (by decide), kept_nw on u3 (by decide), fun j j0 j1 => frame_nw on (t4 j j0 j1) (by omega), fun j j0 j1 => frame_nw og (j4 j j0 j1) (by omega), g4⟩ ⟨fun j j0 j1 => ?_, fun j j0 j1 => ?_, fun a k z => ?_, fun j j0 j1 => ?_, fun j j0 j1 => g5 j j0 j1, fun o k z1 z2 z3 z4 z5 z6 z7 => ?_⟩
  · rw [g6 _ _ (by omega) (by omega), j6 _ _ (by omega), kpv_o (by omega) (by omega), kpv_o (by omega) (by omega), kpv_o (by omega) (by omega), kpv_o (by omega) (by omega), t6 _ _ (by omega)]
    exact vwd_e ⟨j0, j1⟩
  · rw [g6 _ _ (by omega) (by omega), j6 _ _ (by omega), kpv_o (by omega) (by omega), kpv_o (by omega) (by omega), kpv_o (by omega) (by omega), kpv_o (by omega) (by omega)]
    have := t5 j j0 j1
    omega
  · rw [g6 _ _ (by omega) (by omega), j6 _ _ (by omega)]
    by_cases c1 : (a = 249 ∧ k = 2) ∨ (a = 251 ∧ 0 ≤ k ∧ k ≤ 2)
    · exact kpv_e (by omega)
    · rw [kpv_o (by omega) (by omega)]
      by_cases c2 : (a = 235 ∧ k = 2) ∨ (a = 237 ∧ 0 ≤ k ∧ k ≤ 2)
      · exact kpv_e (by omega)
      · rw [kpv_o (by omega) (by omega)]
        by_cases c3 : (a = 221 ∧ k = 2) ∨ (a = 223 ∧ 0 ≤ k ∧ k ≤ 2)
        · exact kpv_e (by omega)
        · rw [kpv_o (by omega) (by omega)]
          exact kpv_e (by omega)
  · rw [g6 263 j (by omega) (by omega), g6 264 j (by omega) (by omega)]
    exact j5 j j0 j1
  · rw [g6 _ _ (by omega) (by omega), j6 _ _ (by omega), kpv_o (by omega) (by omega), kpv_o (by omega) (by omega), kpv_o (by omega) (by omega), kpv_o (by omega) (by omega), t6 _ _ (by omega)]
    by_cases c : o = 62
    · subst c
      unfold vwd
      rw [if_pos rfl, if_neg (z1 rfl), hz 62 (by omega) k]
    · exact vwd_o c
