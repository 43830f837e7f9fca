set_option maxRecDepth 20000 in
theorem x_newKept {d : Nat} {q : Int} {A : AHp} {v : Sg} {Q : Option AV → AHp → Prop} (hd : 2 ≤ d) (hO : isO A q 2) (hq : q + 1 = hn A) (hz : ZV v (hn A)) (hQ : ∀ B, NW q A B → hn B = hn A + 13 → hs B = hs A + 125 → KeptAt B q → Q none (cl B (sset (sset (sset (sset v q 2 (-5)) (q + 2) 0 (-5)) (q + 2) 1 (-5)) (q + 2) 2 (-5)))) : CALL d mX2_init [vr q] (cl A v) Q := by
  refine CALL.of (by decide) (Nat.le_of_ble_eq_true rfl) ?_
  change AW d mX2_init 0 [some (vr q), none] [] (cl A v) Q
  have nb : NW q A A := nw_rfl
  have hb0 : isO A q 2 := hO
  have eh : hn A = hn A + 0 := by omega
  have es : hs A = hs A + 0 := rfl
  have hz9 : ZV v (hn A) := hz
  have h60 := hO.1
  refine aw_aload_n (pc' := 1) rfl dX2_init_0 rfl ?_
  refine aw_obj (pc' := 4) lX2_3 w_oi w_oc (by omega) (Nat.le_of_ble_eq_true rfl) dX2_init_1 rfl hO.1 ?_
  refine aw_aload_n (pc' := 5) rfl dX2_init_4 rfl ?_
  refine aw_iconst (pc' := 6) (by decide) dX2_init_5 rfl ?_
  refine aw_newa (atype := .int) (kd := 20) (t0 := 0) (pc' := 8) (fun _ => rfl) (Or.inl ⟨rfl, rfl⟩) w_aint dX2_init_6 rfl (by omega) (by omega) ?_
  refine aw_putFr (pc' := 11) (k9 := 0) dX2_init_8 rfl fX2_9 rfl rfl rfl rfl rfl (by first | exact hb0 | exact old_O old_new hb0) ?_
  obtain ⟨B1, e_, n_, h_, s_, p0, o_, i0⟩ := mkA (A := A) (q := q) (k := 0) (kd := 20) (n := 5) (sl := Int.toNat 5) hz9 (by omega) (by have := hb0.2.1; omega) (by omega)
  rw [e_]
  replace hb0 := nw_O n_ hb0
  replace nb := nw_tr nb n_ (Or.inl rfl)
  replace eh : hn B1 = hn A + 1 := by omega
  replace es : hs B1 = hs A + 5 := by omega
  try simp only [hn_cl]
  refine aw_aload_n (pc' := 12) rfl dX2_init_11 rfl ?_
  refine aw_iconst (pc' := 13) (by decide) dX2_init_12 rfl ?_
  refine aw_newa (atype := .int) (kd := 20) (t0 := 0) (pc' := 15) (fun _ => rfl) (Or.inl ⟨rfl, rfl⟩) w_aint dX2_init_13 rfl (by omega) (by omega) ?_
  refine aw_putFr (pc' := 18) (k9 := 1) dX2_init_15 rfl fX2_15 rfl rfl rfl rfl rfl (by first | exact hb0 | exact old_O old_new hb0) ?_
  obtain ⟨B2, e_, n_, h_, s_, p1, o_, i1⟩ := mkA (A := B1) (q := q) (k := 1) (kd := 20) (n := 3) (sl := Int.toNat 3) hz9 (by omega) (by have := hb0.2.1; omega) (by omega)
  rw [e_]
  replace p0 := (o_ 0 (by decide)).trans p0
  replace i0 := nw_A n_ i0
  replace hb0 := nw_O n_ hb0
  replace nb := nw_tr nb n_ (Or.inl rfl)
  replace eh : hn B2 = hn A + 2 := by omega
  replace es : hs B2 = hs A + 8 := by omega
  try simp only [hn_cl]
  refine aw_aload_n (pc' := 19) rfl dX2_init_18 rfl ?_
  refine aw_bipush (pc' := 21) (by decide +kernel) dX2_init_19 rfl ?_
  refine aw_puti (pc' := 24) (k9 := 2) dX2_init_21 rfl fX2_18 rfl rfl rfl (by first | exact hb0 | exact old_O old_new hb0) ?_
  rw [cl_set]
  replace hz9 : ZV (sset v q 2 (-5)) (hn A) := hz9.set (by omega)
  refine aw_aload_n (pc' := 25) rfl dX2_init_24 rfl ?_
  refine aw_new (ci := 4) (pc' := 28) (by decide) zX2_22 w4_new w4_ini dX2_init_25 rfl ?_
  obtain ⟨B3, e_, g_, h_, s_, hq_⟩ := mkO (A := B2) (kd := 5) (sl := clN 4) hz9 (by omega) (by omega)
  rw [e_]
  rw [clN_4] at s_
  have n_ := nw_old (q := hn B2) g_
  replace p0 := (old_hp g_ hb0.2.1).trans p0
  replace i0 := nw_A n_ i0
  replace p1 := (old_hp g_ hb0.2.1).trans p1
  replace i1 := nw_A n_ i1
  replace hb0 := nw_O n_ hb0
  replace nb := nw_tr nb n_ (Or.inr (by omega))
  replace eh : hn B3 = hn A + 3 := by omega
  replace es : hs B3 = hs A + 10 := by omega
  try simp only [hn_cl]
  refine aw_dup (pc' := 29) rfl dX2_init_28 rfl ?_
  refine aw_callIN (d' := d - 1) (as := []) (pc' := 32) rfl kX5_init rfl iX5_init nX2_24 (by omega) dX2_init_29 rfl rfl (Nat.le_of_ble_eq_true rfl) (by omega) ?_
  refine x_nums (q := hn B2) (by omega) hq_ (by omega) (hz9.mono (by omega)) (fun B4 n_ h_ s_ u1 => ?_)
  replace p0 := (nw_hp n_ hb0.2.1 (by omega)).trans p0
  replace i0 := nw_A n_ i0
  replace p1 := (nw_hp n_ hb0.2.1 (by omega)).trans p1
  replace i1 := nw_A n_ i1
  replace hb0 := nw_O n_ hb0
  replace nb := nw_tr nb n_ (Or.inr (by omega))
  replace eh : hn B4 = hn A + 4 := by omega
  replace es : hs B4 = hs A + 70 := by omega
  try simp only [hn_cl]
  refine aw_putFr (pc' := 35) (k9 := 3) dX2_init_32 rfl fX2_25 rfl rfl rfl rfl rfl (by first | exact hb0 | exact old_O old_new hb0) ?_
  obtain ⟨B5, e_, n_, h_, s_, p3, o_⟩ := mkP (A := B4) (v := (sset v q 2 (-5))) (q := q) (k := 3) (x := hn B2)
  rw [e_]
  replace p0 := (o_ 0 (by decide)).trans p0
  replace i0 := nw_A n_ i0
  replace p1 := (o_ 1 (by decide)).trans p1
  replace i1 := nw_A n_ i1
  replace u1 := nums_nw n_ u1 (by omega)
  replace hb0 := nw_O n_ hb0
  replace nb := nw_tr nb n_ (Or.inl rfl)
  replace eh : hn B5 = hn A + 4 := by omega
  replace es : hs B5 = hs A + 70 := by omega
  try simp only [hn_cl]
  refine aw_aload_n (pc' := 36) rfl dX2_init_35 rfl ?_
  refine aw_new (ci := 7) (pc' := 39) (by decide) zX2_29 w7_new w7_ini dX2_init_36 rfl ?_
  obtain ⟨B6, e_, g_, h_, s_, hq_⟩ := mkO (A := B5) (kd := 8) (sl := clN 7) hz9 (by omega) (by omega)
  rw [e_]
  rw [clN_7] at s_
  have n_ := nw_old (q := hn B5) g_
  replace p0 := (old_hp g_ hb0.2.1).trans p0
  replace i0 := nw_A n_ i0
  replace p1 := (old_hp g_ hb0.2.1).trans p1
  replace i1 := nw_A n_ i1
  replace u1 := nums_nw n_ u1 (by omega)
  replace p3 := (old_hp g_ hb0.2.1).trans p3
  replace hb0 := nw_O n_ hb0
  replace nb := nw_tr nb n_ (Or.inr (by omega))
  replace eh : hn B6 = hn A + 5 := by omega
  replace es : hs B6 = hs A + 73 := by omega
  try simp only [hn_cl]
  refine aw_dup (pc' := 40) rfl dX2_init_39 rfl ?_
  refine aw_iconst (pc' := 41) (by decide) dX2_init_40 rfl ?_
  refine aw_callI (d' := d - 1) (as := [_]) (pc' := 44) rfl kX8_init rfl iX8_init lX2_31 (by omega) dX2_init_41 rfl rfl (Nat.le_of_ble_eq_true rfl) (by omega) ?_
  refine x_rows (q := hn B5) (by omega) (by omega) hq_ (by omega) (hz9.mono (by omega)) (fun B7 n_ h_ s_ u2 => ?_)
  replace p0 := (nw_hp n_ hb0.2.1 (by omega)).trans p0
  replace i0 := nw_A n_ i0
  replace p1 := (nw_hp n_ hb0.2.1 (by omega)).trans p1
  replace i1 := nw_A n_ i1
  replace u1 := nums_nw n_ u1 (by omega)
  replace p3 := (nw_hp n_ hb0.2.1 (by omega)).trans p3
  replace hb0 := nw_O n_ hb0
  replace nb := nw_tr nb n_ (Or.inr (by omega))
  replace eh : hn B7 = hn A + 7 := by omega
  replace es : hs B7 = hs A + 83 := by omega
  try simp only [hn_cl]
  refine aw_putFr (pc' := 47) (k9 := 6) dX2_init_44 rfl fX2_34 rfl rfl rfl rfl rfl (by first | exact hb0 | exact old_O old_new hb0) ?_
  obtain ⟨B8, e_, n_, h_, s_, p6, o_⟩ := mkP (A := B7) (v := (sset v q 2 (-5))) (q := q) (k := 6) (x := hn B5)
  rw [e_]
  replace p0 := (o_ 0 (by decide)).trans p0
  replace i0 := nw_A n_ i0
  replace p1 := (o_ 1 (by decide)).trans p1
  replace i1 := nw_A n_ i1
  replace u1 := nums_nw n_ u1 (by omega)
  replace p3 := (o_ 3 (by decide)).trans p3
  replace u2 := rows_nw n_ u2 (by omega)
  replace hb0 := nw_O n_ hb0
  replace nb := nw_tr nb n_ (Or.inl rfl)
  replace eh : hn B8 = hn A + 7 := by omega
  replace es : hs B8 = hs A + 83 := by omega
  try simp only [hn_cl]
  refine aw_aload_n (pc' := 48) rfl dX2_init_47 rfl ?_
  refine aw_new (ci := 7) (pc' := 51) (by decide) zX2_29 w7_new w7_ini dX2_init_48 rfl ?_
  obtain ⟨B9, e_, g_, h_, s_, hq_⟩ := mkO (A := B8) (kd := 8) (sl := clN 7) hz9 (by omega) (by omega)
  rw [e_]
  rw [clN_7] at s_
  have n_ := nw_old (q := hn B8) g_
  replace p0 := (old_hp g_ hb0.2.1).trans p0
  replace i0 := nw_A n_ i0
  replace p1 := (old_hp g_ hb0.2.1).trans p1
  replace i1 := nw_A n_ i1
  replace u1 := nums_nw n_ u1 (by omega)
  replace p3 := (old_hp g_ hb0.2.1).trans p3
  replace u2 := rows_nw n_ u2 (by omega)
  replace p6 := (old_hp g_ hb0.2.1).trans p6
  replace hb0 := nw_O n_ hb0
  replace nb := nw_tr nb n_ (Or.inr (by omega))
  replace eh : hn B9 = hn A + 8 := by omega
  replace es : hs B9 = hs A + 86 := by omega
  try simp only [hn_cl]
  refine aw_dup (pc' := 52) rfl dX2_init_51 rfl ?_
  refine aw_bipush (pc' := 54) (by decide +kernel) dX2_init_52 rfl ?_
  refine aw_callI (d' := d - 1) (as := [_]) (pc' := 57) rfl kX8_init rfl iX8_init lX2_31 (by omega) dX2_init_54 rfl rfl (Nat.le_of_ble_eq_true rfl) (by omega) ?_
  refine x_rows (q := hn B8) (by omega) (by omega) hq_ (by omega) (hz9.mono (by omega)) (fun B10 n_ h_ s_ u3 => ?_)
  replace p0 := (nw_hp n_ hb0.2.1 (by omega)).trans p0
  replace i0 := nw_A n_ i0
  replace p1 := (nw_hp n_ hb0.2.1 (by omega)).trans p1
  replace i1 := nw_A n_ i1
  replace u1 := nums_nw n_ u1 (by omega)
  replace p3 := (nw_hp n_ hb0.2.1 (by omega)).trans p3
  replace u2 := rows_nw n_ u2 (by omega)
  replace p6 := (nw_hp n_ hb0.2.1 (by omega)).trans p6
  replace hb0 := nw_O n_ hb0
  replace nb := nw_tr nb n_ (Or.inr (by omega))
  replace eh : hn B10 = hn A + 10 := by omega
  replace es : hs B10 = hs A + 106 := by omega
  try simp only [hn_cl]
  refine aw_putFr (pc' := 60) (k9 := 7) dX2_init_57 rfl fX2_38 rfl rfl rfl rfl rfl (by first | exact hb0 | exact old_O old_new hb0) ?_
  obtain ⟨B11, e_, n_, h_, s_, p7, o_⟩ := mkP (A := B10) (v := (sset v q 2 (-5))) (q := q) (k := 7) (x := hn B8)
  rw [e_]
  replace p0 := (o_ 0 (by decide)).trans p0
  replace i0 := nw_A n_ i0
  replace p1 := (o_ 1 (by decide)).trans p1
  replace i1 := nw_A n_ i1
  replace u1 := nums_nw n_ u1 (by omega)
  replace p3 := (o_ 3 (by decide)).trans p3
  replace u2 := rows_nw n_ u2 (by omega)
  replace p6 := (o_ 6 (by decide)).trans p6
  replace u3 := rows_nw n_ u3 (by omega)
  replace hb0 := nw_O n_ hb0
  replace nb := nw_tr nb n_ (Or.inl rfl)
  replace eh : hn B11 = hn A + 10 := by omega
  replace es : hs B11 = hs A + 106 := by omega
  try simp only [hn_cl]
  refine aw_aload_n (pc' := 61) rfl dX2_init_60 rfl ?_
  refine aw_new (ci := 7) (pc' := 64) (by decide) zX2_29 w7_new w7_ini dX2_init_61 rfl ?_
  obtain ⟨B12, e_, g_, h_, s_, hq_⟩ := mkO (A := B11) (kd := 8) (sl := clN 7) hz9 (by omega) (by omega)
  rw [e_]
  rw [clN_7] at s_
  have n_ := nw_old (q := hn B11) g_
  replace p0 := (old_hp g_ hb0.2.1).trans p0
  replace i0 := nw_A n_ i0
  replace p1 := (old_hp g_ hb0.2.1).trans p1
  replace i1 := nw_A n_ i1
  replace u1 := nums_nw n_ u1 (by omega)
  replace p3 := (old_hp g_ hb0.2.1).trans p3
  replace u2 := rows_nw n_ u2 (by omega)
  replace p6 := (old_hp g_ hb0.2.1).trans p6
  replace u3 := rows_nw n_ u3 (by omega)
  replace p7 := (old_hp g_ hb0.2.1).trans p7
  replace hb0 := nw_O n_ hb0
  replace nb := nw_tr nb n_ (Or.inr (by omega))
  replace eh : hn B12 = hn A + 11 := by omega
  replace es : hs B12 = hs A + 109 := by omega
  try simp only [hn_cl]
  refine aw_dup (pc' := 65) rfl dX2_init_64 rfl ?_
  refine aw_bipush (pc' := 67) (by decide +kernel) dX2_init_65 rfl ?_
  refine aw_callI (d' := d - 1) (as := [_]) (pc' := 70) rfl kX8_init rfl iX8_init lX2_31 (by omega) dX2_init_67 rfl rfl (Nat.le_of_ble_eq_true rfl) (by omega) ?_
  refine x_rows (q := hn B11) (by omega) (by omega) hq_ (by omega) (hz9.mono (by omega)) (fun B13 n_ h_ s_ u4 => ?_)
  replace p0 := (nw_hp n_ hb0.2.1 (by omega)).trans p0
  replace i0 := nw_A n_ i0
  replace p1 := (nw_hp n_ hb0.2.1 (by omega)).trans p1
  replace i1 := nw_A n_ i1
  replace u1 := nums_nw n_ u1 (by omega)
  replace p3 := (nw_hp n_ hb0.2.1 (by omega)).trans p3
  replace u2 := rows_nw n_ u2 (by omega)
  replace p6 := (nw_hp n_ hb0.2.1 (by omega)).trans p6
  replace u3 := rows_nw n_ u3 (by omega)
  replace p7 := (nw_hp n_ hb0.2.1 (by omega)).trans p7
  replace hb0 := nw_O n_ hb0
  replace nb := nw_tr nb n_ (Or.inr (by omega))
  replace eh : hn B13 = hn A + 13 := by omega
  replace es : hs B13 = hs A + 125 := by omega
  try simp only [hn_cl]
  refine aw_putFr (pc' := 73) (k9 := 8) dX2_init_70 rfl fX2_41 rfl rfl rfl rfl rfl (by first | exact hb0 | exact old_O old_new hb0) ?_
  obtain ⟨B14, e_, n_, h_, s_, p8, o_⟩ := mkP (A := B13) (v := (sset v q 2 (-5))) (q := q) (k := 8) (x := hn B11)
  rw [e_]
  replace p0 := (o_ 0 (by decide)).trans p0
  replace i0 := nw_A n_ i0
  replace p1 := (o_ 1 (by decide)).trans p1
  replace i1 := nw_A n_ i1
  replace u1 := nums_nw n_ u1 (by omega)
  replace p3 := (o_ 3 (by decide)).trans p3
  replace u2 := rows_nw n_ u2 (by omega)
  replace p6 := (o_ 6 (by decide)).trans p6
  replace u3 := rows_nw n_ u3 (by omega)
  replace p7 := (o_ 7 (by decide)).trans p7
  replace u4 := rows_nw n_ u4 (by omega)
  replace hb0 := nw_O n_ hb0
  replace nb := nw_tr nb n_ (Or.inl rfl)
  replace eh : hn B14 = hn A + 13 := by omega
  replace es : hs B14 = hs A + 125 := by omega
  try simp only [hn_cl]
  refine aw_iconst (pc' := 74) (by decide) dX2_init_73 rfl ?_
  refine aw_istore_n (pc' := 75) (lv' := [_, _]) dX2_init_74 rfl (by decide) rfl ?_
  refine aw_iload_n (pc' := 76) rfl dX2_init_75 rfl ?_
  refine aw_iconst (pc' := 77) (by decide) dX2_init_76 rfl ?_
  refine aw_icmp_ge (pt := 94) (pf := 80) dX2_init_77 (by decide) rfl (fun c_77 => absurd c_77 (by decide)) (fun _ => ?_)
  refine aw_aload_n (pc' := 81) rfl dX2_init_80 rfl ?_
  refine aw_getp (pc' := 84) (k9 := 1) (p := (hn B1)) dX2_init_81 rfl fX2_15 rfl rfl rfl (by first | exact hb0 | exact old_O old_new hb0) p1 ?_
  refine aw_iload_n (pc' := 85) rfl dX2_init_84 rfl ?_
  refine aw_bipush (pc' := 87) (by decide +kernel) dX2_init_85 rfl ?_
  refine aw_iast (pc' := 88) dX2_init_87 rfl i1 (by omega) (by omega) ?_
  rw [cl_set]
  refine aw_iinc (y := 1) (pc' := 91) (lv' := [_, _]) dX2_init_88 rfl rfl (by decide) (by decide) rfl ?_
  refine aw_goto (pc' := 75) dX2_init_91 (by decide) ?_
  refine aw_iload_n (pc' := 76) rfl dX2_init_75 rfl ?_
  refine aw_iconst (pc' := 77) (by decide) dX2_init_76 rfl ?_
  refine aw_icmp_ge (pt := 94) (pf := 80) dX2_init_77 (by decide) rfl (fun c_77 => absurd c_77 (by decide)) (fun _ => ?_)
  refine aw_aload_n (pc' := 81) rfl dX2_init_80 rfl ?_
  refine aw_getp (pc' := 84) (k9 := 1) (p := (hn B1)) dX2_init_81 rfl fX2_15 rfl rfl rfl (by first | exact hb0 | exact old_O old_new hb0) p1 ?_
  refine aw_iload_n (pc' := 85) rfl dX2_init_84 rfl ?_
  refine aw_bipush (pc' := 87) (by decide +kernel) dX2_init_85 rfl ?_
  refine aw_iast (pc' := 88) dX2_init_87 rfl i1 (by omega) (by omega) ?_
  rw [cl_set]
  refine aw_iinc (y := 2) (pc' := 91) (lv' := [_, _]) dX2_init_88 rfl rfl (by decide) (by decide) rfl ?_
  refine aw_goto (pc' := 75) dX2_init_91 (by decide) ?_
  refine aw_iload_n (pc' := 76) rfl dX2_init_75 rfl ?_
  refine aw_iconst (pc' := 77) (by decide) dX2_init_76 rfl ?_
  refine aw_icmp_ge (pt := 94) (pf := 80) dX2_init_77 (by decide) rfl (fun c_77 => absurd c_77 (by decide)) (fun _ => ?_)
  refine aw_aload_n (pc' := 81) rfl dX2_init_80 rfl ?_
  refine aw_getp (pc' := 84) (k9 := 1) (p := (hn B1)) dX2_init_81 rfl fX2_15 rfl rfl rfl (by first | exact hb0 | exact old_O old_new hb0) p1 ?_
  refine aw_iload_n (pc' := 85) rfl dX2_init_84 rfl ?_
  refine aw_bipush (pc' := 87) (by decide +kernel) dX2_init_85 rfl ?_
  refine aw_iast (pc' := 88) dX2_init_87 rfl i1 (by omega) (by omega) ?_
  rw [cl_set]
  refine aw_iinc (y := 3) (pc' := 91) (lv' := [_, _]) dX2_init_88 rfl rfl (by decide) (by decide) rfl ?_
  refine aw_goto (pc' := 75) dX2_init_91 (by decide) ?_
  refine aw_iload_n (pc' := 76) rfl dX2_init_75 rfl ?_
  refine aw_iconst (pc' := 77) (by decide) dX2_init_76 rfl ?_
  refine aw_icmp_ge (pt := 94) (pf := 80) dX2_init_77 (by decide) rfl (fun _ => ?_) (fun c_77 => absurd (by decide) c_77)
  refine AW.ret none dX2_init_94 trivial ?_
  rw [show hn B1 = q + 2 by omega]
  refine hQ _ nb eh es ⟨hb0, ⟨by omega, ?_⟩, ⟨by omega, ?_⟩, ⟨by omega, ?_⟩, ⟨by omega, ?_⟩, ⟨by omega, ?_⟩, by omega, ?_⟩
  · rw [show q + 1 = hn A by omega]
    exact i0
  · rw [show q + 2 = hn B1 by omega]
    exact i1
  · rw [show q + 3 = hn B2 by omega]
    exact u1
  · rw [show q + 5 = hn B5 by omega]
    exact u2
  · rw [show q + 8 = hn B8 by omega]
    exact u3
  · rw [show q + 11 = hn B11 by omega]
    exact u4
