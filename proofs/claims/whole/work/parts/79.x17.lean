/-! ===== the class's reader: making stages, pipes, lines ===== -/
set_option maxRecDepth 20000 in
theorem x_newStage {d : Nat} {q w : Int} {A : AHp} {v : Sg} {Q : Option AV → AHp → Prop} (hd : 1 ≤ d) (hO : isO A q 9) (hQ : Q none (cl (hpset (hpset (hnew A 20 4 4 (fun _ => 0)) q 1 (hn A)) q 0 w) (vz v (hn A)))) : CALL d mX9_init [vr q, vr w] (cl A v) Q := by
  refine CALL.of (by decide) (Nat.le_of_ble_eq_true rfl) ?_
  change AW d mX9_init 0 [some (vr q), some (vr w)] [] (cl A v) Q
  have hO2 : isO (hnew A 20 4 4 (fun _ => 0)) q 9 := old_O old_new hO
  refine aw_aload_n (pc' := 1) rfl dX9_init_0 rfl ?_
  refine aw_obj (pc' := 4) lX9_3 w_oi w_oc (by omega) (Nat.le_of_ble_eq_true rfl) dX9_init_1 rfl hO.1 ?_
  refine aw_aload_n (pc' := 5) rfl dX9_init_4 rfl ?_
  refine aw_iconst (pc' := 6) (by decide) dX9_init_5 rfl ?_
  refine aw_newa (atype := .int) (kd := 20) (t0 := 0) (pc' := 8) (fun _ => rfl) (Or.inl ⟨rfl, rfl⟩) w_aint dX9_init_6 rfl (by omega) (by omega) ?_
  refine aw_putFr (pc' := 11) (k9 := 1) dX9_init_8 rfl fX9_9 rfl rfl rfl rfl rfl hO2 ?_
  refine aw_aload_n (pc' := 12) rfl dX9_init_11 rfl ?_
  refine aw_aload_n (pc' := 13) rfl dX9_init_12 rfl ?_
  refine aw_putFr (pc' := 16) (k9 := 0) dX9_init_13 rfl fX9_15 rfl rfl rfl rfl rfl hO2 ?_
  refine AW.ret none dX9_init_16 trivial ?_
  exact hQ

set_option maxRecDepth 20000 in
theorem x_newPipe {d : Nat} {q w : Int} {A : AHp} {v : Sg} {Q : Option AV → AHp → Prop} (hd : 1 ≤ d) (h60 : 60 ≤ hn A) (hO : isO A q 6) (hW : isO A w 9) (hQ : Q none (cl (hpset (hnew A 38 6 6 (fun _ => 0)) q 0 (hn A)) (sset (sset (sset (vz v (hn A)) q 1 1) q 2 59) (hn A) 0 w))) : CALL d mX6_init [vr q, vr w] (cl A v) Q := by
  refine CALL.of (by decide) (Nat.le_of_ble_eq_true rfl) ?_
  change AW d mX6_init 0 [some (vr q), some (vr w)] [] (cl A v) Q
  have hO2 : isO (hnew A 38 6 6 (fun _ => 0)) q 6 := old_O old_new hO
  have hA2 : isA (hnew A 38 6 6 (fun _ => 0)) (hn A) 38 6 := new_A h60
  have hW2 : isO (hnew A 38 6 6 (fun _ => 0)) w 9 := old_O old_new hW
  refine aw_aload_n (pc' := 1) rfl dX6_init_0 rfl ?_
  refine aw_obj (pc' := 4) lX6_3 w_oi w_oc (by omega) (Nat.le_of_ble_eq_true rfl) dX6_init_1 rfl hO.1 ?_
  refine aw_aload_n (pc' := 5) rfl dX6_init_4 rfl ?_
  refine aw_bipush (pc' := 7) (by decide +kernel) dX6_init_5 rfl ?_
  refine aw_newq (kd := 38) (t0 := 6) (pc' := 10) (fun _ => rfl) (by decide) zX6_9 (by decide) dX6_init_7 rfl (by omega) (by omega) ?_
  refine aw_putFr (pc' := 13) (k9 := 0) dX6_init_10 rfl fX6_11 rfl rfl rfl rfl rfl hO2 ?_
  refine aw_aload_n (pc' := 14) rfl dX6_init_13 rfl ?_
  refine aw_iconst (pc' := 15) (by decide) dX6_init_14 rfl ?_
  refine aw_puti (pc' := 18) (k9 := 1) dX6_init_15 rfl fX6_17 rfl rfl rfl hO2 ?_
  refine aw_aload_n (pc' := 19) rfl dX6_init_18 rfl ?_
  refine aw_bipush (pc' := 21) (by decide +kernel) dX6_init_19 rfl ?_
  refine aw_puti (pc' := 24) (k9 := 2) dX6_init_21 rfl fX6_21 rfl rfl rfl hO2 ?_
  refine aw_aload_n (pc' := 25) rfl dX6_init_24 rfl ?_
  refine aw_getfr (pc' := 28) (k9 := 0) dX6_init_25 rfl fX6_11 rfl rfl rfl hO2 ?_
  try simp (disch := omega) only [hv_cl, cl_set, sset_e, sset_1, sset_2, sset_ss, btX_4]
  rw [show hp (hset (hset (hpset (hnew (cl A v) 38 6 (Int.toNat 6) (fun _ => 0)) q 0 (hn (cl A v))) q 1 1) q 2 59) q 0 = hn A from if_pos ⟨rfl, rfl⟩]
  refine aw_iconst (pc' := 29) (by decide) dX6_init_28 rfl ?_
  refine aw_aload_n (pc' := 30) rfl dX6_init_29 rfl ?_
  refine aw_aast (pc' := 31) (t0 := 6) (ci := 8) (fun _ => rfl) (by decide) (by decide) dX6_init_30 rfl hA2 (by omega) (by omega) hW2 ?_
  refine AW.ret none dX6_init_31 trivial ?_
  exact hQ

set_option maxRecDepth 20000 in
theorem x_newLine {d : Nat} {q w a b c : Int} {A : AHp} {v : Sg} {Q : Option AV → AHp → Prop} (hd : 1 ≤ d) (hO : isO A q 3) (hQ : Q none (cl (hpset (hpset (hpset (hpset A q 0 w) q 1 a) q 2 b) q 3 c) v)) : CALL d mX3_init [vr q, vr w, vi a, vi b, vi c] (cl A v) Q := by
  refine CALL.of (by decide) (Nat.le_of_ble_eq_true rfl) ?_
  change AW d mX3_init 0 [some (vr q), some (vr w), some (vi a), some (vi b), some (vi c)] [] (cl A v) Q
  refine aw_aload_n (pc' := 1) rfl dX3_init_0 rfl ?_
  refine aw_obj (pc' := 4) lX3_1 w_oi w_oc (by omega) (Nat.le_of_ble_eq_true rfl) dX3_init_1 rfl hO.1 ?_
  refine aw_aload_n (pc' := 5) rfl dX3_init_4 rfl ?_
  refine aw_aload_n (pc' := 6) rfl dX3_init_5 rfl ?_
  refine aw_putFr (pc' := 9) (k9 := 0) dX3_init_6 rfl fX3_7 rfl rfl rfl rfl rfl hO ?_
  refine aw_aload_n (pc' := 10) rfl dX3_init_9 rfl ?_
  refine aw_iload_n (pc' := 11) rfl dX3_init_10 rfl ?_
  refine aw_putFi (pc' := 14) (k9 := 1) dX3_init_11 rfl fX3_13 rfl rfl rfl rfl rfl hO ?_
  refine aw_aload_n (pc' := 15) rfl dX3_init_14 rfl ?_
  refine aw_iload_n (pc' := 16) rfl dX3_init_15 rfl ?_
  refine aw_putFi (pc' := 19) (k9 := 2) dX3_init_16 rfl fX3_17 rfl rfl rfl rfl rfl hO ?_
  refine aw_aload_n (pc' := 20) rfl dX3_init_19 rfl ?_
  refine aw_iload (pc' := 22) rfl dX3_init_20 rfl ?_
  refine aw_putFi (pc' := 25) (k9 := 3) dX3_init_22 rfl fX3_20 rfl rfl rfl rfl rfl hO ?_
  refine AW.ret none dX3_init_25 trivial ?_
  exact hQ
