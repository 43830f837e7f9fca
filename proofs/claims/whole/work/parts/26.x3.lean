/-! ===== the class: copies of what is kept, the image ===== -/
set_option maxRecDepth 20000 in
theorem x_ncopy {d : Nat} {a b : Int} {A : AHp} {Q : Option AV → AHp → Prop} (hd : 2 ≤ d) (hN : NumsAt A a) (hM2 : NumsAt A b) (hs0 : 0 ≤ hv A b 1) (hs60 : hv A b 1 ≤ 60) (hab : a + 2 ≤ b ∨ b + 2 ≤ a)
  (hQ : Q none (hset (hcpy A (b + 1) 0 (a + 1) 0 (hv A b 1)) a 1 (hv A b 1))) : CALL d mX5_copyFrom [vr a, vr b] A Q := by
  refine CALL.of (by decide) (Nat.le_of_ble_eq_true rfl) ?_
  change AW d mX5_copyFrom 0 [some (vr a), some (vr b)] [] A Q
  refine aw_aload_n (pc' := 1) rfl dX5_copyFrom_0 rfl ?_
  refine aw_getp (pc' := 4) (k9 := 0) (p := (b + 1)) dX5_copyFrom_1 rfl fX5_9 rfl rfl rfl hM2.1 hM2.2.1 ?_
  refine aw_iconst (pc' := 5) (by decide) dX5_copyFrom_4 rfl ?_
  refine aw_aload_n (pc' := 6) rfl dX5_copyFrom_5 rfl ?_
  refine aw_getp (pc' := 9) (k9 := 0) (p := (a + 1)) dX5_copyFrom_6 rfl fX5_9 rfl rfl rfl hN.1 hN.2.1 ?_
  refine aw_iconst (pc' := 10) (by decide) dX5_copyFrom_9 rfl ?_
  refine aw_aload_n (pc' := 11) rfl dX5_copyFrom_10 rfl ?_
  refine aw_geti (pc' := 14) (k9 := 1) dX5_copyFrom_11 rfl fX5_15 rfl (by decide) rfl hM2.1 ?_
  refine aw_copy (pc' := 17) (t0 := 0) (fun _ => rfl) (Or.inl ⟨rfl, rfl⟩) lX5_21 (by omega) (Nat.le_of_ble_eq_true rfl) dX5_copyFrom_14 rfl hM2.2.2 hN.2.2 (by omega) (by omega) (by omega) (by omega) (by omega) ?_
  try simp (disch := omega) only [hv_c1, hv_n1, hv_n2]
  refine aw_aload_n (pc' := 18) rfl dX5_copyFrom_17 rfl ?_
  refine aw_aload_n (pc' := 19) rfl dX5_copyFrom_18 rfl ?_
  refine aw_geti (pc' := 22) (k9 := 1) dX5_copyFrom_19 rfl fX5_15 rfl (by decide) rfl hM2.1 ?_
  try simp (disch := omega) only [hv_e1, hv_n1, hv_n2, hv_c1, hv_c2, hv_pset]
  refine aw_puti (pc' := 25) (k9 := 1) dX5_copyFrom_22 rfl fX5_15 rfl rfl rfl hN.1 ?_
  refine AW.ret none dX5_copyFrom_25 trivial ?_
  exact hQ

set_option maxRecDepth 20000 in
theorem x_rcopy {d : Nat} {a b n : Int} {A : AHp} {Q : Option AV → AHp → Prop} (hd : 2 ≤ d) (hR : RowsAt A a n) (hR2 : RowsAt A b n) (hs0 : 0 ≤ hv A b 2) (hs60 : hv A b 2 ≤ n) (hn9 : n ≤ 1000) (hab : a + 3 ≤ b ∨ b + 3 ≤ a)
  (hQ : Q none (hset (hcpy (hcpy A (b + 1) 0 (a + 1) 0 (hv A b 2)) (b + 2) 0 (a + 2) 0 (hv A b 2)) a 2 (hv A b 2))) : CALL d mX8_copyFrom [vr a, vr b] A Q := by
  refine CALL.of (by decide) (Nat.le_of_ble_eq_true rfl) ?_
  change AW d mX8_copyFrom 0 [some (vr a), some (vr b)] [] A Q
  refine aw_aload_n (pc' := 1) rfl dX8_copyFrom_0 rfl ?_
  refine aw_getp (pc' := 4) (k9 := 0) (p := (b + 1)) dX8_copyFrom_1 rfl fX8_9 rfl rfl rfl hR2.1 hR2.2.1 ?_
  refine aw_iconst (pc' := 5) (by decide) dX8_copyFrom_4 rfl ?_
  refine aw_aload_n (pc' := 6) rfl dX8_copyFrom_5 rfl ?_
  refine aw_getp (pc' := 9) (k9 := 0) (p := (a + 1)) dX8_copyFrom_6 rfl fX8_9 rfl rfl rfl hR.1 hR.2.1 ?_
  refine aw_iconst (pc' := 10) (by decide) dX8_copyFrom_9 rfl ?_
  refine aw_aload_n (pc' := 11) rfl dX8_copyFrom_10 rfl ?_
  refine aw_geti (pc' := 14) (k9 := 2) dX8_copyFrom_11 rfl fX8_18 rfl (by decide) rfl hR2.1 ?_
  refine aw_copy (pc' := 17) (t0 := 0) (fun _ => rfl) (Or.inl ⟨rfl, rfl⟩) lX8_22 (by omega) (Nat.le_of_ble_eq_true rfl) dX8_copyFrom_14 rfl hR2.2.2.2.1 hR.2.2.2.1 (by omega) (by omega) (by omega) (by omega) (by omega) ?_
  refine aw_aload_n (pc' := 18) rfl dX8_copyFrom_17 rfl ?_
  refine aw_getp (pc' := 21) (k9 := 1) (p := (b + 2)) dX8_copyFrom_18 rfl fX8_15 rfl rfl rfl hR2.1 hR2.2.2.1 ?_
  refine aw_iconst (pc' := 22) (by decide) dX8_copyFrom_21 rfl ?_
  refine aw_aload_n (pc' := 23) rfl dX8_copyFrom_22 rfl ?_
  refine aw_getp (pc' := 26) (k9 := 1) (p := (a + 2)) dX8_copyFrom_23 rfl fX8_15 rfl rfl rfl hR.1 hR.2.2.1 ?_
  refine aw_iconst (pc' := 27) (by decide) dX8_copyFrom_26 rfl ?_
  refine aw_aload_n (pc' := 28) rfl dX8_copyFrom_27 rfl ?_
  refine aw_geti (pc' := 31) (k9 := 2) dX8_copyFrom_28 rfl fX8_18 rfl (by decide) rfl hR2.1 ?_
  try simp (disch := omega) only [hv_e1, hv_n1, hv_n2, hv_c1, hv_c2, hv_pset]
  refine aw_copy (pc' := 34) (t0 := 0) (fun _ => rfl) (Or.inl ⟨rfl, rfl⟩) lX8_22 (by omega) (Nat.le_of_ble_eq_true rfl) dX8_copyFrom_31 rfl hR2.2.2.2.2 hR.2.2.2.2 (by omega) (by omega) (by omega) (by omega) (by omega) ?_
  refine aw_aload_n (pc' := 35) rfl dX8_copyFrom_34 rfl ?_
  refine aw_aload_n (pc' := 36) rfl dX8_copyFrom_35 rfl ?_
  refine aw_geti (pc' := 39) (k9 := 2) dX8_copyFrom_36 rfl fX8_18 rfl (by decide) rfl hR2.1 ?_
  try simp (disch := omega) only [hv_e1, hv_n1, hv_n2, hv_c1, hv_c2, hv_pset]
  refine aw_puti (pc' := 42) (k9 := 2) dX8_copyFrom_39 rfl fX8_18 rfl rfl rfl hR.1 ?_
  refine AW.ret none dX8_copyFrom_42 trivial ?_
  exact hQ

/-- one kept thing's contents copied to another: a from b -/
def kcp (A : AHp) (a b : Int) : AHp :=
  let A3 := hset (hcpy (hcpy A (b + 1) 0 (a + 1) 0 5) (b + 2) 0 (a + 2) 0 3) a 2 (hv A b 2)
  let A4 := hset (hcpy A3 (b + 3 + 1) 0 (a + 3 + 1) 0 (hv A (b + 3) 1)) (a + 3) 1 (hv A (b + 3) 1)
  let A6 := hset (hset A4 a 4 (hv A b 4)) a 5 (hv A b 5)
  let A7 := hset (hcpy (hcpy A6 (b + 5 + 1) 0 (a + 5 + 1) 0 (hv A (b + 5) 2)) (b + 5 + 2) 0 (a + 5 + 2) 0 (hv A (b + 5) 2)) (a + 5) 2 (hv A (b + 5) 2)
  let A8 := hset (hcpy (hcpy A7 (b + 8 + 1) 0 (a + 8 + 1) 0 (hv A (b + 8) 2)) (b + 8 + 2) 0 (a + 8 + 2) 0 (hv A (b + 8) 2)) (a + 8) 2 (hv A (b + 8) 2)
  hset (hcpy (hcpy A8 (b + 11 + 1) 0 (a + 11 + 1) 0 (hv A (b + 11) 2)) (b + 11 + 2) 0 (a + 11 + 2) 0 (hv A (b + 11) 2)) (a + 11) 2 (hv A (b + 11) 2)
/-- sizes within their bounds -/
def KSZ (A : AHp) (b : Int) : Prop := (0 ≤ hv A (b + 3) 1 ∧ hv A (b + 3) 1 ≤ 60) ∧ (0 ≤ hv A (b + 5) 2 ∧ hv A (b + 5) 2 ≤ 5) ∧ (0 ≤ hv A (b + 8) 2 ∧ hv A (b + 8) 2 ≤ 10) ∧ (0 ≤ hv A (b + 11) 2 ∧ hv A (b + 11) 2 ≤ 8)
set_option maxRecDepth 20000 in
theorem x_kcopy {d : Nat} {a b : Int} {A : AHp} {Q : Option AV → AHp → Prop} (hd : 3 ≤ d) (hK : KeptAt A a) (hK2 : KeptAt A b) (hz : KSZ A b) (hab : a + 14 ≤ b ∨ b + 14 ≤ a)
  (hQ : Q none (kcp A a b)) : CALL d mX2_copyFrom [vr a, vr b] A Q := by
  refine CALL.of (by decide) (Nat.le_of_ble_eq_true rfl) ?_
  change AW d mX2_copyFrom 0 [some (vr a), some (vr b)] [] A Q
  obtain ⟨z1, z2, z3, z4⟩ := hz
  refine aw_aload_n (pc' := 1) rfl dX2_copyFrom_0 rfl ?_
  refine aw_getp (pc' := 4) (k9 := 0) (p := (b + 1)) dX2_copyFrom_1 rfl fX2_9 rfl rfl rfl hK2.1 hK2.2.1.1 ?_
  refine aw_iconst (pc' := 5) (by decide) dX2_copyFrom_4 rfl ?_
  refine aw_aload_n (pc' := 6) rfl dX2_copyFrom_5 rfl ?_
  refine aw_getp (pc' := 9) (k9 := 0) (p := (a + 1)) dX2_copyFrom_6 rfl fX2_9 rfl rfl rfl hK.1 hK.2.1.1 ?_
  refine aw_iconst (pc' := 10) (by decide) dX2_copyFrom_9 rfl ?_
  refine aw_iconst (pc' := 11) (by decide) dX2_copyFrom_10 rfl ?_
  refine aw_copy (pc' := 14) (t0 := 0) (fun _ => rfl) (Or.inl ⟨rfl, rfl⟩) lX2_44 (by omega) (Nat.le_of_ble_eq_true rfl) dX2_copyFrom_11 rfl hK2.2.1.2 hK.2.1.2 (by omega) (by omega) (by omega) (by omega) (by omega) ?_
  refine aw_aload_n (pc' := 15) rfl dX2_copyFrom_14 rfl ?_
  refine aw_getp (pc' := 18) (k9 := 1) (p := (b + 2)) dX2_copyFrom_15 rfl fX2_15 rfl rfl rfl hK2.1 hK2.2.2.1.1 ?_
  refine aw_iconst (pc' := 19) (by decide) dX2_copyFrom_18 rfl ?_
  refine aw_aload_n (pc' := 20) rfl dX2_copyFrom_19 rfl ?_
  refine aw_getp (pc' := 23) (k9 := 1) (p := (a + 2)) dX2_copyFrom_20 rfl fX2_15 rfl rfl rfl hK.1 hK.2.2.1.1 ?_
  refine aw_iconst (pc' := 24) (by decide) dX2_copyFrom_23 rfl ?_
  refine aw_iconst (pc' := 25) (by decide) dX2_copyFrom_24 rfl ?_
  refine aw_copy (pc' := 28) (t0 := 0) (fun _ => rfl) (Or.inl ⟨rfl, rfl⟩) lX2_44 (by omega) (Nat.le_of_ble_eq_true rfl) dX2_copyFrom_25 rfl hK2.2.2.1.2 hK.2.2.1.2 (by omega) (by omega) (by omega) (by omega) (by omega) ?_
  refine aw_aload_n (pc' := 29) rfl dX2_copyFrom_28 rfl ?_
  refine aw_aload_n (pc' := 30) rfl dX2_copyFrom_29 rfl ?_
  refine aw_geti (pc' := 33) (k9 := 2) dX2_copyFrom_30 rfl fX2_18 rfl (by decide) rfl hK2.1 ?_
  try simp (disch := omega) only [hv_e1, hv_n1, hv_n2, hv_c1, hv_c2, hv_pset]
  refine aw_puti (pc' := 36) (k9 := 2) dX2_copyFrom_33 rfl fX2_18 rfl rfl rfl hK.1 ?_
  refine aw_aload_n (pc' := 37) rfl dX2_copyFrom_36 rfl ?_
  refine aw_getp (pc' := 40) (k9 := 3) (p := (a + 3)) dX2_copyFrom_37 rfl fX2_25 rfl rfl rfl hK.1 hK.2.2.2.1.1 ?_
  refine aw_aload_n (pc' := 41) rfl dX2_copyFrom_40 rfl ?_
  refine aw_getp (pc' := 44) (k9 := 3) (p := (b + 3)) dX2_copyFrom_41 rfl fX2_25 rfl rfl rfl hK2.1 hK2.2.2.2.1.1 ?_
  refine aw_callV (ci := 4) (d' := d - 1) (as := [_]) (pc' := 47) (by decide) rfl kX5_copyFrom iX5_copyFrom sX5_copyFrom lX2_50 hK.2.2.2.1.2.1 dX2_copyFrom_44 rfl rfl (Nat.le_of_ble_eq_true rfl) (by omega) ?_
  refine x_ncopy (by omega) hK.2.2.2.1.2 hK2.2.2.2.1.2 (by simp (disch := omega) only [hv_e1, hv_n1, hv_n2, hv_c1]; omega) (by simp (disch := omega) only [hv_e1, hv_n1, hv_n2, hv_c1]; omega) (by omega) ?_
  simp (disch := omega) only [hv_e1, hv_n1, hv_n2, hv_c1]
  refine aw_aload_n (pc' := 48) rfl dX2_copyFrom_47 rfl ?_
  refine aw_aload_n (pc' := 49) rfl dX2_copyFrom_48 rfl ?_
  refine aw_geti (pc' := 52) (k9 := 4) dX2_copyFrom_49 rfl fX2_54 rfl (by decide) rfl hK2.1 ?_
  try simp (disch := omega) only [hv_e1, hv_n1, hv_n2, hv_c1, hv_c2, hv_pset]
  refine aw_puti (pc' := 55) (k9 := 4) dX2_copyFrom_52 rfl fX2_54 rfl rfl rfl hK.1 ?_
  refine aw_aload_n (pc' := 56) rfl dX2_copyFrom_55 rfl ?_
  refine aw_aload_n (pc' := 57) rfl dX2_copyFrom_56 rfl ?_
  refine aw_geti (pc' := 60) (k9 := 5) dX2_copyFrom_57 rfl fX2_57 rfl (by decide) rfl hK2.1 ?_
  try simp (disch := omega) only [hv_e1, hv_n1, hv_n2, hv_c1, hv_c2, hv_pset]
  refine aw_puti (pc' := 63) (k9 := 5) dX2_copyFrom_60 rfl fX2_57 rfl rfl rfl hK.1 ?_
  refine aw_aload_n (pc' := 64) rfl dX2_copyFrom_63 rfl ?_
  refine aw_getp (pc' := 67) (k9 := 6) (p := (a + 5)) dX2_copyFrom_64 rfl fX2_34 rfl rfl rfl hK.1 hK.2.2.2.2.1.1 ?_
  refine aw_aload_n (pc' := 68) rfl dX2_copyFrom_67 rfl ?_
  refine aw_getp (pc' := 71) (k9 := 6) (p := (b + 5)) dX2_copyFrom_68 rfl fX2_34 rfl rfl rfl hK2.1 hK2.2.2.2.2.1.1 ?_
  refine aw_callV (ci := 7) (d' := d - 1) (as := [_]) (pc' := 74) (by decide) rfl kX8_copyFrom iX8_copyFrom sX8_copyFrom lX2_60 hK.2.2.2.2.1.2.1 dX2_copyFrom_71 rfl rfl (Nat.le_of_ble_eq_true rfl) (by omega) ?_
  refine x_rcopy (by omega) hK.2.2.2.2.1.2 hK2.2.2.2.2.1.2 (by simp (disch := omega) only [hv_e1, hv_n1, hv_n2, hv_c1]; omega) (by simp (disch := omega) only [hv_e1, hv_n1, hv_n2, hv_c1]; omega) (by decide) (by omega) ?_
  simp (disch := omega) only [hv_e1, hv_n1, hv_n2, hv_c1]
  refine aw_aload_n (pc' := 75) rfl dX2_copyFrom_74 rfl ?_
  refine aw_getp (pc' := 78) (k9 := 7) (p := (a + 8)) dX2_copyFrom_75 rfl fX2_38 rfl rfl rfl hK.1 hK.2.2.2.2.2.1.1 ?_
  refine aw_aload_n (pc' := 79) rfl dX2_copyFrom_78 rfl ?_
  refine aw_getp (pc' := 82) (k9 := 7) (p := (b + 8)) dX2_copyFrom_79 rfl fX2_38 rfl rfl rfl hK2.1 hK2.2.2.2.2.2.1.1 ?_
  refine aw_callV (ci := 7) (d' := d - 1) (as := [_]) (pc' := 85) (by decide) rfl kX8_copyFrom iX8_copyFrom sX8_copyFrom lX2_60 hK.2.2.2.2.2.1.2.1 dX2_copyFrom_82 rfl rfl (Nat.le_of_ble_eq_true rfl) (by omega) ?_
  refine x_rcopy (by omega) hK.2.2.2.2.2.1.2 hK2.2.2.2.2.2.1.2 (by simp (disch := omega) only [hv_e1, hv_n1, hv_n2, hv_c1]; omega) (by simp (disch := omega) only [hv_e1, hv_n1, hv_n2, hv_c1]; omega) (by decide) (by omega) ?_
  simp (disch := omega) only [hv_e1, hv_n1, hv_n2, hv_c1]
  refine aw_aload_n (pc' := 86) rfl dX2_copyFrom_85 rfl ?_
  refine aw_getp (pc' := 89) (k9 := 8) (p := (a + 11)) dX2_copyFrom_86 rfl fX2_41 rfl rfl rfl hK.1 hK.2.2.2.2.2.2.1 ?_
  refine aw_aload_n (pc' := 90) rfl dX2_copyFrom_89 rfl ?_
  refine aw_getp (pc' := 93) (k9 := 8) (p := (b + 11)) dX2_copyFrom_90 rfl fX2_41 rfl rfl rfl hK2.1 hK2.2.2.2.2.2.2.1 ?_
  refine aw_callV (ci := 7) (d' := d - 1) (as := [_]) (pc' := 96) (by decide) rfl kX8_copyFrom iX8_copyFrom sX8_copyFrom lX2_60 hK.2.2.2.2.2.2.2.1 dX2_copyFrom_93 rfl rfl (Nat.le_of_ble_eq_true rfl) (by omega) ?_
  refine x_rcopy (by omega) hK.2.2.2.2.2.2.2 hK2.2.2.2.2.2.2.2 (by simp (disch := omega) only [hv_e1, hv_n1, hv_n2, hv_c1]; omega) (by simp (disch := omega) only [hv_e1, hv_n1, hv_n2, hv_c1]; omega) (by decide) (by omega) ?_
  simp (disch := omega) only [hv_e1, hv_n1, hv_n2, hv_c1]
  refine AW.ret none dX2_copyFrom_96 trivial ?_
  exact hQ
