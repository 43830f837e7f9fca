/-! ===== the reference: the object made ===== -/
def filc (v : Sg) (a n x : Int) : Sg := fun o k => if o = a ∧ 0 ≤ k ∧ k < n then x else v o k
def filw (v : Sg) (a n : Int) : Sg := fun o k => if o = a ∧ 0 ≤ k ∧ k < n then 16 + k else v o k
theorem fil_s {v : Sg} {a n m x : Int} (h0 : 0 ≤ n) (h : m = n + 1) : sset (filc v a n x) a n x = filc v a m x := by
  funext o k
  unfold sset filc
  by_cases c : o = a ∧ k = n
  · rw [if_pos c, if_pos (by omega)]
  · rw [if_neg c]
    by_cases c2 : o = a ∧ 0 ≤ k ∧ k < n
    · rw [if_pos c2, if_pos (by omega)]
    · rw [if_neg c2, if_neg (by omega)]
theorem fil_1 {v : Sg} {a x : Int} : sset v a 0 x = filc v a 1 x := by
  funext o k
  unfold sset filc
  by_cases c : o = a ∧ k = 0
  · rw [if_pos c, if_pos (by omega)]
  · rw [if_neg c, if_neg (by omega)]
theorem fiw_s {v : Sg} {a n m x : Int} (h0 : 0 ≤ n) (h : m = n + 1) (hx : x = 16 + n) : sset (filw v a n) a n x = filw v a m := by
  funext o k
  unfold sset filw
  by_cases c : o = a ∧ k = n
  · rw [if_pos c, if_pos (by omega)]
    omega
  · rw [if_neg c]
    by_cases c2 : o = a ∧ 0 ≤ k ∧ k < n
    · rw [if_pos c2, if_pos (by omega)]
    · rw [if_neg c2, if_neg (by omega)]
theorem fiw_1 {v : Sg} {a x : Int} (hx : x = 16) : sset v a 0 x = filw v a 1 := by
  funext o k
  unfold sset filw
  by_cases c : o = a ∧ k = 0
  · rw [if_pos c, if_pos (by omega)]
    omega
  · rw [if_neg c, if_neg (by omega)]
theorem zv_filc {v : Sg} {a n x m : Int} (h : ZV v m) (q : a < m) : ZV (filc v a n x) m := fun o z k => by
  unfold filc
  rw [if_neg (by omega)]
  exact h o z k
theorem zv_filw {v : Sg} {a n m : Int} (h : ZV v m) (q : a < m) : ZV (filw v a n) m := fun o z k => by
  unfold filw
  rw [if_neg (by omega)]
  exact h o z k
/-- B grew out of A; of what stood in A only q got final fields, from the k0-th on -/
def UP (q k0 : Int) (A B : AHp) : Prop := hn A ≤ hn B ∧ ∀ o, o < hn A → hk B o = hk A o ∧ hl B o = hl A o ∧ ∀ k, (o = q → k < k0) → hp B o k = hp A o k
theorem up_rfl {q k : Int} {A : AHp} : UP q k A A := ⟨by omega, fun _ _ => ⟨rfl, rfl, fun _ _ => rfl⟩⟩
theorem up_tr {q k k' : Int} {A B C : AHp} (h : UP q k A B) (g : UP q k' B C) (l : k ≤ k') : UP q k A C := by
  refine ⟨Int.le_trans h.1 g.1, fun o z => ?_⟩
  obtain ⟨a1, a2, a3⟩ := h.2 o z
  obtain ⟨b1, b2, b3⟩ := g.2 o (Int.lt_of_lt_of_le z h.1)
  exact ⟨b1.trans a1, b2.trans a2, fun j y => (b3 j (fun e => by have := y e; omega)).trans (a3 j y)⟩
theorem up_old {q k : Int} {A B : AHp} (h : OLD A B) : UP q k A B := ⟨h.1, fun o z => ⟨(h.2 o z).1, (h.2 o z).2.1, fun j _ => (h.2 o z).2.2 j⟩⟩
theorem up_nw {q k : Int} {A B : AHp} (h : UP q k A B) : NW q A B := ⟨h.1, fun o z => ⟨(h.2 o z).1, (h.2 o z).2.1, fun j y => (h.2 o z).2.2 j (fun e => absurd e y)⟩⟩
theorem up_O {q k : Int} {A B : AHp} {o : Int} {kd : Nat} (h : UP q k A B) (z : isO A o kd) : isO B o kd := nw_O (up_nw h) z
theorem up_A {q k : Int} {A B : AHp} {o n : Int} {kd : Nat} (h : UP q k A B) (z : isA A o kd n) : isA B o kd n := nw_A (up_nw h) z
theorem up_hp {q k j : Int} {A B : AHp} (h : UP q k A B) (z : q < hn A) (l : j < k) : hp B q j = hp A q j := (h.2 q z).2.2 j (fun _ => l)
theorem up_ps {q k x : Int} {A : AHp} : UP q k A (hpset A q k x) := by
  refine ⟨by rw [hn_pset]; omega, fun o z => ⟨rfl, rfl, fun j y => ?_⟩⟩
  rw [hp_pset, if_neg (fun e => by have := y e.1; omega)]
theorem mkU {A : AHp} {v : Sg} {q n0 k n : Int} {kd sl : Nat} (hz : ZV v n0) (h : n0 ≤ hn A) (h60 : 60 ≤ hn A) : ∃ B, hpset (hnew (cl A v) kd n sl (fun _ => 0)) q k (hn (cl A v)) = cl B v ∧ UP q k A B ∧ hn B = hn A + 1 ∧ hs B = hs A + sl ∧ hp B q k = hn A ∧ isA B (hn A) kd n := by
  refine ⟨hpset (hnew A kd n sl (fun _ => 0)) q k (hn A), ?_, up_tr (up_old old_new) up_ps (Int.le_refl _), rfl, rfl, hp_ps_e, ?_⟩
  · rw [cl_newz hz h, cl_pset, hn_cl]
  · rw [ps_A]
    exact new_A h60
theorem mkN {A : AHp} {v : Sg} {q n0 k n : Int} {kd sl : Nat} (hz : ZV v n0) (h : n0 ≤ hn A) (h60 : 60 ≤ hn A) : ∃ B, hnew (cl A v) kd n sl (fun _ => 0) = cl B v ∧ UP q k A B ∧ hn B = hn A + 1 ∧ hs B = hs A + sl ∧ isA B (hn A) kd n :=
  ⟨hnew A kd n sl (fun _ => 0), cl_newz hz h, up_old old_new, rfl, rfl, new_A h60⟩
theorem mkV {A : AHp} {v : Sg} {q k x : Int} : ∃ B, hpset (cl A v) q k x = cl B v ∧ UP q k A B ∧ hn B = hn A ∧ hs B = hs A ∧ hp B q k = x :=
  ⟨hpset A q k x, cl_pset, up_ps, rfl, rfl, hp_ps_e⟩
set_option maxRecDepth 20000 in
theorem c_model {d : Nat}  {A : AHp} {v : Sg} {Q : Option AV → AHp → Prop} (hd : 2 ≤ d) (hA : hn A = 308) (hO : isO A 307 12) (hz : ZV v 308) (hQ : ∀ B, NW 307 A B → hn B = 350 → hs B = hs A + 9636 → MLAY B → Q none (cl B (filc (filc (sset (filc (filw v 308 14) 321 3 (-5)) 307 15 (-5)) 333 4 (-1)) 347 6 (-1)))) : CALL d mX13_init [vr 307] (cl A v) Q := by
  refine CALL.of (by decide) (Nat.le_of_ble_eq_true rfl) ?_
  change AW d mX13_init 0 [some (vr 307)] [] (cl A v) Q
  have hb0 := hO
  have eh : hn A = 308 := hA
  have es : hs A = hs A + 0 := rfl
  have hz9 : ZV v 308 := hz
  refine aw_aload_n (pc' := 1) rfl dX13_init_0 rfl ?_
  refine aw_obj (pc' := 4) lX13_3 w_oi w_oc (by omega) (Nat.le_of_ble_eq_true rfl) dX13_init_1 rfl hO.1 ?_
  refine aw_aload_n (pc' := 5) rfl dX13_init_4 rfl ?_
  refine aw_bipush (pc' := 7) (by decide +kernel) dX13_init_5 rfl ?_
  refine aw_newq (kd := 51) (t0 := 9) (pc' := 10) (fun _ => rfl) (by decide) zX13_9 (by decide) dX13_init_7 rfl (by omega) (by omega) ?_
  obtain ⟨B1, e_, u1, h_, s_, i0⟩ := mkN (A := A) (q := 307) (k := 0) (kd := 51) (n := 14) (sl := Int.toNat 14) hz9 (by omega) (by omega)
  rw [e_]
  simp only [hn_cl, eh]
  rw [eh] at i0
  replace hb0 := up_O u1 hb0
  replace eh : hn B1 = 309 := by omega
  have wB1 : 307 < hn B1 := by omega
  replace es : hs B1 = hs A + 14 := by omega
  refine aw_dup (pc' := 11) rfl dX13_init_10 rfl ?_
  refine aw_iconst (pc' := 12) (by decide) dX13_init_11 rfl ?_
  refine aw_ldcS (j := 0) (pc' := 14) (by decide) rfl rfl dX13_init_12 rfl ?_
  refine aw_aastS rfl kJ0_length_8abf5.1 (by decide) (by decide) (pc' := 15) dX13_init_14 rfl i0 (by decide) (by decide) ?_
  rw [cl_set, fiw_1 (by decide)]
  refine aw_dup (pc' := 16) rfl dX13_init_15 rfl ?_
  refine aw_iconst (pc' := 17) (by decide) dX13_init_16 rfl ?_
  refine aw_ldcS (j := 1) (pc' := 19) (by decide) rfl rfl dX13_init_17 rfl ?_
  refine aw_aastS rfl kJ0_length_8abf5.1 (by decide) (by decide) (pc' := 20) dX13_init_19 rfl i0 (by decide) (by decide) ?_
  rw [cl_set, fiw_s (m := 2) (by decide) (by decide) (by decide)]
  refine aw_dup (pc' := 21) rfl dX13_init_20 rfl ?_
  refine aw_iconst (pc' := 22) (by decide) dX13_init_21 rfl ?_
  refine aw_ldcS (j := 2) (pc' := 24) (by decide) rfl rfl dX13_init_22 rfl ?_
  refine aw_aastS rfl kJ0_length_8abf5.1 (by decide) (by decide) (pc' := 25) dX13_init_24 rfl i0 (by decide) (by decide) ?_
  rw [cl_set, fiw_s (m := 3) (by decide) (by decide) (by decide)]
  refine aw_dup (pc' := 26) rfl dX13_init_25 rfl ?_
  refine aw_iconst (pc' := 27) (by decide) dX13_init_26 rfl ?_
  refine aw_ldcS (j := 3) (pc' := 29) (by decide) rfl rfl dX13_init_27 rfl ?_
  refine aw_aastS rfl kJ0_length_8abf5.1 (by decide) (by decide) (pc' := 30) dX13_init_29 rfl i0 (by decide) (by decide) ?_
  rw [cl_set, fiw_s (m := 4) (by decide) (by decide) (by decide)]
  refine aw_dup (pc' := 31) rfl dX13_init_30 rfl ?_
  refine aw_iconst (pc' := 32) (by decide) dX13_init_31 rfl ?_
  refine aw_ldcS (j := 4) (pc' := 34) (by decide) rfl rfl dX13_init_32 rfl ?_
  refine aw_aastS rfl kJ0_length_8abf5.1 (by decide) (by decide) (pc' := 35) dX13_init_34 rfl i0 (by decide) (by decide) ?_
  rw [cl_set, fiw_s (m := 5) (by decide) (by decide) (by decide)]
  refine aw_dup (pc' := 36) rfl dX13_init_35 rfl ?_
  refine aw_iconst (pc' := 37) (by decide) dX13_init_36 rfl ?_
  refine aw_ldcS (j := 5) (pc' := 39) (by decide) rfl rfl dX13_init_37 rfl ?_
  refine aw_aastS rfl kJ0_length_8abf5.1 (by decide) (by decide) (pc' := 40) dX13_init_39 rfl i0 (by decide) (by decide) ?_
  rw [cl_set, fiw_s (m := 6) (by decide) (by decide) (by decide)]
  refine aw_dup (pc' := 41) rfl dX13_init_40 rfl ?_
  refine aw_bipush (pc' := 43) (by decide +kernel) dX13_init_41 rfl ?_
  refine aw_ldcS (j := 6) (pc' := 45) (by decide) rfl rfl dX13_init_43 rfl ?_
  refine aw_aastS rfl kJ0_length_8abf5.1 (by decide) (by decide) (pc' := 46) dX13_init_45 rfl i0 (by decide) (by decide) ?_
  rw [cl_set, fiw_s (m := 7) (by decide) (by decide) (by decide)]
  refine aw_dup (pc' := 47) rfl dX13_init_46 rfl ?_
  refine aw_bipush (pc' := 49) (by decide +kernel) dX13_init_47 rfl ?_
  refine aw_ldcS (j := 7) (pc' := 51) (by decide) rfl rfl dX13_init_49 rfl ?_
  refine aw_aastS rfl kJ0_length_8abf5.1 (by decide) (by decide) (pc' := 52) dX13_init_51 rfl i0 (by decide) (by decide) ?_
  rw [cl_set, fiw_s (m := 8) (by decide) (by decide) (by decide)]
  refine aw_dup (pc' := 53) rfl dX13_init_52 rfl ?_
  refine aw_bipush (pc' := 55) (by decide +kernel) dX13_init_53 rfl ?_
  refine aw_ldcS (j := 8) (pc' := 57) (by decide) rfl rfl dX13_init_55 rfl ?_
  refine aw_aastS rfl kJ0_length_8abf5.1 (by decide) (by decide) (pc' := 58) dX13_init_57 rfl i0 (by decide) (by decide) ?_
  rw [cl_set, fiw_s (m := 9) (by decide) (by decide) (by decide)]
  refine aw_dup (pc' := 59) rfl dX13_init_58 rfl ?_
  refine aw_bipush (pc' := 61) (by decide +kernel) dX13_init_59 rfl ?_
  refine aw_ldcS (j := 9) (pc' := 63) (by decide) rfl rfl dX13_init_61 rfl ?_
  refine aw_aastS rfl kJ0_length_8abf5.1 (by decide) (by decide) (pc' := 64) dX13_init_63 rfl i0 (by decide) (by decide) ?_
  rw [cl_set, fiw_s (m := 10) (by decide) (by decide) (by decide)]
  refine aw_dup (pc' := 65) rfl dX13_init_64 rfl ?_
  refine aw_bipush (pc' := 67) (by decide +kernel) dX13_init_65 rfl ?_
  refine aw_ldcS (j := 10) (pc' := 69) (by decide) rfl rfl dX13_init_67 rfl ?_
  refine aw_aastS rfl kJ0_length_8abf5.1 (by decide) (by decide) (pc' := 70) dX13_init_69 rfl i0 (by decide) (by decide) ?_
  rw [cl_set, fiw_s (m := 11) (by decide) (by decide) (by decide)]
  refine aw_dup (pc' := 71) rfl dX13_init_70 rfl ?_
  refine aw_bipush (pc' := 73) (by decide +kernel) dX13_init_71 rfl ?_
  refine aw_ldcS (j := 11) (pc' := 75) (by decide) rfl rfl dX13_init_73 rfl ?_
  refine aw_aastS rfl kJ0_length_8abf5.1 (by decide) (by decide) (pc' := 76) dX13_init_75 rfl i0 (by decide) (by decide) ?_
  rw [cl_set, fiw_s (m := 12) (by decide) (by decide) (by decide)]
  refine aw_dup (pc' := 77) rfl dX13_init_76 rfl ?_
  refine aw_bipush (pc' := 79) (by decide +kernel) dX13_init_77 rfl ?_
  refine aw_ldcS (j := 12) (pc' := 81) (by decide) rfl rfl dX13_init_79 rfl ?_
  refine aw_aastS rfl kJ0_length_8abf5.1 (by decide) (by decide) (pc' := 82) dX13_init_81 rfl i0 (by decide) (by decide) ?_
  rw [cl_set, fiw_s (m := 13) (by decide) (by decide) (by decide)]
  refine aw_dup (pc' := 83) rfl dX13_init_82 rfl ?_
  refine aw_bipush (pc' := 85) (by decide +kernel) dX13_init_83 rfl ?_
  refine aw_ldcS (j := 13) (pc' := 87) (by decide) rfl rfl dX13_init_85 rfl ?_
  refine aw_aastS rfl kJ0_length_8abf5.1 (by decide) (by decide) (pc' := 88) dX13_init_87 rfl i0 (by decide) (by decide) ?_
  rw [cl_set, fiw_s (m := 14) (by decide) (by decide) (by decide)]
  refine aw_putFr (pc' := 91) (k9 := 0) dX13_init_88 rfl fX13_39 rfl rfl rfl rfl rfl (by first | exact hb0 | exact old_O old_new hb0) ?_
  obtain ⟨B2, e_, u2, h_, s_, p0⟩ := mkV (A := B1) (v := (filw v 308 14)) (q := 307) (k := 0) (x := 308)
  rw [e_]
  replace hb0 := up_O u2 hb0
  replace eh : hn B2 = 309 := by omega
  have wB2 : 307 < hn B2 := by omega
  replace es : hs B2 = hs A + 14 := by omega
  replace hz9 : ZV (filw v 308 14) 309 := zv_filw (hz9.mono (by decide)) (by decide)
  refine aw_aload_n (pc' := 92) rfl dX13_init_91 rfl ?_
  refine aw_sipush (pc' := 95) (by decide +kernel) dX13_init_92 rfl ?_
  refine aw_newa (atype := .int) (kd := 20) (t0 := 0) (pc' := 97) (fun _ => rfl) (Or.inl ⟨rfl, rfl⟩) w_aint dX13_init_95 rfl (by omega) (by omega) ?_
  refine aw_putFr (pc' := 100) (k9 := 1) dX13_init_97 rfl fX13_45 rfl rfl rfl rfl rfl (by first | exact hb0 | exact old_O old_new hb0) ?_
  obtain ⟨B3, e_, u3, h_, s_, p1, i1⟩ := mkU (A := B2) (q := 307) (k := 1) (kd := 20) (n := 480) (sl := Int.toNat 480) hz9 (by omega) (by omega)
  rw [e_]
  rw [eh] at p1 i1
  replace hb0 := up_O u3 hb0
  replace eh : hn B3 = 310 := by omega
  have wB3 : 307 < hn B3 := by omega
  replace es : hs B3 = hs A + 494 := by omega
  refine aw_aload_n (pc' := 101) rfl dX13_init_100 rfl ?_
  refine aw_sipush (pc' := 104) (by decide +kernel) dX13_init_101 rfl ?_
  refine aw_newa (atype := .int) (kd := 20) (t0 := 0) (pc' := 106) (fun _ => rfl) (Or.inl ⟨rfl, rfl⟩) w_aint dX13_init_104 rfl (by omega) (by omega) ?_
  refine aw_putFr (pc' := 109) (k9 := 2) dX13_init_106 rfl fX13_49 rfl rfl rfl rfl rfl (by first | exact hb0 | exact old_O old_new hb0) ?_
  obtain ⟨B4, e_, u4, h_, s_, p2, i2⟩ := mkU (A := B3) (q := 307) (k := 2) (kd := 20) (n := 480) (sl := Int.toNat 480) hz9 (by omega) (by omega)
  rw [e_]
  rw [eh] at p2 i2
  replace hb0 := up_O u4 hb0
  replace eh : hn B4 = 311 := by omega
  have wB4 : 307 < hn B4 := by omega
  replace es : hs B4 = hs A + 974 := by omega
  refine aw_aload_n (pc' := 110) rfl dX13_init_109 rfl ?_
  refine aw_sipush (pc' := 113) (by decide +kernel) dX13_init_110 rfl ?_
  refine aw_newa (atype := .int) (kd := 20) (t0 := 0) (pc' := 115) (fun _ => rfl) (Or.inl ⟨rfl, rfl⟩) w_aint dX13_init_113 rfl (by omega) (by omega) ?_
  refine aw_putFr (pc' := 118) (k9 := 3) dX13_init_115 rfl fX13_52 rfl rfl rfl rfl rfl (by first | exact hb0 | exact old_O old_new hb0) ?_
  obtain ⟨B5, e_, u5, h_, s_, p3, i3⟩ := mkU (A := B4) (q := 307) (k := 3) (kd := 20) (n := 480) (sl := Int.toNat 480) hz9 (by omega) (by omega)
  rw [e_]
  rw [eh] at p3 i3
  replace hb0 := up_O u5 hb0
  replace eh : hn B5 = 312 := by omega
  have wB5 : 307 < hn B5 := by omega
  replace es : hs B5 = hs A + 1454 := by omega
  refine aw_aload_n (pc' := 119) rfl dX13_init_118 rfl ?_
  refine aw_sipush (pc' := 122) (by decide +kernel) dX13_init_119 rfl ?_
  refine aw_newa (atype := .int) (kd := 20) (t0 := 0) (pc' := 124) (fun _ => rfl) (Or.inl ⟨rfl, rfl⟩) w_aint dX13_init_122 rfl (by omega) (by omega) ?_
  refine aw_putFr (pc' := 127) (k9 := 4) dX13_init_124 rfl fX13_55 rfl rfl rfl rfl rfl (by first | exact hb0 | exact old_O old_new hb0) ?_
  obtain ⟨B6, e_, u6, h_, s_, p4, i4⟩ := mkU (A := B5) (q := 307) (k := 4) (kd := 20) (n := 480) (sl := Int.toNat 480) hz9 (by omega) (by omega)
  rw [e_]
  rw [eh] at p4 i4
  replace hb0 := up_O u6 hb0
  replace eh : hn B6 = 313 := by omega
  have wB6 : 307 < hn B6 := by omega
  replace es : hs B6 = hs A + 1934 := by omega
  refine aw_aload_n (pc' := 128) rfl dX13_init_127 rfl ?_
  refine aw_sipush (pc' := 131) (by decide +kernel) dX13_init_128 rfl ?_
  refine aw_newa (atype := .int) (kd := 20) (t0 := 0) (pc' := 133) (fun _ => rfl) (Or.inl ⟨rfl, rfl⟩) w_aint dX13_init_131 rfl (by omega) (by omega) ?_
  refine aw_putFr (pc' := 136) (k9 := 5) dX13_init_133 rfl fX13_58 rfl rfl rfl rfl rfl (by first | exact hb0 | exact old_O old_new hb0) ?_
  obtain ⟨B7, e_, u7, h_, s_, p5, i5⟩ := mkU (A := B6) (q := 307) (k := 5) (kd := 20) (n := 480) (sl := Int.toNat 480) hz9 (by omega) (by omega)
  rw [e_]
  rw [eh] at p5 i5
  replace hb0 := up_O u7 hb0
  replace eh : hn B7 = 314 := by omega
  have wB7 : 307 < hn B7 := by omega
  replace es : hs B7 = hs A + 2414 := by omega
  refine aw_aload_n (pc' := 137) rfl dX13_init_136 rfl ?_
  refine aw_sipush (pc' := 140) (by decide +kernel) dX13_init_137 rfl ?_
  refine aw_newa (atype := .int) (kd := 20) (t0 := 0) (pc' := 142) (fun _ => rfl) (Or.inl ⟨rfl, rfl⟩) w_aint dX13_init_140 rfl (by omega) (by omega) ?_
  refine aw_putFr (pc' := 145) (k9 := 6) dX13_init_142 rfl fX13_61 rfl rfl rfl rfl rfl (by first | exact hb0 | exact old_O old_new hb0) ?_
  obtain ⟨B8, e_, u8, h_, s_, p6, i6⟩ := mkU (A := B7) (q := 307) (k := 6) (kd := 20) (n := 480) (sl := Int.toNat 480) hz9 (by omega) (by omega)
  rw [e_]
  rw [eh] at p6 i6
  replace hb0 := up_O u8 hb0
  replace eh : hn B8 = 315 := by omega
  have wB8 : 307 < hn B8 := by omega
  replace es : hs B8 = hs A + 2894 := by omega
  refine aw_aload_n (pc' := 146) rfl dX13_init_145 rfl ?_
  refine aw_sipush (pc' := 149) (by decide +kernel) dX13_init_146 rfl ?_
  refine aw_newa (atype := .int) (kd := 20) (t0 := 0) (pc' := 151) (fun _ => rfl) (Or.inl ⟨rfl, rfl⟩) w_aint dX13_init_149 rfl (by omega) (by omega) ?_
  refine aw_putFr (pc' := 154) (k9 := 7) dX13_init_151 rfl fX13_64 rfl rfl rfl rfl rfl (by first | exact hb0 | exact old_O old_new hb0) ?_
  obtain ⟨B9, e_, u9, h_, s_, p7, i7⟩ := mkU (A := B8) (q := 307) (k := 7) (kd := 20) (n := 480) (sl := Int.toNat 480) hz9 (by omega) (by omega)
  rw [e_]
  rw [eh] at p7 i7
  replace hb0 := up_O u9 hb0
  replace eh : hn B9 = 316 := by omega
  have wB9 : 307 < hn B9 := by omega
  replace es : hs B9 = hs A + 3374 := by omega
  refine aw_aload_n (pc' := 155) rfl dX13_init_154 rfl ?_
  refine aw_sipush (pc' := 158) (by decide +kernel) dX13_init_155 rfl ?_
  refine aw_newa (atype := .int) (kd := 20) (t0 := 0) (pc' := 160) (fun _ => rfl) (Or.inl ⟨rfl, rfl⟩) w_aint dX13_init_158 rfl (by omega) (by omega) ?_
  refine aw_putFr (pc' := 163) (k9 := 8) dX13_init_160 rfl fX13_67 rfl rfl rfl rfl rfl (by first | exact hb0 | exact old_O old_new hb0) ?_
  obtain ⟨B10, e_, u10, h_, s_, p8, i8⟩ := mkU (A := B9) (q := 307) (k := 8) (kd := 20) (n := 480) (sl := Int.toNat 480) hz9 (by omega) (by omega)
  rw [e_]
  rw [eh] at p8 i8
  replace hb0 := up_O u10 hb0
  replace eh : hn B10 = 317 := by omega
  have wB10 : 307 < hn B10 := by omega
  replace es : hs B10 = hs A + 3854 := by omega
  refine aw_aload_n (pc' := 164) rfl dX13_init_163 rfl ?_
  refine aw_sipush (pc' := 167) (by decide +kernel) dX13_init_164 rfl ?_
  refine aw_newa (atype := .int) (kd := 20) (t0 := 0) (pc' := 169) (fun _ => rfl) (Or.inl ⟨rfl, rfl⟩) w_aint dX13_init_167 rfl (by omega) (by omega) ?_
  refine aw_putFr (pc' := 172) (k9 := 9) dX13_init_169 rfl fX13_70 rfl rfl rfl rfl rfl (by first | exact hb0 | exact old_O old_new hb0) ?_
  obtain ⟨B11, e_, u11, h_, s_, p9, i9⟩ := mkU (A := B10) (q := 307) (k := 9) (kd := 20) (n := 1920) (sl := Int.toNat 1920) hz9 (by omega) (by omega)
  rw [e_]
  rw [eh] at p9 i9
  replace hb0 := up_O u11 hb0
  replace eh : hn B11 = 318 := by omega
  have wB11 : 307 < hn B11 := by omega
  replace es : hs B11 = hs A + 5774 := by omega
  refine aw_aload_n (pc' := 173) rfl dX13_init_172 rfl ?_
  refine aw_bipush (pc' := 175) (by decide +kernel) dX13_init_173 rfl ?_
  refine aw_newa (atype := .int) (kd := 20) (t0 := 0) (pc' := 177) (fun _ => rfl) (Or.inl ⟨rfl, rfl⟩) w_aint dX13_init_175 rfl (by omega) (by omega) ?_
  refine aw_putFr (pc' := 180) (k9 := 10) dX13_init_177 rfl fX13_73 rfl rfl rfl rfl rfl (by first | exact hb0 | exact old_O old_new hb0) ?_
  obtain ⟨B12, e_, u12, h_, s_, p10, i10⟩ := mkU (A := B11) (q := 307) (k := 10) (kd := 20) (n := 8) (sl := Int.toNat 8) hz9 (by omega) (by omega)
  rw [e_]
  rw [eh] at p10 i10
  replace hb0 := up_O u12 hb0
  replace eh : hn B12 = 319 := by omega
  have wB12 : 307 < hn B12 := by omega
  replace es : hs B12 = hs A + 5782 := by omega
  refine aw_aload_n (pc' := 181) rfl dX13_init_180 rfl ?_
  refine aw_bipush (pc' := 183) (by decide +kernel) dX13_init_181 rfl ?_
  refine aw_newa (atype := .int) (kd := 20) (t0 := 0) (pc' := 185) (fun _ => rfl) (Or.inl ⟨rfl, rfl⟩) w_aint dX13_init_183 rfl (by omega) (by omega) ?_
  refine aw_putFr (pc' := 188) (k9 := 11) dX13_init_185 rfl fX13_76 rfl rfl rfl rfl rfl (by first | exact hb0 | exact old_O old_new hb0) ?_
  obtain ⟨B13, e_, u13, h_, s_, p11, i11⟩ := mkU (A := B12) (q := 307) (k := 11) (kd := 20) (n := 8) (sl := Int.toNat 8) hz9 (by omega) (by omega)
  rw [e_]
  rw [eh] at p11 i11
  replace hb0 := up_O u13 hb0
  replace eh : hn B13 = 320 := by omega
  have wB13 : 307 < hn B13 := by omega
  replace es : hs B13 = hs A + 5790 := by omega
  refine aw_aload_n (pc' := 189) rfl dX13_init_188 rfl ?_
  refine aw_iconst (pc' := 190) (by decide) dX13_init_189 rfl ?_
  refine aw_newa (atype := .int) (kd := 20) (t0 := 0) (pc' := 192) (fun _ => rfl) (Or.inl ⟨rfl, rfl⟩) w_aint dX13_init_190 rfl (by omega) (by omega) ?_
  refine aw_putFr (pc' := 195) (k9 := 13) dX13_init_192 rfl fX13_79 rfl rfl rfl rfl rfl (by first | exact hb0 | exact old_O old_new hb0) ?_
  obtain ⟨B14, e_, u14, h_, s_, p13, i13⟩ := mkU (A := B13) (q := 307) (k := 13) (kd := 20) (n := 5) (sl := Int.toNat 5) hz9 (by omega) (by omega)
  rw [e_]
  rw [eh] at p13 i13
  replace hb0 := up_O u14 hb0
  replace eh : hn B14 = 321 := by omega
  have wB14 : 307 < hn B14 := by omega
  replace es : hs B14 = hs A + 5795 := by omega
  refine aw_aload_n (pc' := 196) rfl dX13_init_195 rfl ?_
  refine aw_iconst (pc' := 197) (by decide) dX13_init_196 rfl ?_
  refine aw_newa (atype := .int) (kd := 20) (t0 := 0) (pc' := 199) (fun _ => rfl) (Or.inl ⟨rfl, rfl⟩) w_aint dX13_init_197 rfl (by omega) (by omega) ?_
  obtain ⟨B15, e_, u15, h_, s_, i14⟩ := mkN (A := B14) (q := 307) (k := 14) (kd := 20) (n := 3) (sl := Int.toNat 3) hz9 (by omega) (by omega)
  rw [e_]
  simp only [hn_cl, eh]
  rw [eh] at i14
  replace hb0 := up_O u15 hb0
  replace eh : hn B15 = 322 := by omega
  have wB15 : 307 < hn B15 := by omega
  replace es : hs B15 = hs A + 5798 := by omega
  refine aw_dup (pc' := 200) rfl dX13_init_199 rfl ?_
  refine aw_iconst (pc' := 201) (by decide) dX13_init_200 rfl ?_
  refine aw_bipush (pc' := 203) (by decide +kernel) dX13_init_201 rfl ?_
  refine aw_iast (pc' := 204) dX13_init_203 rfl i14 (by omega) (by omega) ?_
  rw [cl_set, fil_1]
  refine aw_dup (pc' := 205) rfl dX13_init_204 rfl ?_
  refine aw_iconst (pc' := 206) (by decide) dX13_init_205 rfl ?_
  refine aw_bipush (pc' := 208) (by decide +kernel) dX13_init_206 rfl ?_
  refine aw_iast (pc' := 209) dX13_init_208 rfl i14 (by omega) (by omega) ?_
  rw [cl_set, fil_s (m := 2) (by decide) (by decide)]
  refine aw_dup (pc' := 210) rfl dX13_init_209 rfl ?_
  refine aw_iconst (pc' := 211) (by decide) dX13_init_210 rfl ?_
  refine aw_bipush (pc' := 213) (by decide +kernel) dX13_init_211 rfl ?_
  refine aw_iast (pc' := 214) dX13_init_213 rfl i14 (by omega) (by omega) ?_
  rw [cl_set, fil_s (m := 3) (by decide) (by decide)]
  refine aw_putFr (pc' := 217) (k9 := 14) dX13_init_214 rfl fX13_82 rfl rfl rfl rfl rfl (by first | exact hb0 | exact old_O old_new hb0) ?_
  obtain ⟨B16, e_, u16, h_, s_, p14⟩ := mkV (A := B15) (v := (filc (filw v 308 14) 321 3 (-5))) (q := 307) (k := 14) (x := 321)
  rw [e_]
  replace hb0 := up_O u16 hb0
  replace eh : hn B16 = 322 := by omega
  have wB16 : 307 < hn B16 := by omega
  replace es : hs B16 = hs A + 5798 := by omega
  replace hz9 : ZV (filc (filw v 308 14) 321 3 (-5)) 322 := zv_filc (hz9.mono (by decide)) (by decide)
  refine aw_aload_n (pc' := 218) rfl dX13_init_217 rfl ?_
  refine aw_bipush (pc' := 220) (by decide +kernel) dX13_init_218 rfl ?_
  refine aw_puti (pc' := 223) (k9 := 15) dX13_init_220 rfl fX13_85 rfl rfl rfl (by first | exact hb0 | exact old_O old_new hb0) ?_
  rw [cl_set]
  replace hz9 : ZV (sset (filc (filw v 308 14) 321 3 (-5)) 307 15 (-5)) 322 := (hz9.mono (by decide)).set (by decide)
  refine aw_aload_n (pc' := 224) rfl dX13_init_223 rfl ?_
  refine aw_bipush (pc' := 226) (by decide +kernel) dX13_init_224 rfl ?_
  refine aw_newa (atype := .int) (kd := 20) (t0 := 0) (pc' := 228) (fun _ => rfl) (Or.inl ⟨rfl, rfl⟩) w_aint dX13_init_226 rfl (by omega) (by omega) ?_
  refine aw_putFr (pc' := 231) (k9 := 16) dX13_init_228 rfl fX13_89 rfl rfl rfl rfl rfl (by first | exact hb0 | exact old_O old_new hb0) ?_
  obtain ⟨B17, e_, u17, h_, s_, p16, i16⟩ := mkU (A := B16) (q := 307) (k := 16) (kd := 20) (n := 100) (sl := Int.toNat 100) hz9 (by omega) (by omega)
  rw [e_]
  rw [eh] at p16 i16
  replace hb0 := up_O u17 hb0
  replace eh : hn B17 = 323 := by omega
  have wB17 : 307 < hn B17 := by omega
  replace es : hs B17 = hs A + 5898 := by omega
  refine aw_aload_n (pc' := 232) rfl dX13_init_231 rfl ?_
  refine aw_bipush (pc' := 234) (by decide +kernel) dX13_init_232 rfl ?_
  refine aw_newa (atype := .int) (kd := 20) (t0 := 0) (pc' := 236) (fun _ => rfl) (Or.inl ⟨rfl, rfl⟩) w_aint dX13_init_234 rfl (by omega) (by omega) ?_
  refine aw_putFr (pc' := 239) (k9 := 24) dX13_init_236 rfl fX13_92 rfl rfl rfl rfl rfl (by first | exact hb0 | exact old_O old_new hb0) ?_
  obtain ⟨B18, e_, u18, h_, s_, p24, i24⟩ := mkU (A := B17) (q := 307) (k := 24) (kd := 20) (n := 28) (sl := Int.toNat 28) hz9 (by omega) (by omega)
  rw [e_]
  rw [eh] at p24 i24
  replace hb0 := up_O u18 hb0
  replace eh : hn B18 = 324 := by omega
  have wB18 : 307 < hn B18 := by omega
  replace es : hs B18 = hs A + 5926 := by omega
  refine aw_aload_n (pc' := 240) rfl dX13_init_239 rfl ?_
  refine aw_bipush (pc' := 242) (by decide +kernel) dX13_init_240 rfl ?_
  refine aw_newa (atype := .int) (kd := 20) (t0 := 0) (pc' := 244) (fun _ => rfl) (Or.inl ⟨rfl, rfl⟩) w_aint dX13_init_242 rfl (by omega) (by omega) ?_
  refine aw_putFr (pc' := 247) (k9 := 25) dX13_init_244 rfl fX13_95 rfl rfl rfl rfl rfl (by first | exact hb0 | exact old_O old_new hb0) ?_
  obtain ⟨B19, e_, u19, h_, s_, p25, i25⟩ := mkU (A := B18) (q := 307) (k := 25) (kd := 20) (n := 28) (sl := Int.toNat 28) hz9 (by omega) (by omega)
  rw [e_]
  rw [eh] at p25 i25
  replace hb0 := up_O u19 hb0
  replace eh : hn B19 = 325 := by omega
  have wB19 : 307 < hn B19 := by omega
  replace es : hs B19 = hs A + 5954 := by omega
  refine aw_aload_n (pc' := 248) rfl dX13_init_247 rfl ?_
  refine aw_sipush (pc' := 251) (by decide +kernel) dX13_init_248 rfl ?_
  refine aw_newa (atype := .int) (kd := 20) (t0 := 0) (pc' := 253) (fun _ => rfl) (Or.inl ⟨rfl, rfl⟩) w_aint dX13_init_251 rfl (by omega) (by omega) ?_
  refine aw_putFr (pc' := 256) (k9 := 26) dX13_init_253 rfl fX13_98 rfl rfl rfl rfl rfl (by first | exact hb0 | exact old_O old_new hb0) ?_
  obtain ⟨B20, e_, u20, h_, s_, p26, i26⟩ := mkU (A := B19) (q := 307) (k := 26) (kd := 20) (n := 672) (sl := Int.toNat 672) hz9 (by omega) (by omega)
  rw [e_]
  rw [eh] at p26 i26
  replace hb0 := up_O u20 hb0
  replace eh : hn B20 = 326 := by omega
  have wB20 : 307 < hn B20 := by omega
  replace es : hs B20 = hs A + 6626 := by omega
  refine aw_aload_n (pc' := 257) rfl dX13_init_256 rfl ?_
  refine aw_sipush (pc' := 260) (by decide +kernel) dX13_init_257 rfl ?_
  refine aw_newa (atype := .int) (kd := 20) (t0 := 0) (pc' := 262) (fun _ => rfl) (Or.inl ⟨rfl, rfl⟩) w_aint dX13_init_260 rfl (by omega) (by omega) ?_
  refine aw_putFr (pc' := 265) (k9 := 27) dX13_init_262 rfl fX13_101 rfl rfl rfl rfl rfl (by first | exact hb0 | exact old_O old_new hb0) ?_
  obtain ⟨B21, e_, u21, h_, s_, p27, i27⟩ := mkU (A := B20) (q := 307) (k := 27) (kd := 20) (n := 168) (sl := Int.toNat 168) hz9 (by omega) (by omega)
  rw [e_]
  rw [eh] at p27 i27
  replace hb0 := up_O u21 hb0
  replace eh : hn B21 = 327 := by omega
  have wB21 : 307 < hn B21 := by omega
  replace es : hs B21 = hs A + 6794 := by omega
  refine aw_aload_n (pc' := 266) rfl dX13_init_265 rfl ?_
  refine aw_sipush (pc' := 269) (by decide +kernel) dX13_init_266 rfl ?_
  refine aw_newa (atype := .boolean) (kd := 23) (t0 := 3) (pc' := 271) (fun _ => rfl) (Or.inr (Or.inr (Or.inl ⟨rfl, rfl⟩))) w_aboolean dX13_init_269 rfl (by omega) (by omega) ?_
  refine aw_putFr (pc' := 274) (k9 := 28) dX13_init_271 rfl fX13_104 rfl rfl rfl rfl rfl (by first | exact hb0 | exact old_O old_new hb0) ?_
  obtain ⟨B22, e_, u22, h_, s_, p28, i28⟩ := mkU (A := B21) (q := 307) (k := 28) (kd := 23) (n := 168) (sl := Int.toNat 168) hz9 (by omega) (by omega)
  rw [e_]
  rw [eh] at p28 i28
  replace hb0 := up_O u22 hb0
  replace eh : hn B22 = 328 := by omega
  have wB22 : 307 < hn B22 := by omega
  replace es : hs B22 = hs A + 6962 := by omega
  refine aw_aload_n (pc' := 275) rfl dX13_init_274 rfl ?_
  refine aw_sipush (pc' := 278) (by decide +kernel) dX13_init_275 rfl ?_
  refine aw_newa (atype := .int) (kd := 20) (t0 := 0) (pc' := 280) (fun _ => rfl) (Or.inl ⟨rfl, rfl⟩) w_aint dX13_init_278 rfl (by omega) (by omega) ?_
  refine aw_putFr (pc' := 283) (k9 := 29) dX13_init_280 rfl fX13_108 rfl rfl rfl rfl rfl (by first | exact hb0 | exact old_O old_new hb0) ?_
  obtain ⟨B23, e_, u23, h_, s_, p29, i29⟩ := mkU (A := B22) (q := 307) (k := 29) (kd := 20) (n := 168) (sl := Int.toNat 168) hz9 (by omega) (by omega)
  rw [e_]
  rw [eh] at p29 i29
  replace hb0 := up_O u23 hb0
  replace eh : hn B23 = 329 := by omega
  have wB23 : 307 < hn B23 := by omega
  replace es : hs B23 = hs A + 7130 := by omega
  refine aw_aload_n (pc' := 284) rfl dX13_init_283 rfl ?_
  refine aw_sipush (pc' := 287) (by decide +kernel) dX13_init_284 rfl ?_
  refine aw_newa (atype := .int) (kd := 20) (t0 := 0) (pc' := 289) (fun _ => rfl) (Or.inl ⟨rfl, rfl⟩) w_aint dX13_init_287 rfl (by omega) (by omega) ?_
  refine aw_putFr (pc' := 292) (k9 := 30) dX13_init_289 rfl fX13_111 rfl rfl rfl rfl rfl (by first | exact hb0 | exact old_O old_new hb0) ?_
  obtain ⟨B24, e_, u24, h_, s_, p30, i30⟩ := mkU (A := B23) (q := 307) (k := 30) (kd := 20) (n := 1680) (sl := Int.toNat 1680) hz9 (by omega) (by omega)
  rw [e_]
  rw [eh] at p30 i30
  replace hb0 := up_O u24 hb0
  replace eh : hn B24 = 330 := by omega
  have wB24 : 307 < hn B24 := by omega
  replace es : hs B24 = hs A + 8810 := by omega
  refine aw_aload_n (pc' := 293) rfl dX13_init_292 rfl ?_
  refine aw_bipush (pc' := 295) (by decide +kernel) dX13_init_293 rfl ?_
  refine aw_newa (atype := .int) (kd := 20) (t0 := 0) (pc' := 297) (fun _ => rfl) (Or.inl ⟨rfl, rfl⟩) w_aint dX13_init_295 rfl (by omega) (by omega) ?_
  refine aw_putFr (pc' := 300) (k9 := 31) dX13_init_297 rfl fX13_114 rfl rfl rfl rfl rfl (by first | exact hb0 | exact old_O old_new hb0) ?_
  obtain ⟨B25, e_, u25, h_, s_, p31, i31⟩ := mkU (A := B24) (q := 307) (k := 31) (kd := 20) (n := 28) (sl := Int.toNat 28) hz9 (by omega) (by omega)
  rw [e_]
  rw [eh] at p31 i31
  replace hb0 := up_O u25 hb0
  replace eh : hn B25 = 331 := by omega
  have wB25 : 307 < hn B25 := by omega
  replace es : hs B25 = hs A + 8838 := by omega
  refine aw_aload_n (pc' := 301) rfl dX13_init_300 rfl ?_
  refine aw_bipush (pc' := 303) (by decide +kernel) dX13_init_301 rfl ?_
  refine aw_newa (atype := .int) (kd := 20) (t0 := 0) (pc' := 305) (fun _ => rfl) (Or.inl ⟨rfl, rfl⟩) w_aint dX13_init_303 rfl (by omega) (by omega) ?_
  refine aw_putFr (pc' := 308) (k9 := 35) dX13_init_305 rfl fX13_117 rfl rfl rfl rfl rfl (by first | exact hb0 | exact old_O old_new hb0) ?_
  obtain ⟨B26, e_, u26, h_, s_, p35, i35⟩ := mkU (A := B25) (q := 307) (k := 35) (kd := 20) (n := 60) (sl := Int.toNat 60) hz9 (by omega) (by omega)
  rw [e_]
  rw [eh] at p35 i35
  replace hb0 := up_O u26 hb0
  replace eh : hn B26 = 332 := by omega
  have wB26 : 307 < hn B26 := by omega
  replace es : hs B26 = hs A + 8898 := by omega
  refine aw_aload_n (pc' := 309) rfl dX13_init_308 rfl ?_
  refine aw_bipush (pc' := 311) (by decide +kernel) dX13_init_309 rfl ?_
  refine aw_newa (atype := .int) (kd := 20) (t0 := 0) (pc' := 313) (fun _ => rfl) (Or.inl ⟨rfl, rfl⟩) w_aint dX13_init_311 rfl (by omega) (by omega) ?_
  refine aw_putFr (pc' := 316) (k9 := 38) dX13_init_313 rfl fX13_120 rfl rfl rfl rfl rfl (by first | exact hb0 | exact old_O old_new hb0) ?_
  obtain ⟨B27, e_, u27, h_, s_, p38, i38⟩ := mkU (A := B26) (q := 307) (k := 38) (kd := 20) (n := 60) (sl := Int.toNat 60) hz9 (by omega) (by omega)
  rw [e_]
  rw [eh] at p38 i38
  replace hb0 := up_O u27 hb0
  replace eh : hn B27 = 333 := by omega
  have wB27 : 307 < hn B27 := by omega
  replace es : hs B27 = hs A + 8958 := by omega
  refine aw_aload_n (pc' := 317) rfl dX13_init_316 rfl ?_
  refine aw_iconst (pc' := 318) (by decide) dX13_init_317 rfl ?_
  refine aw_newa (atype := .int) (kd := 20) (t0 := 0) (pc' := 320) (fun _ => rfl) (Or.inl ⟨rfl, rfl⟩) w_aint dX13_init_318 rfl (by omega) (by omega) ?_
  obtain ⟨B28, e_, u28, h_, s_, i42⟩ := mkN (A := B27) (q := 307) (k := 42) (kd := 20) (n := 4) (sl := Int.toNat 4) hz9 (by omega) (by omega)
  rw [e_]
  simp only [hn_cl, eh]
  rw [eh] at i42
  replace hb0 := up_O u28 hb0
  replace eh : hn B28 = 334 := by omega
  have wB28 : 307 < hn B28 := by omega
  replace es : hs B28 = hs A + 8962 := by omega
  refine aw_dup (pc' := 321) rfl dX13_init_320 rfl ?_
  refine aw_iconst (pc' := 322) (by decide) dX13_init_321 rfl ?_
  refine aw_iconst (pc' := 323) (by decide) dX13_init_322 rfl ?_
  refine aw_iast (pc' := 324) dX13_init_323 rfl i42 (by omega) (by omega) ?_
  rw [cl_set, fil_1]
  refine aw_dup (pc' := 325) rfl dX13_init_324 rfl ?_
  refine aw_iconst (pc' := 326) (by decide) dX13_init_325 rfl ?_
  refine aw_iconst (pc' := 327) (by decide) dX13_init_326 rfl ?_
  refine aw_iast (pc' := 328) dX13_init_327 rfl i42 (by omega) (by omega) ?_
  rw [cl_set, fil_s (m := 2) (by decide) (by decide)]
  refine aw_dup (pc' := 329) rfl dX13_init_328 rfl ?_
  refine aw_iconst (pc' := 330) (by decide) dX13_init_329 rfl ?_
  refine aw_iconst (pc' := 331) (by decide) dX13_init_330 rfl ?_
  refine aw_iast (pc' := 332) dX13_init_331 rfl i42 (by omega) (by omega) ?_
  rw [cl_set, fil_s (m := 3) (by decide) (by decide)]
  refine aw_dup (pc' := 333) rfl dX13_init_332 rfl ?_
  refine aw_iconst (pc' := 334) (by decide) dX13_init_333 rfl ?_
  refine aw_iconst (pc' := 335) (by decide) dX13_init_334 rfl ?_
  refine aw_iast (pc' := 336) dX13_init_335 rfl i42 (by omega) (by omega) ?_
  rw [cl_set, fil_s (m := 4) (by decide) (by decide)]
  refine aw_putFr (pc' := 339) (k9 := 42) dX13_init_336 rfl fX13_123 rfl rfl rfl rfl rfl (by first | exact hb0 | exact old_O old_new hb0) ?_
  obtain ⟨B29, e_, u29, h_, s_, p42⟩ := mkV (A := B28) (v := (filc (sset (filc (filw v 308 14) 321 3 (-5)) 307 15 (-5)) 333 4 (-1))) (q := 307) (k := 42) (x := 333)
  rw [e_]
  replace hb0 := up_O u29 hb0
  replace eh : hn B29 = 334 := by omega
  have wB29 : 307 < hn B29 := by omega
  replace es : hs B29 = hs A + 8962 := by omega
  replace hz9 : ZV (filc (sset (filc (filw v 308 14) 321 3 (-5)) 307 15 (-5)) 333 4 (-1)) 334 := zv_filc (hz9.mono (by decide)) (by decide)
  refine aw_aload_n (pc' := 340) rfl dX13_init_339 rfl ?_
  refine aw_iconst (pc' := 341) (by decide) dX13_init_340 rfl ?_
  refine aw_newa (atype := .int) (kd := 20) (t0 := 0) (pc' := 343) (fun _ => rfl) (Or.inl ⟨rfl, rfl⟩) w_aint dX13_init_341 rfl (by omega) (by omega) ?_
  refine aw_putFr (pc' := 346) (k9 := 43) dX13_init_343 rfl fX13_126 rfl rfl rfl rfl rfl (by first | exact hb0 | exact old_O old_new hb0) ?_
  obtain ⟨B30, e_, u30, h_, s_, p43, i43⟩ := mkU (A := B29) (q := 307) (k := 43) (kd := 20) (n := 4) (sl := Int.toNat 4) hz9 (by omega) (by omega)
  rw [e_]
  rw [eh] at p43 i43
  replace hb0 := up_O u30 hb0
  replace eh : hn B30 = 335 := by omega
  have wB30 : 307 < hn B30 := by omega
  replace es : hs B30 = hs A + 8966 := by omega
  refine aw_aload_n (pc' := 347) rfl dX13_init_346 rfl ?_
  refine aw_iconst (pc' := 348) (by decide) dX13_init_347 rfl ?_
  refine aw_newa (atype := .int) (kd := 20) (t0 := 0) (pc' := 350) (fun _ => rfl) (Or.inl ⟨rfl, rfl⟩) w_aint dX13_init_348 rfl (by omega) (by omega) ?_
  refine aw_putFr (pc' := 353) (k9 := 44) dX13_init_350 rfl fX13_129 rfl rfl rfl rfl rfl (by first | exact hb0 | exact old_O old_new hb0) ?_
  obtain ⟨B31, e_, u31, h_, s_, p44, i44⟩ := mkU (A := B30) (q := 307) (k := 44) (kd := 20) (n := 4) (sl := Int.toNat 4) hz9 (by omega) (by omega)
  rw [e_]
  rw [eh] at p44 i44
  replace hb0 := up_O u31 hb0
  replace eh : hn B31 = 336 := by omega
  have wB31 : 307 < hn B31 := by omega
  replace es : hs B31 = hs A + 8970 := by omega
  refine aw_aload_n (pc' := 354) rfl dX13_init_353 rfl ?_
  refine aw_iconst (pc' := 355) (by decide) dX13_init_354 rfl ?_
  refine aw_newa (atype := .boolean) (kd := 23) (t0 := 3) (pc' := 357) (fun _ => rfl) (Or.inr (Or.inr (Or.inl ⟨rfl, rfl⟩))) w_aboolean dX13_init_355 rfl (by omega) (by omega) ?_
  refine aw_putFr (pc' := 360) (k9 := 45) dX13_init_357 rfl fX13_132 rfl rfl rfl rfl rfl (by first | exact hb0 | exact old_O old_new hb0) ?_
  obtain ⟨B32, e_, u32, h_, s_, p45, i45⟩ := mkU (A := B31) (q := 307) (k := 45) (kd := 23) (n := 4) (sl := Int.toNat 4) hz9 (by omega) (by omega)
  rw [e_]
  rw [eh] at p45 i45
  replace hb0 := up_O u32 hb0
  replace eh : hn B32 = 337 := by omega
  have wB32 : 307 < hn B32 := by omega
  replace es : hs B32 = hs A + 8974 := by omega
  refine aw_aload_n (pc' := 361) rfl dX13_init_360 rfl ?_
  refine aw_iconst (pc' := 362) (by decide) dX13_init_361 rfl ?_
  refine aw_newa (atype := .int) (kd := 20) (t0 := 0) (pc' := 364) (fun _ => rfl) (Or.inl ⟨rfl, rfl⟩) w_aint dX13_init_362 rfl (by omega) (by omega) ?_
  refine aw_putFr (pc' := 367) (k9 := 46) dX13_init_364 rfl fX13_135 rfl rfl rfl rfl rfl (by first | exact hb0 | exact old_O old_new hb0) ?_
  obtain ⟨B33, e_, u33, h_, s_, p46, i46⟩ := mkU (A := B32) (q := 307) (k := 46) (kd := 20) (n := 4) (sl := Int.toNat 4) hz9 (by omega) (by omega)
  rw [e_]
  rw [eh] at p46 i46
  replace hb0 := up_O u33 hb0
  replace eh : hn B33 = 338 := by omega
  have wB33 : 307 < hn B33 := by omega
  replace es : hs B33 = hs A + 8978 := by omega
  refine aw_aload_n (pc' := 368) rfl dX13_init_367 rfl ?_
  refine aw_iconst (pc' := 369) (by decide) dX13_init_368 rfl ?_
  refine aw_newa (atype := .int) (kd := 20) (t0 := 0) (pc' := 371) (fun _ => rfl) (Or.inl ⟨rfl, rfl⟩) w_aint dX13_init_369 rfl (by omega) (by omega) ?_
  refine aw_putFr (pc' := 374) (k9 := 47) dX13_init_371 rfl fX13_138 rfl rfl rfl rfl rfl (by first | exact hb0 | exact old_O old_new hb0) ?_
  obtain ⟨B34, e_, u34, h_, s_, p47, i47⟩ := mkU (A := B33) (q := 307) (k := 47) (kd := 20) (n := 5) (sl := Int.toNat 5) hz9 (by omega) (by omega)
  rw [e_]
  rw [eh] at p47 i47
  replace hb0 := up_O u34 hb0
  replace eh : hn B34 = 339 := by omega
  have wB34 : 307 < hn B34 := by omega
  replace es : hs B34 = hs A + 8983 := by omega
  refine aw_aload_n (pc' := 375) rfl dX13_init_374 rfl ?_
  refine aw_bipush (pc' := 377) (by decide +kernel) dX13_init_375 rfl ?_
  refine aw_newa (atype := .int) (kd := 20) (t0 := 0) (pc' := 379) (fun _ => rfl) (Or.inl ⟨rfl, rfl⟩) w_aint dX13_init_377 rfl (by omega) (by omega) ?_
  refine aw_putFr (pc' := 382) (k9 := 48) dX13_init_379 rfl fX13_141 rfl rfl rfl rfl rfl (by first | exact hb0 | exact old_O old_new hb0) ?_
  obtain ⟨B35, e_, u35, h_, s_, p48, i48⟩ := mkU (A := B34) (q := 307) (k := 48) (kd := 20) (n := 10) (sl := Int.toNat 10) hz9 (by omega) (by omega)
  rw [e_]
  rw [eh] at p48 i48
  replace hb0 := up_O u35 hb0
  replace eh : hn B35 = 340 := by omega
  have wB35 : 307 < hn B35 := by omega
  replace es : hs B35 = hs A + 8993 := by omega
  refine aw_aload_n (pc' := 383) rfl dX13_init_382 rfl ?_
  refine aw_bipush (pc' := 385) (by decide +kernel) dX13_init_383 rfl ?_
  refine aw_newa (atype := .int) (kd := 20) (t0 := 0) (pc' := 387) (fun _ => rfl) (Or.inl ⟨rfl, rfl⟩) w_aint dX13_init_385 rfl (by omega) (by omega) ?_
  refine aw_putFr (pc' := 390) (k9 := 50) dX13_init_387 rfl fX13_144 rfl rfl rfl rfl rfl (by first | exact hb0 | exact old_O old_new hb0) ?_
  obtain ⟨B36, e_, u36, h_, s_, p50, i50⟩ := mkU (A := B35) (q := 307) (k := 50) (kd := 20) (n := 60) (sl := Int.toNat 60) hz9 (by omega) (by omega)
  rw [e_]
  rw [eh] at p50 i50
  replace hb0 := up_O u36 hb0
  replace eh : hn B36 = 341 := by omega
  have wB36 : 307 < hn B36 := by omega
  replace es : hs B36 = hs A + 9053 := by omega
  refine aw_aload_n (pc' := 391) rfl dX13_init_390 rfl ?_
  refine aw_bipush (pc' := 393) (by decide +kernel) dX13_init_391 rfl ?_
  refine aw_newa (atype := .int) (kd := 20) (t0 := 0) (pc' := 395) (fun _ => rfl) (Or.inl ⟨rfl, rfl⟩) w_aint dX13_init_393 rfl (by omega) (by omega) ?_
  refine aw_putFr (pc' := 398) (k9 := 51) dX13_init_395 rfl fX13_147 rfl rfl rfl rfl rfl (by first | exact hb0 | exact old_O old_new hb0) ?_
  obtain ⟨B37, e_, u37, h_, s_, p51, i51⟩ := mkU (A := B36) (q := 307) (k := 51) (kd := 20) (n := 20) (sl := Int.toNat 20) hz9 (by omega) (by omega)
  rw [e_]
  rw [eh] at p51 i51
  replace hb0 := up_O u37 hb0
  replace eh : hn B37 = 342 := by omega
  have wB37 : 307 < hn B37 := by omega
  replace es : hs B37 = hs A + 9073 := by omega
  refine aw_aload_n (pc' := 399) rfl dX13_init_398 rfl ?_
  refine aw_bipush (pc' := 401) (by decide +kernel) dX13_init_399 rfl ?_
  refine aw_newa (atype := .int) (kd := 20) (t0 := 0) (pc' := 403) (fun _ => rfl) (Or.inl ⟨rfl, rfl⟩) w_aint dX13_init_401 rfl (by omega) (by omega) ?_
  refine aw_putFr (pc' := 406) (k9 := 53) dX13_init_403 rfl fX13_150 rfl rfl rfl rfl rfl (by first | exact hb0 | exact old_O old_new hb0) ?_
  obtain ⟨B38, e_, u38, h_, s_, p53, i53⟩ := mkU (A := B37) (q := 307) (k := 53) (kd := 20) (n := 16) (sl := Int.toNat 16) hz9 (by omega) (by omega)
  rw [e_]
  rw [eh] at p53 i53
  replace hb0 := up_O u38 hb0
  replace eh : hn B38 = 343 := by omega
  have wB38 : 307 < hn B38 := by omega
  replace es : hs B38 = hs A + 9089 := by omega
  refine aw_aload_n (pc' := 407) rfl dX13_init_406 rfl ?_
  refine aw_iconst (pc' := 408) (by decide) dX13_init_407 rfl ?_
  refine aw_newa (atype := .int) (kd := 20) (t0 := 0) (pc' := 410) (fun _ => rfl) (Or.inl ⟨rfl, rfl⟩) w_aint dX13_init_408 rfl (by omega) (by omega) ?_
  refine aw_putFr (pc' := 413) (k9 := 55) dX13_init_410 rfl fX13_153 rfl rfl rfl rfl rfl (by first | exact hb0 | exact old_O old_new hb0) ?_
  obtain ⟨B39, e_, u39, h_, s_, p55, i55⟩ := mkU (A := B38) (q := 307) (k := 55) (kd := 20) (n := 5) (sl := Int.toNat 5) hz9 (by omega) (by omega)
  rw [e_]
  rw [eh] at p55 i55
  replace hb0 := up_O u39 hb0
  replace eh : hn B39 = 344 := by omega
  have wB39 : 307 < hn B39 := by omega
  replace es : hs B39 = hs A + 9094 := by omega
  refine aw_aload_n (pc' := 414) rfl dX13_init_413 rfl ?_
  refine aw_iconst (pc' := 415) (by decide) dX13_init_414 rfl ?_
  refine aw_newa (atype := .int) (kd := 20) (t0 := 0) (pc' := 417) (fun _ => rfl) (Or.inl ⟨rfl, rfl⟩) w_aint dX13_init_415 rfl (by omega) (by omega) ?_
  refine aw_putFr (pc' := 420) (k9 := 56) dX13_init_417 rfl fX13_156 rfl rfl rfl rfl rfl (by first | exact hb0 | exact old_O old_new hb0) ?_
  obtain ⟨B40, e_, u40, h_, s_, p56, i56⟩ := mkU (A := B39) (q := 307) (k := 56) (kd := 20) (n := 3) (sl := Int.toNat 3) hz9 (by omega) (by omega)
  rw [e_]
  rw [eh] at p56 i56
  replace hb0 := up_O u40 hb0
  replace eh : hn B40 = 345 := by omega
  have wB40 : 307 < hn B40 := by omega
  replace es : hs B40 = hs A + 9097 := by omega
  refine aw_aload_n (pc' := 421) rfl dX13_init_420 rfl ?_
  refine aw_sipush (pc' := 424) (by decide +kernel) dX13_init_421 rfl ?_
  refine aw_newa (atype := .int) (kd := 20) (t0 := 0) (pc' := 426) (fun _ => rfl) (Or.inl ⟨rfl, rfl⟩) w_aint dX13_init_424 rfl (by omega) (by omega) ?_
  refine aw_putFr (pc' := 429) (k9 := 57) dX13_init_426 rfl fX13_159 rfl rfl rfl rfl rfl (by first | exact hb0 | exact old_O old_new hb0) ?_
  obtain ⟨B41, e_, u41, h_, s_, p57, i57⟩ := mkU (A := B40) (q := 307) (k := 57) (kd := 20) (n := 160) (sl := Int.toNat 160) hz9 (by omega) (by omega)
  rw [e_]
  rw [eh] at p57 i57
  replace hb0 := up_O u41 hb0
  replace eh : hn B41 = 346 := by omega
  have wB41 : 307 < hn B41 := by omega
  replace es : hs B41 = hs A + 9257 := by omega
  refine aw_aload_n (pc' := 430) rfl dX13_init_429 rfl ?_
  refine aw_bipush (pc' := 432) (by decide +kernel) dX13_init_430 rfl ?_
  refine aw_newa (atype := .int) (kd := 20) (t0 := 0) (pc' := 434) (fun _ => rfl) (Or.inl ⟨rfl, rfl⟩) w_aint dX13_init_432 rfl (by omega) (by omega) ?_
  refine aw_putFr (pc' := 437) (k9 := 59) dX13_init_434 rfl fX13_162 rfl rfl rfl rfl rfl (by first | exact hb0 | exact old_O old_new hb0) ?_
  obtain ⟨B42, e_, u42, h_, s_, p59, i59⟩ := mkU (A := B41) (q := 307) (k := 59) (kd := 20) (n := 7) (sl := Int.toNat 7) hz9 (by omega) (by omega)
  rw [e_]
  rw [eh] at p59 i59
  replace hb0 := up_O u42 hb0
  replace eh : hn B42 = 347 := by omega
  have wB42 : 307 < hn B42 := by omega
  replace es : hs B42 = hs A + 9264 := by omega
  refine aw_aload_n (pc' := 438) rfl dX13_init_437 rfl ?_
  refine aw_bipush (pc' := 440) (by decide +kernel) dX13_init_438 rfl ?_
  refine aw_newa (atype := .int) (kd := 20) (t0 := 0) (pc' := 442) (fun _ => rfl) (Or.inl ⟨rfl, rfl⟩) w_aint dX13_init_440 rfl (by omega) (by omega) ?_
  obtain ⟨B43, e_, u43, h_, s_, i60⟩ := mkN (A := B42) (q := 307) (k := 60) (kd := 20) (n := 6) (sl := Int.toNat 6) hz9 (by omega) (by omega)
  rw [e_]
  simp only [hn_cl, eh]
  rw [eh] at i60
  replace hb0 := up_O u43 hb0
  replace eh : hn B43 = 348 := by omega
  have wB43 : 307 < hn B43 := by omega
  replace es : hs B43 = hs A + 9270 := by omega
  refine aw_dup (pc' := 443) rfl dX13_init_442 rfl ?_
  refine aw_iconst (pc' := 444) (by decide) dX13_init_443 rfl ?_
  refine aw_iconst (pc' := 445) (by decide) dX13_init_444 rfl ?_
  refine aw_iast (pc' := 446) dX13_init_445 rfl i60 (by omega) (by omega) ?_
  rw [cl_set, fil_1]
  refine aw_dup (pc' := 447) rfl dX13_init_446 rfl ?_
  refine aw_iconst (pc' := 448) (by decide) dX13_init_447 rfl ?_
  refine aw_iconst (pc' := 449) (by decide) dX13_init_448 rfl ?_
  refine aw_iast (pc' := 450) dX13_init_449 rfl i60 (by omega) (by omega) ?_
  rw [cl_set, fil_s (m := 2) (by decide) (by decide)]
  refine aw_dup (pc' := 451) rfl dX13_init_450 rfl ?_
  refine aw_iconst (pc' := 452) (by decide) dX13_init_451 rfl ?_
  refine aw_iconst (pc' := 453) (by decide) dX13_init_452 rfl ?_
  refine aw_iast (pc' := 454) dX13_init_453 rfl i60 (by omega) (by omega) ?_
  rw [cl_set, fil_s (m := 3) (by decide) (by decide)]
  refine aw_dup (pc' := 455) rfl dX13_init_454 rfl ?_
  refine aw_iconst (pc' := 456) (by decide) dX13_init_455 rfl ?_
  refine aw_iconst (pc' := 457) (by decide) dX13_init_456 rfl ?_
  refine aw_iast (pc' := 458) dX13_init_457 rfl i60 (by omega) (by omega) ?_
  rw [cl_set, fil_s (m := 4) (by decide) (by decide)]
  refine aw_dup (pc' := 459) rfl dX13_init_458 rfl ?_
  refine aw_iconst (pc' := 460) (by decide) dX13_init_459 rfl ?_
  refine aw_iconst (pc' := 461) (by decide) dX13_init_460 rfl ?_
  refine aw_iast (pc' := 462) dX13_init_461 rfl i60 (by omega) (by omega) ?_
  rw [cl_set, fil_s (m := 5) (by decide) (by decide)]
  refine aw_dup (pc' := 463) rfl dX13_init_462 rfl ?_
  refine aw_iconst (pc' := 464) (by decide) dX13_init_463 rfl ?_
  refine aw_iconst (pc' := 465) (by decide) dX13_init_464 rfl ?_
  refine aw_iast (pc' := 466) dX13_init_465 rfl i60 (by omega) (by omega) ?_
  rw [cl_set, fil_s (m := 6) (by decide) (by decide)]
  refine aw_putFr (pc' := 469) (k9 := 60) dX13_init_466 rfl fX13_165 rfl rfl rfl rfl rfl (by first | exact hb0 | exact old_O old_new hb0) ?_
  obtain ⟨B44, e_, u44, h_, s_, p60⟩ := mkV (A := B43) (v := (filc (filc (sset (filc (filw v 308 14) 321 3 (-5)) 307 15 (-5)) 333 4 (-1)) 347 6 (-1))) (q := 307) (k := 60) (x := 347)
  rw [e_]
  replace hb0 := up_O u44 hb0
  replace eh : hn B44 = 348 := by omega
  have wB44 : 307 < hn B44 := by omega
  replace es : hs B44 = hs A + 9270 := by omega
  replace hz9 : ZV (filc (filc (sset (filc (filw v 308 14) 321 3 (-5)) 307 15 (-5)) 333 4 (-1)) 347 6 (-1)) 348 := zv_filc (hz9.mono (by decide)) (by decide)
  refine aw_aload_n (pc' := 470) rfl dX13_init_469 rfl ?_
  refine aw_bipush (pc' := 472) (by decide +kernel) dX13_init_470 rfl ?_
  refine aw_newa (atype := .int) (kd := 20) (t0 := 0) (pc' := 474) (fun _ => rfl) (Or.inl ⟨rfl, rfl⟩) w_aint dX13_init_472 rfl (by omega) (by omega) ?_
  refine aw_putFr (pc' := 477) (k9 := 61) dX13_init_474 rfl fX13_168 rfl rfl rfl rfl rfl (by first | exact hb0 | exact old_O old_new hb0) ?_
  obtain ⟨B45, e_, u45, h_, s_, p61, i61⟩ := mkU (A := B44) (q := 307) (k := 61) (kd := 20) (n := 6) (sl := Int.toNat 6) hz9 (by omega) (by omega)
  rw [e_]
  rw [eh] at p61 i61
  replace hb0 := up_O u45 hb0
  replace eh : hn B45 = 349 := by omega
  have wB45 : 307 < hn B45 := by omega
  replace es : hs B45 = hs A + 9276 := by omega
  refine aw_aload_n (pc' := 478) rfl dX13_init_477 rfl ?_
  refine aw_sipush (pc' := 481) (by decide +kernel) dX13_init_478 rfl ?_
  refine aw_newa (atype := .long) (kd := 21) (t0 := 1) (pc' := 483) (fun _ => rfl) (Or.inr (Or.inr (Or.inr ⟨rfl, rfl⟩))) w_along dX13_init_481 rfl (by omega) (by omega) ?_
  refine aw_putFr (pc' := 486) (k9 := 62) dX13_init_483 rfl fX13_171 rfl rfl rfl rfl rfl (by first | exact hb0 | exact old_O old_new hb0) ?_
  obtain ⟨B46, e_, u46, h_, s_, p62, i62⟩ := mkU (A := B45) (q := 307) (k := 62) (kd := 21) (n := 360) (sl := Int.toNat 360) hz9 (by omega) (by omega)
  rw [e_]
  rw [eh] at p62 i62
  replace hb0 := up_O u46 hb0
  replace eh : hn B46 = 350 := by omega
  have wB46 : 307 < hn B46 := by omega
  replace es : hs B46 = hs A + 9636 := by omega
  refine AW.ret none dX13_init_486 trivial ?_
  have r46 : UP 307 1000 B46 B46 := up_rfl
  have r45 : UP 307 62 B45 B46 := up_tr u46 r46 (by decide)
  have r44 : UP 307 61 B44 B46 := up_tr u45 r45 (by decide)
  have r43 : UP 307 60 B43 B46 := up_tr u44 r44 (by decide)
  have r42 : UP 307 60 B42 B46 := up_tr u43 r43 (by decide)
  have r41 : UP 307 59 B41 B46 := up_tr u42 r42 (by decide)
  have r40 : UP 307 57 B40 B46 := up_tr u41 r41 (by decide)
  have r39 : UP 307 56 B39 B46 := up_tr u40 r40 (by decide)
  have r38 : UP 307 55 B38 B46 := up_tr u39 r39 (by decide)
  have r37 : UP 307 53 B37 B46 := up_tr u38 r38 (by decide)
  have r36 : UP 307 51 B36 B46 := up_tr u37 r37 (by decide)
  have r35 : UP 307 50 B35 B46 := up_tr u36 r36 (by decide)
  have r34 : UP 307 48 B34 B46 := up_tr u35 r35 (by decide)
  have r33 : UP 307 47 B33 B46 := up_tr u34 r34 (by decide)
  have r32 : UP 307 46 B32 B46 := up_tr u33 r33 (by decide)
  have r31 : UP 307 45 B31 B46 := up_tr u32 r32 (by decide)
  have r30 : UP 307 44 B30 B46 := up_tr u31 r31 (by decide)
  have r29 : UP 307 43 B29 B46 := up_tr u30 r30 (by decide)
  have r28 : UP 307 42 B28 B46 := up_tr u29 r29 (by decide)
  have r27 : UP 307 42 B27 B46 := up_tr u28 r28 (by decide)
  have r26 : UP 307 38 B26 B46 := up_tr u27 r27 (by decide)
  have r25 : UP 307 35 B25 B46 := up_tr u26 r26 (by decide)
  have r24 : UP 307 31 B24 B46 := up_tr u25 r25 (by decide)
  have r23 : UP 307 30 B23 B46 := up_tr u24 r24 (by decide)
  have r22 : UP 307 29 B22 B46 := up_tr u23 r23 (by decide)
  have r21 : UP 307 28 B21 B46 := up_tr u22 r22 (by decide)
  have r20 : UP 307 27 B20 B46 := up_tr u21 r21 (by decide)
  have r19 : UP 307 26 B19 B46 := up_tr u20 r20 (by decide)
  have r18 : UP 307 25 B18 B46 := up_tr u19 r19 (by decide)
  have r17 : UP 307 24 B17 B46 := up_tr u18 r18 (by decide)
  have r16 : UP 307 16 B16 B46 := up_tr u17 r17 (by decide)
  have r15 : UP 307 14 B15 B46 := up_tr u16 r16 (by decide)
  have r14 : UP 307 14 B14 B46 := up_tr u15 r15 (by decide)
  have r13 : UP 307 13 B13 B46 := up_tr u14 r14 (by decide)
  have r12 : UP 307 11 B12 B46 := up_tr u13 r13 (by decide)
  have r11 : UP 307 10 B11 B46 := up_tr u12 r12 (by decide)
  have r10 : UP 307 9 B10 B46 := up_tr u11 r11 (by decide)
  have r9 : UP 307 8 B9 B46 := up_tr u10 r10 (by decide)
  have r8 : UP 307 7 B8 B46 := up_tr u9 r9 (by decide)
  have r7 : UP 307 6 B7 B46 := up_tr u8 r8 (by decide)
  have r6 : UP 307 5 B6 B46 := up_tr u7 r7 (by decide)
  have r5 : UP 307 4 B5 B46 := up_tr u6 r6 (by decide)
  have r4 : UP 307 3 B4 B46 := up_tr u5 r5 (by decide)
  have r3 : UP 307 2 B3 B46 := up_tr u4 r4 (by decide)
  have r2 : UP 307 1 B2 B46 := up_tr u3 r3 (by decide)
  have r1 : UP 307 0 B1 B46 := up_tr u2 r2 (by decide)
  have r0 : UP 307 0 A B46 := up_tr u1 r1 (by decide)
  exact hQ _ (up_nw r0) eh es ⟨up_O r0 hO, (up_hp r2 wB2 (by decide)).trans p0, up_A r1 i0, (up_hp r3 wB3 (by decide)).trans p1, up_A r3 i1, (up_hp r4 wB4 (by decide)).trans p2, up_A r4 i2, (up_hp r5 wB5 (by decide)).trans p3, up_A r5 i3, (up_hp r6 wB6 (by decide)).trans p4, up_A r6 i4, (up_hp r7 wB7 (by decide)).trans p5, up_A r7 i5, (up_hp r8 wB8 (by decide)).trans p6, up_A r8 i6, (up_hp r9 wB9 (by decide)).trans p7, up_A r9 i7, (up_hp r10 wB10 (by decide)).trans p8, up_A r10 i8, (up_hp r11 wB11 (by decide)).trans p9, up_A r11 i9, (up_hp r12 wB12 (by decide)).trans p10, up_A r12 i10, (up_hp r13 wB13 (by decide)).trans p11, up_A r13 i11, (up_hp r14 wB14 (by decide)).trans p13, up_A r14 i13, (up_hp r16 wB16 (by decide)).trans p14, up_A r15 i14, (up_hp r17 wB17 (by decide)).trans p16, up_A r17 i16, (up_hp r18 wB18 (by decide)).trans p24, up_A r18 i24, (up_hp r19 wB19 (by decide)).trans p25, up_A r19 i25, (up_hp r20 wB20 (by decide)).trans p26, up_A r20 i26, (up_hp r21 wB21 (by decide)).trans p27, up_A r21 i27, (up_hp r22 wB22 (by decide)).trans p28, up_A r22 i28, (up_hp r23 wB23 (by decide)).trans p29, up_A r23 i29, (up_hp r24 wB24 (by decide)).trans p30, up_A r24 i30, (up_hp r25 wB25 (by decide)).trans p31, up_A r25 i31, (up_hp r26 wB26 (by decide)).trans p35, up_A r26 i35, (up_hp r27 wB27 (by decide)).trans p38, up_A r27 i38, (up_hp r29 wB29 (by decide)).trans p42, up_A r28 i42, (up_hp r30 wB30 (by decide)).trans p43, up_A r30 i43, (up_hp r31 wB31 (by decide)).trans p44, up_A r31 i44, (up_hp r32 wB32 (by decide)).trans p45, up_A r32 i45, (up_hp r33 wB33 (by decide)).trans p46, up_A r33 i46, (up_hp r34 wB34 (by decide)).trans p47, up_A r34 i47, (up_hp r35 wB35 (by decide)).trans p48, up_A r35 i48, (up_hp r36 wB36 (by decide)).trans p50, up_A r36 i50, (up_hp r37 wB37 (by decide)).trans p51, up_A r37 i51, (up_hp r38 wB38 (by decide)).trans p53, up_A r38 i53, (up_hp r39 wB39 (by decide)).trans p55, up_A r39 i55, (up_hp r40 wB40 (by decide)).trans p56, up_A r40 i56, (up_hp r41 wB41 (by decide)).trans p57, up_A r41 i57, (up_hp r42 wB42 (by decide)).trans p59, up_A r42 i59, (up_hp r44 wB44 (by decide)).trans p60, up_A r43 i60, (up_hp r45 wB45 (by decide)).trans p61, up_A r45 i61, (up_hp r46 wB46 (by decide)).trans p62, up_A r46 i62⟩
