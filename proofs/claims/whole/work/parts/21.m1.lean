/-! ===== the reference: little methods ===== -/
theorem aw_getp {d : Nat} {M : MD} {pc pc' : Nat} {lv : LV} {st : List AV} {A : AHp} {Q : Option AV → AHp → Prop} {o p : Int} {idx ci k : Nat} (hd : decode M.2.1 pc = .ok (.getfield idx, 3)) (hp9 : pc + 3 = pc') (hf : FL M.1.cls idx ci k) {k9 : Int} (hk9 : (k : Int) = k9) (ht : tk (tyC ci k) = 1) (hfin : (clT ci k).2.2.2 = true) (hO : isO A o (ci + 1)) (he : hp A o k9 = p)
    (kk : AW d M pc' lv (vr p :: st) A Q) : AW d M pc lv (vr o :: st) A Q := by
  rw [← he] at kk
  exact aw_getfr hd hp9 hf hk9 ht hfin hO kk
theorem cmp_eq {x y : Int} : (if x = y then (0 : Int) else if x < y then -1 else 1) = 0 ↔ x = y := by (repeat' split) <;> omega
theorem cmp_lt {x y : Int} : (if x = y then (0 : Int) else if x < y then -1 else 1) < 0 ↔ x < y := by (repeat' split) <;> omega
theorem cmp_ge {x y : Int} : 0 ≤ (if x = y then (0 : Int) else if x < y then -1 else 1) ↔ y ≤ x := by (repeat' split) <;> omega
theorem cmp_gt {x y : Int} : 0 < (if x = y then (0 : Int) else if x < y then -1 else 1) ↔ y < x := by (repeat' split) <;> omega
theorem cmp_le {x y : Int} : (if x = y then (0 : Int) else if x < y then -1 else 1) ≤ 0 ↔ x ≤ y := by (repeat' split) <;> omega
theorem iv_1 {c : Prop} [Decidable c] (h : c) {x y : Int} {Q : Option AV → AHp → Prop} {A : AHp} (hQ : Q (some (vi (if c then x else y))) A) : Q (some (vi x)) A := by rw [if_pos h] at hQ; exact hQ
theorem iv_0 {c : Prop} [Decidable c] (h : ¬ c) {x y : Int} {Q : Option AV → AHp → Prop} {A : AHp} (hQ : Q (some (vi (if c then x else y))) A) : Q (some (vi y)) A := by rw [if_neg h] at hQ; exact hQ

set_option maxRecDepth 20000 in
theorem c_in {d : Nat} {v a b : Int} {A : AHp} {Q : Option AV → AHp → Prop} (hd : 0 ≤ d) (h1 : a ≤ v → v ≤ b → Q (some (vi 1)) A) (h0 : ¬ (a ≤ v ∧ v ≤ b) → Q (some (vi 0)) A) : CALL d mX13_in [vl v, vl a, vl b] A Q := by
  refine CALL.of (by decide) (Nat.le_of_ble_eq_true rfl) ?_
  change AW d mX13_in 0 [some (vl v), none, some (vl a), none, some (vl b), none] [] A Q
  refine aw_lload_n (pc' := 1) rfl dX13_in_0 rfl ?_
  refine aw_lload_n (pc' := 2) rfl dX13_in_1 rfl ?_
  refine aw_lcmp (pc' := 3) dX13_in_2 rfl ?_
  refine aw_if_lt (pt := 17) (pf := 6) dX13_in_3 (by decide) rfl (fun c_3 => ?_) (fun c_3 => ?_)
  · replace c_3 := (cmp_lt).mp c_3
    refine aw_iconst (pc' := 18) (by decide) dX13_in_17 rfl ?_
    refine AW.ret (some (vi _)) dX13_in_18 (Or.inl rfl) ?_
    exact h0 (by omega)
  · replace c_3 := (not_congr cmp_lt).mp c_3
    refine aw_lload_n (pc' := 7) rfl dX13_in_6 rfl ?_
    refine aw_lload (pc' := 9) rfl dX13_in_7 rfl ?_
    refine aw_lcmp (pc' := 10) dX13_in_9 rfl ?_
    refine aw_if_gt (pt := 17) (pf := 13) dX13_in_10 (by decide) rfl (fun c_10 => ?_) (fun c_10 => ?_)
    · replace c_10 := (cmp_gt).mp c_10
      refine aw_iconst (pc' := 18) (by decide) dX13_in_17 rfl ?_
      refine AW.ret (some (vi _)) dX13_in_18 (Or.inl rfl) ?_
      exact h0 (by omega)
    · replace c_10 := (not_congr cmp_gt).mp c_10
      refine aw_iconst (pc' := 14) (by decide) dX13_in_13 rfl ?_
      refine aw_goto (pc' := 18) dX13_in_14 (by decide) ?_
      refine AW.ret (some (vi _)) dX13_in_18 (Or.inr rfl) ?_
      exact h1 (by omega) (by omega)

set_option maxRecDepth 20000 in
theorem c_feed {d : Nat} {s : Int} {A : AHp} {Q : Option AV → AHp → Prop} (hd : 1 ≤ d) (hM : MLAY A) (ht : 0 ≤ hv A 307 17 ∧ hv A 307 17 ≤ 100)
  (hBad : ¬ (0 ≤ s ∧ s ≤ 127) → Q (some (vi (-2))) A) (hFull : 0 ≤ s → s ≤ 127 → hv A 307 17 = 100 → Q (some (vi (-4))) A)
  (hOk : 0 ≤ s → s ≤ 127 → hv A 307 17 < 100 → Q (some (vi (hv A 307 17 + 1))) (hset (hset A 322 (hv A 307 17) s) 307 17 (hv A 307 17 + 1))) : CALL d mX13_feed [vr 307, vi s] A Q := by
  refine CALL.of (by decide) (Nat.le_of_ble_eq_true rfl) ?_
  change AW d mX13_feed 0 [some (vr 307), some (vi s)] [] A Q
  refine aw_iload_n (pc' := 1) rfl dX13_feed_0 rfl ?_
  refine aw_i2l (pc' := 2) dX13_feed_1 rfl ?_
  refine aw_lconst (x := 0) (pc' := 3) (by decide +kernel) dX13_feed_2 rfl ?_
  refine aw_ldc2 (x := (127)) (pc' := 6) qX13_175 (by decide) dX13_feed_3 rfl ?_
  refine aw_callS (d' := d - 1) (as := [_, _, _]) (pc' := 9) kX13_in tX13_in lX13_177 dX13_feed_6 rfl rfl (Nat.le_of_ble_eq_true rfl) (by omega) ?_
  refine c_in (by omega) (fun g1_6 g2_6 => ?_) (fun g0_6 => ?_)
  · refine aw_if_ne (pt := 15) (pf := 12) dX13_feed_9 (by decide) rfl (fun _ => ?_) (fun c_9 => absurd (by decide) c_9)
    refine aw_aload_n (pc' := 16) rfl dX13_feed_15 rfl ?_
    refine aw_geti (pc' := 19) (k9 := 17) dX13_feed_16 rfl fX13_181 rfl (by decide) rfl (MO (A := A) hM) ?_
    refine aw_bipush (pc' := 21) (by decide +kernel) dX13_feed_19 rfl ?_
    refine aw_icmp_ne (pt := 27) (pf := 24) dX13_feed_21 (by decide) rfl (fun c_21 => ?_) (fun c_21 => ?_)
    · refine aw_aload_n (pc' := 28) rfl dX13_feed_27 rfl ?_
      refine aw_getp (pc' := 31) (k9 := 16) (p := 322) dX13_feed_28 rfl fX13_89 rfl rfl rfl (MO (A := A) hM) (M_text (A := A) hM) ?_
      refine aw_aload_n (pc' := 32) rfl dX13_feed_31 rfl ?_
      refine aw_geti (pc' := 35) (k9 := 17) dX13_feed_32 rfl fX13_181 rfl (by decide) rfl (MO (A := A) hM) ?_
      refine aw_iload_n (pc' := 36) rfl dX13_feed_35 rfl ?_
      refine aw_iast (pc' := 37) dX13_feed_36 rfl (MA_text (A := A) hM) (by omega) (by omega) ?_
      refine aw_aload_n (pc' := 38) rfl dX13_feed_37 rfl ?_
      refine aw_dup (pc' := 39) rfl dX13_feed_38 rfl ?_
      refine aw_geti (pc' := 42) (k9 := 17) dX13_feed_39 rfl fX13_181 rfl (by decide) rfl (MO (A := A) hM) ?_
      try simp only [hv_set, hv_cpy, hv_pset, hp_set, hp_cpy, Int.reduceEq, false_and, and_false, true_and, and_true, if_false, if_true, reduceIte]
      refine aw_iconst (pc' := 43) (by decide) dX13_feed_42 rfl ?_
      refine aw_iadd (pc' := 44) (by first | exact w32_id (by omega) (by omega) | rfl) dX13_feed_43 rfl ?_
      refine aw_puti (pc' := 47) (k9 := 17) dX13_feed_44 rfl fX13_181 rfl rfl rfl (MO (A := A) hM) ?_
      refine aw_aload_n (pc' := 48) rfl dX13_feed_47 rfl ?_
      refine aw_geti (pc' := 51) (k9 := 17) dX13_feed_48 rfl fX13_181 rfl (by decide) rfl (MO (A := A) hM) ?_
      try simp only [hv_set, hv_cpy, hv_pset, hp_set, hp_cpy, Int.reduceEq, false_and, and_false, true_and, and_true, if_false, if_true, reduceIte]
      refine AW.ret (some (vi _)) dX13_feed_51 trivial ?_
      exact hOk (by omega) (by omega) (by omega)
    · replace c_21 := Classical.not_not.mp c_21
      refine aw_bipush (pc' := 26) (by decide +kernel) dX13_feed_24 rfl ?_
      refine AW.ret (some (vi _)) dX13_feed_26 trivial ?_
      exact hFull (by omega) (by omega) (by omega)
  · refine aw_if_ne (pt := 15) (pf := 12) dX13_feed_9 (by decide) rfl (fun c_9 => absurd c_9 (by decide)) (fun _ => ?_)
    refine aw_bipush (pc' := 14) (by decide +kernel) dX13_feed_12 rfl ?_
    refine AW.ret (some (vi _)) dX13_feed_14 trivial ?_
    exact hBad (by omega)

set_option maxRecDepth 20000 in
theorem c_isLine {d : Nat} {l : Int} {A : AHp} {Q : Option AV → AHp → Prop} (hd : 1 ≤ d) (hM : MLAY A) (hln : 0 ≤ hv A 307 12 ∧ hv A 307 12 ≤ 8)
  (h1 : 0 ≤ l → l < hv A 307 12 → Q (some (vi 1)) A) (h0 : ¬ (0 ≤ l ∧ l < hv A 307 12) → Q (some (vi 0)) A) : CALL d mX13_isLine [vr 307, vi l] A Q := by
  refine CALL.of (by decide) (Nat.le_of_ble_eq_true rfl) ?_
  change AW d mX13_isLine 0 [some (vr 307), some (vi l)] [] A Q
  refine aw_iload_n (pc' := 1) rfl dX13_isLine_0 rfl ?_
  refine aw_i2l (pc' := 2) dX13_isLine_1 rfl ?_
  refine aw_lconst (x := 0) (pc' := 3) (by decide +kernel) dX13_isLine_2 rfl ?_
  refine aw_aload_n (pc' := 4) rfl dX13_isLine_3 rfl ?_
  refine aw_geti (pc' := 7) (k9 := 12) dX13_isLine_4 rfl fX13_196 rfl (by decide) rfl (MO (A := A) hM) ?_
  refine aw_iconst (pc' := 8) (by decide) dX13_isLine_7 rfl ?_
  refine aw_isub (pc' := 9) (by first | exact w32_id (by omega) (by omega) | rfl) dX13_isLine_8 rfl ?_
  refine aw_i2l (pc' := 10) dX13_isLine_9 rfl ?_
  refine aw_callS (d' := d - 1) (as := [_, _, _]) (pc' := 13) kX13_in tX13_in lX13_177 dX13_isLine_10 rfl rfl (Nat.le_of_ble_eq_true rfl) (by omega) ?_
  refine c_in (by omega) (fun g1_10 g2_10 => ?_) (fun g0_10 => ?_)
  · refine AW.ret (some (vi _)) dX13_isLine_13 (Or.inr rfl) ?_
    exact h1 (by omega) (by omega)
  · refine AW.ret (some (vi _)) dX13_isLine_13 (Or.inl rfl) ?_
    exact h0 (by omega)

set_option maxRecDepth 20000 in
theorem c_isName {d : Nat} {n : Int} {A : AHp} {Q : Option AV → AHp → Prop} (hd : 1 ≤ d) (h1 : 0 ≤ n → n ≤ 4 → Q (some (vi 1)) A) (h0 : ¬ (0 ≤ n ∧ n ≤ 4) → Q (some (vi 0)) A) : CALL d mX13_isName [vi n] A Q := by
  refine CALL.of (by decide) (Nat.le_of_ble_eq_true rfl) ?_
  change AW d mX13_isName 0 [some (vi n)] [] A Q
  refine aw_iload_n (pc' := 1) rfl dX13_isName_0 rfl ?_
  refine aw_i2l (pc' := 2) dX13_isName_1 rfl ?_
  refine aw_lconst (x := 0) (pc' := 3) (by decide +kernel) dX13_isName_2 rfl ?_
  refine aw_ldc2 (x := (4)) (pc' := 6) qX13_265 (by decide) dX13_isName_3 rfl ?_
  refine aw_callS (d' := d - 1) (as := [_, _, _]) (pc' := 9) kX13_in tX13_in lX13_177 dX13_isName_6 rfl rfl (Nat.le_of_ble_eq_true rfl) (by omega) ?_
  refine c_in (by omega) (fun g1_6 g2_6 => ?_) (fun g0_6 => ?_)
  · refine AW.ret (some (vi _)) dX13_isName_9 (Or.inr rfl) ?_
    exact h1 (by omega) (by omega)
  · refine AW.ret (some (vi _)) dX13_isName_9 (Or.inl rfl) ?_
    exact h0 (by omega)

set_option maxRecDepth 20000 in
theorem c_define {d : Nat} {f l : Int} {A : AHp} {Q : Option AV → AHp → Prop} (hd : 2 ≤ d) (hM : MLAY A) (hln : 0 ≤ hv A 307 12 ∧ hv A 307 12 ≤ 8)
  (hN : ¬ (0 ≤ f ∧ f ≤ 2 ∧ (l = -1 ∨ (0 ≤ l ∧ l < hv A 307 12))) → Q (some (vi (-1))) A)
  (hO1 : 0 ≤ f → f ≤ 2 → l = -1 → Q (some (vi (hv A 321 f))) (hset A 321 f (-5)))
  (hO2 : 0 ≤ f → f ≤ 2 → 0 ≤ l → l < hv A 307 12 → Q (some (vi (hv A 321 f))) (hset A 321 f l)) : CALL d mX13_define [vr 307, vi f, vi l] A Q := by
  refine CALL.of (by decide) (Nat.le_of_ble_eq_true rfl) ?_
  change AW d mX13_define 0 [some (vr 307), some (vi f), some (vi l), none] [] A Q
  refine aw_iload_n (pc' := 1) rfl dX13_define_0 rfl ?_
  refine aw_i2l (pc' := 2) dX13_define_1 rfl ?_
  refine aw_lconst (x := 0) (pc' := 3) (by decide +kernel) dX13_define_2 rfl ?_
  refine aw_ldc2 (x := (2)) (pc' := 6) qX13_263 (by decide) dX13_define_3 rfl ?_
  refine aw_callS (d' := d - 1) (as := [_, _, _]) (pc' := 9) kX13_in tX13_in lX13_177 dX13_define_6 rfl rfl (Nat.le_of_ble_eq_true rfl) (by omega) ?_
  refine c_in (by omega) (fun g1_6 g2_6 => ?_) (fun g0_6 => ?_)
  · refine aw_if_eq (pt := 25) (pf := 12) dX13_define_9 (by decide) rfl (fun c_9 => absurd c_9 (by decide)) (fun _ => ?_)
    refine aw_iload_n (pc' := 13) rfl dX13_define_12 rfl ?_
    refine aw_iconst (pc' := 14) (by decide) dX13_define_13 rfl ?_
    refine aw_icmp_eq (pt := 27) (pf := 17) dX13_define_14 (by decide) rfl (fun c_14 => ?_) (fun c_14 => ?_)
    · refine aw_aload_n (pc' := 28) rfl dX13_define_27 rfl ?_
      refine aw_getp (pc' := 31) (k9 := 14) (p := 321) dX13_define_28 rfl fX13_82 rfl rfl rfl (MO (A := A) hM) (M_functions (A := A) hM) ?_
      refine aw_iload_n (pc' := 32) rfl dX13_define_31 rfl ?_
      refine aw_iald (pc' := 33) dX13_define_32 rfl (MA_functions (A := A) hM) (by omega) (by omega) ?_
      refine aw_istore_n (pc' := 34) (lv' := [_, _, _, _]) dX13_define_33 rfl (by decide) rfl ?_
      refine aw_aload_n (pc' := 35) rfl dX13_define_34 rfl ?_
      refine aw_getp (pc' := 38) (k9 := 14) (p := 321) dX13_define_35 rfl fX13_82 rfl rfl rfl (MO (A := A) hM) (M_functions (A := A) hM) ?_
      refine aw_iload_n (pc' := 39) rfl dX13_define_38 rfl ?_
      refine aw_iload_n (pc' := 40) rfl dX13_define_39 rfl ?_
      refine aw_iconst (pc' := 41) (by decide) dX13_define_40 rfl ?_
      refine aw_icmp_ne (pt := 49) (pf := 44) dX13_define_41 (by decide) rfl (fun c_41 => ?_) (fun c_41 => ?_)
      · refine aw_iload_n (pc' := 50) rfl dX13_define_49 rfl ?_
        refine aw_iast (pc' := 51) dX13_define_50 rfl (MA_functions (A := A) hM) (by omega) (by omega) ?_
        refine aw_iload_n (pc' := 52) rfl dX13_define_51 rfl ?_
        refine AW.ret (some (vi _)) dX13_define_52 trivial ?_
        first | exact hN (by omega) | exact hO1 (by omega) (by omega) (by omega) | exact hO2 (by omega) (by omega) (by omega) (by omega)
      · replace c_41 := Classical.not_not.mp c_41
        refine aw_bipush (pc' := 46) (by decide +kernel) dX13_define_44 rfl ?_
        refine aw_goto (pc' := 50) dX13_define_46 (by decide) ?_
        refine aw_iast (pc' := 51) dX13_define_50 rfl (MA_functions (A := A) hM) (by omega) (by omega) ?_
        refine aw_iload_n (pc' := 52) rfl dX13_define_51 rfl ?_
        refine AW.ret (some (vi _)) dX13_define_52 trivial ?_
        first | exact hN (by omega) | exact hO1 (by omega) (by omega) (by omega) | exact hO2 (by omega) (by omega) (by omega) (by omega)
    · refine aw_aload_n (pc' := 18) rfl dX13_define_17 rfl ?_
      refine aw_iload_n (pc' := 19) rfl dX13_define_18 rfl ?_
      refine aw_callV (ci := 11) (d' := d - 1) (as := [_]) (pc' := 22) (by decide) rfl kX13_isLine iX13_isLine sX13_isLine lX13_260 (MO (A := A) hM) dX13_define_19 rfl rfl (Nat.le_of_ble_eq_true rfl) (by omega) ?_
      refine c_isLine (by omega) hM hln (fun e1_19 e2_19 => ?_) (fun e0_19 => ?_)
      · refine aw_if_ne (pt := 27) (pf := 25) dX13_define_22 (by decide) rfl (fun _ => ?_) (fun c_22 => absurd (by decide) c_22)
        refine aw_aload_n (pc' := 28) rfl dX13_define_27 rfl ?_
        refine aw_getp (pc' := 31) (k9 := 14) (p := 321) dX13_define_28 rfl fX13_82 rfl rfl rfl (MO (A := A) hM) (M_functions (A := A) hM) ?_
        refine aw_iload_n (pc' := 32) rfl dX13_define_31 rfl ?_
        refine aw_iald (pc' := 33) dX13_define_32 rfl (MA_functions (A := A) hM) (by omega) (by omega) ?_
        refine aw_istore_n (pc' := 34) (lv' := [_, _, _, _]) dX13_define_33 rfl (by decide) rfl ?_
        refine aw_aload_n (pc' := 35) rfl dX13_define_34 rfl ?_
        refine aw_getp (pc' := 38) (k9 := 14) (p := 321) dX13_define_35 rfl fX13_82 rfl rfl rfl (MO (A := A) hM) (M_functions (A := A) hM) ?_
        refine aw_iload_n (pc' := 39) rfl dX13_define_38 rfl ?_
        refine aw_iload_n (pc' := 40) rfl dX13_define_39 rfl ?_
        refine aw_iconst (pc' := 41) (by decide) dX13_define_40 rfl ?_
        refine aw_icmp_ne (pt := 49) (pf := 44) dX13_define_41 (by decide) rfl (fun c_41 => ?_) (fun c_41 => ?_)
        · refine aw_iload_n (pc' := 50) rfl dX13_define_49 rfl ?_
          refine aw_iast (pc' := 51) dX13_define_50 rfl (MA_functions (A := A) hM) (by omega) (by omega) ?_
          refine aw_iload_n (pc' := 52) rfl dX13_define_51 rfl ?_
          refine AW.ret (some (vi _)) dX13_define_52 trivial ?_
          first | exact hN (by omega) | exact hO1 (by omega) (by omega) (by omega) | exact hO2 (by omega) (by omega) (by omega) (by omega)
        · replace c_41 := Classical.not_not.mp c_41
          refine aw_bipush (pc' := 46) (by decide +kernel) dX13_define_44 rfl ?_
          refine aw_goto (pc' := 50) dX13_define_46 (by decide) ?_
          refine aw_iast (pc' := 51) dX13_define_50 rfl (MA_functions (A := A) hM) (by omega) (by omega) ?_
          refine aw_iload_n (pc' := 52) rfl dX13_define_51 rfl ?_
          refine AW.ret (some (vi _)) dX13_define_52 trivial ?_
          first | exact hN (by omega) | exact hO1 (by omega) (by omega) (by omega) | exact hO2 (by omega) (by omega) (by omega) (by omega)
      · refine aw_if_ne (pt := 27) (pf := 25) dX13_define_22 (by decide) rfl (fun c_22 => absurd c_22 (by decide)) (fun _ => ?_)
        refine aw_iconst (pc' := 26) (by decide) dX13_define_25 rfl ?_
        refine AW.ret (some (vi _)) dX13_define_26 trivial ?_
        first | exact hN (by omega) | exact hO1 (by omega) (by omega) (by omega) | exact hO2 (by omega) (by omega) (by omega) (by omega)
  · refine aw_if_eq (pt := 25) (pf := 12) dX13_define_9 (by decide) rfl (fun _ => ?_) (fun c_9 => absurd (by decide) c_9)
    refine aw_iconst (pc' := 26) (by decide) dX13_define_25 rfl ?_
    refine AW.ret (some (vi _)) dX13_define_26 trivial ?_
    first | exact hN (by omega) | exact hO1 (by omega) (by omega) (by omega) | exact hO2 (by omega) (by omega) (by omega) (by omega)

set_option maxRecDepth 20000 in
theorem c_trap {d : Nat} {l : Int} {A : AHp} {Q : Option AV → AHp → Prop} (hd : 2 ≤ d) (hM : MLAY A) (hln : 0 ≤ hv A 307 12 ∧ hv A 307 12 ≤ 8)
  (hN : ¬ (l = -1 ∨ (0 ≤ l ∧ l < hv A 307 12)) → Q (some (vi (-1))) A)
  (hO1 : l = -1 → Q (some (vi (hv A 307 15))) (hset A 307 15 (-5)))
  (hO2 : 0 ≤ l → l < hv A 307 12 → Q (some (vi (hv A 307 15))) (hset A 307 15 l)) : CALL d mX13_trap [vr 307, vi l] A Q := by
  refine CALL.of (by decide) (Nat.le_of_ble_eq_true rfl) ?_
  change AW d mX13_trap 0 [some (vr 307), some (vi l), none] [] A Q
  refine aw_iload_n (pc' := 1) rfl dX13_trap_0 rfl ?_
  refine aw_iconst (pc' := 2) (by decide) dX13_trap_1 rfl ?_
  refine aw_icmp_eq (pt := 15) (pf := 5) dX13_trap_2 (by decide) rfl (fun c_2 => ?_) (fun c_2 => ?_)
  · refine aw_aload_n (pc' := 16) rfl dX13_trap_15 rfl ?_
    refine aw_geti (pc' := 19) (k9 := 15) dX13_trap_16 rfl fX13_85 rfl (by decide) rfl (MO (A := A) hM) ?_
    refine aw_istore_n (pc' := 20) (lv' := [_, _, _]) dX13_trap_19 rfl (by decide) rfl ?_
    refine aw_aload_n (pc' := 21) rfl dX13_trap_20 rfl ?_
    refine aw_iload_n (pc' := 22) rfl dX13_trap_21 rfl ?_
    refine aw_iconst (pc' := 23) (by decide) dX13_trap_22 rfl ?_
    refine aw_icmp_ne (pt := 31) (pf := 26) dX13_trap_23 (by decide) rfl (fun c_23 => ?_) (fun c_23 => ?_)
    · refine aw_iload_n (pc' := 32) rfl dX13_trap_31 rfl ?_
      refine aw_puti (pc' := 35) (k9 := 15) dX13_trap_32 rfl fX13_85 rfl rfl rfl (MO (A := A) hM) ?_
      refine aw_iload_n (pc' := 36) rfl dX13_trap_35 rfl ?_
      refine AW.ret (some (vi _)) dX13_trap_36 trivial ?_
      first | exact hN (by omega) | exact hO1 (by omega) | exact hO2 (by omega) (by omega)
    · replace c_23 := Classical.not_not.mp c_23
      refine aw_bipush (pc' := 28) (by decide +kernel) dX13_trap_26 rfl ?_
      refine aw_goto (pc' := 32) dX13_trap_28 (by decide) ?_
      refine aw_puti (pc' := 35) (k9 := 15) dX13_trap_32 rfl fX13_85 rfl rfl rfl (MO (A := A) hM) ?_
      refine aw_iload_n (pc' := 36) rfl dX13_trap_35 rfl ?_
      refine AW.ret (some (vi _)) dX13_trap_36 trivial ?_
      first | exact hN (by omega) | exact hO1 (by omega) | exact hO2 (by omega) (by omega)
  · refine aw_aload_n (pc' := 6) rfl dX13_trap_5 rfl ?_
    refine aw_iload_n (pc' := 7) rfl dX13_trap_6 rfl ?_
    refine aw_callV (ci := 11) (d' := d - 1) (as := [_]) (pc' := 10) (by decide) rfl kX13_isLine iX13_isLine sX13_isLine lX13_260 (MO (A := A) hM) dX13_trap_7 rfl rfl (Nat.le_of_ble_eq_true rfl) (by omega) ?_
    refine c_isLine (by omega) hM hln (fun e1_7 e2_7 => ?_) (fun e0_7 => ?_)
    · refine aw_if_ne (pt := 15) (pf := 13) dX13_trap_10 (by decide) rfl (fun _ => ?_) (fun c_10 => absurd (by decide) c_10)
      refine aw_aload_n (pc' := 16) rfl dX13_trap_15 rfl ?_
      refine aw_geti (pc' := 19) (k9 := 15) dX13_trap_16 rfl fX13_85 rfl (by decide) rfl (MO (A := A) hM) ?_
      refine aw_istore_n (pc' := 20) (lv' := [_, _, _]) dX13_trap_19 rfl (by decide) rfl ?_
      refine aw_aload_n (pc' := 21) rfl dX13_trap_20 rfl ?_
      refine aw_iload_n (pc' := 22) rfl dX13_trap_21 rfl ?_
      refine aw_iconst (pc' := 23) (by decide) dX13_trap_22 rfl ?_
      refine aw_icmp_ne (pt := 31) (pf := 26) dX13_trap_23 (by decide) rfl (fun c_23 => ?_) (fun c_23 => ?_)
      · refine aw_iload_n (pc' := 32) rfl dX13_trap_31 rfl ?_
        refine aw_puti (pc' := 35) (k9 := 15) dX13_trap_32 rfl fX13_85 rfl rfl rfl (MO (A := A) hM) ?_
        refine aw_iload_n (pc' := 36) rfl dX13_trap_35 rfl ?_
        refine AW.ret (some (vi _)) dX13_trap_36 trivial ?_
        first | exact hN (by omega) | exact hO1 (by omega) | exact hO2 (by omega) (by omega)
      · replace c_23 := Classical.not_not.mp c_23
        refine aw_bipush (pc' := 28) (by decide +kernel) dX13_trap_26 rfl ?_
        refine aw_goto (pc' := 32) dX13_trap_28 (by decide) ?_
        refine aw_puti (pc' := 35) (k9 := 15) dX13_trap_32 rfl fX13_85 rfl rfl rfl (MO (A := A) hM) ?_
        refine aw_iload_n (pc' := 36) rfl dX13_trap_35 rfl ?_
        refine AW.ret (some (vi _)) dX13_trap_36 trivial ?_
        first | exact hN (by omega) | exact hO1 (by omega) | exact hO2 (by omega) (by omega)
    · refine aw_if_ne (pt := 15) (pf := 13) dX13_trap_10 (by decide) rfl (fun c_10 => absurd c_10 (by decide)) (fun _ => ?_)
      refine aw_iconst (pc' := 14) (by decide) dX13_trap_13 rfl ?_
      refine AW.ret (some (vi _)) dX13_trap_14 trivial ?_
      first | exact hN (by omega) | exact hO1 (by omega) | exact hO2 (by omega) (by omega)

set_option maxRecDepth 20000 in
theorem c_value {d : Nat} {n v : Int} {A : AHp} {Q : Option AV → AHp → Prop} (hd : 1 ≤ d) (hM : MLAY A)
  (hN : ¬ (0 ≤ n ∧ n ≤ 4) → Q (some (vl (-9223372036854775808))) A)
  (hO : 0 ≤ n → n ≤ 4 → Q (some (vl (hv A 320 n))) (hset A 320 n v)) : CALL d mX13_value [vr 307, vi n, vi v] A Q := by
  refine CALL.of (by decide) (Nat.le_of_ble_eq_true rfl) ?_
  change AW d mX13_value 0 [some (vr 307), some (vi n), some (vi v), none, none] [] A Q
  refine aw_iload_n (pc' := 1) rfl dX13_value_0 rfl ?_
  refine aw_i2l (pc' := 2) dX13_value_1 rfl ?_
  refine aw_lconst (x := 0) (pc' := 3) (by decide +kernel) dX13_value_2 rfl ?_
  refine aw_ldc2 (x := (4)) (pc' := 6) qX13_265 (by decide) dX13_value_3 rfl ?_
  refine aw_callS (d' := d - 1) (as := [_, _, _]) (pc' := 9) kX13_in tX13_in lX13_177 dX13_value_6 rfl rfl (Nat.le_of_ble_eq_true rfl) (by omega) ?_
  refine c_in (by omega) (fun g1_6 g2_6 => ?_) (fun g0_6 => ?_)
  · refine aw_if_ne (pt := 16) (pf := 12) dX13_value_9 (by decide) rfl (fun _ => ?_) (fun c_9 => absurd (by decide) c_9)
    refine aw_aload_n (pc' := 17) rfl dX13_value_16 rfl ?_
    refine aw_getp (pc' := 20) (k9 := 13) (p := 320) dX13_value_17 rfl fX13_79 rfl rfl rfl (MO (A := A) hM) (M_values (A := A) hM) ?_
    refine aw_iload_n (pc' := 21) rfl dX13_value_20 rfl ?_
    refine aw_iald (pc' := 22) dX13_value_21 rfl (MA_values (A := A) hM) (by omega) (by omega) ?_
    refine aw_i2l (pc' := 23) dX13_value_22 rfl ?_
    refine aw_lstore_n (pc' := 24) (lv' := [_, _, _, _, _]) dX13_value_23 rfl (by decide) rfl ?_
    refine aw_aload_n (pc' := 25) rfl dX13_value_24 rfl ?_
    refine aw_getp (pc' := 28) (k9 := 13) (p := 320) dX13_value_25 rfl fX13_79 rfl rfl rfl (MO (A := A) hM) (M_values (A := A) hM) ?_
    refine aw_iload_n (pc' := 29) rfl dX13_value_28 rfl ?_
    refine aw_iload_n (pc' := 30) rfl dX13_value_29 rfl ?_
    refine aw_iast (pc' := 31) dX13_value_30 rfl (MA_values (A := A) hM) (by omega) (by omega) ?_
    refine aw_lload_n (pc' := 32) rfl dX13_value_31 rfl ?_
    refine AW.ret (some (vl _)) dX13_value_32 trivial ?_
    first | exact hN (by omega) | exact hO (by omega) (by omega)
  · refine aw_if_ne (pt := 16) (pf := 12) dX13_value_9 (by decide) rfl (fun c_9 => absurd c_9 (by decide)) (fun _ => ?_)
    refine aw_ldc2 (x := (-9223372036854775808)) (pc' := 15) qX13_267 (by decide) dX13_value_12 rfl ?_
    refine AW.ret (some (vl _)) dX13_value_15 trivial ?_
    first | exact hN (by omega) | exact hO (by omega) (by omega)

set_option maxRecDepth 20000 in
theorem c_told {d : Nat} {w : Int} {A : AHp} {Q : Option AV → AHp → Prop} (hd : 1 ≤ d) (hM : MLAY A) (hm : 0 ≤ hv A 307 39 ∧ hv A 307 39 ≤ 60)
  (h0 : w = 0 → Q (some (vl (hv A 307 39))) A) (h1 : w = 1 → Q (some (vl (hv A 307 40))) A) (h2 : w = 2 → Q (some (vl (hv A 307 41))) A)
  (hV : 10 ≤ w → w ≤ 14 → Q (some (vl (hv A 320 (w - 10)))) A) (hF : 20 ≤ w → w ≤ 22 → Q (some (vl (hv A 321 (w - 20)))) A) (hT : w = 30 → Q (some (vl (hv A 307 15))) A)
  (hO : 40 ≤ w → w < 40 + hv A 307 39 → Q (some (vl (hv A 332 (w - 40)))) A)
  (hN : ¬ (0 ≤ w ∧ w ≤ 2) → ¬ (10 ≤ w ∧ w ≤ 14) → ¬ (20 ≤ w ∧ w ≤ 22) → w ≠ 30 → ¬ (40 ≤ w ∧ w < 40 + hv A 307 39) → Q (some (vl (-9223372036854775808))) A) : CALL d mX13_told [vr 307, vi w] A Q := by
  refine CALL.of (by decide) (Nat.le_of_ble_eq_true rfl) ?_
  change AW d mX13_told 0 [some (vr 307), some (vi w)] [] A Q
  refine aw_iload_n (pc' := 1) rfl dX13_told_0 rfl ?_
  refine aw_i2l (pc' := 2) dX13_told_1 rfl ?_
  refine aw_lconst (x := 0) (pc' := 3) (by decide +kernel) dX13_told_2 rfl ?_
  refine aw_ldc2 (x := (2)) (pc' := 6) qX13_263 (by decide) dX13_told_3 rfl ?_
  refine aw_callS (d' := d - 1) (as := [_, _, _]) (pc' := 9) kX13_in tX13_in lX13_177 dX13_told_6 rfl rfl (Nat.le_of_ble_eq_true rfl) (by omega) ?_
  refine c_in (by omega) (fun g1_6 g2_6 => ?_) (fun g0_6 => ?_)
  · refine aw_if_eq (pt := 43) (pf := 12) dX13_told_9 (by decide) rfl (fun c_9 => absurd c_9 (by decide)) (fun _ => ?_)
    refine aw_iload_n (pc' := 13) rfl dX13_told_12 rfl ?_
    refine aw_if_ne (pt := 24) (pf := 16) dX13_told_13 (by decide) rfl (fun c_13 => ?_) (fun c_13 => ?_)
    · refine aw_iload_n (pc' := 25) rfl dX13_told_24 rfl ?_
      refine aw_iconst (pc' := 26) (by decide) dX13_told_25 rfl ?_
      refine aw_icmp_ne (pt := 37) (pf := 29) dX13_told_26 (by decide) rfl (fun c_26 => ?_) (fun c_26 => ?_)
      · refine aw_aload_n (pc' := 38) rfl dX13_told_37 rfl ?_
        refine aw_geti (pc' := 41) (k9 := 41) dX13_told_38 rfl fX13_346 rfl (by decide) rfl (MO (A := A) hM) ?_
        refine aw_i2l (pc' := 42) dX13_told_41 rfl ?_
        refine AW.ret (some (vl _)) dX13_told_42 trivial ?_
        first | exact h0 (by omega) | exact h1 (by omega) | exact h2 (by omega) | exact hV (by omega) (by omega) | exact hF (by omega) (by omega) | exact hT (by omega) | exact hO (by omega) (by omega) | exact hN (by omega) (by omega) (by omega) (by omega) (by omega)
      · replace c_26 := Classical.not_not.mp c_26
        refine aw_aload_n (pc' := 30) rfl dX13_told_29 rfl ?_
        refine aw_geti (pc' := 33) (k9 := 40) dX13_told_30 rfl fX13_343 rfl (by decide) rfl (MO (A := A) hM) ?_
        refine aw_i2l (pc' := 34) dX13_told_33 rfl ?_
        refine aw_goto (pc' := 42) dX13_told_34 (by decide) ?_
        refine AW.ret (some (vl _)) dX13_told_42 trivial ?_
        first | exact h0 (by omega) | exact h1 (by omega) | exact h2 (by omega) | exact hV (by omega) (by omega) | exact hF (by omega) (by omega) | exact hT (by omega) | exact hO (by omega) (by omega) | exact hN (by omega) (by omega) (by omega) (by omega) (by omega)
    · replace c_13 := Classical.not_not.mp c_13
      refine aw_aload_n (pc' := 17) rfl dX13_told_16 rfl ?_
      refine aw_geti (pc' := 20) (k9 := 39) dX13_told_17 rfl fX13_340 rfl (by decide) rfl (MO (A := A) hM) ?_
      refine aw_i2l (pc' := 21) dX13_told_20 rfl ?_
      refine aw_goto (pc' := 42) dX13_told_21 (by decide) ?_
      refine AW.ret (some (vl _)) dX13_told_42 trivial ?_
      first | exact h0 (by omega) | exact h1 (by omega) | exact h2 (by omega) | exact hV (by omega) (by omega) | exact hF (by omega) (by omega) | exact hT (by omega) | exact hO (by omega) (by omega) | exact hN (by omega) (by omega) (by omega) (by omega) (by omega)
  · refine aw_if_eq (pt := 43) (pf := 12) dX13_told_9 (by decide) rfl (fun _ => ?_) (fun c_9 => absurd (by decide) c_9)
    refine aw_iload_n (pc' := 44) rfl dX13_told_43 rfl ?_
    refine aw_i2l (pc' := 45) dX13_told_44 rfl ?_
    refine aw_ldc2 (x := (10)) (pc' := 48) qX13_349 (by decide) dX13_told_45 rfl ?_
    refine aw_ldc2 (x := (14)) (pc' := 51) qX13_351 (by decide) dX13_told_48 rfl ?_
    refine aw_callS (d' := d - 1) (as := [_, _, _]) (pc' := 54) kX13_in tX13_in lX13_177 dX13_told_51 rfl rfl (Nat.le_of_ble_eq_true rfl) (by omega) ?_
    refine c_in (by omega) (fun g1_51 g2_51 => ?_) (fun g0_51 => ?_)
    · refine aw_if_eq (pt := 68) (pf := 57) dX13_told_54 (by decide) rfl (fun c_54 => absurd c_54 (by decide)) (fun _ => ?_)
      refine aw_aload_n (pc' := 58) rfl dX13_told_57 rfl ?_
      refine aw_getp (pc' := 61) (k9 := 13) (p := 320) dX13_told_58 rfl fX13_79 rfl rfl rfl (MO (A := A) hM) (M_values (A := A) hM) ?_
      refine aw_iload_n (pc' := 62) rfl dX13_told_61 rfl ?_
      refine aw_bipush (pc' := 64) (by decide +kernel) dX13_told_62 rfl ?_
      refine aw_isub (pc' := 65) (by first | exact w32_id (by omega) (by omega) | rfl) dX13_told_64 rfl ?_
      refine aw_iald (pc' := 66) dX13_told_65 rfl (MA_values (A := A) hM) (by omega) (by omega) ?_
      refine aw_i2l (pc' := 67) dX13_told_66 rfl ?_
      refine AW.ret (some (vl _)) dX13_told_67 trivial ?_
      first | exact h0 (by omega) | exact h1 (by omega) | exact h2 (by omega) | exact hV (by omega) (by omega) | exact hF (by omega) (by omega) | exact hT (by omega) | exact hO (by omega) (by omega) | exact hN (by omega) (by omega) (by omega) (by omega) (by omega)
    · refine aw_if_eq (pt := 68) (pf := 57) dX13_told_54 (by decide) rfl (fun _ => ?_) (fun c_54 => absurd (by decide) c_54)
      refine aw_iload_n (pc' := 69) rfl dX13_told_68 rfl ?_
      refine aw_i2l (pc' := 70) dX13_told_69 rfl ?_
      refine aw_ldc2 (x := (20)) (pc' := 73) qX13_353 (by decide) dX13_told_70 rfl ?_
      refine aw_ldc2 (x := (22)) (pc' := 76) qX13_355 (by decide) dX13_told_73 rfl ?_
      refine aw_callS (d' := d - 1) (as := [_, _, _]) (pc' := 79) kX13_in tX13_in lX13_177 dX13_told_76 rfl rfl (Nat.le_of_ble_eq_true rfl) (by omega) ?_
      refine c_in (by omega) (fun g1_76 g2_76 => ?_) (fun g0_76 => ?_)
      · refine aw_if_eq (pt := 93) (pf := 82) dX13_told_79 (by decide) rfl (fun c_79 => absurd c_79 (by decide)) (fun _ => ?_)
        refine aw_aload_n (pc' := 83) rfl dX13_told_82 rfl ?_
        refine aw_getp (pc' := 86) (k9 := 14) (p := 321) dX13_told_83 rfl fX13_82 rfl rfl rfl (MO (A := A) hM) (M_functions (A := A) hM) ?_
        refine aw_iload_n (pc' := 87) rfl dX13_told_86 rfl ?_
        refine aw_bipush (pc' := 89) (by decide +kernel) dX13_told_87 rfl ?_
        refine aw_isub (pc' := 90) (by first | exact w32_id (by omega) (by omega) | rfl) dX13_told_89 rfl ?_
        refine aw_iald (pc' := 91) dX13_told_90 rfl (MA_functions (A := A) hM) (by omega) (by omega) ?_
        refine aw_i2l (pc' := 92) dX13_told_91 rfl ?_
        refine AW.ret (some (vl _)) dX13_told_92 trivial ?_
        first | exact h0 (by omega) | exact h1 (by omega) | exact h2 (by omega) | exact hV (by omega) (by omega) | exact hF (by omega) (by omega) | exact hT (by omega) | exact hO (by omega) (by omega) | exact hN (by omega) (by omega) (by omega) (by omega) (by omega)
      · refine aw_if_eq (pt := 93) (pf := 82) dX13_told_79 (by decide) rfl (fun _ => ?_) (fun c_79 => absurd (by decide) c_79)
        refine aw_iload_n (pc' := 94) rfl dX13_told_93 rfl ?_
        refine aw_bipush (pc' := 96) (by decide +kernel) dX13_told_94 rfl ?_
        refine aw_icmp_ne (pt := 107) (pf := 99) dX13_told_96 (by decide) rfl (fun c_96 => ?_) (fun c_96 => ?_)
        · refine aw_iload_n (pc' := 108) rfl dX13_told_107 rfl ?_
          refine aw_i2l (pc' := 109) dX13_told_108 rfl ?_
          refine aw_ldc2 (x := (40)) (pc' := 112) qX13_357 (by decide) dX13_told_109 rfl ?_
          refine aw_bipush (pc' := 114) (by decide +kernel) dX13_told_112 rfl ?_
          refine aw_aload_n (pc' := 115) rfl dX13_told_114 rfl ?_
          refine aw_geti (pc' := 118) (k9 := 39) dX13_told_115 rfl fX13_340 rfl (by decide) rfl (MO (A := A) hM) ?_
          refine aw_iadd (pc' := 119) (by first | exact w32_id (by omega) (by omega) | rfl) dX13_told_118 rfl ?_
          refine aw_i2l (pc' := 120) dX13_told_119 rfl ?_
          refine aw_callS (d' := d - 1) (as := [_, _, _]) (pc' := 123) kX13_in tX13_in lX13_177 dX13_told_120 rfl rfl (Nat.le_of_ble_eq_true rfl) (by omega) ?_
          refine c_in (by omega) (fun g1_120 g2_120 => ?_) (fun g0_120 => ?_)
          · refine aw_if_eq (pt := 139) (pf := 126) dX13_told_123 (by decide) rfl (fun c_123 => absurd c_123 (by decide)) (fun _ => ?_)
            refine aw_aload_n (pc' := 127) rfl dX13_told_126 rfl ?_
            refine aw_getp (pc' := 130) (k9 := 38) (p := 332) dX13_told_127 rfl fX13_120 rfl rfl rfl (MO (A := A) hM) (M_lastOut (A := A) hM) ?_
            refine aw_iload_n (pc' := 131) rfl dX13_told_130 rfl ?_
            refine aw_bipush (pc' := 133) (by decide +kernel) dX13_told_131 rfl ?_
            refine aw_isub (pc' := 134) (by first | exact w32_id (by omega) (by omega) | rfl) dX13_told_133 rfl ?_
            refine aw_iald (pc' := 135) dX13_told_134 rfl (MA_lastOut (A := A) hM) (by omega) (by omega) ?_
            refine aw_i2l (pc' := 136) dX13_told_135 rfl ?_
            refine aw_goto (pc' := 142) dX13_told_136 (by decide) ?_
            refine AW.ret (some (vl _)) dX13_told_142 trivial ?_
            first | exact h0 (by omega) | exact h1 (by omega) | exact h2 (by omega) | exact hV (by omega) (by omega) | exact hF (by omega) (by omega) | exact hT (by omega) | exact hO (by omega) (by omega) | exact hN (by omega) (by omega) (by omega) (by omega) (by omega)
          · refine aw_if_eq (pt := 139) (pf := 126) dX13_told_123 (by decide) rfl (fun _ => ?_) (fun c_123 => absurd (by decide) c_123)
            refine aw_ldc2 (x := (-9223372036854775808)) (pc' := 142) qX13_267 (by decide) dX13_told_139 rfl ?_
            refine AW.ret (some (vl _)) dX13_told_142 trivial ?_
            first | exact h0 (by omega) | exact h1 (by omega) | exact h2 (by omega) | exact hV (by omega) (by omega) | exact hF (by omega) (by omega) | exact hT (by omega) | exact hO (by omega) (by omega) | exact hN (by omega) (by omega) (by omega) (by omega) (by omega)
        · replace c_96 := Classical.not_not.mp c_96
          refine aw_aload_n (pc' := 100) rfl dX13_told_99 rfl ?_
          refine aw_geti (pc' := 103) (k9 := 15) dX13_told_100 rfl fX13_85 rfl (by decide) rfl (MO (A := A) hM) ?_
          refine aw_i2l (pc' := 104) dX13_told_103 rfl ?_
          refine aw_goto (pc' := 142) dX13_told_104 (by decide) ?_
          refine AW.ret (some (vl _)) dX13_told_142 trivial ?_
          first | exact h0 (by omega) | exact h1 (by omega) | exact h2 (by omega) | exact hV (by omega) (by omega) | exact hF (by omega) (by omega) | exact hT (by omega) | exact hO (by omega) (by omega) | exact hN (by omega) (by omega) (by omega) (by omega) (by omega)

set_option maxRecDepth 20000 in
theorem c_stop {d : Nat} {j : Int} {A : AHp} {Q : Option AV → AHp → Prop} (hd : 1 ≤ d) (hM : MLAY A)
  (hN : ¬ (0 ≤ j ∧ j ≤ 3) ∨ hv A 333 j < 0 → Q (some (vi (-1))) A)
  (hO : 0 ≤ j → j ≤ 3 → 0 ≤ hv A 333 j → Q (some (vi (hv A 333 j))) (hset A 333 j (-1))) : CALL d mX13_stop [vr 307, vi j] A Q := by
  refine CALL.of (by decide) (Nat.le_of_ble_eq_true rfl) ?_
  change AW d mX13_stop 0 [some (vr 307), some (vi j), none] [] A Q
  refine aw_iload_n (pc' := 1) rfl dX13_stop_0 rfl ?_
  refine aw_i2l (pc' := 2) dX13_stop_1 rfl ?_
  refine aw_lconst (x := 0) (pc' := 3) (by decide +kernel) dX13_stop_2 rfl ?_
  refine aw_ldc2 (x := (3)) (pc' := 6) qX13_359 (by decide) dX13_stop_3 rfl ?_
  refine aw_callS (d' := d - 1) (as := [_, _, _]) (pc' := 9) kX13_in tX13_in lX13_177 dX13_stop_6 rfl rfl (Nat.le_of_ble_eq_true rfl) (by omega) ?_
  refine c_in (by omega) (fun g1_6 g2_6 => ?_) (fun g0_6 => ?_)
  · refine aw_if_eq (pt := 21) (pf := 12) dX13_stop_9 (by decide) rfl (fun c_9 => absurd c_9 (by decide)) (fun _ => ?_)
    refine aw_aload_n (pc' := 13) rfl dX13_stop_12 rfl ?_
    refine aw_getp (pc' := 16) (k9 := 42) (p := 333) dX13_stop_13 rfl fX13_123 rfl rfl rfl (MO (A := A) hM) (M_jobLine (A := A) hM) ?_
    refine aw_iload_n (pc' := 17) rfl dX13_stop_16 rfl ?_
    refine aw_iald (pc' := 18) dX13_stop_17 rfl (MA_jobLine (A := A) hM) (by omega) (by omega) ?_
    refine aw_if_ge (pt := 23) (pf := 21) dX13_stop_18 (by decide) rfl (fun c_18 => ?_) (fun c_18 => ?_)
    · refine aw_aload_n (pc' := 24) rfl dX13_stop_23 rfl ?_
      refine aw_getp (pc' := 27) (k9 := 42) (p := 333) dX13_stop_24 rfl fX13_123 rfl rfl rfl (MO (A := A) hM) (M_jobLine (A := A) hM) ?_
      refine aw_iload_n (pc' := 28) rfl dX13_stop_27 rfl ?_
      refine aw_iald (pc' := 29) dX13_stop_28 rfl (MA_jobLine (A := A) hM) (by omega) (by omega) ?_
      refine aw_istore_n (pc' := 30) (lv' := [_, _, _]) dX13_stop_29 rfl (by decide) rfl ?_
      refine aw_aload_n (pc' := 31) rfl dX13_stop_30 rfl ?_
      refine aw_getp (pc' := 34) (k9 := 42) (p := 333) dX13_stop_31 rfl fX13_123 rfl rfl rfl (MO (A := A) hM) (M_jobLine (A := A) hM) ?_
      refine aw_iload_n (pc' := 35) rfl dX13_stop_34 rfl ?_
      refine aw_iconst (pc' := 36) (by decide) dX13_stop_35 rfl ?_
      refine aw_iast (pc' := 37) dX13_stop_36 rfl (MA_jobLine (A := A) hM) (by omega) (by omega) ?_
      refine aw_iload_n (pc' := 38) rfl dX13_stop_37 rfl ?_
      refine AW.ret (some (vi _)) dX13_stop_38 trivial ?_
      first | exact hN (by omega) | exact hO (by omega) (by omega) (by omega)
    · refine aw_iconst (pc' := 22) (by decide) dX13_stop_21 rfl ?_
      refine AW.ret (some (vi _)) dX13_stop_22 trivial ?_
      first | exact hN (by omega) | exact hO (by omega) (by omega) (by omega)
  · refine aw_if_eq (pt := 21) (pf := 12) dX13_stop_9 (by decide) rfl (fun _ => ?_) (fun c_9 => absurd (by decide) c_9)
    refine aw_iconst (pc' := 22) (by decide) dX13_stop_21 rfl ?_
    refine AW.ret (some (vi _)) dX13_stop_22 trivial ?_
    first | exact hN (by omega) | exact hO (by omega) (by omega) (by omega)

set_option maxRecDepth 20000 in
theorem c_see {d : Nat} {p v : Int} {A : AHp} {Q : Option AV → AHp → Prop} (hd : 1 ≤ d) (hM : MLAY A) (hs9 : 0 ≤ hv A 307 49 ∧ hv A 307 49 ≤ 5)
  (hC : p = -1 → Q (some (vi 0)) (hset A 307 49 0)) (hB : p ≠ -1 → ¬ (0 ≤ p ∧ p ≤ 59) → Q (some (vi (-2))) A) (hF : 0 ≤ p → p ≤ 59 → hv A 307 49 = 5 → Q (some (vi (-4))) A)
  (hO : 0 ≤ p → p ≤ 59 → hv A 307 49 < 5 → Q (some (vi (hv A 307 49 + 1))) (hset (hset (hset A 339 (2 * hv A 307 49) p) 339 (2 * hv A 307 49 + 1) v) 307 49 (hv A 307 49 + 1))) : CALL d mX13_see [vr 307, vi p, vi v] A Q := by
  refine CALL.of (by decide) (Nat.le_of_ble_eq_true rfl) ?_
  change AW d mX13_see 0 [some (vr 307), some (vi p), some (vi v)] [] A Q
  refine aw_iload_n (pc' := 1) rfl dX13_see_0 rfl ?_
  refine aw_iconst (pc' := 2) (by decide) dX13_see_1 rfl ?_
  refine aw_icmp_ne (pt := 12) (pf := 5) dX13_see_2 (by decide) rfl (fun c_2 => ?_) (fun c_2 => ?_)
  · refine aw_iload_n (pc' := 13) rfl dX13_see_12 rfl ?_
    refine aw_i2l (pc' := 14) dX13_see_13 rfl ?_
    refine aw_lconst (x := 0) (pc' := 15) (by decide +kernel) dX13_see_14 rfl ?_
    refine aw_ldc2 (x := (59)) (pc' := 18) qX13_370 (by decide) dX13_see_15 rfl ?_
    refine aw_callS (d' := d - 1) (as := [_, _, _]) (pc' := 21) kX13_in tX13_in lX13_177 dX13_see_18 rfl rfl (Nat.le_of_ble_eq_true rfl) (by omega) ?_
    refine c_in (by omega) (fun g1_18 g2_18 => ?_) (fun g0_18 => ?_)
    · refine aw_if_ne (pt := 27) (pf := 24) dX13_see_21 (by decide) rfl (fun _ => ?_) (fun c_21 => absurd (by decide) c_21)
      refine aw_aload_n (pc' := 28) rfl dX13_see_27 rfl ?_
      refine aw_geti (pc' := 31) (k9 := 49) dX13_see_28 rfl fX13_367 rfl (by decide) rfl (MO (A := A) hM) ?_
      refine aw_iconst (pc' := 32) (by decide) dX13_see_31 rfl ?_
      refine aw_icmp_ne (pt := 38) (pf := 35) dX13_see_32 (by decide) rfl (fun c_32 => ?_) (fun c_32 => ?_)
      · refine aw_aload_n (pc' := 39) rfl dX13_see_38 rfl ?_
        refine aw_getp (pc' := 42) (k9 := 48) (p := 339) dX13_see_39 rfl fX13_141 rfl rfl rfl (MO (A := A) hM) (M_seen (A := A) hM) ?_
        refine aw_iconst (pc' := 43) (by decide) dX13_see_42 rfl ?_
        refine aw_aload_n (pc' := 44) rfl dX13_see_43 rfl ?_
        refine aw_geti (pc' := 47) (k9 := 49) dX13_see_44 rfl fX13_367 rfl (by decide) rfl (MO (A := A) hM) ?_
        refine aw_imul (pc' := 48) (by first | exact w32_id (by omega) (by omega) | rfl) dX13_see_47 rfl ?_
        refine aw_iload_n (pc' := 49) rfl dX13_see_48 rfl ?_
        refine aw_iast (pc' := 50) dX13_see_49 rfl (MA_seen (A := A) hM) (by omega) (by omega) ?_
        refine aw_aload_n (pc' := 51) rfl dX13_see_50 rfl ?_
        refine aw_getp (pc' := 54) (k9 := 48) (p := 339) dX13_see_51 rfl fX13_141 rfl rfl rfl (MO (A := A) hM) (M_seen (A := A) hM) ?_
        refine aw_iconst (pc' := 55) (by decide) dX13_see_54 rfl ?_
        refine aw_aload_n (pc' := 56) rfl dX13_see_55 rfl ?_
        refine aw_geti (pc' := 59) (k9 := 49) dX13_see_56 rfl fX13_367 rfl (by decide) rfl (MO (A := A) hM) ?_
        try simp only [hv_set, hv_cpy, hv_pset, hp_set, hp_cpy, Int.reduceEq, false_and, and_false, true_and, and_true, if_false, if_true, reduceIte]
        refine aw_imul (pc' := 60) (by first | exact w32_id (by omega) (by omega) | rfl) dX13_see_59 rfl ?_
        refine aw_iconst (pc' := 61) (by decide) dX13_see_60 rfl ?_
        refine aw_iadd (pc' := 62) (by first | exact w32_id (by omega) (by omega) | rfl) dX13_see_61 rfl ?_
        refine aw_iload_n (pc' := 63) rfl dX13_see_62 rfl ?_
        refine aw_iast (pc' := 64) dX13_see_63 rfl (MA_seen (A := A) hM) (by omega) (by omega) ?_
        refine aw_aload_n (pc' := 65) rfl dX13_see_64 rfl ?_
        refine aw_dup (pc' := 66) rfl dX13_see_65 rfl ?_
        refine aw_geti (pc' := 69) (k9 := 49) dX13_see_66 rfl fX13_367 rfl (by decide) rfl (MO (A := A) hM) ?_
        try simp only [hv_set, hv_cpy, hv_pset, hp_set, hp_cpy, Int.reduceEq, false_and, and_false, true_and, and_true, if_false, if_true, reduceIte]
        refine aw_iconst (pc' := 70) (by decide) dX13_see_69 rfl ?_
        refine aw_iadd (pc' := 71) (by first | exact w32_id (by omega) (by omega) | rfl) dX13_see_70 rfl ?_
        refine aw_puti (pc' := 74) (k9 := 49) dX13_see_71 rfl fX13_367 rfl rfl rfl (MO (A := A) hM) ?_
        refine aw_aload_n (pc' := 75) rfl dX13_see_74 rfl ?_
        refine aw_geti (pc' := 78) (k9 := 49) dX13_see_75 rfl fX13_367 rfl (by decide) rfl (MO (A := A) hM) ?_
        try simp only [hv_set, hv_cpy, hv_pset, hp_set, hp_cpy, Int.reduceEq, false_and, and_false, true_and, and_true, if_false, if_true, reduceIte]
        refine AW.ret (some (vi _)) dX13_see_78 trivial ?_
        first | exact hC (by omega) | exact hB (by omega) (by omega) | exact hF (by omega) (by omega) (by omega) | exact hO (by omega) (by omega) (by omega)
      · replace c_32 := Classical.not_not.mp c_32
        refine aw_bipush (pc' := 37) (by decide +kernel) dX13_see_35 rfl ?_
        refine AW.ret (some (vi _)) dX13_see_37 trivial ?_
        first | exact hC (by omega) | exact hB (by omega) (by omega) | exact hF (by omega) (by omega) (by omega) | exact hO (by omega) (by omega) (by omega)
    · refine aw_if_ne (pt := 27) (pf := 24) dX13_see_21 (by decide) rfl (fun c_21 => absurd c_21 (by decide)) (fun _ => ?_)
      refine aw_bipush (pc' := 26) (by decide +kernel) dX13_see_24 rfl ?_
      refine AW.ret (some (vi _)) dX13_see_26 trivial ?_
      first | exact hC (by omega) | exact hB (by omega) (by omega) | exact hF (by omega) (by omega) (by omega) | exact hO (by omega) (by omega) (by omega)
  · replace c_2 := Classical.not_not.mp c_2
    refine aw_aload_n (pc' := 6) rfl dX13_see_5 rfl ?_
    refine aw_iconst (pc' := 7) (by decide) dX13_see_6 rfl ?_
    refine aw_puti (pc' := 10) (k9 := 49) dX13_see_7 rfl fX13_367 rfl rfl rfl (MO (A := A) hM) ?_
    refine aw_iconst (pc' := 11) (by decide) dX13_see_10 rfl ?_
    refine AW.ret (some (vi _)) dX13_see_11 trivial ?_
    first | exact hC (by omega) | exact hB (by omega) (by omega) | exact hF (by omega) (by omega) (by omega) | exact hO (by omega) (by omega) (by omega)

set_option maxRecDepth 20000 in
theorem c_plan {d : Nat} {w n : Int} {A : AHp} {Q : Option AV → AHp → Prop} (hd : 2 ≤ d) (hM : MLAY A) (hln : 0 ≤ hv A 307 12 ∧ hv A 307 12 ≤ 8) (hs9 : 0 ≤ hv A 307 52 ∧ hv A 307 52 ≤ 10)
  (hC : w = -1 → Q (some (vi 0)) (hset A 307 52 0)) (hN : w ≠ -1 → ¬ (w = 0 ∧ 0 ≤ n ∧ n < hv A 307 12 ∨ w = 1 ∧ 0 ≤ n ∧ n ≤ 4 ∨ w = 2 ∧ 0 ≤ n ∧ n ≤ 2 ∨ w = 3) → Q (some (vi (-1))) A)
  (hF : (w = 0 ∧ 0 ≤ n ∧ n < hv A 307 12 ∨ w = 1 ∧ 0 ≤ n ∧ n ≤ 4 ∨ w = 2 ∧ 0 ≤ n ∧ n ≤ 2 ∨ w = 3) → hv A 307 52 = 10 → Q (some (vi (-4))) A)
  (hO : (w = 0 ∧ 0 ≤ n ∧ n < hv A 307 12 ∨ w = 1 ∧ 0 ≤ n ∧ n ≤ 4 ∨ w = 2 ∧ 0 ≤ n ∧ n ≤ 2 ∨ w = 3) → hv A 307 52 < 10 → Q (some (vi (hv A 307 52 + 1))) (hset (hset (hset A 341 (2 * hv A 307 52) w) 341 (2 * hv A 307 52 + 1) n) 307 52 (hv A 307 52 + 1))) : CALL d mX13_plan [vr 307, vi w, vi n] A Q := by
  refine CALL.of (by decide) (Nat.le_of_ble_eq_true rfl) ?_
  change AW d mX13_plan 0 [some (vr 307), some (vi w), some (vi n), none] [] A Q
  refine aw_iload_n (pc' := 1) rfl dX13_plan_0 rfl ?_
  refine aw_iconst (pc' := 2) (by decide) dX13_plan_1 rfl ?_
  refine aw_icmp_ne (pt := 12) (pf := 5) dX13_plan_2 (by decide) rfl (fun c_2 => ?_) (fun c_2 => ?_)
  · refine aw_iload_n (pc' := 13) rfl dX13_plan_12 rfl ?_
    refine aw_if_ne (pt := 24) (pf := 16) dX13_plan_13 (by decide) rfl (fun c_13 => ?_) (fun c_13 => ?_)
    · refine aw_iload_n (pc' := 25) rfl dX13_plan_24 rfl ?_
      refine aw_iconst (pc' := 26) (by decide) dX13_plan_25 rfl ?_
      refine aw_icmp_ne (pt := 36) (pf := 29) dX13_plan_26 (by decide) rfl (fun c_26 => ?_) (fun c_26 => ?_)
      · refine aw_iload_n (pc' := 37) rfl dX13_plan_36 rfl ?_
        refine aw_iconst (pc' := 38) (by decide) dX13_plan_37 rfl ?_
        refine aw_icmp_ne (pt := 53) (pf := 41) dX13_plan_38 (by decide) rfl (fun c_38 => ?_) (fun c_38 => ?_)
        · refine aw_iload_n (pc' := 54) rfl dX13_plan_53 rfl ?_
          refine aw_iconst (pc' := 55) (by decide) dX13_plan_54 rfl ?_
          refine aw_icmp_ne (pt := 62) (pf := 58) dX13_plan_55 (by decide) rfl (fun c_55 => ?_) (fun c_55 => ?_)
          · refine aw_iconst (pc' := 63) (by decide) dX13_plan_62 rfl ?_
            refine aw_istore_n (pc' := 64) (lv' := [_, _, _, _]) dX13_plan_63 rfl (by decide) rfl ?_
            refine aw_iload_n (pc' := 65) rfl dX13_plan_64 rfl ?_
            refine aw_if_ne (pt := 70) (pf := 68) dX13_plan_65 (by decide) rfl (fun c_65 => absurd c_65 (by decide)) (fun _ => ?_)
            refine aw_iconst (pc' := 69) (by decide) dX13_plan_68 rfl ?_
            refine AW.ret (some (vi _)) dX13_plan_69 trivial ?_
            first | exact hC (by omega) | exact hN (by omega) (by omega) | exact hF (by omega) (by omega) | exact hO (by omega) (by omega)
          · replace c_55 := Classical.not_not.mp c_55
            refine aw_iconst (pc' := 59) (by decide) dX13_plan_58 rfl ?_
            refine aw_goto (pc' := 63) dX13_plan_59 (by decide) ?_
            refine aw_istore_n (pc' := 64) (lv' := [_, _, _, _]) dX13_plan_63 rfl (by decide) rfl ?_
            refine aw_iload_n (pc' := 65) rfl dX13_plan_64 rfl ?_
            refine aw_if_ne (pt := 70) (pf := 68) dX13_plan_65 (by decide) rfl (fun _ => ?_) (fun c_65 => absurd (by decide) c_65)
            refine aw_aload_n (pc' := 71) rfl dX13_plan_70 rfl ?_
            refine aw_geti (pc' := 74) (k9 := 52) dX13_plan_71 rfl fX13_383 rfl (by decide) rfl (MO (A := A) hM) ?_
            refine aw_bipush (pc' := 76) (by decide +kernel) dX13_plan_74 rfl ?_
            refine aw_icmp_ne (pt := 82) (pf := 79) dX13_plan_76 (by decide) rfl (fun c_76 => ?_) (fun c_76 => ?_)
            · refine aw_aload_n (pc' := 83) rfl dX13_plan_82 rfl ?_
              refine aw_getp (pc' := 86) (k9 := 51) (p := 341) dX13_plan_83 rfl fX13_147 rfl rfl rfl (MO (A := A) hM) (M_plans (A := A) hM) ?_
              refine aw_iconst (pc' := 87) (by decide) dX13_plan_86 rfl ?_
              refine aw_aload_n (pc' := 88) rfl dX13_plan_87 rfl ?_
              refine aw_geti (pc' := 91) (k9 := 52) dX13_plan_88 rfl fX13_383 rfl (by decide) rfl (MO (A := A) hM) ?_
              refine aw_imul (pc' := 92) (by first | exact w32_id (by omega) (by omega) | rfl) dX13_plan_91 rfl ?_
              refine aw_iload_n (pc' := 93) rfl dX13_plan_92 rfl ?_
              refine aw_iast (pc' := 94) dX13_plan_93 rfl (MA_plans (A := A) hM) (by omega) (by omega) ?_
              refine aw_aload_n (pc' := 95) rfl dX13_plan_94 rfl ?_
              refine aw_getp (pc' := 98) (k9 := 51) (p := 341) dX13_plan_95 rfl fX13_147 rfl rfl rfl (MO (A := A) hM) (M_plans (A := A) hM) ?_
              refine aw_iconst (pc' := 99) (by decide) dX13_plan_98 rfl ?_
              refine aw_aload_n (pc' := 100) rfl dX13_plan_99 rfl ?_
              refine aw_geti (pc' := 103) (k9 := 52) dX13_plan_100 rfl fX13_383 rfl (by decide) rfl (MO (A := A) hM) ?_
              try simp only [hv_set, hv_cpy, hv_pset, hp_set, hp_cpy, Int.reduceEq, false_and, and_false, true_and, and_true, if_false, if_true, reduceIte]
              refine aw_imul (pc' := 104) (by first | exact w32_id (by omega) (by omega) | rfl) dX13_plan_103 rfl ?_
              refine aw_iconst (pc' := 105) (by decide) dX13_plan_104 rfl ?_
              refine aw_iadd (pc' := 106) (by first | exact w32_id (by omega) (by omega) | rfl) dX13_plan_105 rfl ?_
              refine aw_iload_n (pc' := 107) rfl dX13_plan_106 rfl ?_
              refine aw_iast (pc' := 108) dX13_plan_107 rfl (MA_plans (A := A) hM) (by omega) (by omega) ?_
              refine aw_aload_n (pc' := 109) rfl dX13_plan_108 rfl ?_
              refine aw_dup (pc' := 110) rfl dX13_plan_109 rfl ?_
              refine aw_geti (pc' := 113) (k9 := 52) dX13_plan_110 rfl fX13_383 rfl (by decide) rfl (MO (A := A) hM) ?_
              try simp only [hv_set, hv_cpy, hv_pset, hp_set, hp_cpy, Int.reduceEq, false_and, and_false, true_and, and_true, if_false, if_true, reduceIte]
              refine aw_iconst (pc' := 114) (by decide) dX13_plan_113 rfl ?_
              refine aw_iadd (pc' := 115) (by first | exact w32_id (by omega) (by omega) | rfl) dX13_plan_114 rfl ?_
              refine aw_puti (pc' := 118) (k9 := 52) dX13_plan_115 rfl fX13_383 rfl rfl rfl (MO (A := A) hM) ?_
              refine aw_aload_n (pc' := 119) rfl dX13_plan_118 rfl ?_
              refine aw_geti (pc' := 122) (k9 := 52) dX13_plan_119 rfl fX13_383 rfl (by decide) rfl (MO (A := A) hM) ?_
              try simp only [hv_set, hv_cpy, hv_pset, hp_set, hp_cpy, Int.reduceEq, false_and, and_false, true_and, and_true, if_false, if_true, reduceIte]
              refine AW.ret (some (vi _)) dX13_plan_122 trivial ?_
              first | exact hC (by omega) | exact hN (by omega) (by omega) | exact hF (by omega) (by omega) | exact hO (by omega) (by omega)
            · replace c_76 := Classical.not_not.mp c_76
              refine aw_bipush (pc' := 81) (by decide +kernel) dX13_plan_79 rfl ?_
              refine AW.ret (some (vi _)) dX13_plan_81 trivial ?_
              first | exact hC (by omega) | exact hN (by omega) (by omega) | exact hF (by omega) (by omega) | exact hO (by omega) (by omega)
        · replace c_38 := Classical.not_not.mp c_38
          refine aw_iload_n (pc' := 42) rfl dX13_plan_41 rfl ?_
          refine aw_i2l (pc' := 43) dX13_plan_42 rfl ?_
          refine aw_lconst (x := 0) (pc' := 44) (by decide +kernel) dX13_plan_43 rfl ?_
          refine aw_ldc2 (x := (2)) (pc' := 47) qX13_263 (by decide) dX13_plan_44 rfl ?_
          refine aw_callS (d' := d - 1) (as := [_, _, _]) (pc' := 50) kX13_in tX13_in lX13_177 dX13_plan_47 rfl rfl (Nat.le_of_ble_eq_true rfl) (by omega) ?_
          refine c_in (by omega) (fun g1_47 g2_47 => ?_) (fun g0_47 => ?_)
          · refine aw_if_ne (pt := 58) (pf := 53) dX13_plan_50 (by decide) rfl (fun _ => ?_) (fun c_50 => absurd (by decide) c_50)
            refine aw_iconst (pc' := 59) (by decide) dX13_plan_58 rfl ?_
            refine aw_goto (pc' := 63) dX13_plan_59 (by decide) ?_
            refine aw_istore_n (pc' := 64) (lv' := [_, _, _, _]) dX13_plan_63 rfl (by decide) rfl ?_
            refine aw_iload_n (pc' := 65) rfl dX13_plan_64 rfl ?_
            refine aw_if_ne (pt := 70) (pf := 68) dX13_plan_65 (by decide) rfl (fun _ => ?_) (fun c_65 => absurd (by decide) c_65)
            refine aw_aload_n (pc' := 71) rfl dX13_plan_70 rfl ?_
            refine aw_geti (pc' := 74) (k9 := 52) dX13_plan_71 rfl fX13_383 rfl (by decide) rfl (MO (A := A) hM) ?_
            refine aw_bipush (pc' := 76) (by decide +kernel) dX13_plan_74 rfl ?_
            refine aw_icmp_ne (pt := 82) (pf := 79) dX13_plan_76 (by decide) rfl (fun c_76 => ?_) (fun c_76 => ?_)
            · refine aw_aload_n (pc' := 83) rfl dX13_plan_82 rfl ?_
              refine aw_getp (pc' := 86) (k9 := 51) (p := 341) dX13_plan_83 rfl fX13_147 rfl rfl rfl (MO (A := A) hM) (M_plans (A := A) hM) ?_
              refine aw_iconst (pc' := 87) (by decide) dX13_plan_86 rfl ?_
              refine aw_aload_n (pc' := 88) rfl dX13_plan_87 rfl ?_
              refine aw_geti (pc' := 91) (k9 := 52) dX13_plan_88 rfl fX13_383 rfl (by decide) rfl (MO (A := A) hM) ?_
              refine aw_imul (pc' := 92) (by first | exact w32_id (by omega) (by omega) | rfl) dX13_plan_91 rfl ?_
              refine aw_iload_n (pc' := 93) rfl dX13_plan_92 rfl ?_
              refine aw_iast (pc' := 94) dX13_plan_93 rfl (MA_plans (A := A) hM) (by omega) (by omega) ?_
              refine aw_aload_n (pc' := 95) rfl dX13_plan_94 rfl ?_
              refine aw_getp (pc' := 98) (k9 := 51) (p := 341) dX13_plan_95 rfl fX13_147 rfl rfl rfl (MO (A := A) hM) (M_plans (A := A) hM) ?_
              refine aw_iconst (pc' := 99) (by decide) dX13_plan_98 rfl ?_
              refine aw_aload_n (pc' := 100) rfl dX13_plan_99 rfl ?_
              refine aw_geti (pc' := 103) (k9 := 52) dX13_plan_100 rfl fX13_383 rfl (by decide) rfl (MO (A := A) hM) ?_
              try simp only [hv_set, hv_cpy, hv_pset, hp_set, hp_cpy, Int.reduceEq, false_and, and_false, true_and, and_true, if_false, if_true, reduceIte]
              refine aw_imul (pc' := 104) (by first | exact w32_id (by omega) (by omega) | rfl) dX13_plan_103 rfl ?_
              refine aw_iconst (pc' := 105) (by decide) dX13_plan_104 rfl ?_
              refine aw_iadd (pc' := 106) (by first | exact w32_id (by omega) (by omega) | rfl) dX13_plan_105 rfl ?_
              refine aw_iload_n (pc' := 107) rfl dX13_plan_106 rfl ?_
              refine aw_iast (pc' := 108) dX13_plan_107 rfl (MA_plans (A := A) hM) (by omega) (by omega) ?_
              refine aw_aload_n (pc' := 109) rfl dX13_plan_108 rfl ?_
              refine aw_dup (pc' := 110) rfl dX13_plan_109 rfl ?_
              refine aw_geti (pc' := 113) (k9 := 52) dX13_plan_110 rfl fX13_383 rfl (by decide) rfl (MO (A := A) hM) ?_
              try simp only [hv_set, hv_cpy, hv_pset, hp_set, hp_cpy, Int.reduceEq, false_and, and_false, true_and, and_true, if_false, if_true, reduceIte]
              refine aw_iconst (pc' := 114) (by decide) dX13_plan_113 rfl ?_
              refine aw_iadd (pc' := 115) (by first | exact w32_id (by omega) (by omega) | rfl) dX13_plan_114 rfl ?_
              refine aw_puti (pc' := 118) (k9 := 52) dX13_plan_115 rfl fX13_383 rfl rfl rfl (MO (A := A) hM) ?_
              refine aw_aload_n (pc' := 119) rfl dX13_plan_118 rfl ?_
              refine aw_geti (pc' := 122) (k9 := 52) dX13_plan_119 rfl fX13_383 rfl (by decide) rfl (MO (A := A) hM) ?_
              try simp only [hv_set, hv_cpy, hv_pset, hp_set, hp_cpy, Int.reduceEq, false_and, and_false, true_and, and_true, if_false, if_true, reduceIte]
              refine AW.ret (some (vi _)) dX13_plan_122 trivial ?_
              first | exact hC (by omega) | exact hN (by omega) (by omega) | exact hF (by omega) (by omega) | exact hO (by omega) (by omega)
            · replace c_76 := Classical.not_not.mp c_76
              refine aw_bipush (pc' := 81) (by decide +kernel) dX13_plan_79 rfl ?_
              refine AW.ret (some (vi _)) dX13_plan_81 trivial ?_
              first | exact hC (by omega) | exact hN (by omega) (by omega) | exact hF (by omega) (by omega) | exact hO (by omega) (by omega)
          · refine aw_if_ne (pt := 58) (pf := 53) dX13_plan_50 (by decide) rfl (fun c_50 => absurd c_50 (by decide)) (fun _ => ?_)
            refine aw_iload_n (pc' := 54) rfl dX13_plan_53 rfl ?_
            refine aw_iconst (pc' := 55) (by decide) dX13_plan_54 rfl ?_
            refine aw_icmp_ne (pt := 62) (pf := 58) dX13_plan_55 (by decide) rfl (fun c_55 => ?_) (fun c_55 => ?_)
            · refine aw_iconst (pc' := 63) (by decide) dX13_plan_62 rfl ?_
              refine aw_istore_n (pc' := 64) (lv' := [_, _, _, _]) dX13_plan_63 rfl (by decide) rfl ?_
              refine aw_iload_n (pc' := 65) rfl dX13_plan_64 rfl ?_
              refine aw_if_ne (pt := 70) (pf := 68) dX13_plan_65 (by decide) rfl (fun c_65 => absurd c_65 (by decide)) (fun _ => ?_)
              refine aw_iconst (pc' := 69) (by decide) dX13_plan_68 rfl ?_
              refine AW.ret (some (vi _)) dX13_plan_69 trivial ?_
              first | exact hC (by omega) | exact hN (by omega) (by omega) | exact hF (by omega) (by omega) | exact hO (by omega) (by omega)
            · replace c_55 := Classical.not_not.mp c_55
              refine aw_iconst (pc' := 59) (by decide) dX13_plan_58 rfl ?_
              refine aw_goto (pc' := 63) dX13_plan_59 (by decide) ?_
              refine aw_istore_n (pc' := 64) (lv' := [_, _, _, _]) dX13_plan_63 rfl (by decide) rfl ?_
              refine aw_iload_n (pc' := 65) rfl dX13_plan_64 rfl ?_
              refine aw_if_ne (pt := 70) (pf := 68) dX13_plan_65 (by decide) rfl (fun _ => ?_) (fun c_65 => absurd (by decide) c_65)
              refine aw_aload_n (pc' := 71) rfl dX13_plan_70 rfl ?_
              refine aw_geti (pc' := 74) (k9 := 52) dX13_plan_71 rfl fX13_383 rfl (by decide) rfl (MO (A := A) hM) ?_
              refine aw_bipush (pc' := 76) (by decide +kernel) dX13_plan_74 rfl ?_
              refine aw_icmp_ne (pt := 82) (pf := 79) dX13_plan_76 (by decide) rfl (fun c_76 => ?_) (fun c_76 => ?_)
              · refine aw_aload_n (pc' := 83) rfl dX13_plan_82 rfl ?_
                refine aw_getp (pc' := 86) (k9 := 51) (p := 341) dX13_plan_83 rfl fX13_147 rfl rfl rfl (MO (A := A) hM) (M_plans (A := A) hM) ?_
                refine aw_iconst (pc' := 87) (by decide) dX13_plan_86 rfl ?_
                refine aw_aload_n (pc' := 88) rfl dX13_plan_87 rfl ?_
                refine aw_geti (pc' := 91) (k9 := 52) dX13_plan_88 rfl fX13_383 rfl (by decide) rfl (MO (A := A) hM) ?_
                refine aw_imul (pc' := 92) (by first | exact w32_id (by omega) (by omega) | rfl) dX13_plan_91 rfl ?_
                refine aw_iload_n (pc' := 93) rfl dX13_plan_92 rfl ?_
                refine aw_iast (pc' := 94) dX13_plan_93 rfl (MA_plans (A := A) hM) (by omega) (by omega) ?_
                refine aw_aload_n (pc' := 95) rfl dX13_plan_94 rfl ?_
                refine aw_getp (pc' := 98) (k9 := 51) (p := 341) dX13_plan_95 rfl fX13_147 rfl rfl rfl (MO (A := A) hM) (M_plans (A := A) hM) ?_
                refine aw_iconst (pc' := 99) (by decide) dX13_plan_98 rfl ?_
                refine aw_aload_n (pc' := 100) rfl dX13_plan_99 rfl ?_
                refine aw_geti (pc' := 103) (k9 := 52) dX13_plan_100 rfl fX13_383 rfl (by decide) rfl (MO (A := A) hM) ?_
                try simp only [hv_set, hv_cpy, hv_pset, hp_set, hp_cpy, Int.reduceEq, false_and, and_false, true_and, and_true, if_false, if_true, reduceIte]
                refine aw_imul (pc' := 104) (by first | exact w32_id (by omega) (by omega) | rfl) dX13_plan_103 rfl ?_
                refine aw_iconst (pc' := 105) (by decide) dX13_plan_104 rfl ?_
                refine aw_iadd (pc' := 106) (by first | exact w32_id (by omega) (by omega) | rfl) dX13_plan_105 rfl ?_
                refine aw_iload_n (pc' := 107) rfl dX13_plan_106 rfl ?_
                refine aw_iast (pc' := 108) dX13_plan_107 rfl (MA_plans (A := A) hM) (by omega) (by omega) ?_
                refine aw_aload_n (pc' := 109) rfl dX13_plan_108 rfl ?_
                refine aw_dup (pc' := 110) rfl dX13_plan_109 rfl ?_
                refine aw_geti (pc' := 113) (k9 := 52) dX13_plan_110 rfl fX13_383 rfl (by decide) rfl (MO (A := A) hM) ?_
                try simp only [hv_set, hv_cpy, hv_pset, hp_set, hp_cpy, Int.reduceEq, false_and, and_false, true_and, and_true, if_false, if_true, reduceIte]
                refine aw_iconst (pc' := 114) (by decide) dX13_plan_113 rfl ?_
                refine aw_iadd (pc' := 115) (by first | exact w32_id (by omega) (by omega) | rfl) dX13_plan_114 rfl ?_
                refine aw_puti (pc' := 118) (k9 := 52) dX13_plan_115 rfl fX13_383 rfl rfl rfl (MO (A := A) hM) ?_
                refine aw_aload_n (pc' := 119) rfl dX13_plan_118 rfl ?_
                refine aw_geti (pc' := 122) (k9 := 52) dX13_plan_119 rfl fX13_383 rfl (by decide) rfl (MO (A := A) hM) ?_
                try simp only [hv_set, hv_cpy, hv_pset, hp_set, hp_cpy, Int.reduceEq, false_and, and_false, true_and, and_true, if_false, if_true, reduceIte]
                refine AW.ret (some (vi _)) dX13_plan_122 trivial ?_
                first | exact hC (by omega) | exact hN (by omega) (by omega) | exact hF (by omega) (by omega) | exact hO (by omega) (by omega)
              · replace c_76 := Classical.not_not.mp c_76
                refine aw_bipush (pc' := 81) (by decide +kernel) dX13_plan_79 rfl ?_
                refine AW.ret (some (vi _)) dX13_plan_81 trivial ?_
                first | exact hC (by omega) | exact hN (by omega) (by omega) | exact hF (by omega) (by omega) | exact hO (by omega) (by omega)
      · replace c_26 := Classical.not_not.mp c_26
        refine aw_iload_n (pc' := 30) rfl dX13_plan_29 rfl ?_
        refine aw_callS (d' := d - 1) (as := [_]) (pc' := 33) kX13_isName tX13_isName lX13_372 dX13_plan_30 rfl rfl (Nat.le_of_ble_eq_true rfl) (by omega) ?_
        refine c_isName (by omega) (fun n1_30 n2_30 => ?_) (fun n0_30 => ?_)
        · refine aw_if_ne (pt := 58) (pf := 36) dX13_plan_33 (by decide) rfl (fun _ => ?_) (fun c_33 => absurd (by decide) c_33)
          refine aw_iconst (pc' := 59) (by decide) dX13_plan_58 rfl ?_
          refine aw_goto (pc' := 63) dX13_plan_59 (by decide) ?_
          refine aw_istore_n (pc' := 64) (lv' := [_, _, _, _]) dX13_plan_63 rfl (by decide) rfl ?_
          refine aw_iload_n (pc' := 65) rfl dX13_plan_64 rfl ?_
          refine aw_if_ne (pt := 70) (pf := 68) dX13_plan_65 (by decide) rfl (fun _ => ?_) (fun c_65 => absurd (by decide) c_65)
          refine aw_aload_n (pc' := 71) rfl dX13_plan_70 rfl ?_
          refine aw_geti (pc' := 74) (k9 := 52) dX13_plan_71 rfl fX13_383 rfl (by decide) rfl (MO (A := A) hM) ?_
          refine aw_bipush (pc' := 76) (by decide +kernel) dX13_plan_74 rfl ?_
          refine aw_icmp_ne (pt := 82) (pf := 79) dX13_plan_76 (by decide) rfl (fun c_76 => ?_) (fun c_76 => ?_)
          · refine aw_aload_n (pc' := 83) rfl dX13_plan_82 rfl ?_
            refine aw_getp (pc' := 86) (k9 := 51) (p := 341) dX13_plan_83 rfl fX13_147 rfl rfl rfl (MO (A := A) hM) (M_plans (A := A) hM) ?_
            refine aw_iconst (pc' := 87) (by decide) dX13_plan_86 rfl ?_
            refine aw_aload_n (pc' := 88) rfl dX13_plan_87 rfl ?_
            refine aw_geti (pc' := 91) (k9 := 52) dX13_plan_88 rfl fX13_383 rfl (by decide) rfl (MO (A := A) hM) ?_
            refine aw_imul (pc' := 92) (by first | exact w32_id (by omega) (by omega) | rfl) dX13_plan_91 rfl ?_
            refine aw_iload_n (pc' := 93) rfl dX13_plan_92 rfl ?_
            refine aw_iast (pc' := 94) dX13_plan_93 rfl (MA_plans (A := A) hM) (by omega) (by omega) ?_
            refine aw_aload_n (pc' := 95) rfl dX13_plan_94 rfl ?_
            refine aw_getp (pc' := 98) (k9 := 51) (p := 341) dX13_plan_95 rfl fX13_147 rfl rfl rfl (MO (A := A) hM) (M_plans (A := A) hM) ?_
            refine aw_iconst (pc' := 99) (by decide) dX13_plan_98 rfl ?_
            refine aw_aload_n (pc' := 100) rfl dX13_plan_99 rfl ?_
            refine aw_geti (pc' := 103) (k9 := 52) dX13_plan_100 rfl fX13_383 rfl (by decide) rfl (MO (A := A) hM) ?_
            try simp only [hv_set, hv_cpy, hv_pset, hp_set, hp_cpy, Int.reduceEq, false_and, and_false, true_and, and_true, if_false, if_true, reduceIte]
            refine aw_imul (pc' := 104) (by first | exact w32_id (by omega) (by omega) | rfl) dX13_plan_103 rfl ?_
            refine aw_iconst (pc' := 105) (by decide) dX13_plan_104 rfl ?_
            refine aw_iadd (pc' := 106) (by first | exact w32_id (by omega) (by omega) | rfl) dX13_plan_105 rfl ?_
            refine aw_iload_n (pc' := 107) rfl dX13_plan_106 rfl ?_
            refine aw_iast (pc' := 108) dX13_plan_107 rfl (MA_plans (A := A) hM) (by omega) (by omega) ?_
            refine aw_aload_n (pc' := 109) rfl dX13_plan_108 rfl ?_
            refine aw_dup (pc' := 110) rfl dX13_plan_109 rfl ?_
            refine aw_geti (pc' := 113) (k9 := 52) dX13_plan_110 rfl fX13_383 rfl (by decide) rfl (MO (A := A) hM) ?_
            try simp only [hv_set, hv_cpy, hv_pset, hp_set, hp_cpy, Int.reduceEq, false_and, and_false, true_and, and_true, if_false, if_true, reduceIte]
            refine aw_iconst (pc' := 114) (by decide) dX13_plan_113 rfl ?_
            refine aw_iadd (pc' := 115) (by first | exact w32_id (by omega) (by omega) | rfl) dX13_plan_114 rfl ?_
            refine aw_puti (pc' := 118) (k9 := 52) dX13_plan_115 rfl fX13_383 rfl rfl rfl (MO (A := A) hM) ?_
            refine aw_aload_n (pc' := 119) rfl dX13_plan_118 rfl ?_
            refine aw_geti (pc' := 122) (k9 := 52) dX13_plan_119 rfl fX13_383 rfl (by decide) rfl (MO (A := A) hM) ?_
            try simp only [hv_set, hv_cpy, hv_pset, hp_set, hp_cpy, Int.reduceEq, false_and, and_false, true_and, and_true, if_false, if_true, reduceIte]
            refine AW.ret (some (vi _)) dX13_plan_122 trivial ?_
            first | exact hC (by omega) | exact hN (by omega) (by omega) | exact hF (by omega) (by omega) | exact hO (by omega) (by omega)
          · replace c_76 := Classical.not_not.mp c_76
            refine aw_bipush (pc' := 81) (by decide +kernel) dX13_plan_79 rfl ?_
            refine AW.ret (some (vi _)) dX13_plan_81 trivial ?_
            first | exact hC (by omega) | exact hN (by omega) (by omega) | exact hF (by omega) (by omega) | exact hO (by omega) (by omega)
        · refine aw_if_ne (pt := 58) (pf := 36) dX13_plan_33 (by decide) rfl (fun c_33 => absurd c_33 (by decide)) (fun _ => ?_)
          refine aw_iload_n (pc' := 37) rfl dX13_plan_36 rfl ?_
          refine aw_iconst (pc' := 38) (by decide) dX13_plan_37 rfl ?_
          refine aw_icmp_ne (pt := 53) (pf := 41) dX13_plan_38 (by decide) rfl (fun c_38 => ?_) (fun c_38 => ?_)
          · refine aw_iload_n (pc' := 54) rfl dX13_plan_53 rfl ?_
            refine aw_iconst (pc' := 55) (by decide) dX13_plan_54 rfl ?_
            refine aw_icmp_ne (pt := 62) (pf := 58) dX13_plan_55 (by decide) rfl (fun c_55 => ?_) (fun c_55 => ?_)
            · refine aw_iconst (pc' := 63) (by decide) dX13_plan_62 rfl ?_
              refine aw_istore_n (pc' := 64) (lv' := [_, _, _, _]) dX13_plan_63 rfl (by decide) rfl ?_
              refine aw_iload_n (pc' := 65) rfl dX13_plan_64 rfl ?_
              refine aw_if_ne (pt := 70) (pf := 68) dX13_plan_65 (by decide) rfl (fun c_65 => absurd c_65 (by decide)) (fun _ => ?_)
              refine aw_iconst (pc' := 69) (by decide) dX13_plan_68 rfl ?_
              refine AW.ret (some (vi _)) dX13_plan_69 trivial ?_
              first | exact hC (by omega) | exact hN (by omega) (by omega) | exact hF (by omega) (by omega) | exact hO (by omega) (by omega)
            · replace c_55 := Classical.not_not.mp c_55
              refine aw_iconst (pc' := 59) (by decide) dX13_plan_58 rfl ?_
              refine aw_goto (pc' := 63) dX13_plan_59 (by decide) ?_
              refine aw_istore_n (pc' := 64) (lv' := [_, _, _, _]) dX13_plan_63 rfl (by decide) rfl ?_
              refine aw_iload_n (pc' := 65) rfl dX13_plan_64 rfl ?_
              refine aw_if_ne (pt := 70) (pf := 68) dX13_plan_65 (by decide) rfl (fun _ => ?_) (fun c_65 => absurd (by decide) c_65)
              refine aw_aload_n (pc' := 71) rfl dX13_plan_70 rfl ?_
              refine aw_geti (pc' := 74) (k9 := 52) dX13_plan_71 rfl fX13_383 rfl (by decide) rfl (MO (A := A) hM) ?_
              refine aw_bipush (pc' := 76) (by decide +kernel) dX13_plan_74 rfl ?_
              refine aw_icmp_ne (pt := 82) (pf := 79) dX13_plan_76 (by decide) rfl (fun c_76 => ?_) (fun c_76 => ?_)
              · refine aw_aload_n (pc' := 83) rfl dX13_plan_82 rfl ?_
                refine aw_getp (pc' := 86) (k9 := 51) (p := 341) dX13_plan_83 rfl fX13_147 rfl rfl rfl (MO (A := A) hM) (M_plans (A := A) hM) ?_
                refine aw_iconst (pc' := 87) (by decide) dX13_plan_86 rfl ?_
                refine aw_aload_n (pc' := 88) rfl dX13_plan_87 rfl ?_
                refine aw_geti (pc' := 91) (k9 := 52) dX13_plan_88 rfl fX13_383 rfl (by decide) rfl (MO (A := A) hM) ?_
                refine aw_imul (pc' := 92) (by first | exact w32_id (by omega) (by omega) | rfl) dX13_plan_91 rfl ?_
                refine aw_iload_n (pc' := 93) rfl dX13_plan_92 rfl ?_
                refine aw_iast (pc' := 94) dX13_plan_93 rfl (MA_plans (A := A) hM) (by omega) (by omega) ?_
                refine aw_aload_n (pc' := 95) rfl dX13_plan_94 rfl ?_
                refine aw_getp (pc' := 98) (k9 := 51) (p := 341) dX13_plan_95 rfl fX13_147 rfl rfl rfl (MO (A := A) hM) (M_plans (A := A) hM) ?_
                refine aw_iconst (pc' := 99) (by decide) dX13_plan_98 rfl ?_
                refine aw_aload_n (pc' := 100) rfl dX13_plan_99 rfl ?_
                refine aw_geti (pc' := 103) (k9 := 52) dX13_plan_100 rfl fX13_383 rfl (by decide) rfl (MO (A := A) hM) ?_
                try simp only [hv_set, hv_cpy, hv_pset, hp_set, hp_cpy, Int.reduceEq, false_and, and_false, true_and, and_true, if_false, if_true, reduceIte]
                refine aw_imul (pc' := 104) (by first | exact w32_id (by omega) (by omega) | rfl) dX13_plan_103 rfl ?_
                refine aw_iconst (pc' := 105) (by decide) dX13_plan_104 rfl ?_
                refine aw_iadd (pc' := 106) (by first | exact w32_id (by omega) (by omega) | rfl) dX13_plan_105 rfl ?_
                refine aw_iload_n (pc' := 107) rfl dX13_plan_106 rfl ?_
                refine aw_iast (pc' := 108) dX13_plan_107 rfl (MA_plans (A := A) hM) (by omega) (by omega) ?_
                refine aw_aload_n (pc' := 109) rfl dX13_plan_108 rfl ?_
                refine aw_dup (pc' := 110) rfl dX13_plan_109 rfl ?_
                refine aw_geti (pc' := 113) (k9 := 52) dX13_plan_110 rfl fX13_383 rfl (by decide) rfl (MO (A := A) hM) ?_
                try simp only [hv_set, hv_cpy, hv_pset, hp_set, hp_cpy, Int.reduceEq, false_and, and_false, true_and, and_true, if_false, if_true, reduceIte]
                refine aw_iconst (pc' := 114) (by decide) dX13_plan_113 rfl ?_
                refine aw_iadd (pc' := 115) (by first | exact w32_id (by omega) (by omega) | rfl) dX13_plan_114 rfl ?_
                refine aw_puti (pc' := 118) (k9 := 52) dX13_plan_115 rfl fX13_383 rfl rfl rfl (MO (A := A) hM) ?_
                refine aw_aload_n (pc' := 119) rfl dX13_plan_118 rfl ?_
                refine aw_geti (pc' := 122) (k9 := 52) dX13_plan_119 rfl fX13_383 rfl (by decide) rfl (MO (A := A) hM) ?_
                try simp only [hv_set, hv_cpy, hv_pset, hp_set, hp_cpy, Int.reduceEq, false_and, and_false, true_and, and_true, if_false, if_true, reduceIte]
                refine AW.ret (some (vi _)) dX13_plan_122 trivial ?_
                first | exact hC (by omega) | exact hN (by omega) (by omega) | exact hF (by omega) (by omega) | exact hO (by omega) (by omega)
              · replace c_76 := Classical.not_not.mp c_76
                refine aw_bipush (pc' := 81) (by decide +kernel) dX13_plan_79 rfl ?_
                refine AW.ret (some (vi _)) dX13_plan_81 trivial ?_
                first | exact hC (by omega) | exact hN (by omega) (by omega) | exact hF (by omega) (by omega) | exact hO (by omega) (by omega)
          · replace c_38 := Classical.not_not.mp c_38
            refine aw_iload_n (pc' := 42) rfl dX13_plan_41 rfl ?_
            refine aw_i2l (pc' := 43) dX13_plan_42 rfl ?_
            refine aw_lconst (x := 0) (pc' := 44) (by decide +kernel) dX13_plan_43 rfl ?_
            refine aw_ldc2 (x := (2)) (pc' := 47) qX13_263 (by decide) dX13_plan_44 rfl ?_
            refine aw_callS (d' := d - 1) (as := [_, _, _]) (pc' := 50) kX13_in tX13_in lX13_177 dX13_plan_47 rfl rfl (Nat.le_of_ble_eq_true rfl) (by omega) ?_
            refine c_in (by omega) (fun g1_47 g2_47 => ?_) (fun g0_47 => ?_)
            · refine aw_if_ne (pt := 58) (pf := 53) dX13_plan_50 (by decide) rfl (fun _ => ?_) (fun c_50 => absurd (by decide) c_50)
              refine aw_iconst (pc' := 59) (by decide) dX13_plan_58 rfl ?_
              refine aw_goto (pc' := 63) dX13_plan_59 (by decide) ?_
              refine aw_istore_n (pc' := 64) (lv' := [_, _, _, _]) dX13_plan_63 rfl (by decide) rfl ?_
              refine aw_iload_n (pc' := 65) rfl dX13_plan_64 rfl ?_
              refine aw_if_ne (pt := 70) (pf := 68) dX13_plan_65 (by decide) rfl (fun _ => ?_) (fun c_65 => absurd (by decide) c_65)
              refine aw_aload_n (pc' := 71) rfl dX13_plan_70 rfl ?_
              refine aw_geti (pc' := 74) (k9 := 52) dX13_plan_71 rfl fX13_383 rfl (by decide) rfl (MO (A := A) hM) ?_
              refine aw_bipush (pc' := 76) (by decide +kernel) dX13_plan_74 rfl ?_
              refine aw_icmp_ne (pt := 82) (pf := 79) dX13_plan_76 (by decide) rfl (fun c_76 => ?_) (fun c_76 => ?_)
              · refine aw_aload_n (pc' := 83) rfl dX13_plan_82 rfl ?_
                refine aw_getp (pc' := 86) (k9 := 51) (p := 341) dX13_plan_83 rfl fX13_147 rfl rfl rfl (MO (A := A) hM) (M_plans (A := A) hM) ?_
                refine aw_iconst (pc' := 87) (by decide) dX13_plan_86 rfl ?_
                refine aw_aload_n (pc' := 88) rfl dX13_plan_87 rfl ?_
                refine aw_geti (pc' := 91) (k9 := 52) dX13_plan_88 rfl fX13_383 rfl (by decide) rfl (MO (A := A) hM) ?_
                refine aw_imul (pc' := 92) (by first | exact w32_id (by omega) (by omega) | rfl) dX13_plan_91 rfl ?_
                refine aw_iload_n (pc' := 93) rfl dX13_plan_92 rfl ?_
                refine aw_iast (pc' := 94) dX13_plan_93 rfl (MA_plans (A := A) hM) (by omega) (by omega) ?_
                refine aw_aload_n (pc' := 95) rfl dX13_plan_94 rfl ?_
                refine aw_getp (pc' := 98) (k9 := 51) (p := 341) dX13_plan_95 rfl fX13_147 rfl rfl rfl (MO (A := A) hM) (M_plans (A := A) hM) ?_
                refine aw_iconst (pc' := 99) (by decide) dX13_plan_98 rfl ?_
                refine aw_aload_n (pc' := 100) rfl dX13_plan_99 rfl ?_
                refine aw_geti (pc' := 103) (k9 := 52) dX13_plan_100 rfl fX13_383 rfl (by decide) rfl (MO (A := A) hM) ?_
                try simp only [hv_set, hv_cpy, hv_pset, hp_set, hp_cpy, Int.reduceEq, false_and, and_false, true_and, and_true, if_false, if_true, reduceIte]
                refine aw_imul (pc' := 104) (by first | exact w32_id (by omega) (by omega) | rfl) dX13_plan_103 rfl ?_
                refine aw_iconst (pc' := 105) (by decide) dX13_plan_104 rfl ?_
                refine aw_iadd (pc' := 106) (by first | exact w32_id (by omega) (by omega) | rfl) dX13_plan_105 rfl ?_
                refine aw_iload_n (pc' := 107) rfl dX13_plan_106 rfl ?_
                refine aw_iast (pc' := 108) dX13_plan_107 rfl (MA_plans (A := A) hM) (by omega) (by omega) ?_
                refine aw_aload_n (pc' := 109) rfl dX13_plan_108 rfl ?_
                refine aw_dup (pc' := 110) rfl dX13_plan_109 rfl ?_
                refine aw_geti (pc' := 113) (k9 := 52) dX13_plan_110 rfl fX13_383 rfl (by decide) rfl (MO (A := A) hM) ?_
                try simp only [hv_set, hv_cpy, hv_pset, hp_set, hp_cpy, Int.reduceEq, false_and, and_false, true_and, and_true, if_false, if_true, reduceIte]
                refine aw_iconst (pc' := 114) (by decide) dX13_plan_113 rfl ?_
                refine aw_iadd (pc' := 115) (by first | exact w32_id (by omega) (by omega) | rfl) dX13_plan_114 rfl ?_
                refine aw_puti (pc' := 118) (k9 := 52) dX13_plan_115 rfl fX13_383 rfl rfl rfl (MO (A := A) hM) ?_
                refine aw_aload_n (pc' := 119) rfl dX13_plan_118 rfl ?_
                refine aw_geti (pc' := 122) (k9 := 52) dX13_plan_119 rfl fX13_383 rfl (by decide) rfl (MO (A := A) hM) ?_
                try simp only [hv_set, hv_cpy, hv_pset, hp_set, hp_cpy, Int.reduceEq, false_and, and_false, true_and, and_true, if_false, if_true, reduceIte]
                refine AW.ret (some (vi _)) dX13_plan_122 trivial ?_
                first | exact hC (by omega) | exact hN (by omega) (by omega) | exact hF (by omega) (by omega) | exact hO (by omega) (by omega)
              · replace c_76 := Classical.not_not.mp c_76
                refine aw_bipush (pc' := 81) (by decide +kernel) dX13_plan_79 rfl ?_
                refine AW.ret (some (vi _)) dX13_plan_81 trivial ?_
                first | exact hC (by omega) | exact hN (by omega) (by omega) | exact hF (by omega) (by omega) | exact hO (by omega) (by omega)
            · refine aw_if_ne (pt := 58) (pf := 53) dX13_plan_50 (by decide) rfl (fun c_50 => absurd c_50 (by decide)) (fun _ => ?_)
              refine aw_iload_n (pc' := 54) rfl dX13_plan_53 rfl ?_
              refine aw_iconst (pc' := 55) (by decide) dX13_plan_54 rfl ?_
              refine aw_icmp_ne (pt := 62) (pf := 58) dX13_plan_55 (by decide) rfl (fun c_55 => ?_) (fun c_55 => ?_)
              · refine aw_iconst (pc' := 63) (by decide) dX13_plan_62 rfl ?_
                refine aw_istore_n (pc' := 64) (lv' := [_, _, _, _]) dX13_plan_63 rfl (by decide) rfl ?_
                refine aw_iload_n (pc' := 65) rfl dX13_plan_64 rfl ?_
                refine aw_if_ne (pt := 70) (pf := 68) dX13_plan_65 (by decide) rfl (fun c_65 => absurd c_65 (by decide)) (fun _ => ?_)
                refine aw_iconst (pc' := 69) (by decide) dX13_plan_68 rfl ?_
                refine AW.ret (some (vi _)) dX13_plan_69 trivial ?_
                first | exact hC (by omega) | exact hN (by omega) (by omega) | exact hF (by omega) (by omega) | exact hO (by omega) (by omega)
              · replace c_55 := Classical.not_not.mp c_55
                refine aw_iconst (pc' := 59) (by decide) dX13_plan_58 rfl ?_
                refine aw_goto (pc' := 63) dX13_plan_59 (by decide) ?_
                refine aw_istore_n (pc' := 64) (lv' := [_, _, _, _]) dX13_plan_63 rfl (by decide) rfl ?_
                refine aw_iload_n (pc' := 65) rfl dX13_plan_64 rfl ?_
                refine aw_if_ne (pt := 70) (pf := 68) dX13_plan_65 (by decide) rfl (fun _ => ?_) (fun c_65 => absurd (by decide) c_65)
                refine aw_aload_n (pc' := 71) rfl dX13_plan_70 rfl ?_
                refine aw_geti (pc' := 74) (k9 := 52) dX13_plan_71 rfl fX13_383 rfl (by decide) rfl (MO (A := A) hM) ?_
                refine aw_bipush (pc' := 76) (by decide +kernel) dX13_plan_74 rfl ?_
                refine aw_icmp_ne (pt := 82) (pf := 79) dX13_plan_76 (by decide) rfl (fun c_76 => ?_) (fun c_76 => ?_)
                · refine aw_aload_n (pc' := 83) rfl dX13_plan_82 rfl ?_
                  refine aw_getp (pc' := 86) (k9 := 51) (p := 341) dX13_plan_83 rfl fX13_147 rfl rfl rfl (MO (A := A) hM) (M_plans (A := A) hM) ?_
                  refine aw_iconst (pc' := 87) (by decide) dX13_plan_86 rfl ?_
                  refine aw_aload_n (pc' := 88) rfl dX13_plan_87 rfl ?_
                  refine aw_geti (pc' := 91) (k9 := 52) dX13_plan_88 rfl fX13_383 rfl (by decide) rfl (MO (A := A) hM) ?_
                  refine aw_imul (pc' := 92) (by first | exact w32_id (by omega) (by omega) | rfl) dX13_plan_91 rfl ?_
                  refine aw_iload_n (pc' := 93) rfl dX13_plan_92 rfl ?_
                  refine aw_iast (pc' := 94) dX13_plan_93 rfl (MA_plans (A := A) hM) (by omega) (by omega) ?_
                  refine aw_aload_n (pc' := 95) rfl dX13_plan_94 rfl ?_
                  refine aw_getp (pc' := 98) (k9 := 51) (p := 341) dX13_plan_95 rfl fX13_147 rfl rfl rfl (MO (A := A) hM) (M_plans (A := A) hM) ?_
                  refine aw_iconst (pc' := 99) (by decide) dX13_plan_98 rfl ?_
                  refine aw_aload_n (pc' := 100) rfl dX13_plan_99 rfl ?_
                  refine aw_geti (pc' := 103) (k9 := 52) dX13_plan_100 rfl fX13_383 rfl (by decide) rfl (MO (A := A) hM) ?_
                  try simp only [hv_set, hv_cpy, hv_pset, hp_set, hp_cpy, Int.reduceEq, false_and, and_false, true_and, and_true, if_false, if_true, reduceIte]
                  refine aw_imul (pc' := 104) (by first | exact w32_id (by omega) (by omega) | rfl) dX13_plan_103 rfl ?_
                  refine aw_iconst (pc' := 105) (by decide) dX13_plan_104 rfl ?_
                  refine aw_iadd (pc' := 106) (by first | exact w32_id (by omega) (by omega) | rfl) dX13_plan_105 rfl ?_
                  refine aw_iload_n (pc' := 107) rfl dX13_plan_106 rfl ?_
                  refine aw_iast (pc' := 108) dX13_plan_107 rfl (MA_plans (A := A) hM) (by omega) (by omega) ?_
                  refine aw_aload_n (pc' := 109) rfl dX13_plan_108 rfl ?_
                  refine aw_dup (pc' := 110) rfl dX13_plan_109 rfl ?_
                  refine aw_geti (pc' := 113) (k9 := 52) dX13_plan_110 rfl fX13_383 rfl (by decide) rfl (MO (A := A) hM) ?_
                  try simp only [hv_set, hv_cpy, hv_pset, hp_set, hp_cpy, Int.reduceEq, false_and, and_false, true_and, and_true, if_false, if_true, reduceIte]
                  refine aw_iconst (pc' := 114) (by decide) dX13_plan_113 rfl ?_
                  refine aw_iadd (pc' := 115) (by first | exact w32_id (by omega) (by omega) | rfl) dX13_plan_114 rfl ?_
                  refine aw_puti (pc' := 118) (k9 := 52) dX13_plan_115 rfl fX13_383 rfl rfl rfl (MO (A := A) hM) ?_
                  refine aw_aload_n (pc' := 119) rfl dX13_plan_118 rfl ?_
                  refine aw_geti (pc' := 122) (k9 := 52) dX13_plan_119 rfl fX13_383 rfl (by decide) rfl (MO (A := A) hM) ?_
                  try simp only [hv_set, hv_cpy, hv_pset, hp_set, hp_cpy, Int.reduceEq, false_and, and_false, true_and, and_true, if_false, if_true, reduceIte]
                  refine AW.ret (some (vi _)) dX13_plan_122 trivial ?_
                  first | exact hC (by omega) | exact hN (by omega) (by omega) | exact hF (by omega) (by omega) | exact hO (by omega) (by omega)
                · replace c_76 := Classical.not_not.mp c_76
                  refine aw_bipush (pc' := 81) (by decide +kernel) dX13_plan_79 rfl ?_
                  refine AW.ret (some (vi _)) dX13_plan_81 trivial ?_
                  first | exact hC (by omega) | exact hN (by omega) (by omega) | exact hF (by omega) (by omega) | exact hO (by omega) (by omega)
    · replace c_13 := Classical.not_not.mp c_13
      refine aw_aload_n (pc' := 17) rfl dX13_plan_16 rfl ?_
      refine aw_iload_n (pc' := 18) rfl dX13_plan_17 rfl ?_
      refine aw_callV (ci := 11) (d' := d - 1) (as := [_]) (pc' := 21) (by decide) rfl kX13_isLine iX13_isLine sX13_isLine lX13_260 (MO (A := A) hM) dX13_plan_18 rfl rfl (Nat.le_of_ble_eq_true rfl) (by omega) ?_
      refine c_isLine (by omega) hM hln (fun e1_18 e2_18 => ?_) (fun e0_18 => ?_)
      · refine aw_if_ne (pt := 58) (pf := 24) dX13_plan_21 (by decide) rfl (fun _ => ?_) (fun c_21 => absurd (by decide) c_21)
        refine aw_iconst (pc' := 59) (by decide) dX13_plan_58 rfl ?_
        refine aw_goto (pc' := 63) dX13_plan_59 (by decide) ?_
        refine aw_istore_n (pc' := 64) (lv' := [_, _, _, _]) dX13_plan_63 rfl (by decide) rfl ?_
        refine aw_iload_n (pc' := 65) rfl dX13_plan_64 rfl ?_
        refine aw_if_ne (pt := 70) (pf := 68) dX13_plan_65 (by decide) rfl (fun _ => ?_) (fun c_65 => absurd (by decide) c_65)
        refine aw_aload_n (pc' := 71) rfl dX13_plan_70 rfl ?_
        refine aw_geti (pc' := 74) (k9 := 52) dX13_plan_71 rfl fX13_383 rfl (by decide) rfl (MO (A := A) hM) ?_
        refine aw_bipush (pc' := 76) (by decide +kernel) dX13_plan_74 rfl ?_
        refine aw_icmp_ne (pt := 82) (pf := 79) dX13_plan_76 (by decide) rfl (fun c_76 => ?_) (fun c_76 => ?_)
        · refine aw_aload_n (pc' := 83) rfl dX13_plan_82 rfl ?_
          refine aw_getp (pc' := 86) (k9 := 51) (p := 341) dX13_plan_83 rfl fX13_147 rfl rfl rfl (MO (A := A) hM) (M_plans (A := A) hM) ?_
          refine aw_iconst (pc' := 87) (by decide) dX13_plan_86 rfl ?_
          refine aw_aload_n (pc' := 88) rfl dX13_plan_87 rfl ?_
          refine aw_geti (pc' := 91) (k9 := 52) dX13_plan_88 rfl fX13_383 rfl (by decide) rfl (MO (A := A) hM) ?_
          refine aw_imul (pc' := 92) (by first | exact w32_id (by omega) (by omega) | rfl) dX13_plan_91 rfl ?_
          refine aw_iload_n (pc' := 93) rfl dX13_plan_92 rfl ?_
          refine aw_iast (pc' := 94) dX13_plan_93 rfl (MA_plans (A := A) hM) (by omega) (by omega) ?_
          refine aw_aload_n (pc' := 95) rfl dX13_plan_94 rfl ?_
          refine aw_getp (pc' := 98) (k9 := 51) (p := 341) dX13_plan_95 rfl fX13_147 rfl rfl rfl (MO (A := A) hM) (M_plans (A := A) hM) ?_
          refine aw_iconst (pc' := 99) (by decide) dX13_plan_98 rfl ?_
          refine aw_aload_n (pc' := 100) rfl dX13_plan_99 rfl ?_
          refine aw_geti (pc' := 103) (k9 := 52) dX13_plan_100 rfl fX13_383 rfl (by decide) rfl (MO (A := A) hM) ?_
          try simp only [hv_set, hv_cpy, hv_pset, hp_set, hp_cpy, Int.reduceEq, false_and, and_false, true_and, and_true, if_false, if_true, reduceIte]
          refine aw_imul (pc' := 104) (by first | exact w32_id (by omega) (by omega) | rfl) dX13_plan_103 rfl ?_
          refine aw_iconst (pc' := 105) (by decide) dX13_plan_104 rfl ?_
          refine aw_iadd (pc' := 106) (by first | exact w32_id (by omega) (by omega) | rfl) dX13_plan_105 rfl ?_
          refine aw_iload_n (pc' := 107) rfl dX13_plan_106 rfl ?_
          refine aw_iast (pc' := 108) dX13_plan_107 rfl (MA_plans (A := A) hM) (by omega) (by omega) ?_
          refine aw_aload_n (pc' := 109) rfl dX13_plan_108 rfl ?_
          refine aw_dup (pc' := 110) rfl dX13_plan_109 rfl ?_
          refine aw_geti (pc' := 113) (k9 := 52) dX13_plan_110 rfl fX13_383 rfl (by decide) rfl (MO (A := A) hM) ?_
          try simp only [hv_set, hv_cpy, hv_pset, hp_set, hp_cpy, Int.reduceEq, false_and, and_false, true_and, and_true, if_false, if_true, reduceIte]
          refine aw_iconst (pc' := 114) (by decide) dX13_plan_113 rfl ?_
          refine aw_iadd (pc' := 115) (by first | exact w32_id (by omega) (by omega) | rfl) dX13_plan_114 rfl ?_
          refine aw_puti (pc' := 118) (k9 := 52) dX13_plan_115 rfl fX13_383 rfl rfl rfl (MO (A := A) hM) ?_
          refine aw_aload_n (pc' := 119) rfl dX13_plan_118 rfl ?_
          refine aw_geti (pc' := 122) (k9 := 52) dX13_plan_119 rfl fX13_383 rfl (by decide) rfl (MO (A := A) hM) ?_
          try simp only [hv_set, hv_cpy, hv_pset, hp_set, hp_cpy, Int.reduceEq, false_and, and_false, true_and, and_true, if_false, if_true, reduceIte]
          refine AW.ret (some (vi _)) dX13_plan_122 trivial ?_
          first | exact hC (by omega) | exact hN (by omega) (by omega) | exact hF (by omega) (by omega) | exact hO (by omega) (by omega)
        · replace c_76 := Classical.not_not.mp c_76
          refine aw_bipush (pc' := 81) (by decide +kernel) dX13_plan_79 rfl ?_
          refine AW.ret (some (vi _)) dX13_plan_81 trivial ?_
          first | exact hC (by omega) | exact hN (by omega) (by omega) | exact hF (by omega) (by omega) | exact hO (by omega) (by omega)
      · refine aw_if_ne (pt := 58) (pf := 24) dX13_plan_21 (by decide) rfl (fun c_21 => absurd c_21 (by decide)) (fun _ => ?_)
        refine aw_iload_n (pc' := 25) rfl dX13_plan_24 rfl ?_
        refine aw_iconst (pc' := 26) (by decide) dX13_plan_25 rfl ?_
        refine aw_icmp_ne (pt := 36) (pf := 29) dX13_plan_26 (by decide) rfl (fun c_26 => ?_) (fun c_26 => ?_)
        · refine aw_iload_n (pc' := 37) rfl dX13_plan_36 rfl ?_
          refine aw_iconst (pc' := 38) (by decide) dX13_plan_37 rfl ?_
          refine aw_icmp_ne (pt := 53) (pf := 41) dX13_plan_38 (by decide) rfl (fun c_38 => ?_) (fun c_38 => ?_)
          · refine aw_iload_n (pc' := 54) rfl dX13_plan_53 rfl ?_
            refine aw_iconst (pc' := 55) (by decide) dX13_plan_54 rfl ?_
            refine aw_icmp_ne (pt := 62) (pf := 58) dX13_plan_55 (by decide) rfl (fun c_55 => ?_) (fun c_55 => ?_)
            · refine aw_iconst (pc' := 63) (by decide) dX13_plan_62 rfl ?_
              refine aw_istore_n (pc' := 64) (lv' := [_, _, _, _]) dX13_plan_63 rfl (by decide) rfl ?_
              refine aw_iload_n (pc' := 65) rfl dX13_plan_64 rfl ?_
              refine aw_if_ne (pt := 70) (pf := 68) dX13_plan_65 (by decide) rfl (fun c_65 => absurd c_65 (by decide)) (fun _ => ?_)
              refine aw_iconst (pc' := 69) (by decide) dX13_plan_68 rfl ?_
              refine AW.ret (some (vi _)) dX13_plan_69 trivial ?_
              first | exact hC (by omega) | exact hN (by omega) (by omega) | exact hF (by omega) (by omega) | exact hO (by omega) (by omega)
            · replace c_55 := Classical.not_not.mp c_55
              refine aw_iconst (pc' := 59) (by decide) dX13_plan_58 rfl ?_
              refine aw_goto (pc' := 63) dX13_plan_59 (by decide) ?_
              refine aw_istore_n (pc' := 64) (lv' := [_, _, _, _]) dX13_plan_63 rfl (by decide) rfl ?_
              refine aw_iload_n (pc' := 65) rfl dX13_plan_64 rfl ?_
              refine aw_if_ne (pt := 70) (pf := 68) dX13_plan_65 (by decide) rfl (fun _ => ?_) (fun c_65 => absurd (by decide) c_65)
              refine aw_aload_n (pc' := 71) rfl dX13_plan_70 rfl ?_
              refine aw_geti (pc' := 74) (k9 := 52) dX13_plan_71 rfl fX13_383 rfl (by decide) rfl (MO (A := A) hM) ?_
              refine aw_bipush (pc' := 76) (by decide +kernel) dX13_plan_74 rfl ?_
              refine aw_icmp_ne (pt := 82) (pf := 79) dX13_plan_76 (by decide) rfl (fun c_76 => ?_) (fun c_76 => ?_)
              · refine aw_aload_n (pc' := 83) rfl dX13_plan_82 rfl ?_
                refine aw_getp (pc' := 86) (k9 := 51) (p := 341) dX13_plan_83 rfl fX13_147 rfl rfl rfl (MO (A := A) hM) (M_plans (A := A) hM) ?_
                refine aw_iconst (pc' := 87) (by decide) dX13_plan_86 rfl ?_
                refine aw_aload_n (pc' := 88) rfl dX13_plan_87 rfl ?_
                refine aw_geti (pc' := 91) (k9 := 52) dX13_plan_88 rfl fX13_383 rfl (by decide) rfl (MO (A := A) hM) ?_
                refine aw_imul (pc' := 92) (by first | exact w32_id (by omega) (by omega) | rfl) dX13_plan_91 rfl ?_
                refine aw_iload_n (pc' := 93) rfl dX13_plan_92 rfl ?_
                refine aw_iast (pc' := 94) dX13_plan_93 rfl (MA_plans (A := A) hM) (by omega) (by omega) ?_
                refine aw_aload_n (pc' := 95) rfl dX13_plan_94 rfl ?_
                refine aw_getp (pc' := 98) (k9 := 51) (p := 341) dX13_plan_95 rfl fX13_147 rfl rfl rfl (MO (A := A) hM) (M_plans (A := A) hM) ?_
                refine aw_iconst (pc' := 99) (by decide) dX13_plan_98 rfl ?_
                refine aw_aload_n (pc' := 100) rfl dX13_plan_99 rfl ?_
                refine aw_geti (pc' := 103) (k9 := 52) dX13_plan_100 rfl fX13_383 rfl (by decide) rfl (MO (A := A) hM) ?_
                try simp only [hv_set, hv_cpy, hv_pset, hp_set, hp_cpy, Int.reduceEq, false_and, and_false, true_and, and_true, if_false, if_true, reduceIte]
                refine aw_imul (pc' := 104) (by first | exact w32_id (by omega) (by omega) | rfl) dX13_plan_103 rfl ?_
                refine aw_iconst (pc' := 105) (by decide) dX13_plan_104 rfl ?_
                refine aw_iadd (pc' := 106) (by first | exact w32_id (by omega) (by omega) | rfl) dX13_plan_105 rfl ?_
                refine aw_iload_n (pc' := 107) rfl dX13_plan_106 rfl ?_
                refine aw_iast (pc' := 108) dX13_plan_107 rfl (MA_plans (A := A) hM) (by omega) (by omega) ?_
                refine aw_aload_n (pc' := 109) rfl dX13_plan_108 rfl ?_
                refine aw_dup (pc' := 110) rfl dX13_plan_109 rfl ?_
                refine aw_geti (pc' := 113) (k9 := 52) dX13_plan_110 rfl fX13_383 rfl (by decide) rfl (MO (A := A) hM) ?_
                try simp only [hv_set, hv_cpy, hv_pset, hp_set, hp_cpy, Int.reduceEq, false_and, and_false, true_and, and_true, if_false, if_true, reduceIte]
                refine aw_iconst (pc' := 114) (by decide) dX13_plan_113 rfl ?_
                refine aw_iadd (pc' := 115) (by first | exact w32_id (by omega) (by omega) | rfl) dX13_plan_114 rfl ?_
                refine aw_puti (pc' := 118) (k9 := 52) dX13_plan_115 rfl fX13_383 rfl rfl rfl (MO (A := A) hM) ?_
                refine aw_aload_n (pc' := 119) rfl dX13_plan_118 rfl ?_
                refine aw_geti (pc' := 122) (k9 := 52) dX13_plan_119 rfl fX13_383 rfl (by decide) rfl (MO (A := A) hM) ?_
                try simp only [hv_set, hv_cpy, hv_pset, hp_set, hp_cpy, Int.reduceEq, false_and, and_false, true_and, and_true, if_false, if_true, reduceIte]
                refine AW.ret (some (vi _)) dX13_plan_122 trivial ?_
                first | exact hC (by omega) | exact hN (by omega) (by omega) | exact hF (by omega) (by omega) | exact hO (by omega) (by omega)
              · replace c_76 := Classical.not_not.mp c_76
                refine aw_bipush (pc' := 81) (by decide +kernel) dX13_plan_79 rfl ?_
                refine AW.ret (some (vi _)) dX13_plan_81 trivial ?_
                first | exact hC (by omega) | exact hN (by omega) (by omega) | exact hF (by omega) (by omega) | exact hO (by omega) (by omega)
          · replace c_38 := Classical.not_not.mp c_38
            refine aw_iload_n (pc' := 42) rfl dX13_plan_41 rfl ?_
            refine aw_i2l (pc' := 43) dX13_plan_42 rfl ?_
            refine aw_lconst (x := 0) (pc' := 44) (by decide +kernel) dX13_plan_43 rfl ?_
            refine aw_ldc2 (x := (2)) (pc' := 47) qX13_263 (by decide) dX13_plan_44 rfl ?_
            refine aw_callS (d' := d - 1) (as := [_, _, _]) (pc' := 50) kX13_in tX13_in lX13_177 dX13_plan_47 rfl rfl (Nat.le_of_ble_eq_true rfl) (by omega) ?_
            refine c_in (by omega) (fun g1_47 g2_47 => ?_) (fun g0_47 => ?_)
            · refine aw_if_ne (pt := 58) (pf := 53) dX13_plan_50 (by decide) rfl (fun _ => ?_) (fun c_50 => absurd (by decide) c_50)
              refine aw_iconst (pc' := 59) (by decide) dX13_plan_58 rfl ?_
              refine aw_goto (pc' := 63) dX13_plan_59 (by decide) ?_
              refine aw_istore_n (pc' := 64) (lv' := [_, _, _, _]) dX13_plan_63 rfl (by decide) rfl ?_
              refine aw_iload_n (pc' := 65) rfl dX13_plan_64 rfl ?_
              refine aw_if_ne (pt := 70) (pf := 68) dX13_plan_65 (by decide) rfl (fun _ => ?_) (fun c_65 => absurd (by decide) c_65)
              refine aw_aload_n (pc' := 71) rfl dX13_plan_70 rfl ?_
              refine aw_geti (pc' := 74) (k9 := 52) dX13_plan_71 rfl fX13_383 rfl (by decide) rfl (MO (A := A) hM) ?_
              refine aw_bipush (pc' := 76) (by decide +kernel) dX13_plan_74 rfl ?_
              refine aw_icmp_ne (pt := 82) (pf := 79) dX13_plan_76 (by decide) rfl (fun c_76 => ?_) (fun c_76 => ?_)
              · refine aw_aload_n (pc' := 83) rfl dX13_plan_82 rfl ?_
                refine aw_getp (pc' := 86) (k9 := 51) (p := 341) dX13_plan_83 rfl fX13_147 rfl rfl rfl (MO (A := A) hM) (M_plans (A := A) hM) ?_
                refine aw_iconst (pc' := 87) (by decide) dX13_plan_86 rfl ?_
                refine aw_aload_n (pc' := 88) rfl dX13_plan_87 rfl ?_
                refine aw_geti (pc' := 91) (k9 := 52) dX13_plan_88 rfl fX13_383 rfl (by decide) rfl (MO (A := A) hM) ?_
                refine aw_imul (pc' := 92) (by first | exact w32_id (by omega) (by omega) | rfl) dX13_plan_91 rfl ?_
                refine aw_iload_n (pc' := 93) rfl dX13_plan_92 rfl ?_
                refine aw_iast (pc' := 94) dX13_plan_93 rfl (MA_plans (A := A) hM) (by omega) (by omega) ?_
                refine aw_aload_n (pc' := 95) rfl dX13_plan_94 rfl ?_
                refine aw_getp (pc' := 98) (k9 := 51) (p := 341) dX13_plan_95 rfl fX13_147 rfl rfl rfl (MO (A := A) hM) (M_plans (A := A) hM) ?_
                refine aw_iconst (pc' := 99) (by decide) dX13_plan_98 rfl ?_
                refine aw_aload_n (pc' := 100) rfl dX13_plan_99 rfl ?_
                refine aw_geti (pc' := 103) (k9 := 52) dX13_plan_100 rfl fX13_383 rfl (by decide) rfl (MO (A := A) hM) ?_
                try simp only [hv_set, hv_cpy, hv_pset, hp_set, hp_cpy, Int.reduceEq, false_and, and_false, true_and, and_true, if_false, if_true, reduceIte]
                refine aw_imul (pc' := 104) (by first | exact w32_id (by omega) (by omega) | rfl) dX13_plan_103 rfl ?_
                refine aw_iconst (pc' := 105) (by decide) dX13_plan_104 rfl ?_
                refine aw_iadd (pc' := 106) (by first | exact w32_id (by omega) (by omega) | rfl) dX13_plan_105 rfl ?_
                refine aw_iload_n (pc' := 107) rfl dX13_plan_106 rfl ?_
                refine aw_iast (pc' := 108) dX13_plan_107 rfl (MA_plans (A := A) hM) (by omega) (by omega) ?_
                refine aw_aload_n (pc' := 109) rfl dX13_plan_108 rfl ?_
                refine aw_dup (pc' := 110) rfl dX13_plan_109 rfl ?_
                refine aw_geti (pc' := 113) (k9 := 52) dX13_plan_110 rfl fX13_383 rfl (by decide) rfl (MO (A := A) hM) ?_
                try simp only [hv_set, hv_cpy, hv_pset, hp_set, hp_cpy, Int.reduceEq, false_and, and_false, true_and, and_true, if_false, if_true, reduceIte]
                refine aw_iconst (pc' := 114) (by decide) dX13_plan_113 rfl ?_
                refine aw_iadd (pc' := 115) (by first | exact w32_id (by omega) (by omega) | rfl) dX13_plan_114 rfl ?_
                refine aw_puti (pc' := 118) (k9 := 52) dX13_plan_115 rfl fX13_383 rfl rfl rfl (MO (A := A) hM) ?_
                refine aw_aload_n (pc' := 119) rfl dX13_plan_118 rfl ?_
                refine aw_geti (pc' := 122) (k9 := 52) dX13_plan_119 rfl fX13_383 rfl (by decide) rfl (MO (A := A) hM) ?_
                try simp only [hv_set, hv_cpy, hv_pset, hp_set, hp_cpy, Int.reduceEq, false_and, and_false, true_and, and_true, if_false, if_true, reduceIte]
                refine AW.ret (some (vi _)) dX13_plan_122 trivial ?_
                first | exact hC (by omega) | exact hN (by omega) (by omega) | exact hF (by omega) (by omega) | exact hO (by omega) (by omega)
              · replace c_76 := Classical.not_not.mp c_76
                refine aw_bipush (pc' := 81) (by decide +kernel) dX13_plan_79 rfl ?_
                refine AW.ret (some (vi _)) dX13_plan_81 trivial ?_
                first | exact hC (by omega) | exact hN (by omega) (by omega) | exact hF (by omega) (by omega) | exact hO (by omega) (by omega)
            · refine aw_if_ne (pt := 58) (pf := 53) dX13_plan_50 (by decide) rfl (fun c_50 => absurd c_50 (by decide)) (fun _ => ?_)
              refine aw_iload_n (pc' := 54) rfl dX13_plan_53 rfl ?_
              refine aw_iconst (pc' := 55) (by decide) dX13_plan_54 rfl ?_
              refine aw_icmp_ne (pt := 62) (pf := 58) dX13_plan_55 (by decide) rfl (fun c_55 => ?_) (fun c_55 => ?_)
              · refine aw_iconst (pc' := 63) (by decide) dX13_plan_62 rfl ?_
                refine aw_istore_n (pc' := 64) (lv' := [_, _, _, _]) dX13_plan_63 rfl (by decide) rfl ?_
                refine aw_iload_n (pc' := 65) rfl dX13_plan_64 rfl ?_
                refine aw_if_ne (pt := 70) (pf := 68) dX13_plan_65 (by decide) rfl (fun c_65 => absurd c_65 (by decide)) (fun _ => ?_)
                refine aw_iconst (pc' := 69) (by decide) dX13_plan_68 rfl ?_
                refine AW.ret (some (vi _)) dX13_plan_69 trivial ?_
                first | exact hC (by omega) | exact hN (by omega) (by omega) | exact hF (by omega) (by omega) | exact hO (by omega) (by omega)
              · replace c_55 := Classical.not_not.mp c_55
                refine aw_iconst (pc' := 59) (by decide) dX13_plan_58 rfl ?_
                refine aw_goto (pc' := 63) dX13_plan_59 (by decide) ?_
                refine aw_istore_n (pc' := 64) (lv' := [_, _, _, _]) dX13_plan_63 rfl (by decide) rfl ?_
                refine aw_iload_n (pc' := 65) rfl dX13_plan_64 rfl ?_
                refine aw_if_ne (pt := 70) (pf := 68) dX13_plan_65 (by decide) rfl (fun _ => ?_) (fun c_65 => absurd (by decide) c_65)
                refine aw_aload_n (pc' := 71) rfl dX13_plan_70 rfl ?_
                refine aw_geti (pc' := 74) (k9 := 52) dX13_plan_71 rfl fX13_383 rfl (by decide) rfl (MO (A := A) hM) ?_
                refine aw_bipush (pc' := 76) (by decide +kernel) dX13_plan_74 rfl ?_
                refine aw_icmp_ne (pt := 82) (pf := 79) dX13_plan_76 (by decide) rfl (fun c_76 => ?_) (fun c_76 => ?_)
                · refine aw_aload_n (pc' := 83) rfl dX13_plan_82 rfl ?_
                  refine aw_getp (pc' := 86) (k9 := 51) (p := 341) dX13_plan_83 rfl fX13_147 rfl rfl rfl (MO (A := A) hM) (M_plans (A := A) hM) ?_
                  refine aw_iconst (pc' := 87) (by decide) dX13_plan_86 rfl ?_
                  refine aw_aload_n (pc' := 88) rfl dX13_plan_87 rfl ?_
                  refine aw_geti (pc' := 91) (k9 := 52) dX13_plan_88 rfl fX13_383 rfl (by decide) rfl (MO (A := A) hM) ?_
                  refine aw_imul (pc' := 92) (by first | exact w32_id (by omega) (by omega) | rfl) dX13_plan_91 rfl ?_
                  refine aw_iload_n (pc' := 93) rfl dX13_plan_92 rfl ?_
                  refine aw_iast (pc' := 94) dX13_plan_93 rfl (MA_plans (A := A) hM) (by omega) (by omega) ?_
                  refine aw_aload_n (pc' := 95) rfl dX13_plan_94 rfl ?_
                  refine aw_getp (pc' := 98) (k9 := 51) (p := 341) dX13_plan_95 rfl fX13_147 rfl rfl rfl (MO (A := A) hM) (M_plans (A := A) hM) ?_
                  refine aw_iconst (pc' := 99) (by decide) dX13_plan_98 rfl ?_
                  refine aw_aload_n (pc' := 100) rfl dX13_plan_99 rfl ?_
                  refine aw_geti (pc' := 103) (k9 := 52) dX13_plan_100 rfl fX13_383 rfl (by decide) rfl (MO (A := A) hM) ?_
                  try simp only [hv_set, hv_cpy, hv_pset, hp_set, hp_cpy, Int.reduceEq, false_and, and_false, true_and, and_true, if_false, if_true, reduceIte]
                  refine aw_imul (pc' := 104) (by first | exact w32_id (by omega) (by omega) | rfl) dX13_plan_103 rfl ?_
                  refine aw_iconst (pc' := 105) (by decide) dX13_plan_104 rfl ?_
                  refine aw_iadd (pc' := 106) (by first | exact w32_id (by omega) (by omega) | rfl) dX13_plan_105 rfl ?_
                  refine aw_iload_n (pc' := 107) rfl dX13_plan_106 rfl ?_
                  refine aw_iast (pc' := 108) dX13_plan_107 rfl (MA_plans (A := A) hM) (by omega) (by omega) ?_
                  refine aw_aload_n (pc' := 109) rfl dX13_plan_108 rfl ?_
                  refine aw_dup (pc' := 110) rfl dX13_plan_109 rfl ?_
                  refine aw_geti (pc' := 113) (k9 := 52) dX13_plan_110 rfl fX13_383 rfl (by decide) rfl (MO (A := A) hM) ?_
                  try simp only [hv_set, hv_cpy, hv_pset, hp_set, hp_cpy, Int.reduceEq, false_and, and_false, true_and, and_true, if_false, if_true, reduceIte]
                  refine aw_iconst (pc' := 114) (by decide) dX13_plan_113 rfl ?_
                  refine aw_iadd (pc' := 115) (by first | exact w32_id (by omega) (by omega) | rfl) dX13_plan_114 rfl ?_
                  refine aw_puti (pc' := 118) (k9 := 52) dX13_plan_115 rfl fX13_383 rfl rfl rfl (MO (A := A) hM) ?_
                  refine aw_aload_n (pc' := 119) rfl dX13_plan_118 rfl ?_
                  refine aw_geti (pc' := 122) (k9 := 52) dX13_plan_119 rfl fX13_383 rfl (by decide) rfl (MO (A := A) hM) ?_
                  try simp only [hv_set, hv_cpy, hv_pset, hp_set, hp_cpy, Int.reduceEq, false_and, and_false, true_and, and_true, if_false, if_true, reduceIte]
                  refine AW.ret (some (vi _)) dX13_plan_122 trivial ?_
                  first | exact hC (by omega) | exact hN (by omega) (by omega) | exact hF (by omega) (by omega) | exact hO (by omega) (by omega)
                · replace c_76 := Classical.not_not.mp c_76
                  refine aw_bipush (pc' := 81) (by decide +kernel) dX13_plan_79 rfl ?_
                  refine AW.ret (some (vi _)) dX13_plan_81 trivial ?_
                  first | exact hC (by omega) | exact hN (by omega) (by omega) | exact hF (by omega) (by omega) | exact hO (by omega) (by omega)
        · replace c_26 := Classical.not_not.mp c_26
          refine aw_iload_n (pc' := 30) rfl dX13_plan_29 rfl ?_
          refine aw_callS (d' := d - 1) (as := [_]) (pc' := 33) kX13_isName tX13_isName lX13_372 dX13_plan_30 rfl rfl (Nat.le_of_ble_eq_true rfl) (by omega) ?_
          refine c_isName (by omega) (fun n1_30 n2_30 => ?_) (fun n0_30 => ?_)
          · refine aw_if_ne (pt := 58) (pf := 36) dX13_plan_33 (by decide) rfl (fun _ => ?_) (fun c_33 => absurd (by decide) c_33)
            refine aw_iconst (pc' := 59) (by decide) dX13_plan_58 rfl ?_
            refine aw_goto (pc' := 63) dX13_plan_59 (by decide) ?_
            refine aw_istore_n (pc' := 64) (lv' := [_, _, _, _]) dX13_plan_63 rfl (by decide) rfl ?_
            refine aw_iload_n (pc' := 65) rfl dX13_plan_64 rfl ?_
            refine aw_if_ne (pt := 70) (pf := 68) dX13_plan_65 (by decide) rfl (fun _ => ?_) (fun c_65 => absurd (by decide) c_65)
            refine aw_aload_n (pc' := 71) rfl dX13_plan_70 rfl ?_
            refine aw_geti (pc' := 74) (k9 := 52) dX13_plan_71 rfl fX13_383 rfl (by decide) rfl (MO (A := A) hM) ?_
            refine aw_bipush (pc' := 76) (by decide +kernel) dX13_plan_74 rfl ?_
            refine aw_icmp_ne (pt := 82) (pf := 79) dX13_plan_76 (by decide) rfl (fun c_76 => ?_) (fun c_76 => ?_)
            · refine aw_aload_n (pc' := 83) rfl dX13_plan_82 rfl ?_
              refine aw_getp (pc' := 86) (k9 := 51) (p := 341) dX13_plan_83 rfl fX13_147 rfl rfl rfl (MO (A := A) hM) (M_plans (A := A) hM) ?_
              refine aw_iconst (pc' := 87) (by decide) dX13_plan_86 rfl ?_
              refine aw_aload_n (pc' := 88) rfl dX13_plan_87 rfl ?_
              refine aw_geti (pc' := 91) (k9 := 52) dX13_plan_88 rfl fX13_383 rfl (by decide) rfl (MO (A := A) hM) ?_
              refine aw_imul (pc' := 92) (by first | exact w32_id (by omega) (by omega) | rfl) dX13_plan_91 rfl ?_
              refine aw_iload_n (pc' := 93) rfl dX13_plan_92 rfl ?_
              refine aw_iast (pc' := 94) dX13_plan_93 rfl (MA_plans (A := A) hM) (by omega) (by omega) ?_
              refine aw_aload_n (pc' := 95) rfl dX13_plan_94 rfl ?_
              refine aw_getp (pc' := 98) (k9 := 51) (p := 341) dX13_plan_95 rfl fX13_147 rfl rfl rfl (MO (A := A) hM) (M_plans (A := A) hM) ?_
              refine aw_iconst (pc' := 99) (by decide) dX13_plan_98 rfl ?_
              refine aw_aload_n (pc' := 100) rfl dX13_plan_99 rfl ?_
              refine aw_geti (pc' := 103) (k9 := 52) dX13_plan_100 rfl fX13_383 rfl (by decide) rfl (MO (A := A) hM) ?_
              try simp only [hv_set, hv_cpy, hv_pset, hp_set, hp_cpy, Int.reduceEq, false_and, and_false, true_and, and_true, if_false, if_true, reduceIte]
              refine aw_imul (pc' := 104) (by first | exact w32_id (by omega) (by omega) | rfl) dX13_plan_103 rfl ?_
              refine aw_iconst (pc' := 105) (by decide) dX13_plan_104 rfl ?_
              refine aw_iadd (pc' := 106) (by first | exact w32_id (by omega) (by omega) | rfl) dX13_plan_105 rfl ?_
              refine aw_iload_n (pc' := 107) rfl dX13_plan_106 rfl ?_
              refine aw_iast (pc' := 108) dX13_plan_107 rfl (MA_plans (A := A) hM) (by omega) (by omega) ?_
              refine aw_aload_n (pc' := 109) rfl dX13_plan_108 rfl ?_
              refine aw_dup (pc' := 110) rfl dX13_plan_109 rfl ?_
              refine aw_geti (pc' := 113) (k9 := 52) dX13_plan_110 rfl fX13_383 rfl (by decide) rfl (MO (A := A) hM) ?_
              try simp only [hv_set, hv_cpy, hv_pset, hp_set, hp_cpy, Int.reduceEq, false_and, and_false, true_and, and_true, if_false, if_true, reduceIte]
              refine aw_iconst (pc' := 114) (by decide) dX13_plan_113 rfl ?_
              refine aw_iadd (pc' := 115) (by first | exact w32_id (by omega) (by omega) | rfl) dX13_plan_114 rfl ?_
              refine aw_puti (pc' := 118) (k9 := 52) dX13_plan_115 rfl fX13_383 rfl rfl rfl (MO (A := A) hM) ?_
              refine aw_aload_n (pc' := 119) rfl dX13_plan_118 rfl ?_
              refine aw_geti (pc' := 122) (k9 := 52) dX13_plan_119 rfl fX13_383 rfl (by decide) rfl (MO (A := A) hM) ?_
              try simp only [hv_set, hv_cpy, hv_pset, hp_set, hp_cpy, Int.reduceEq, false_and, and_false, true_and, and_true, if_false, if_true, reduceIte]
              refine AW.ret (some (vi _)) dX13_plan_122 trivial ?_
              first | exact hC (by omega) | exact hN (by omega) (by omega) | exact hF (by omega) (by omega) | exact hO (by omega) (by omega)
            · replace c_76 := Classical.not_not.mp c_76
              refine aw_bipush (pc' := 81) (by decide +kernel) dX13_plan_79 rfl ?_
              refine AW.ret (some (vi _)) dX13_plan_81 trivial ?_
              first | exact hC (by omega) | exact hN (by omega) (by omega) | exact hF (by omega) (by omega) | exact hO (by omega) (by omega)
          · refine aw_if_ne (pt := 58) (pf := 36) dX13_plan_33 (by decide) rfl (fun c_33 => absurd c_33 (by decide)) (fun _ => ?_)
            refine aw_iload_n (pc' := 37) rfl dX13_plan_36 rfl ?_
            refine aw_iconst (pc' := 38) (by decide) dX13_plan_37 rfl ?_
            refine aw_icmp_ne (pt := 53) (pf := 41) dX13_plan_38 (by decide) rfl (fun c_38 => ?_) (fun c_38 => ?_)
            · refine aw_iload_n (pc' := 54) rfl dX13_plan_53 rfl ?_
              refine aw_iconst (pc' := 55) (by decide) dX13_plan_54 rfl ?_
              refine aw_icmp_ne (pt := 62) (pf := 58) dX13_plan_55 (by decide) rfl (fun c_55 => ?_) (fun c_55 => ?_)
              · refine aw_iconst (pc' := 63) (by decide) dX13_plan_62 rfl ?_
                refine aw_istore_n (pc' := 64) (lv' := [_, _, _, _]) dX13_plan_63 rfl (by decide) rfl ?_
                refine aw_iload_n (pc' := 65) rfl dX13_plan_64 rfl ?_
                refine aw_if_ne (pt := 70) (pf := 68) dX13_plan_65 (by decide) rfl (fun c_65 => absurd c_65 (by decide)) (fun _ => ?_)
                refine aw_iconst (pc' := 69) (by decide) dX13_plan_68 rfl ?_
                refine AW.ret (some (vi _)) dX13_plan_69 trivial ?_
                first | exact hC (by omega) | exact hN (by omega) (by omega) | exact hF (by omega) (by omega) | exact hO (by omega) (by omega)
              · replace c_55 := Classical.not_not.mp c_55
                refine aw_iconst (pc' := 59) (by decide) dX13_plan_58 rfl ?_
                refine aw_goto (pc' := 63) dX13_plan_59 (by decide) ?_
                refine aw_istore_n (pc' := 64) (lv' := [_, _, _, _]) dX13_plan_63 rfl (by decide) rfl ?_
                refine aw_iload_n (pc' := 65) rfl dX13_plan_64 rfl ?_
                refine aw_if_ne (pt := 70) (pf := 68) dX13_plan_65 (by decide) rfl (fun _ => ?_) (fun c_65 => absurd (by decide) c_65)
                refine aw_aload_n (pc' := 71) rfl dX13_plan_70 rfl ?_
                refine aw_geti (pc' := 74) (k9 := 52) dX13_plan_71 rfl fX13_383 rfl (by decide) rfl (MO (A := A) hM) ?_
                refine aw_bipush (pc' := 76) (by decide +kernel) dX13_plan_74 rfl ?_
                refine aw_icmp_ne (pt := 82) (pf := 79) dX13_plan_76 (by decide) rfl (fun c_76 => ?_) (fun c_76 => ?_)
                · refine aw_aload_n (pc' := 83) rfl dX13_plan_82 rfl ?_
                  refine aw_getp (pc' := 86) (k9 := 51) (p := 341) dX13_plan_83 rfl fX13_147 rfl rfl rfl (MO (A := A) hM) (M_plans (A := A) hM) ?_
                  refine aw_iconst (pc' := 87) (by decide) dX13_plan_86 rfl ?_
                  refine aw_aload_n (pc' := 88) rfl dX13_plan_87 rfl ?_
                  refine aw_geti (pc' := 91) (k9 := 52) dX13_plan_88 rfl fX13_383 rfl (by decide) rfl (MO (A := A) hM) ?_
                  refine aw_imul (pc' := 92) (by first | exact w32_id (by omega) (by omega) | rfl) dX13_plan_91 rfl ?_
                  refine aw_iload_n (pc' := 93) rfl dX13_plan_92 rfl ?_
                  refine aw_iast (pc' := 94) dX13_plan_93 rfl (MA_plans (A := A) hM) (by omega) (by omega) ?_
                  refine aw_aload_n (pc' := 95) rfl dX13_plan_94 rfl ?_
                  refine aw_getp (pc' := 98) (k9 := 51) (p := 341) dX13_plan_95 rfl fX13_147 rfl rfl rfl (MO (A := A) hM) (M_plans (A := A) hM) ?_
                  refine aw_iconst (pc' := 99) (by decide) dX13_plan_98 rfl ?_
                  refine aw_aload_n (pc' := 100) rfl dX13_plan_99 rfl ?_
                  refine aw_geti (pc' := 103) (k9 := 52) dX13_plan_100 rfl fX13_383 rfl (by decide) rfl (MO (A := A) hM) ?_
                  try simp only [hv_set, hv_cpy, hv_pset, hp_set, hp_cpy, Int.reduceEq, false_and, and_false, true_and, and_true, if_false, if_true, reduceIte]
                  refine aw_imul (pc' := 104) (by first | exact w32_id (by omega) (by omega) | rfl) dX13_plan_103 rfl ?_
                  refine aw_iconst (pc' := 105) (by decide) dX13_plan_104 rfl ?_
                  refine aw_iadd (pc' := 106) (by first | exact w32_id (by omega) (by omega) | rfl) dX13_plan_105 rfl ?_
                  refine aw_iload_n (pc' := 107) rfl dX13_plan_106 rfl ?_
                  refine aw_iast (pc' := 108) dX13_plan_107 rfl (MA_plans (A := A) hM) (by omega) (by omega) ?_
                  refine aw_aload_n (pc' := 109) rfl dX13_plan_108 rfl ?_
                  refine aw_dup (pc' := 110) rfl dX13_plan_109 rfl ?_
                  refine aw_geti (pc' := 113) (k9 := 52) dX13_plan_110 rfl fX13_383 rfl (by decide) rfl (MO (A := A) hM) ?_
                  try simp only [hv_set, hv_cpy, hv_pset, hp_set, hp_cpy, Int.reduceEq, false_and, and_false, true_and, and_true, if_false, if_true, reduceIte]
                  refine aw_iconst (pc' := 114) (by decide) dX13_plan_113 rfl ?_
                  refine aw_iadd (pc' := 115) (by first | exact w32_id (by omega) (by omega) | rfl) dX13_plan_114 rfl ?_
                  refine aw_puti (pc' := 118) (k9 := 52) dX13_plan_115 rfl fX13_383 rfl rfl rfl (MO (A := A) hM) ?_
                  refine aw_aload_n (pc' := 119) rfl dX13_plan_118 rfl ?_
                  refine aw_geti (pc' := 122) (k9 := 52) dX13_plan_119 rfl fX13_383 rfl (by decide) rfl (MO (A := A) hM) ?_
                  try simp only [hv_set, hv_cpy, hv_pset, hp_set, hp_cpy, Int.reduceEq, false_and, and_false, true_and, and_true, if_false, if_true, reduceIte]
                  refine AW.ret (some (vi _)) dX13_plan_122 trivial ?_
                  first | exact hC (by omega) | exact hN (by omega) (by omega) | exact hF (by omega) (by omega) | exact hO (by omega) (by omega)
                · replace c_76 := Classical.not_not.mp c_76
                  refine aw_bipush (pc' := 81) (by decide +kernel) dX13_plan_79 rfl ?_
                  refine AW.ret (some (vi _)) dX13_plan_81 trivial ?_
                  first | exact hC (by omega) | exact hN (by omega) (by omega) | exact hF (by omega) (by omega) | exact hO (by omega) (by omega)
            · replace c_38 := Classical.not_not.mp c_38
              refine aw_iload_n (pc' := 42) rfl dX13_plan_41 rfl ?_
              refine aw_i2l (pc' := 43) dX13_plan_42 rfl ?_
              refine aw_lconst (x := 0) (pc' := 44) (by decide +kernel) dX13_plan_43 rfl ?_
              refine aw_ldc2 (x := (2)) (pc' := 47) qX13_263 (by decide) dX13_plan_44 rfl ?_
              refine aw_callS (d' := d - 1) (as := [_, _, _]) (pc' := 50) kX13_in tX13_in lX13_177 dX13_plan_47 rfl rfl (Nat.le_of_ble_eq_true rfl) (by omega) ?_
              refine c_in (by omega) (fun g1_47 g2_47 => ?_) (fun g0_47 => ?_)
              · refine aw_if_ne (pt := 58) (pf := 53) dX13_plan_50 (by decide) rfl (fun _ => ?_) (fun c_50 => absurd (by decide) c_50)
                refine aw_iconst (pc' := 59) (by decide) dX13_plan_58 rfl ?_
                refine aw_goto (pc' := 63) dX13_plan_59 (by decide) ?_
                refine aw_istore_n (pc' := 64) (lv' := [_, _, _, _]) dX13_plan_63 rfl (by decide) rfl ?_
                refine aw_iload_n (pc' := 65) rfl dX13_plan_64 rfl ?_
                refine aw_if_ne (pt := 70) (pf := 68) dX13_plan_65 (by decide) rfl (fun _ => ?_) (fun c_65 => absurd (by decide) c_65)
                refine aw_aload_n (pc' := 71) rfl dX13_plan_70 rfl ?_
                refine aw_geti (pc' := 74) (k9 := 52) dX13_plan_71 rfl fX13_383 rfl (by decide) rfl (MO (A := A) hM) ?_
                refine aw_bipush (pc' := 76) (by decide +kernel) dX13_plan_74 rfl ?_
                refine aw_icmp_ne (pt := 82) (pf := 79) dX13_plan_76 (by decide) rfl (fun c_76 => ?_) (fun c_76 => ?_)
                · refine aw_aload_n (pc' := 83) rfl dX13_plan_82 rfl ?_
                  refine aw_getp (pc' := 86) (k9 := 51) (p := 341) dX13_plan_83 rfl fX13_147 rfl rfl rfl (MO (A := A) hM) (M_plans (A := A) hM) ?_
                  refine aw_iconst (pc' := 87) (by decide) dX13_plan_86 rfl ?_
                  refine aw_aload_n (pc' := 88) rfl dX13_plan_87 rfl ?_
                  refine aw_geti (pc' := 91) (k9 := 52) dX13_plan_88 rfl fX13_383 rfl (by decide) rfl (MO (A := A) hM) ?_
                  refine aw_imul (pc' := 92) (by first | exact w32_id (by omega) (by omega) | rfl) dX13_plan_91 rfl ?_
                  refine aw_iload_n (pc' := 93) rfl dX13_plan_92 rfl ?_
                  refine aw_iast (pc' := 94) dX13_plan_93 rfl (MA_plans (A := A) hM) (by omega) (by omega) ?_
                  refine aw_aload_n (pc' := 95) rfl dX13_plan_94 rfl ?_
                  refine aw_getp (pc' := 98) (k9 := 51) (p := 341) dX13_plan_95 rfl fX13_147 rfl rfl rfl (MO (A := A) hM) (M_plans (A := A) hM) ?_
                  refine aw_iconst (pc' := 99) (by decide) dX13_plan_98 rfl ?_
                  refine aw_aload_n (pc' := 100) rfl dX13_plan_99 rfl ?_
                  refine aw_geti (pc' := 103) (k9 := 52) dX13_plan_100 rfl fX13_383 rfl (by decide) rfl (MO (A := A) hM) ?_
                  try simp only [hv_set, hv_cpy, hv_pset, hp_set, hp_cpy, Int.reduceEq, false_and, and_false, true_and, and_true, if_false, if_true, reduceIte]
                  refine aw_imul (pc' := 104) (by first | exact w32_id (by omega) (by omega) | rfl) dX13_plan_103 rfl ?_
                  refine aw_iconst (pc' := 105) (by decide) dX13_plan_104 rfl ?_
                  refine aw_iadd (pc' := 106) (by first | exact w32_id (by omega) (by omega) | rfl) dX13_plan_105 rfl ?_
                  refine aw_iload_n (pc' := 107) rfl dX13_plan_106 rfl ?_
                  refine aw_iast (pc' := 108) dX13_plan_107 rfl (MA_plans (A := A) hM) (by omega) (by omega) ?_
                  refine aw_aload_n (pc' := 109) rfl dX13_plan_108 rfl ?_
                  refine aw_dup (pc' := 110) rfl dX13_plan_109 rfl ?_
                  refine aw_geti (pc' := 113) (k9 := 52) dX13_plan_110 rfl fX13_383 rfl (by decide) rfl (MO (A := A) hM) ?_
                  try simp only [hv_set, hv_cpy, hv_pset, hp_set, hp_cpy, Int.reduceEq, false_and, and_false, true_and, and_true, if_false, if_true, reduceIte]
                  refine aw_iconst (pc' := 114) (by decide) dX13_plan_113 rfl ?_
                  refine aw_iadd (pc' := 115) (by first | exact w32_id (by omega) (by omega) | rfl) dX13_plan_114 rfl ?_
                  refine aw_puti (pc' := 118) (k9 := 52) dX13_plan_115 rfl fX13_383 rfl rfl rfl (MO (A := A) hM) ?_
                  refine aw_aload_n (pc' := 119) rfl dX13_plan_118 rfl ?_
                  refine aw_geti (pc' := 122) (k9 := 52) dX13_plan_119 rfl fX13_383 rfl (by decide) rfl (MO (A := A) hM) ?_
                  try simp only [hv_set, hv_cpy, hv_pset, hp_set, hp_cpy, Int.reduceEq, false_and, and_false, true_and, and_true, if_false, if_true, reduceIte]
                  refine AW.ret (some (vi _)) dX13_plan_122 trivial ?_
                  first | exact hC (by omega) | exact hN (by omega) (by omega) | exact hF (by omega) (by omega) | exact hO (by omega) (by omega)
                · replace c_76 := Classical.not_not.mp c_76
                  refine aw_bipush (pc' := 81) (by decide +kernel) dX13_plan_79 rfl ?_
                  refine AW.ret (some (vi _)) dX13_plan_81 trivial ?_
                  first | exact hC (by omega) | exact hN (by omega) (by omega) | exact hF (by omega) (by omega) | exact hO (by omega) (by omega)
              · refine aw_if_ne (pt := 58) (pf := 53) dX13_plan_50 (by decide) rfl (fun c_50 => absurd c_50 (by decide)) (fun _ => ?_)
                refine aw_iload_n (pc' := 54) rfl dX13_plan_53 rfl ?_
                refine aw_iconst (pc' := 55) (by decide) dX13_plan_54 rfl ?_
                refine aw_icmp_ne (pt := 62) (pf := 58) dX13_plan_55 (by decide) rfl (fun c_55 => ?_) (fun c_55 => ?_)
                · refine aw_iconst (pc' := 63) (by decide) dX13_plan_62 rfl ?_
                  refine aw_istore_n (pc' := 64) (lv' := [_, _, _, _]) dX13_plan_63 rfl (by decide) rfl ?_
                  refine aw_iload_n (pc' := 65) rfl dX13_plan_64 rfl ?_
                  refine aw_if_ne (pt := 70) (pf := 68) dX13_plan_65 (by decide) rfl (fun c_65 => absurd c_65 (by decide)) (fun _ => ?_)
                  refine aw_iconst (pc' := 69) (by decide) dX13_plan_68 rfl ?_
                  refine AW.ret (some (vi _)) dX13_plan_69 trivial ?_
                  first | exact hC (by omega) | exact hN (by omega) (by omega) | exact hF (by omega) (by omega) | exact hO (by omega) (by omega)
                · replace c_55 := Classical.not_not.mp c_55
                  refine aw_iconst (pc' := 59) (by decide) dX13_plan_58 rfl ?_
                  refine aw_goto (pc' := 63) dX13_plan_59 (by decide) ?_
                  refine aw_istore_n (pc' := 64) (lv' := [_, _, _, _]) dX13_plan_63 rfl (by decide) rfl ?_
                  refine aw_iload_n (pc' := 65) rfl dX13_plan_64 rfl ?_
                  refine aw_if_ne (pt := 70) (pf := 68) dX13_plan_65 (by decide) rfl (fun _ => ?_) (fun c_65 => absurd (by decide) c_65)
                  refine aw_aload_n (pc' := 71) rfl dX13_plan_70 rfl ?_
                  refine aw_geti (pc' := 74) (k9 := 52) dX13_plan_71 rfl fX13_383 rfl (by decide) rfl (MO (A := A) hM) ?_
                  refine aw_bipush (pc' := 76) (by decide +kernel) dX13_plan_74 rfl ?_
                  refine aw_icmp_ne (pt := 82) (pf := 79) dX13_plan_76 (by decide) rfl (fun c_76 => ?_) (fun c_76 => ?_)
                  · refine aw_aload_n (pc' := 83) rfl dX13_plan_82 rfl ?_
                    refine aw_getp (pc' := 86) (k9 := 51) (p := 341) dX13_plan_83 rfl fX13_147 rfl rfl rfl (MO (A := A) hM) (M_plans (A := A) hM) ?_
                    refine aw_iconst (pc' := 87) (by decide) dX13_plan_86 rfl ?_
                    refine aw_aload_n (pc' := 88) rfl dX13_plan_87 rfl ?_
                    refine aw_geti (pc' := 91) (k9 := 52) dX13_plan_88 rfl fX13_383 rfl (by decide) rfl (MO (A := A) hM) ?_
                    refine aw_imul (pc' := 92) (by first | exact w32_id (by omega) (by omega) | rfl) dX13_plan_91 rfl ?_
                    refine aw_iload_n (pc' := 93) rfl dX13_plan_92 rfl ?_
                    refine aw_iast (pc' := 94) dX13_plan_93 rfl (MA_plans (A := A) hM) (by omega) (by omega) ?_
                    refine aw_aload_n (pc' := 95) rfl dX13_plan_94 rfl ?_
                    refine aw_getp (pc' := 98) (k9 := 51) (p := 341) dX13_plan_95 rfl fX13_147 rfl rfl rfl (MO (A := A) hM) (M_plans (A := A) hM) ?_
                    refine aw_iconst (pc' := 99) (by decide) dX13_plan_98 rfl ?_
                    refine aw_aload_n (pc' := 100) rfl dX13_plan_99 rfl ?_
                    refine aw_geti (pc' := 103) (k9 := 52) dX13_plan_100 rfl fX13_383 rfl (by decide) rfl (MO (A := A) hM) ?_
                    try simp only [hv_set, hv_cpy, hv_pset, hp_set, hp_cpy, Int.reduceEq, false_and, and_false, true_and, and_true, if_false, if_true, reduceIte]
                    refine aw_imul (pc' := 104) (by first | exact w32_id (by omega) (by omega) | rfl) dX13_plan_103 rfl ?_
                    refine aw_iconst (pc' := 105) (by decide) dX13_plan_104 rfl ?_
                    refine aw_iadd (pc' := 106) (by first | exact w32_id (by omega) (by omega) | rfl) dX13_plan_105 rfl ?_
                    refine aw_iload_n (pc' := 107) rfl dX13_plan_106 rfl ?_
                    refine aw_iast (pc' := 108) dX13_plan_107 rfl (MA_plans (A := A) hM) (by omega) (by omega) ?_
                    refine aw_aload_n (pc' := 109) rfl dX13_plan_108 rfl ?_
                    refine aw_dup (pc' := 110) rfl dX13_plan_109 rfl ?_
                    refine aw_geti (pc' := 113) (k9 := 52) dX13_plan_110 rfl fX13_383 rfl (by decide) rfl (MO (A := A) hM) ?_
                    try simp only [hv_set, hv_cpy, hv_pset, hp_set, hp_cpy, Int.reduceEq, false_and, and_false, true_and, and_true, if_false, if_true, reduceIte]
                    refine aw_iconst (pc' := 114) (by decide) dX13_plan_113 rfl ?_
                    refine aw_iadd (pc' := 115) (by first | exact w32_id (by omega) (by omega) | rfl) dX13_plan_114 rfl ?_
                    refine aw_puti (pc' := 118) (k9 := 52) dX13_plan_115 rfl fX13_383 rfl rfl rfl (MO (A := A) hM) ?_
                    refine aw_aload_n (pc' := 119) rfl dX13_plan_118 rfl ?_
                    refine aw_geti (pc' := 122) (k9 := 52) dX13_plan_119 rfl fX13_383 rfl (by decide) rfl (MO (A := A) hM) ?_
                    try simp only [hv_set, hv_cpy, hv_pset, hp_set, hp_cpy, Int.reduceEq, false_and, and_false, true_and, and_true, if_false, if_true, reduceIte]
                    refine AW.ret (some (vi _)) dX13_plan_122 trivial ?_
                    first | exact hC (by omega) | exact hN (by omega) (by omega) | exact hF (by omega) (by omega) | exact hO (by omega) (by omega)
                  · replace c_76 := Classical.not_not.mp c_76
                    refine aw_bipush (pc' := 81) (by decide +kernel) dX13_plan_79 rfl ?_
                    refine AW.ret (some (vi _)) dX13_plan_81 trivial ?_
                    first | exact hC (by omega) | exact hN (by omega) (by omega) | exact hF (by omega) (by omega) | exact hO (by omega) (by omega)
  · replace c_2 := Classical.not_not.mp c_2
    refine aw_aload_n (pc' := 6) rfl dX13_plan_5 rfl ?_
    refine aw_iconst (pc' := 7) (by decide) dX13_plan_6 rfl ?_
    refine aw_puti (pc' := 10) (k9 := 52) dX13_plan_7 rfl fX13_383 rfl rfl rfl (MO (A := A) hM) ?_
    refine aw_iconst (pc' := 11) (by decide) dX13_plan_10 rfl ?_
    refine AW.ret (some (vi _)) dX13_plan_11 trivial ?_
    first | exact hC (by omega) | exact hN (by omega) (by omega) | exact hF (by omega) (by omega) | exact hO (by omega) (by omega)

set_option maxRecDepth 20000 in
theorem c_book {d : Nat} {n v : Int} {A : AHp} {Q : Option AV → AHp → Prop} (hd : 2 ≤ d) (hM : MLAY A) (hs9 : 0 ≤ hv A 307 54 ∧ hv A 307 54 ≤ 8)
  (hC : n = -1 → Q (some (vi 0)) (hset A 307 54 0)) (hN : n ≠ -1 → ¬ (0 ≤ n ∧ n ≤ 4) → Q (some (vi (-1))) A) (hF : 0 ≤ n → n ≤ 4 → hv A 307 54 = 8 → Q (some (vi (-4))) A)
  (hO : 0 ≤ n → n ≤ 4 → hv A 307 54 < 8 → Q (some (vi (hv A 307 54 + 1))) (hset (hset (hset A 342 (2 * hv A 307 54) n) 342 (2 * hv A 307 54 + 1) v) 307 54 (hv A 307 54 + 1))) : CALL d mX13_book [vr 307, vi n, vi v] A Q := by
  refine CALL.of (by decide) (Nat.le_of_ble_eq_true rfl) ?_
  change AW d mX13_book 0 [some (vr 307), some (vi n), some (vi v)] [] A Q
  refine aw_iload_n (pc' := 1) rfl dX13_book_0 rfl ?_
  refine aw_iconst (pc' := 2) (by decide) dX13_book_1 rfl ?_
  refine aw_icmp_ne (pt := 12) (pf := 5) dX13_book_2 (by decide) rfl (fun c_2 => ?_) (fun c_2 => ?_)
  · refine aw_iload_n (pc' := 13) rfl dX13_book_12 rfl ?_
    refine aw_callS (d' := d - 1) (as := [_]) (pc' := 16) kX13_isName tX13_isName lX13_372 dX13_book_13 rfl rfl (Nat.le_of_ble_eq_true rfl) (by omega) ?_
    refine c_isName (by omega) (fun n1_13 n2_13 => ?_) (fun n0_13 => ?_)
    · refine aw_if_ne (pt := 21) (pf := 19) dX13_book_16 (by decide) rfl (fun _ => ?_) (fun c_16 => absurd (by decide) c_16)
      refine aw_aload_n (pc' := 22) rfl dX13_book_21 rfl ?_
      refine aw_geti (pc' := 25) (k9 := 54) dX13_book_22 rfl fX13_386 rfl (by decide) rfl (MO (A := A) hM) ?_
      refine aw_bipush (pc' := 27) (by decide +kernel) dX13_book_25 rfl ?_
      refine aw_icmp_ne (pt := 33) (pf := 30) dX13_book_27 (by decide) rfl (fun c_27 => ?_) (fun c_27 => ?_)
      · refine aw_aload_n (pc' := 34) rfl dX13_book_33 rfl ?_
        refine aw_getp (pc' := 37) (k9 := 53) (p := 342) dX13_book_34 rfl fX13_150 rfl rfl rfl (MO (A := A) hM) (M_books (A := A) hM) ?_
        refine aw_iconst (pc' := 38) (by decide) dX13_book_37 rfl ?_
        refine aw_aload_n (pc' := 39) rfl dX13_book_38 rfl ?_
        refine aw_geti (pc' := 42) (k9 := 54) dX13_book_39 rfl fX13_386 rfl (by decide) rfl (MO (A := A) hM) ?_
        refine aw_imul (pc' := 43) (by first | exact w32_id (by omega) (by omega) | rfl) dX13_book_42 rfl ?_
        refine aw_iload_n (pc' := 44) rfl dX13_book_43 rfl ?_
        refine aw_iast (pc' := 45) dX13_book_44 rfl (MA_books (A := A) hM) (by omega) (by omega) ?_
        refine aw_aload_n (pc' := 46) rfl dX13_book_45 rfl ?_
        refine aw_getp (pc' := 49) (k9 := 53) (p := 342) dX13_book_46 rfl fX13_150 rfl rfl rfl (MO (A := A) hM) (M_books (A := A) hM) ?_
        refine aw_iconst (pc' := 50) (by decide) dX13_book_49 rfl ?_
        refine aw_aload_n (pc' := 51) rfl dX13_book_50 rfl ?_
        refine aw_geti (pc' := 54) (k9 := 54) dX13_book_51 rfl fX13_386 rfl (by decide) rfl (MO (A := A) hM) ?_
        try simp only [hv_set, hv_cpy, hv_pset, hp_set, hp_cpy, Int.reduceEq, false_and, and_false, true_and, and_true, if_false, if_true, reduceIte]
        refine aw_imul (pc' := 55) (by first | exact w32_id (by omega) (by omega) | rfl) dX13_book_54 rfl ?_
        refine aw_iconst (pc' := 56) (by decide) dX13_book_55 rfl ?_
        refine aw_iadd (pc' := 57) (by first | exact w32_id (by omega) (by omega) | rfl) dX13_book_56 rfl ?_
        refine aw_iload_n (pc' := 58) rfl dX13_book_57 rfl ?_
        refine aw_iast (pc' := 59) dX13_book_58 rfl (MA_books (A := A) hM) (by omega) (by omega) ?_
        refine aw_aload_n (pc' := 60) rfl dX13_book_59 rfl ?_
        refine aw_dup (pc' := 61) rfl dX13_book_60 rfl ?_
        refine aw_geti (pc' := 64) (k9 := 54) dX13_book_61 rfl fX13_386 rfl (by decide) rfl (MO (A := A) hM) ?_
        try simp only [hv_set, hv_cpy, hv_pset, hp_set, hp_cpy, Int.reduceEq, false_and, and_false, true_and, and_true, if_false, if_true, reduceIte]
        refine aw_iconst (pc' := 65) (by decide) dX13_book_64 rfl ?_
        refine aw_iadd (pc' := 66) (by first | exact w32_id (by omega) (by omega) | rfl) dX13_book_65 rfl ?_
        refine aw_puti (pc' := 69) (k9 := 54) dX13_book_66 rfl fX13_386 rfl rfl rfl (MO (A := A) hM) ?_
        refine aw_aload_n (pc' := 70) rfl dX13_book_69 rfl ?_
        refine aw_geti (pc' := 73) (k9 := 54) dX13_book_70 rfl fX13_386 rfl (by decide) rfl (MO (A := A) hM) ?_
        try simp only [hv_set, hv_cpy, hv_pset, hp_set, hp_cpy, Int.reduceEq, false_and, and_false, true_and, and_true, if_false, if_true, reduceIte]
        refine AW.ret (some (vi _)) dX13_book_73 trivial ?_
        first | exact hC (by omega) | exact hN (by omega) (by omega) | exact hF (by omega) (by omega) (by omega) | exact hO (by omega) (by omega) (by omega)
      · replace c_27 := Classical.not_not.mp c_27
        refine aw_bipush (pc' := 32) (by decide +kernel) dX13_book_30 rfl ?_
        refine AW.ret (some (vi _)) dX13_book_32 trivial ?_
        first | exact hC (by omega) | exact hN (by omega) (by omega) | exact hF (by omega) (by omega) (by omega) | exact hO (by omega) (by omega) (by omega)
    · refine aw_if_ne (pt := 21) (pf := 19) dX13_book_16 (by decide) rfl (fun c_16 => absurd c_16 (by decide)) (fun _ => ?_)
      refine aw_iconst (pc' := 20) (by decide) dX13_book_19 rfl ?_
      refine AW.ret (some (vi _)) dX13_book_20 trivial ?_
      first | exact hC (by omega) | exact hN (by omega) (by omega) | exact hF (by omega) (by omega) (by omega) | exact hO (by omega) (by omega) (by omega)
  · replace c_2 := Classical.not_not.mp c_2
    refine aw_aload_n (pc' := 6) rfl dX13_book_5 rfl ?_
    refine aw_iconst (pc' := 7) (by decide) dX13_book_6 rfl ?_
    refine aw_puti (pc' := 10) (k9 := 54) dX13_book_7 rfl fX13_386 rfl rfl rfl (MO (A := A) hM) ?_
    refine aw_iconst (pc' := 11) (by decide) dX13_book_10 rfl ?_
    refine AW.ret (some (vi _)) dX13_book_11 trivial ?_
    first | exact hC (by omega) | exact hN (by omega) (by omega) | exact hF (by omega) (by omega) (by omega) | exact hO (by omega) (by omega) (by omega)

set_option maxRecDepth 20000 in
theorem c_read {d : Nat} {t i : Int} {A : AHp} {Q : Option AV → AHp → Prop} (hd : 1 ≤ d) (hM : MLAY A) (hsz : ∀ t, 0 ≤ t → t ≤ 5 → 0 ≤ hv A 348 t ∧ hv A 348 t ≤ 60)
  (hN : ¬ (0 ≤ t ∧ t ≤ 5 ∧ 0 ≤ i ∧ i < hv A 348 t) → Q (some (vl (-9223372036854775808))) A) (hO : 0 ≤ t → t ≤ 5 → 0 ≤ i → i < hv A 348 t → Q (some (vl (hv A 349 (60 * t + i)))) A) : CALL d mX13_read [vr 307, vi t, vi i] A Q := by
  refine CALL.of (by decide) (Nat.le_of_ble_eq_true rfl) ?_
  change AW d mX13_read 0 [some (vr 307), some (vi t), some (vi i)] [] A Q
  refine aw_iload_n (pc' := 1) rfl dX13_read_0 rfl ?_
  refine aw_i2l (pc' := 2) dX13_read_1 rfl ?_
  refine aw_lconst (x := 0) (pc' := 3) (by decide +kernel) dX13_read_2 rfl ?_
  refine aw_ldc2 (x := (5)) (pc' := 6) qX13_404 (by decide) dX13_read_3 rfl ?_
  refine aw_callS (d' := d - 1) (as := [_, _, _]) (pc' := 9) kX13_in tX13_in lX13_177 dX13_read_6 rfl rfl (Nat.le_of_ble_eq_true rfl) (by omega) ?_
  refine c_in (by omega) (fun g1_6 g2_6 => ?_) (fun g0_6 => ?_)
  · have hz := hsz t (by omega) (by omega)
    refine aw_if_eq (pt := 44) (pf := 12) dX13_read_9 (by decide) rfl (fun c_9 => absurd c_9 (by decide)) (fun _ => ?_)
    refine aw_iload_n (pc' := 13) rfl dX13_read_12 rfl ?_
    refine aw_i2l (pc' := 14) dX13_read_13 rfl ?_
    refine aw_lconst (x := 0) (pc' := 15) (by decide +kernel) dX13_read_14 rfl ?_
    refine aw_aload_n (pc' := 16) rfl dX13_read_15 rfl ?_
    refine aw_getp (pc' := 19) (k9 := 61) (p := 348) dX13_read_16 rfl fX13_168 rfl rfl rfl (MO (A := A) hM) (M_sizes (A := A) hM) ?_
    refine aw_iload_n (pc' := 20) rfl dX13_read_19 rfl ?_
    refine aw_iald (pc' := 21) dX13_read_20 rfl (MA_sizes (A := A) hM) (by omega) (by omega) ?_
    refine aw_iconst (pc' := 22) (by decide) dX13_read_21 rfl ?_
    refine aw_isub (pc' := 23) (by first | exact w32_id (by omega) (by omega) | rfl) dX13_read_22 rfl ?_
    refine aw_i2l (pc' := 24) dX13_read_23 rfl ?_
    refine aw_callS (d' := d - 1) (as := [_, _, _]) (pc' := 27) kX13_in tX13_in lX13_177 dX13_read_24 rfl rfl (Nat.le_of_ble_eq_true rfl) (by omega) ?_
    refine c_in (by omega) (fun g1_24 g2_24 => ?_) (fun g0_24 => ?_)
    · refine aw_if_eq (pt := 44) (pf := 30) dX13_read_27 (by decide) rfl (fun c_27 => absurd c_27 (by decide)) (fun _ => ?_)
      refine aw_aload_n (pc' := 31) rfl dX13_read_30 rfl ?_
      refine aw_getp (pc' := 34) (k9 := 62) (p := 349) dX13_read_31 rfl fX13_171 rfl rfl rfl (MO (A := A) hM) (M_items (A := A) hM) ?_
      refine aw_bipush (pc' := 36) (by decide +kernel) dX13_read_34 rfl ?_
      refine aw_iload_n (pc' := 37) rfl dX13_read_36 rfl ?_
      refine aw_imul (pc' := 38) (by first | exact w32_id (by omega) (by omega) | rfl) dX13_read_37 rfl ?_
      refine aw_iload_n (pc' := 39) rfl dX13_read_38 rfl ?_
      refine aw_iadd (pc' := 40) (by first | exact w32_id (by omega) (by omega) | rfl) dX13_read_39 rfl ?_
      refine aw_lald (pc' := 41) dX13_read_40 rfl (MA_items (A := A) hM) (by omega) (by omega) ?_
      refine aw_goto (pc' := 47) dX13_read_41 (by decide) ?_
      refine AW.ret (some (vl _)) dX13_read_47 trivial ?_
      first | exact hN (by omega) | exact hO (by omega) (by omega) (by omega) (by omega)
    · refine aw_if_eq (pt := 44) (pf := 30) dX13_read_27 (by decide) rfl (fun _ => ?_) (fun c_27 => absurd (by decide) c_27)
      refine aw_ldc2 (x := (-9223372036854775808)) (pc' := 47) qX13_267 (by decide) dX13_read_44 rfl ?_
      refine AW.ret (some (vl _)) dX13_read_47 trivial ?_
      first | exact hN (by omega) | exact hO (by omega) (by omega) (by omega) (by omega)
  · refine aw_if_eq (pt := 44) (pf := 12) dX13_read_9 (by decide) rfl (fun _ => ?_) (fun c_9 => absurd (by decide) c_9)
    refine aw_ldc2 (x := (-9223372036854775808)) (pc' := 47) qX13_267 (by decide) dX13_read_44 rfl ?_
    refine AW.ret (some (vl _)) dX13_read_47 trivial ?_
    first | exact hN (by omega) | exact hO (by omega) (by omega) (by omega) (by omega)

/-- what an item of a sort keeps of a long -/
def lowB (s v : Int) : Int := if s = 0 then (Int32.ofInt (w32 v)).toInt8.toInt else if s = 1 then (Int32.ofInt (w32 v)).toInt16.toInt else if s = 2 then w32 v else if s = 3 then v else if v = 0 then 0 else 1
set_option maxRecDepth 20000 in
theorem c_lowestBits {d : Nat} {s v : Int} {A : AHp} {Q : Option AV → AHp → Prop} (hd : 0 ≤ d) (hO : Q (some (vl (lowB s v))) A) : CALL d mX13_lowestBits [vi s, vl v] A Q := by
  refine CALL.of (by decide) (Nat.le_of_ble_eq_true rfl) ?_
  change AW d mX13_lowestBits 0 [some (vi s), some (vl v), none] [] A Q
  refine aw_iload_n (pc' := 1) rfl dX13_lowestBits_0 rfl ?_
  by_cases z_1_0 : s = 0
  · refine aw_tabIn (pc' := 32) dX13_lowestBits_1 (by omega) (by omega) (off := 31) (by rw [z_1_0]; rfl) (by decide) ?_
    refine aw_lload_n (pc' := 33) rfl dX13_lowestBits_32 rfl ?_
    refine aw_l2i (pc' := 34) (by first | exact w32_id (by omega) (by omega) | rfl) dX13_lowestBits_33 rfl ?_
    refine aw_i2b (pc' := 35) rfl dX13_lowestBits_34 rfl ?_
    refine aw_i2l (pc' := 36) dX13_lowestBits_35 rfl ?_
    refine AW.ret (some (vl _)) dX13_lowestBits_36 trivial ?_
    unfold lowB at hO
    first | (rw [if_pos (by omega)] at hO; exact hO) | (rw [if_neg (by omega), if_pos (by omega)] at hO; exact hO) | (rw [if_neg (by omega), if_neg (by omega), if_pos (by omega)] at hO; exact hO) | (rw [if_neg (by omega), if_neg (by omega), if_neg (by omega), if_pos (by omega)] at hO; exact hO) | (rw [if_neg (by omega), if_neg (by omega), if_neg (by omega), if_neg (by omega), if_pos (by omega)] at hO; exact hO) | (rw [if_neg (by omega), if_neg (by omega), if_neg (by omega), if_neg (by omega), if_neg (by omega)] at hO; exact hO)
  by_cases z_1_1 : s = 1
  · refine aw_tabIn (pc' := 37) dX13_lowestBits_1 (by omega) (by omega) (off := 36) (by rw [z_1_1]; rfl) (by decide) ?_
    refine aw_lload_n (pc' := 38) rfl dX13_lowestBits_37 rfl ?_
    refine aw_l2i (pc' := 39) (by first | exact w32_id (by omega) (by omega) | rfl) dX13_lowestBits_38 rfl ?_
    refine aw_i2s (pc' := 40) rfl dX13_lowestBits_39 rfl ?_
    refine aw_i2l (pc' := 41) dX13_lowestBits_40 rfl ?_
    refine AW.ret (some (vl _)) dX13_lowestBits_41 trivial ?_
    unfold lowB at hO
    first | (rw [if_pos (by omega)] at hO; exact hO) | (rw [if_neg (by omega), if_pos (by omega)] at hO; exact hO) | (rw [if_neg (by omega), if_neg (by omega), if_pos (by omega)] at hO; exact hO) | (rw [if_neg (by omega), if_neg (by omega), if_neg (by omega), if_pos (by omega)] at hO; exact hO) | (rw [if_neg (by omega), if_neg (by omega), if_neg (by omega), if_neg (by omega), if_pos (by omega)] at hO; exact hO) | (rw [if_neg (by omega), if_neg (by omega), if_neg (by omega), if_neg (by omega), if_neg (by omega)] at hO; exact hO)
  by_cases z_1_2 : s = 2
  · refine aw_tabIn (pc' := 42) dX13_lowestBits_1 (by omega) (by omega) (off := 41) (by rw [z_1_2]; rfl) (by decide) ?_
    refine aw_lload_n (pc' := 43) rfl dX13_lowestBits_42 rfl ?_
    refine aw_l2i (pc' := 44) (by first | exact w32_id (by omega) (by omega) | rfl) dX13_lowestBits_43 rfl ?_
    refine aw_i2l (pc' := 45) dX13_lowestBits_44 rfl ?_
    refine AW.ret (some (vl _)) dX13_lowestBits_45 trivial ?_
    unfold lowB at hO
    first | (rw [if_pos (by omega)] at hO; exact hO) | (rw [if_neg (by omega), if_pos (by omega)] at hO; exact hO) | (rw [if_neg (by omega), if_neg (by omega), if_pos (by omega)] at hO; exact hO) | (rw [if_neg (by omega), if_neg (by omega), if_neg (by omega), if_pos (by omega)] at hO; exact hO) | (rw [if_neg (by omega), if_neg (by omega), if_neg (by omega), if_neg (by omega), if_pos (by omega)] at hO; exact hO) | (rw [if_neg (by omega), if_neg (by omega), if_neg (by omega), if_neg (by omega), if_neg (by omega)] at hO; exact hO)
  by_cases z_1_3 : s = 3
  · refine aw_tabIn (pc' := 46) dX13_lowestBits_1 (by omega) (by omega) (off := 45) (by rw [z_1_3]; rfl) (by decide) ?_
    refine aw_lload_n (pc' := 47) rfl dX13_lowestBits_46 rfl ?_
    refine AW.ret (some (vl _)) dX13_lowestBits_47 trivial ?_
    unfold lowB at hO
    first | (rw [if_pos (by omega)] at hO; exact hO) | (rw [if_neg (by omega), if_pos (by omega)] at hO; exact hO) | (rw [if_neg (by omega), if_neg (by omega), if_pos (by omega)] at hO; exact hO) | (rw [if_neg (by omega), if_neg (by omega), if_neg (by omega), if_pos (by omega)] at hO; exact hO) | (rw [if_neg (by omega), if_neg (by omega), if_neg (by omega), if_neg (by omega), if_pos (by omega)] at hO; exact hO) | (rw [if_neg (by omega), if_neg (by omega), if_neg (by omega), if_neg (by omega), if_neg (by omega)] at hO; exact hO)
  refine aw_tabOut (pc' := 48) dX13_lowestBits_1 (by omega) (by decide) ?_
  refine aw_lload_n (pc' := 49) rfl dX13_lowestBits_48 rfl ?_
  refine aw_lconst (x := 0) (pc' := 50) (by decide +kernel) dX13_lowestBits_49 rfl ?_
  refine aw_lcmp (pc' := 51) dX13_lowestBits_50 rfl ?_
  refine aw_if_ne (pt := 58) (pf := 54) dX13_lowestBits_51 (by decide) rfl (fun c_51 => ?_) (fun c_51 => ?_)
  · replace c_51 := (not_congr cmp_eq).mp c_51
    refine aw_lconst (x := 1) (pc' := 59) (by decide +kernel) dX13_lowestBits_58 rfl ?_
    refine AW.ret (some (vl _)) dX13_lowestBits_59 trivial ?_
    unfold lowB at hO
    first | (rw [if_pos (by omega)] at hO; exact hO) | (rw [if_neg (by omega), if_pos (by omega)] at hO; exact hO) | (rw [if_neg (by omega), if_neg (by omega), if_pos (by omega)] at hO; exact hO) | (rw [if_neg (by omega), if_neg (by omega), if_neg (by omega), if_pos (by omega)] at hO; exact hO) | (rw [if_neg (by omega), if_neg (by omega), if_neg (by omega), if_neg (by omega), if_pos (by omega)] at hO; exact hO) | (rw [if_neg (by omega), if_neg (by omega), if_neg (by omega), if_neg (by omega), if_neg (by omega)] at hO; exact hO)
  · replace c_51 := Classical.not_not.mp c_51
    replace c_51 := (cmp_eq).mp c_51
    refine aw_lconst (x := 0) (pc' := 55) (by decide +kernel) dX13_lowestBits_54 rfl ?_
    refine aw_goto (pc' := 59) dX13_lowestBits_55 (by decide) ?_
    refine AW.ret (some (vl _)) dX13_lowestBits_59 trivial ?_
    unfold lowB at hO
    first | (rw [if_pos (by omega)] at hO; exact hO) | (rw [if_neg (by omega), if_pos (by omega)] at hO; exact hO) | (rw [if_neg (by omega), if_neg (by omega), if_pos (by omega)] at hO; exact hO) | (rw [if_neg (by omega), if_neg (by omega), if_neg (by omega), if_pos (by omega)] at hO; exact hO) | (rw [if_neg (by omega), if_neg (by omega), if_neg (by omega), if_neg (by omega), if_pos (by omega)] at hO; exact hO) | (rw [if_neg (by omega), if_neg (by omega), if_neg (by omega), if_neg (by omega), if_neg (by omega)] at hO; exact hO)

set_option maxRecDepth 20000 in
theorem c_item {d : Nat} {t i v : Int} {A : AHp} {Q : Option AV → AHp → Prop} (hd : 1 ≤ d) (hM : MLAY A) (hsz : ∀ t, 0 ≤ t → t ≤ 5 → 0 ≤ hv A 348 t ∧ hv A 348 t ≤ 60)
  (hN : ¬ (0 ≤ t ∧ t ≤ 5) → Q (some (vi (-1))) A) (h0 : 0 ≤ t → t ≤ 5 → hv A 347 t = -1 → Q (some (vi (-11))) A) (hP : 0 ≤ t → t ≤ 5 → hv A 347 t ≠ -1 → ¬ (0 ≤ i ∧ i < hv A 348 t) → Q (some (vi (-13))) A)
  (hO : 0 ≤ t → t ≤ 5 → hv A 347 t ≠ -1 → 0 ≤ i → i < hv A 348 t → Q (some (vi 1)) (hset A 349 (60 * t + i) (lowB (hv A 347 t) v))) : CALL d mX13_item [vr 307, vi t, vi i, vl v] A Q := by
  refine CALL.of (by decide) (Nat.le_of_ble_eq_true rfl) ?_
  change AW d mX13_item 0 [some (vr 307), some (vi t), some (vi i), some (vl v), none] [] A Q
  refine aw_iload_n (pc' := 1) rfl dX13_item_0 rfl ?_
  refine aw_i2l (pc' := 2) dX13_item_1 rfl ?_
  refine aw_lconst (x := 0) (pc' := 3) (by decide +kernel) dX13_item_2 rfl ?_
  refine aw_ldc2 (x := (5)) (pc' := 6) qX13_404 (by decide) dX13_item_3 rfl ?_
  refine aw_callS (d' := d - 1) (as := [_, _, _]) (pc' := 9) kX13_in tX13_in lX13_177 dX13_item_6 rfl rfl (Nat.le_of_ble_eq_true rfl) (by omega) ?_
  refine c_in (by omega) (fun g1_6 g2_6 => ?_) (fun g0_6 => ?_)
  · have hz := hsz t (by omega) (by omega)
    refine aw_if_ne (pt := 14) (pf := 12) dX13_item_9 (by decide) rfl (fun _ => ?_) (fun c_9 => absurd (by decide) c_9)
    refine aw_aload_n (pc' := 15) rfl dX13_item_14 rfl ?_
    refine aw_getp (pc' := 18) (k9 := 60) (p := 347) dX13_item_15 rfl fX13_165 rfl rfl rfl (MO (A := A) hM) (M_sorts (A := A) hM) ?_
    refine aw_iload_n (pc' := 19) rfl dX13_item_18 rfl ?_
    refine aw_iald (pc' := 20) dX13_item_19 rfl (MA_sorts (A := A) hM) (by omega) (by omega) ?_
    refine aw_iconst (pc' := 21) (by decide) dX13_item_20 rfl ?_
    refine aw_icmp_ne (pt := 27) (pf := 24) dX13_item_21 (by decide) rfl (fun c_21 => ?_) (fun c_21 => ?_)
    · refine aw_iload_n (pc' := 28) rfl dX13_item_27 rfl ?_
      refine aw_i2l (pc' := 29) dX13_item_28 rfl ?_
      refine aw_lconst (x := 0) (pc' := 30) (by decide +kernel) dX13_item_29 rfl ?_
      refine aw_aload_n (pc' := 31) rfl dX13_item_30 rfl ?_
      refine aw_getp (pc' := 34) (k9 := 61) (p := 348) dX13_item_31 rfl fX13_168 rfl rfl rfl (MO (A := A) hM) (M_sizes (A := A) hM) ?_
      refine aw_iload_n (pc' := 35) rfl dX13_item_34 rfl ?_
      refine aw_iald (pc' := 36) dX13_item_35 rfl (MA_sizes (A := A) hM) (by omega) (by omega) ?_
      refine aw_iconst (pc' := 37) (by decide) dX13_item_36 rfl ?_
      refine aw_isub (pc' := 38) (by first | exact w32_id (by omega) (by omega) | rfl) dX13_item_37 rfl ?_
      refine aw_i2l (pc' := 39) dX13_item_38 rfl ?_
      refine aw_callS (d' := d - 1) (as := [_, _, _]) (pc' := 42) kX13_in tX13_in lX13_177 dX13_item_39 rfl rfl (Nat.le_of_ble_eq_true rfl) (by omega) ?_
      refine c_in (by omega) (fun g1_39 g2_39 => ?_) (fun g0_39 => ?_)
      · refine aw_if_ne (pt := 48) (pf := 45) dX13_item_42 (by decide) rfl (fun _ => ?_) (fun c_42 => absurd (by decide) c_42)
        refine aw_aload_n (pc' := 49) rfl dX13_item_48 rfl ?_
        refine aw_getp (pc' := 52) (k9 := 62) (p := 349) dX13_item_49 rfl fX13_171 rfl rfl rfl (MO (A := A) hM) (M_items (A := A) hM) ?_
        refine aw_bipush (pc' := 54) (by decide +kernel) dX13_item_52 rfl ?_
        refine aw_iload_n (pc' := 55) rfl dX13_item_54 rfl ?_
        refine aw_imul (pc' := 56) (by first | exact w32_id (by omega) (by omega) | rfl) dX13_item_55 rfl ?_
        refine aw_iload_n (pc' := 57) rfl dX13_item_56 rfl ?_
        refine aw_iadd (pc' := 58) (by first | exact w32_id (by omega) (by omega) | rfl) dX13_item_57 rfl ?_
        refine aw_aload_n (pc' := 59) rfl dX13_item_58 rfl ?_
        refine aw_getp (pc' := 62) (k9 := 60) (p := 347) dX13_item_59 rfl fX13_165 rfl rfl rfl (MO (A := A) hM) (M_sorts (A := A) hM) ?_
        refine aw_iload_n (pc' := 63) rfl dX13_item_62 rfl ?_
        refine aw_iald (pc' := 64) dX13_item_63 rfl (MA_sorts (A := A) hM) (by omega) (by omega) ?_
        refine aw_lload_n (pc' := 65) rfl dX13_item_64 rfl ?_
        refine aw_callS (d' := d - 1) (as := [_, _]) (pc' := 68) kX13_lowestBits tX13_lowestBits lX13_408 dX13_item_65 rfl rfl (Nat.le_of_ble_eq_true rfl) (by omega) ?_
        refine c_lowestBits (by omega) ?_
        refine aw_last (pc' := 69) dX13_item_68 rfl (MA_items (A := A) hM) (by omega) (by omega) ?_
        refine aw_iconst (pc' := 70) (by decide) dX13_item_69 rfl ?_
        refine AW.ret (some (vi _)) dX13_item_70 trivial ?_
        first | exact hN (by omega) | exact h0 (by omega) (by omega) (by omega) | exact hP (by omega) (by omega) (by omega) (by omega) | exact hO (by omega) (by omega) (by omega) (by omega) (by omega)
      · refine aw_if_ne (pt := 48) (pf := 45) dX13_item_42 (by decide) rfl (fun c_42 => absurd c_42 (by decide)) (fun _ => ?_)
        refine aw_bipush (pc' := 47) (by decide +kernel) dX13_item_45 rfl ?_
        refine AW.ret (some (vi _)) dX13_item_47 trivial ?_
        first | exact hN (by omega) | exact h0 (by omega) (by omega) (by omega) | exact hP (by omega) (by omega) (by omega) (by omega) | exact hO (by omega) (by omega) (by omega) (by omega) (by omega)
    · replace c_21 := Classical.not_not.mp c_21
      refine aw_bipush (pc' := 26) (by decide +kernel) dX13_item_24 rfl ?_
      refine AW.ret (some (vi _)) dX13_item_26 trivial ?_
      first | exact hN (by omega) | exact h0 (by omega) (by omega) (by omega) | exact hP (by omega) (by omega) (by omega) (by omega) | exact hO (by omega) (by omega) (by omega) (by omega) (by omega)
  · refine aw_if_ne (pt := 14) (pf := 12) dX13_item_9 (by decide) rfl (fun c_9 => absurd c_9 (by decide)) (fun _ => ?_)
    refine aw_iconst (pc' := 13) (by decide) dX13_item_12 rfl ?_
    refine AW.ret (some (vi _)) dX13_item_13 trivial ?_
    first | exact hN (by omega) | exact h0 (by omega) (by omega) (by omega) | exact hP (by omega) (by omega) (by omega) (by omega) | exact hO (by omega) (by omega) (by omega) (by omega) (by omega)

set_option maxRecDepth 20000 in
theorem c_jobs {d : Nat}  {A : AHp} {Q : Option AV → AHp → Prop} (hd : 0 ≤ d) (hM : MLAY A)
  (hO : ∀ n, n = (if 0 ≤ hv A 333 0 then 1 else 0) + (if 0 ≤ hv A 333 1 then 1 else 0) + (if 0 ≤ hv A 333 2 then 1 else 0) + (if 0 ≤ hv A 333 3 then 1 else 0) → Q (some (vi n)) A) : CALL d mX13_jobs [vr 307] A Q := by
  refine CALL.of (by decide) (Nat.le_of_ble_eq_true rfl) ?_
  change AW d mX13_jobs 0 [some (vr 307), none, none] [] A Q
  refine aw_iconst (pc' := 1) (by decide) dX13_jobs_0 rfl ?_
  refine aw_istore_n (pc' := 2) (lv' := [_, _, _]) dX13_jobs_1 rfl (by decide) rfl ?_
  refine aw_iconst (pc' := 3) (by decide) dX13_jobs_2 rfl ?_
  refine aw_istore_n (pc' := 4) (lv' := [_, _, _]) dX13_jobs_3 rfl (by decide) rfl ?_
  refine aw_iload_n (pc' := 5) rfl dX13_jobs_4 rfl ?_
  refine aw_iconst (pc' := 6) (by decide) dX13_jobs_5 rfl ?_
  refine aw_icmp_ge (pt := 32) (pf := 9) dX13_jobs_6 (by decide) rfl (fun c_6 => absurd c_6 (by decide)) (fun _ => ?_)
  refine aw_iload_n (pc' := 10) rfl dX13_jobs_9 rfl ?_
  refine aw_aload_n (pc' := 11) rfl dX13_jobs_10 rfl ?_
  refine aw_getp (pc' := 14) (k9 := 42) (p := 333) dX13_jobs_11 rfl fX13_123 rfl rfl rfl (MO (A := A) hM) (M_jobLine (A := A) hM) ?_
  refine aw_iload_n (pc' := 15) rfl dX13_jobs_14 rfl ?_
  refine aw_iald (pc' := 16) dX13_jobs_15 rfl (MA_jobLine (A := A) hM) (by omega) (by omega) ?_
  refine aw_if_lt (pt := 23) (pf := 19) dX13_jobs_16 (by decide) rfl (fun c_16 => ?_) (fun c_16 => ?_)
  · refine aw_iconst (pc' := 24) (by decide) dX13_jobs_23 rfl ?_
    refine aw_iadd (pc' := 25) (z := 0) (by decide) dX13_jobs_24 rfl ?_
    refine aw_istore_n (pc' := 26) (lv' := [_, _, _]) dX13_jobs_25 rfl (by decide) rfl ?_
    refine aw_iinc (y := 1) (pc' := 29) (lv' := [_, _, _]) dX13_jobs_26 rfl rfl (by decide) (by decide) rfl ?_
    refine aw_goto (pc' := 4) dX13_jobs_29 (by decide) ?_
    refine aw_iload_n (pc' := 5) rfl dX13_jobs_4 rfl ?_
    refine aw_iconst (pc' := 6) (by decide) dX13_jobs_5 rfl ?_
    refine aw_icmp_ge (pt := 32) (pf := 9) dX13_jobs_6 (by decide) rfl (fun c_6 => absurd c_6 (by decide)) (fun _ => ?_)
    refine aw_iload_n (pc' := 10) rfl dX13_jobs_9 rfl ?_
    refine aw_aload_n (pc' := 11) rfl dX13_jobs_10 rfl ?_
    refine aw_getp (pc' := 14) (k9 := 42) (p := 333) dX13_jobs_11 rfl fX13_123 rfl rfl rfl (MO (A := A) hM) (M_jobLine (A := A) hM) ?_
    refine aw_iload_n (pc' := 15) rfl dX13_jobs_14 rfl ?_
    refine aw_iald (pc' := 16) dX13_jobs_15 rfl (MA_jobLine (A := A) hM) (by omega) (by omega) ?_
    refine aw_if_lt (pt := 23) (pf := 19) dX13_jobs_16 (by decide) rfl (fun c_16 => ?_) (fun c_16 => ?_)
    · refine aw_iconst (pc' := 24) (by decide) dX13_jobs_23 rfl ?_
      refine aw_iadd (pc' := 25) (z := 0) (by decide) dX13_jobs_24 rfl ?_
      refine aw_istore_n (pc' := 26) (lv' := [_, _, _]) dX13_jobs_25 rfl (by decide) rfl ?_
      refine aw_iinc (y := 2) (pc' := 29) (lv' := [_, _, _]) dX13_jobs_26 rfl rfl (by decide) (by decide) rfl ?_
      refine aw_goto (pc' := 4) dX13_jobs_29 (by decide) ?_
      refine aw_iload_n (pc' := 5) rfl dX13_jobs_4 rfl ?_
      refine aw_iconst (pc' := 6) (by decide) dX13_jobs_5 rfl ?_
      refine aw_icmp_ge (pt := 32) (pf := 9) dX13_jobs_6 (by decide) rfl (fun c_6 => absurd c_6 (by decide)) (fun _ => ?_)
      refine aw_iload_n (pc' := 10) rfl dX13_jobs_9 rfl ?_
      refine aw_aload_n (pc' := 11) rfl dX13_jobs_10 rfl ?_
      refine aw_getp (pc' := 14) (k9 := 42) (p := 333) dX13_jobs_11 rfl fX13_123 rfl rfl rfl (MO (A := A) hM) (M_jobLine (A := A) hM) ?_
      refine aw_iload_n (pc' := 15) rfl dX13_jobs_14 rfl ?_
      refine aw_iald (pc' := 16) dX13_jobs_15 rfl (MA_jobLine (A := A) hM) (by omega) (by omega) ?_
      refine aw_if_lt (pt := 23) (pf := 19) dX13_jobs_16 (by decide) rfl (fun c_16 => ?_) (fun c_16 => ?_)
      · refine aw_iconst (pc' := 24) (by decide) dX13_jobs_23 rfl ?_
        refine aw_iadd (pc' := 25) (z := 0) (by decide) dX13_jobs_24 rfl ?_
        refine aw_istore_n (pc' := 26) (lv' := [_, _, _]) dX13_jobs_25 rfl (by decide) rfl ?_
        refine aw_iinc (y := 3) (pc' := 29) (lv' := [_, _, _]) dX13_jobs_26 rfl rfl (by decide) (by decide) rfl ?_
        refine aw_goto (pc' := 4) dX13_jobs_29 (by decide) ?_
        refine aw_iload_n (pc' := 5) rfl dX13_jobs_4 rfl ?_
        refine aw_iconst (pc' := 6) (by decide) dX13_jobs_5 rfl ?_
        refine aw_icmp_ge (pt := 32) (pf := 9) dX13_jobs_6 (by decide) rfl (fun c_6 => absurd c_6 (by decide)) (fun _ => ?_)
        refine aw_iload_n (pc' := 10) rfl dX13_jobs_9 rfl ?_
        refine aw_aload_n (pc' := 11) rfl dX13_jobs_10 rfl ?_
        refine aw_getp (pc' := 14) (k9 := 42) (p := 333) dX13_jobs_11 rfl fX13_123 rfl rfl rfl (MO (A := A) hM) (M_jobLine (A := A) hM) ?_
        refine aw_iload_n (pc' := 15) rfl dX13_jobs_14 rfl ?_
        refine aw_iald (pc' := 16) dX13_jobs_15 rfl (MA_jobLine (A := A) hM) (by omega) (by omega) ?_
        refine aw_if_lt (pt := 23) (pf := 19) dX13_jobs_16 (by decide) rfl (fun c_16 => ?_) (fun c_16 => ?_)
        · refine aw_iconst (pc' := 24) (by decide) dX13_jobs_23 rfl ?_
          refine aw_iadd (pc' := 25) (z := 0) (by decide) dX13_jobs_24 rfl ?_
          refine aw_istore_n (pc' := 26) (lv' := [_, _, _]) dX13_jobs_25 rfl (by decide) rfl ?_
          refine aw_iinc (y := 4) (pc' := 29) (lv' := [_, _, _]) dX13_jobs_26 rfl rfl (by decide) (by decide) rfl ?_
          refine aw_goto (pc' := 4) dX13_jobs_29 (by decide) ?_
          refine aw_iload_n (pc' := 5) rfl dX13_jobs_4 rfl ?_
          refine aw_iconst (pc' := 6) (by decide) dX13_jobs_5 rfl ?_
          refine aw_icmp_ge (pt := 32) (pf := 9) dX13_jobs_6 (by decide) rfl (fun _ => ?_) (fun c_6 => absurd (by decide) c_6)
          refine aw_iload_n (pc' := 33) rfl dX13_jobs_32 rfl ?_
          refine AW.ret (some (vi _)) dX13_jobs_33 trivial ?_
          exact hO _ (by (repeat' split) <;> omega)
        · refine aw_iconst (pc' := 20) (by decide) dX13_jobs_19 rfl ?_
          refine aw_goto (pc' := 24) dX13_jobs_20 (by decide) ?_
          refine aw_iadd (pc' := 25) (z := 1) (by decide) dX13_jobs_24 rfl ?_
          refine aw_istore_n (pc' := 26) (lv' := [_, _, _]) dX13_jobs_25 rfl (by decide) rfl ?_
          refine aw_iinc (y := 4) (pc' := 29) (lv' := [_, _, _]) dX13_jobs_26 rfl rfl (by decide) (by decide) rfl ?_
          refine aw_goto (pc' := 4) dX13_jobs_29 (by decide) ?_
          refine aw_iload_n (pc' := 5) rfl dX13_jobs_4 rfl ?_
          refine aw_iconst (pc' := 6) (by decide) dX13_jobs_5 rfl ?_
          refine aw_icmp_ge (pt := 32) (pf := 9) dX13_jobs_6 (by decide) rfl (fun _ => ?_) (fun c_6 => absurd (by decide) c_6)
          refine aw_iload_n (pc' := 33) rfl dX13_jobs_32 rfl ?_
          refine AW.ret (some (vi _)) dX13_jobs_33 trivial ?_
          exact hO _ (by (repeat' split) <;> omega)
      · refine aw_iconst (pc' := 20) (by decide) dX13_jobs_19 rfl ?_
        refine aw_goto (pc' := 24) dX13_jobs_20 (by decide) ?_
        refine aw_iadd (pc' := 25) (z := 1) (by decide) dX13_jobs_24 rfl ?_
        refine aw_istore_n (pc' := 26) (lv' := [_, _, _]) dX13_jobs_25 rfl (by decide) rfl ?_
        refine aw_iinc (y := 3) (pc' := 29) (lv' := [_, _, _]) dX13_jobs_26 rfl rfl (by decide) (by decide) rfl ?_
        refine aw_goto (pc' := 4) dX13_jobs_29 (by decide) ?_
        refine aw_iload_n (pc' := 5) rfl dX13_jobs_4 rfl ?_
        refine aw_iconst (pc' := 6) (by decide) dX13_jobs_5 rfl ?_
        refine aw_icmp_ge (pt := 32) (pf := 9) dX13_jobs_6 (by decide) rfl (fun c_6 => absurd c_6 (by decide)) (fun _ => ?_)
        refine aw_iload_n (pc' := 10) rfl dX13_jobs_9 rfl ?_
        refine aw_aload_n (pc' := 11) rfl dX13_jobs_10 rfl ?_
        refine aw_getp (pc' := 14) (k9 := 42) (p := 333) dX13_jobs_11 rfl fX13_123 rfl rfl rfl (MO (A := A) hM) (M_jobLine (A := A) hM) ?_
        refine aw_iload_n (pc' := 15) rfl dX13_jobs_14 rfl ?_
        refine aw_iald (pc' := 16) dX13_jobs_15 rfl (MA_jobLine (A := A) hM) (by omega) (by omega) ?_
        refine aw_if_lt (pt := 23) (pf := 19) dX13_jobs_16 (by decide) rfl (fun c_16 => ?_) (fun c_16 => ?_)
        · refine aw_iconst (pc' := 24) (by decide) dX13_jobs_23 rfl ?_
          refine aw_iadd (pc' := 25) (z := 1) (by decide) dX13_jobs_24 rfl ?_
          refine aw_istore_n (pc' := 26) (lv' := [_, _, _]) dX13_jobs_25 rfl (by decide) rfl ?_
          refine aw_iinc (y := 4) (pc' := 29) (lv' := [_, _, _]) dX13_jobs_26 rfl rfl (by decide) (by decide) rfl ?_
          refine aw_goto (pc' := 4) dX13_jobs_29 (by decide) ?_
          refine aw_iload_n (pc' := 5) rfl dX13_jobs_4 rfl ?_
          refine aw_iconst (pc' := 6) (by decide) dX13_jobs_5 rfl ?_
          refine aw_icmp_ge (pt := 32) (pf := 9) dX13_jobs_6 (by decide) rfl (fun _ => ?_) (fun c_6 => absurd (by decide) c_6)
          refine aw_iload_n (pc' := 33) rfl dX13_jobs_32 rfl ?_
          refine AW.ret (some (vi _)) dX13_jobs_33 trivial ?_
          exact hO _ (by (repeat' split) <;> omega)
        · refine aw_iconst (pc' := 20) (by decide) dX13_jobs_19 rfl ?_
          refine aw_goto (pc' := 24) dX13_jobs_20 (by decide) ?_
          refine aw_iadd (pc' := 25) (z := 2) (by decide) dX13_jobs_24 rfl ?_
          refine aw_istore_n (pc' := 26) (lv' := [_, _, _]) dX13_jobs_25 rfl (by decide) rfl ?_
          refine aw_iinc (y := 4) (pc' := 29) (lv' := [_, _, _]) dX13_jobs_26 rfl rfl (by decide) (by decide) rfl ?_
          refine aw_goto (pc' := 4) dX13_jobs_29 (by decide) ?_
          refine aw_iload_n (pc' := 5) rfl dX13_jobs_4 rfl ?_
          refine aw_iconst (pc' := 6) (by decide) dX13_jobs_5 rfl ?_
          refine aw_icmp_ge (pt := 32) (pf := 9) dX13_jobs_6 (by decide) rfl (fun _ => ?_) (fun c_6 => absurd (by decide) c_6)
          refine aw_iload_n (pc' := 33) rfl dX13_jobs_32 rfl ?_
          refine AW.ret (some (vi _)) dX13_jobs_33 trivial ?_
          exact hO _ (by (repeat' split) <;> omega)
    · refine aw_iconst (pc' := 20) (by decide) dX13_jobs_19 rfl ?_
      refine aw_goto (pc' := 24) dX13_jobs_20 (by decide) ?_
      refine aw_iadd (pc' := 25) (z := 1) (by decide) dX13_jobs_24 rfl ?_
      refine aw_istore_n (pc' := 26) (lv' := [_, _, _]) dX13_jobs_25 rfl (by decide) rfl ?_
      refine aw_iinc (y := 2) (pc' := 29) (lv' := [_, _, _]) dX13_jobs_26 rfl rfl (by decide) (by decide) rfl ?_
      refine aw_goto (pc' := 4) dX13_jobs_29 (by decide) ?_
      refine aw_iload_n (pc' := 5) rfl dX13_jobs_4 rfl ?_
      refine aw_iconst (pc' := 6) (by decide) dX13_jobs_5 rfl ?_
      refine aw_icmp_ge (pt := 32) (pf := 9) dX13_jobs_6 (by decide) rfl (fun c_6 => absurd c_6 (by decide)) (fun _ => ?_)
      refine aw_iload_n (pc' := 10) rfl dX13_jobs_9 rfl ?_
      refine aw_aload_n (pc' := 11) rfl dX13_jobs_10 rfl ?_
      refine aw_getp (pc' := 14) (k9 := 42) (p := 333) dX13_jobs_11 rfl fX13_123 rfl rfl rfl (MO (A := A) hM) (M_jobLine (A := A) hM) ?_
      refine aw_iload_n (pc' := 15) rfl dX13_jobs_14 rfl ?_
      refine aw_iald (pc' := 16) dX13_jobs_15 rfl (MA_jobLine (A := A) hM) (by omega) (by omega) ?_
      refine aw_if_lt (pt := 23) (pf := 19) dX13_jobs_16 (by decide) rfl (fun c_16 => ?_) (fun c_16 => ?_)
      · refine aw_iconst (pc' := 24) (by decide) dX13_jobs_23 rfl ?_
        refine aw_iadd (pc' := 25) (z := 1) (by decide) dX13_jobs_24 rfl ?_
        refine aw_istore_n (pc' := 26) (lv' := [_, _, _]) dX13_jobs_25 rfl (by decide) rfl ?_
        refine aw_iinc (y := 3) (pc' := 29) (lv' := [_, _, _]) dX13_jobs_26 rfl rfl (by decide) (by decide) rfl ?_
        refine aw_goto (pc' := 4) dX13_jobs_29 (by decide) ?_
        refine aw_iload_n (pc' := 5) rfl dX13_jobs_4 rfl ?_
        refine aw_iconst (pc' := 6) (by decide) dX13_jobs_5 rfl ?_
        refine aw_icmp_ge (pt := 32) (pf := 9) dX13_jobs_6 (by decide) rfl (fun c_6 => absurd c_6 (by decide)) (fun _ => ?_)
        refine aw_iload_n (pc' := 10) rfl dX13_jobs_9 rfl ?_
        refine aw_aload_n (pc' := 11) rfl dX13_jobs_10 rfl ?_
        refine aw_getp (pc' := 14) (k9 := 42) (p := 333) dX13_jobs_11 rfl fX13_123 rfl rfl rfl (MO (A := A) hM) (M_jobLine (A := A) hM) ?_
        refine aw_iload_n (pc' := 15) rfl dX13_jobs_14 rfl ?_
        refine aw_iald (pc' := 16) dX13_jobs_15 rfl (MA_jobLine (A := A) hM) (by omega) (by omega) ?_
        refine aw_if_lt (pt := 23) (pf := 19) dX13_jobs_16 (by decide) rfl (fun c_16 => ?_) (fun c_16 => ?_)
        · refine aw_iconst (pc' := 24) (by decide) dX13_jobs_23 rfl ?_
          refine aw_iadd (pc' := 25) (z := 1) (by decide) dX13_jobs_24 rfl ?_
          refine aw_istore_n (pc' := 26) (lv' := [_, _, _]) dX13_jobs_25 rfl (by decide) rfl ?_
          refine aw_iinc (y := 4) (pc' := 29) (lv' := [_, _, _]) dX13_jobs_26 rfl rfl (by decide) (by decide) rfl ?_
          refine aw_goto (pc' := 4) dX13_jobs_29 (by decide) ?_
          refine aw_iload_n (pc' := 5) rfl dX13_jobs_4 rfl ?_
          refine aw_iconst (pc' := 6) (by decide) dX13_jobs_5 rfl ?_
          refine aw_icmp_ge (pt := 32) (pf := 9) dX13_jobs_6 (by decide) rfl (fun _ => ?_) (fun c_6 => absurd (by decide) c_6)
          refine aw_iload_n (pc' := 33) rfl dX13_jobs_32 rfl ?_
          refine AW.ret (some (vi _)) dX13_jobs_33 trivial ?_
          exact hO _ (by (repeat' split) <;> omega)
        · refine aw_iconst (pc' := 20) (by decide) dX13_jobs_19 rfl ?_
          refine aw_goto (pc' := 24) dX13_jobs_20 (by decide) ?_
          refine aw_iadd (pc' := 25) (z := 2) (by decide) dX13_jobs_24 rfl ?_
          refine aw_istore_n (pc' := 26) (lv' := [_, _, _]) dX13_jobs_25 rfl (by decide) rfl ?_
          refine aw_iinc (y := 4) (pc' := 29) (lv' := [_, _, _]) dX13_jobs_26 rfl rfl (by decide) (by decide) rfl ?_
          refine aw_goto (pc' := 4) dX13_jobs_29 (by decide) ?_
          refine aw_iload_n (pc' := 5) rfl dX13_jobs_4 rfl ?_
          refine aw_iconst (pc' := 6) (by decide) dX13_jobs_5 rfl ?_
          refine aw_icmp_ge (pt := 32) (pf := 9) dX13_jobs_6 (by decide) rfl (fun _ => ?_) (fun c_6 => absurd (by decide) c_6)
          refine aw_iload_n (pc' := 33) rfl dX13_jobs_32 rfl ?_
          refine AW.ret (some (vi _)) dX13_jobs_33 trivial ?_
          exact hO _ (by (repeat' split) <;> omega)
      · refine aw_iconst (pc' := 20) (by decide) dX13_jobs_19 rfl ?_
        refine aw_goto (pc' := 24) dX13_jobs_20 (by decide) ?_
        refine aw_iadd (pc' := 25) (z := 2) (by decide) dX13_jobs_24 rfl ?_
        refine aw_istore_n (pc' := 26) (lv' := [_, _, _]) dX13_jobs_25 rfl (by decide) rfl ?_
        refine aw_iinc (y := 3) (pc' := 29) (lv' := [_, _, _]) dX13_jobs_26 rfl rfl (by decide) (by decide) rfl ?_
        refine aw_goto (pc' := 4) dX13_jobs_29 (by decide) ?_
        refine aw_iload_n (pc' := 5) rfl dX13_jobs_4 rfl ?_
        refine aw_iconst (pc' := 6) (by decide) dX13_jobs_5 rfl ?_
        refine aw_icmp_ge (pt := 32) (pf := 9) dX13_jobs_6 (by decide) rfl (fun c_6 => absurd c_6 (by decide)) (fun _ => ?_)
        refine aw_iload_n (pc' := 10) rfl dX13_jobs_9 rfl ?_
        refine aw_aload_n (pc' := 11) rfl dX13_jobs_10 rfl ?_
        refine aw_getp (pc' := 14) (k9 := 42) (p := 333) dX13_jobs_11 rfl fX13_123 rfl rfl rfl (MO (A := A) hM) (M_jobLine (A := A) hM) ?_
        refine aw_iload_n (pc' := 15) rfl dX13_jobs_14 rfl ?_
        refine aw_iald (pc' := 16) dX13_jobs_15 rfl (MA_jobLine (A := A) hM) (by omega) (by omega) ?_
        refine aw_if_lt (pt := 23) (pf := 19) dX13_jobs_16 (by decide) rfl (fun c_16 => ?_) (fun c_16 => ?_)
        · refine aw_iconst (pc' := 24) (by decide) dX13_jobs_23 rfl ?_
          refine aw_iadd (pc' := 25) (z := 2) (by decide) dX13_jobs_24 rfl ?_
          refine aw_istore_n (pc' := 26) (lv' := [_, _, _]) dX13_jobs_25 rfl (by decide) rfl ?_
          refine aw_iinc (y := 4) (pc' := 29) (lv' := [_, _, _]) dX13_jobs_26 rfl rfl (by decide) (by decide) rfl ?_
          refine aw_goto (pc' := 4) dX13_jobs_29 (by decide) ?_
          refine aw_iload_n (pc' := 5) rfl dX13_jobs_4 rfl ?_
          refine aw_iconst (pc' := 6) (by decide) dX13_jobs_5 rfl ?_
          refine aw_icmp_ge (pt := 32) (pf := 9) dX13_jobs_6 (by decide) rfl (fun _ => ?_) (fun c_6 => absurd (by decide) c_6)
          refine aw_iload_n (pc' := 33) rfl dX13_jobs_32 rfl ?_
          refine AW.ret (some (vi _)) dX13_jobs_33 trivial ?_
          exact hO _ (by (repeat' split) <;> omega)
        · refine aw_iconst (pc' := 20) (by decide) dX13_jobs_19 rfl ?_
          refine aw_goto (pc' := 24) dX13_jobs_20 (by decide) ?_
          refine aw_iadd (pc' := 25) (z := 3) (by decide) dX13_jobs_24 rfl ?_
          refine aw_istore_n (pc' := 26) (lv' := [_, _, _]) dX13_jobs_25 rfl (by decide) rfl ?_
          refine aw_iinc (y := 4) (pc' := 29) (lv' := [_, _, _]) dX13_jobs_26 rfl rfl (by decide) (by decide) rfl ?_
          refine aw_goto (pc' := 4) dX13_jobs_29 (by decide) ?_
          refine aw_iload_n (pc' := 5) rfl dX13_jobs_4 rfl ?_
          refine aw_iconst (pc' := 6) (by decide) dX13_jobs_5 rfl ?_
          refine aw_icmp_ge (pt := 32) (pf := 9) dX13_jobs_6 (by decide) rfl (fun _ => ?_) (fun c_6 => absurd (by decide) c_6)
          refine aw_iload_n (pc' := 33) rfl dX13_jobs_32 rfl ?_
          refine AW.ret (some (vi _)) dX13_jobs_33 trivial ?_
          exact hO _ (by (repeat' split) <;> omega)
  · refine aw_iconst (pc' := 20) (by decide) dX13_jobs_19 rfl ?_
    refine aw_goto (pc' := 24) dX13_jobs_20 (by decide) ?_
    refine aw_iadd (pc' := 25) (z := 1) (by decide) dX13_jobs_24 rfl ?_
    refine aw_istore_n (pc' := 26) (lv' := [_, _, _]) dX13_jobs_25 rfl (by decide) rfl ?_
    refine aw_iinc (y := 1) (pc' := 29) (lv' := [_, _, _]) dX13_jobs_26 rfl rfl (by decide) (by decide) rfl ?_
    refine aw_goto (pc' := 4) dX13_jobs_29 (by decide) ?_
    refine aw_iload_n (pc' := 5) rfl dX13_jobs_4 rfl ?_
    refine aw_iconst (pc' := 6) (by decide) dX13_jobs_5 rfl ?_
    refine aw_icmp_ge (pt := 32) (pf := 9) dX13_jobs_6 (by decide) rfl (fun c_6 => absurd c_6 (by decide)) (fun _ => ?_)
    refine aw_iload_n (pc' := 10) rfl dX13_jobs_9 rfl ?_
    refine aw_aload_n (pc' := 11) rfl dX13_jobs_10 rfl ?_
    refine aw_getp (pc' := 14) (k9 := 42) (p := 333) dX13_jobs_11 rfl fX13_123 rfl rfl rfl (MO (A := A) hM) (M_jobLine (A := A) hM) ?_
    refine aw_iload_n (pc' := 15) rfl dX13_jobs_14 rfl ?_
    refine aw_iald (pc' := 16) dX13_jobs_15 rfl (MA_jobLine (A := A) hM) (by omega) (by omega) ?_
    refine aw_if_lt (pt := 23) (pf := 19) dX13_jobs_16 (by decide) rfl (fun c_16 => ?_) (fun c_16 => ?_)
    · refine aw_iconst (pc' := 24) (by decide) dX13_jobs_23 rfl ?_
      refine aw_iadd (pc' := 25) (z := 1) (by decide) dX13_jobs_24 rfl ?_
      refine aw_istore_n (pc' := 26) (lv' := [_, _, _]) dX13_jobs_25 rfl (by decide) rfl ?_
      refine aw_iinc (y := 2) (pc' := 29) (lv' := [_, _, _]) dX13_jobs_26 rfl rfl (by decide) (by decide) rfl ?_
      refine aw_goto (pc' := 4) dX13_jobs_29 (by decide) ?_
      refine aw_iload_n (pc' := 5) rfl dX13_jobs_4 rfl ?_
      refine aw_iconst (pc' := 6) (by decide) dX13_jobs_5 rfl ?_
      refine aw_icmp_ge (pt := 32) (pf := 9) dX13_jobs_6 (by decide) rfl (fun c_6 => absurd c_6 (by decide)) (fun _ => ?_)
      refine aw_iload_n (pc' := 10) rfl dX13_jobs_9 rfl ?_
      refine aw_aload_n (pc' := 11) rfl dX13_jobs_10 rfl ?_
      refine aw_getp (pc' := 14) (k9 := 42) (p := 333) dX13_jobs_11 rfl fX13_123 rfl rfl rfl (MO (A := A) hM) (M_jobLine (A := A) hM) ?_
      refine aw_iload_n (pc' := 15) rfl dX13_jobs_14 rfl ?_
      refine aw_iald (pc' := 16) dX13_jobs_15 rfl (MA_jobLine (A := A) hM) (by omega) (by omega) ?_
      refine aw_if_lt (pt := 23) (pf := 19) dX13_jobs_16 (by decide) rfl (fun c_16 => ?_) (fun c_16 => ?_)
      · refine aw_iconst (pc' := 24) (by decide) dX13_jobs_23 rfl ?_
        refine aw_iadd (pc' := 25) (z := 1) (by decide) dX13_jobs_24 rfl ?_
        refine aw_istore_n (pc' := 26) (lv' := [_, _, _]) dX13_jobs_25 rfl (by decide) rfl ?_
        refine aw_iinc (y := 3) (pc' := 29) (lv' := [_, _, _]) dX13_jobs_26 rfl rfl (by decide) (by decide) rfl ?_
        refine aw_goto (pc' := 4) dX13_jobs_29 (by decide) ?_
        refine aw_iload_n (pc' := 5) rfl dX13_jobs_4 rfl ?_
        refine aw_iconst (pc' := 6) (by decide) dX13_jobs_5 rfl ?_
        refine aw_icmp_ge (pt := 32) (pf := 9) dX13_jobs_6 (by decide) rfl (fun c_6 => absurd c_6 (by decide)) (fun _ => ?_)
        refine aw_iload_n (pc' := 10) rfl dX13_jobs_9 rfl ?_
        refine aw_aload_n (pc' := 11) rfl dX13_jobs_10 rfl ?_
        refine aw_getp (pc' := 14) (k9 := 42) (p := 333) dX13_jobs_11 rfl fX13_123 rfl rfl rfl (MO (A := A) hM) (M_jobLine (A := A) hM) ?_
        refine aw_iload_n (pc' := 15) rfl dX13_jobs_14 rfl ?_
        refine aw_iald (pc' := 16) dX13_jobs_15 rfl (MA_jobLine (A := A) hM) (by omega) (by omega) ?_
        refine aw_if_lt (pt := 23) (pf := 19) dX13_jobs_16 (by decide) rfl (fun c_16 => ?_) (fun c_16 => ?_)
        · refine aw_iconst (pc' := 24) (by decide) dX13_jobs_23 rfl ?_
          refine aw_iadd (pc' := 25) (z := 1) (by decide) dX13_jobs_24 rfl ?_
          refine aw_istore_n (pc' := 26) (lv' := [_, _, _]) dX13_jobs_25 rfl (by decide) rfl ?_
          refine aw_iinc (y := 4) (pc' := 29) (lv' := [_, _, _]) dX13_jobs_26 rfl rfl (by decide) (by decide) rfl ?_
          refine aw_goto (pc' := 4) dX13_jobs_29 (by decide) ?_
          refine aw_iload_n (pc' := 5) rfl dX13_jobs_4 rfl ?_
          refine aw_iconst (pc' := 6) (by decide) dX13_jobs_5 rfl ?_
          refine aw_icmp_ge (pt := 32) (pf := 9) dX13_jobs_6 (by decide) rfl (fun _ => ?_) (fun c_6 => absurd (by decide) c_6)
          refine aw_iload_n (pc' := 33) rfl dX13_jobs_32 rfl ?_
          refine AW.ret (some (vi _)) dX13_jobs_33 trivial ?_
          exact hO _ (by (repeat' split) <;> omega)
        · refine aw_iconst (pc' := 20) (by decide) dX13_jobs_19 rfl ?_
          refine aw_goto (pc' := 24) dX13_jobs_20 (by decide) ?_
          refine aw_iadd (pc' := 25) (z := 2) (by decide) dX13_jobs_24 rfl ?_
          refine aw_istore_n (pc' := 26) (lv' := [_, _, _]) dX13_jobs_25 rfl (by decide) rfl ?_
          refine aw_iinc (y := 4) (pc' := 29) (lv' := [_, _, _]) dX13_jobs_26 rfl rfl (by decide) (by decide) rfl ?_
          refine aw_goto (pc' := 4) dX13_jobs_29 (by decide) ?_
          refine aw_iload_n (pc' := 5) rfl dX13_jobs_4 rfl ?_
          refine aw_iconst (pc' := 6) (by decide) dX13_jobs_5 rfl ?_
          refine aw_icmp_ge (pt := 32) (pf := 9) dX13_jobs_6 (by decide) rfl (fun _ => ?_) (fun c_6 => absurd (by decide) c_6)
          refine aw_iload_n (pc' := 33) rfl dX13_jobs_32 rfl ?_
          refine AW.ret (some (vi _)) dX13_jobs_33 trivial ?_
          exact hO _ (by (repeat' split) <;> omega)
      · refine aw_iconst (pc' := 20) (by decide) dX13_jobs_19 rfl ?_
        refine aw_goto (pc' := 24) dX13_jobs_20 (by decide) ?_
        refine aw_iadd (pc' := 25) (z := 2) (by decide) dX13_jobs_24 rfl ?_
        refine aw_istore_n (pc' := 26) (lv' := [_, _, _]) dX13_jobs_25 rfl (by decide) rfl ?_
        refine aw_iinc (y := 3) (pc' := 29) (lv' := [_, _, _]) dX13_jobs_26 rfl rfl (by decide) (by decide) rfl ?_
        refine aw_goto (pc' := 4) dX13_jobs_29 (by decide) ?_
        refine aw_iload_n (pc' := 5) rfl dX13_jobs_4 rfl ?_
        refine aw_iconst (pc' := 6) (by decide) dX13_jobs_5 rfl ?_
        refine aw_icmp_ge (pt := 32) (pf := 9) dX13_jobs_6 (by decide) rfl (fun c_6 => absurd c_6 (by decide)) (fun _ => ?_)
        refine aw_iload_n (pc' := 10) rfl dX13_jobs_9 rfl ?_
        refine aw_aload_n (pc' := 11) rfl dX13_jobs_10 rfl ?_
        refine aw_getp (pc' := 14) (k9 := 42) (p := 333) dX13_jobs_11 rfl fX13_123 rfl rfl rfl (MO (A := A) hM) (M_jobLine (A := A) hM) ?_
        refine aw_iload_n (pc' := 15) rfl dX13_jobs_14 rfl ?_
        refine aw_iald (pc' := 16) dX13_jobs_15 rfl (MA_jobLine (A := A) hM) (by omega) (by omega) ?_
        refine aw_if_lt (pt := 23) (pf := 19) dX13_jobs_16 (by decide) rfl (fun c_16 => ?_) (fun c_16 => ?_)
        · refine aw_iconst (pc' := 24) (by decide) dX13_jobs_23 rfl ?_
          refine aw_iadd (pc' := 25) (z := 2) (by decide) dX13_jobs_24 rfl ?_
          refine aw_istore_n (pc' := 26) (lv' := [_, _, _]) dX13_jobs_25 rfl (by decide) rfl ?_
          refine aw_iinc (y := 4) (pc' := 29) (lv' := [_, _, _]) dX13_jobs_26 rfl rfl (by decide) (by decide) rfl ?_
          refine aw_goto (pc' := 4) dX13_jobs_29 (by decide) ?_
          refine aw_iload_n (pc' := 5) rfl dX13_jobs_4 rfl ?_
          refine aw_iconst (pc' := 6) (by decide) dX13_jobs_5 rfl ?_
          refine aw_icmp_ge (pt := 32) (pf := 9) dX13_jobs_6 (by decide) rfl (fun _ => ?_) (fun c_6 => absurd (by decide) c_6)
          refine aw_iload_n (pc' := 33) rfl dX13_jobs_32 rfl ?_
          refine AW.ret (some (vi _)) dX13_jobs_33 trivial ?_
          exact hO _ (by (repeat' split) <;> omega)
        · refine aw_iconst (pc' := 20) (by decide) dX13_jobs_19 rfl ?_
          refine aw_goto (pc' := 24) dX13_jobs_20 (by decide) ?_
          refine aw_iadd (pc' := 25) (z := 3) (by decide) dX13_jobs_24 rfl ?_
          refine aw_istore_n (pc' := 26) (lv' := [_, _, _]) dX13_jobs_25 rfl (by decide) rfl ?_
          refine aw_iinc (y := 4) (pc' := 29) (lv' := [_, _, _]) dX13_jobs_26 rfl rfl (by decide) (by decide) rfl ?_
          refine aw_goto (pc' := 4) dX13_jobs_29 (by decide) ?_
          refine aw_iload_n (pc' := 5) rfl dX13_jobs_4 rfl ?_
          refine aw_iconst (pc' := 6) (by decide) dX13_jobs_5 rfl ?_
          refine aw_icmp_ge (pt := 32) (pf := 9) dX13_jobs_6 (by decide) rfl (fun _ => ?_) (fun c_6 => absurd (by decide) c_6)
          refine aw_iload_n (pc' := 33) rfl dX13_jobs_32 rfl ?_
          refine AW.ret (some (vi _)) dX13_jobs_33 trivial ?_
          exact hO _ (by (repeat' split) <;> omega)
    · refine aw_iconst (pc' := 20) (by decide) dX13_jobs_19 rfl ?_
      refine aw_goto (pc' := 24) dX13_jobs_20 (by decide) ?_
      refine aw_iadd (pc' := 25) (z := 2) (by decide) dX13_jobs_24 rfl ?_
      refine aw_istore_n (pc' := 26) (lv' := [_, _, _]) dX13_jobs_25 rfl (by decide) rfl ?_
      refine aw_iinc (y := 2) (pc' := 29) (lv' := [_, _, _]) dX13_jobs_26 rfl rfl (by decide) (by decide) rfl ?_
      refine aw_goto (pc' := 4) dX13_jobs_29 (by decide) ?_
      refine aw_iload_n (pc' := 5) rfl dX13_jobs_4 rfl ?_
      refine aw_iconst (pc' := 6) (by decide) dX13_jobs_5 rfl ?_
      refine aw_icmp_ge (pt := 32) (pf := 9) dX13_jobs_6 (by decide) rfl (fun c_6 => absurd c_6 (by decide)) (fun _ => ?_)
      refine aw_iload_n (pc' := 10) rfl dX13_jobs_9 rfl ?_
      refine aw_aload_n (pc' := 11) rfl dX13_jobs_10 rfl ?_
      refine aw_getp (pc' := 14) (k9 := 42) (p := 333) dX13_jobs_11 rfl fX13_123 rfl rfl rfl (MO (A := A) hM) (M_jobLine (A := A) hM) ?_
      refine aw_iload_n (pc' := 15) rfl dX13_jobs_14 rfl ?_
      refine aw_iald (pc' := 16) dX13_jobs_15 rfl (MA_jobLine (A := A) hM) (by omega) (by omega) ?_
      refine aw_if_lt (pt := 23) (pf := 19) dX13_jobs_16 (by decide) rfl (fun c_16 => ?_) (fun c_16 => ?_)
      · refine aw_iconst (pc' := 24) (by decide) dX13_jobs_23 rfl ?_
        refine aw_iadd (pc' := 25) (z := 2) (by decide) dX13_jobs_24 rfl ?_
        refine aw_istore_n (pc' := 26) (lv' := [_, _, _]) dX13_jobs_25 rfl (by decide) rfl ?_
        refine aw_iinc (y := 3) (pc' := 29) (lv' := [_, _, _]) dX13_jobs_26 rfl rfl (by decide) (by decide) rfl ?_
        refine aw_goto (pc' := 4) dX13_jobs_29 (by decide) ?_
        refine aw_iload_n (pc' := 5) rfl dX13_jobs_4 rfl ?_
        refine aw_iconst (pc' := 6) (by decide) dX13_jobs_5 rfl ?_
        refine aw_icmp_ge (pt := 32) (pf := 9) dX13_jobs_6 (by decide) rfl (fun c_6 => absurd c_6 (by decide)) (fun _ => ?_)
        refine aw_iload_n (pc' := 10) rfl dX13_jobs_9 rfl ?_
        refine aw_aload_n (pc' := 11) rfl dX13_jobs_10 rfl ?_
        refine aw_getp (pc' := 14) (k9 := 42) (p := 333) dX13_jobs_11 rfl fX13_123 rfl rfl rfl (MO (A := A) hM) (M_jobLine (A := A) hM) ?_
        refine aw_iload_n (pc' := 15) rfl dX13_jobs_14 rfl ?_
        refine aw_iald (pc' := 16) dX13_jobs_15 rfl (MA_jobLine (A := A) hM) (by omega) (by omega) ?_
        refine aw_if_lt (pt := 23) (pf := 19) dX13_jobs_16 (by decide) rfl (fun c_16 => ?_) (fun c_16 => ?_)
        · refine aw_iconst (pc' := 24) (by decide) dX13_jobs_23 rfl ?_
          refine aw_iadd (pc' := 25) (z := 2) (by decide) dX13_jobs_24 rfl ?_
          refine aw_istore_n (pc' := 26) (lv' := [_, _, _]) dX13_jobs_25 rfl (by decide) rfl ?_
          refine aw_iinc (y := 4) (pc' := 29) (lv' := [_, _, _]) dX13_jobs_26 rfl rfl (by decide) (by decide) rfl ?_
          refine aw_goto (pc' := 4) dX13_jobs_29 (by decide) ?_
          refine aw_iload_n (pc' := 5) rfl dX13_jobs_4 rfl ?_
          refine aw_iconst (pc' := 6) (by decide) dX13_jobs_5 rfl ?_
          refine aw_icmp_ge (pt := 32) (pf := 9) dX13_jobs_6 (by decide) rfl (fun _ => ?_) (fun c_6 => absurd (by decide) c_6)
          refine aw_iload_n (pc' := 33) rfl dX13_jobs_32 rfl ?_
          refine AW.ret (some (vi _)) dX13_jobs_33 trivial ?_
          exact hO _ (by (repeat' split) <;> omega)
        · refine aw_iconst (pc' := 20) (by decide) dX13_jobs_19 rfl ?_
          refine aw_goto (pc' := 24) dX13_jobs_20 (by decide) ?_
          refine aw_iadd (pc' := 25) (z := 3) (by decide) dX13_jobs_24 rfl ?_
          refine aw_istore_n (pc' := 26) (lv' := [_, _, _]) dX13_jobs_25 rfl (by decide) rfl ?_
          refine aw_iinc (y := 4) (pc' := 29) (lv' := [_, _, _]) dX13_jobs_26 rfl rfl (by decide) (by decide) rfl ?_
          refine aw_goto (pc' := 4) dX13_jobs_29 (by decide) ?_
          refine aw_iload_n (pc' := 5) rfl dX13_jobs_4 rfl ?_
          refine aw_iconst (pc' := 6) (by decide) dX13_jobs_5 rfl ?_
          refine aw_icmp_ge (pt := 32) (pf := 9) dX13_jobs_6 (by decide) rfl (fun _ => ?_) (fun c_6 => absurd (by decide) c_6)
          refine aw_iload_n (pc' := 33) rfl dX13_jobs_32 rfl ?_
          refine AW.ret (some (vi _)) dX13_jobs_33 trivial ?_
          exact hO _ (by (repeat' split) <;> omega)
      · refine aw_iconst (pc' := 20) (by decide) dX13_jobs_19 rfl ?_
        refine aw_goto (pc' := 24) dX13_jobs_20 (by decide) ?_
        refine aw_iadd (pc' := 25) (z := 3) (by decide) dX13_jobs_24 rfl ?_
        refine aw_istore_n (pc' := 26) (lv' := [_, _, _]) dX13_jobs_25 rfl (by decide) rfl ?_
        refine aw_iinc (y := 3) (pc' := 29) (lv' := [_, _, _]) dX13_jobs_26 rfl rfl (by decide) (by decide) rfl ?_
        refine aw_goto (pc' := 4) dX13_jobs_29 (by decide) ?_
        refine aw_iload_n (pc' := 5) rfl dX13_jobs_4 rfl ?_
        refine aw_iconst (pc' := 6) (by decide) dX13_jobs_5 rfl ?_
        refine aw_icmp_ge (pt := 32) (pf := 9) dX13_jobs_6 (by decide) rfl (fun c_6 => absurd c_6 (by decide)) (fun _ => ?_)
        refine aw_iload_n (pc' := 10) rfl dX13_jobs_9 rfl ?_
        refine aw_aload_n (pc' := 11) rfl dX13_jobs_10 rfl ?_
        refine aw_getp (pc' := 14) (k9 := 42) (p := 333) dX13_jobs_11 rfl fX13_123 rfl rfl rfl (MO (A := A) hM) (M_jobLine (A := A) hM) ?_
        refine aw_iload_n (pc' := 15) rfl dX13_jobs_14 rfl ?_
        refine aw_iald (pc' := 16) dX13_jobs_15 rfl (MA_jobLine (A := A) hM) (by omega) (by omega) ?_
        refine aw_if_lt (pt := 23) (pf := 19) dX13_jobs_16 (by decide) rfl (fun c_16 => ?_) (fun c_16 => ?_)
        · refine aw_iconst (pc' := 24) (by decide) dX13_jobs_23 rfl ?_
          refine aw_iadd (pc' := 25) (z := 3) (by decide) dX13_jobs_24 rfl ?_
          refine aw_istore_n (pc' := 26) (lv' := [_, _, _]) dX13_jobs_25 rfl (by decide) rfl ?_
          refine aw_iinc (y := 4) (pc' := 29) (lv' := [_, _, _]) dX13_jobs_26 rfl rfl (by decide) (by decide) rfl ?_
          refine aw_goto (pc' := 4) dX13_jobs_29 (by decide) ?_
          refine aw_iload_n (pc' := 5) rfl dX13_jobs_4 rfl ?_
          refine aw_iconst (pc' := 6) (by decide) dX13_jobs_5 rfl ?_
          refine aw_icmp_ge (pt := 32) (pf := 9) dX13_jobs_6 (by decide) rfl (fun _ => ?_) (fun c_6 => absurd (by decide) c_6)
          refine aw_iload_n (pc' := 33) rfl dX13_jobs_32 rfl ?_
          refine AW.ret (some (vi _)) dX13_jobs_33 trivial ?_
          exact hO _ (by (repeat' split) <;> omega)
        · refine aw_iconst (pc' := 20) (by decide) dX13_jobs_19 rfl ?_
          refine aw_goto (pc' := 24) dX13_jobs_20 (by decide) ?_
          refine aw_iadd (pc' := 25) (z := 4) (by decide) dX13_jobs_24 rfl ?_
          refine aw_istore_n (pc' := 26) (lv' := [_, _, _]) dX13_jobs_25 rfl (by decide) rfl ?_
          refine aw_iinc (y := 4) (pc' := 29) (lv' := [_, _, _]) dX13_jobs_26 rfl rfl (by decide) (by decide) rfl ?_
          refine aw_goto (pc' := 4) dX13_jobs_29 (by decide) ?_
          refine aw_iload_n (pc' := 5) rfl dX13_jobs_4 rfl ?_
          refine aw_iconst (pc' := 6) (by decide) dX13_jobs_5 rfl ?_
          refine aw_icmp_ge (pt := 32) (pf := 9) dX13_jobs_6 (by decide) rfl (fun _ => ?_) (fun c_6 => absurd (by decide) c_6)
          refine aw_iload_n (pc' := 33) rfl dX13_jobs_32 rfl ?_
          refine AW.ret (some (vi _)) dX13_jobs_33 trivial ?_
          exact hO _ (by (repeat' split) <;> omega)

set_option maxRecDepth 20000 in
theorem c_count {d : Nat} {w : Int} {A : AHp} {Q : Option AV → AHp → Prop} (hd : 1 ≤ d) (hM : MLAY A)
  (h0 : w = 0 → Q (some (vi (hv A 307 12))) A) (h1 : w = 1 → ∀ n, n = (if 0 ≤ hv A 333 0 then 1 else 0) + (if 0 ≤ hv A 333 1 then 1 else 0) + (if 0 ≤ hv A 333 2 then 1 else 0) + (if 0 ≤ hv A 333 3 then 1 else 0) → Q (some (vi n)) A) (h2 : w = 2 → Q (some (vi (hv A 307 49))) A) (h3 : w = 3 → Q (some (vi (hv A 307 52))) A) (h4 : w = 4 → Q (some (vi (hv A 307 54))) A) (h5 : w = 5 → Q (some (vi (hv A 307 17))) A) (hB : ¬ (0 ≤ w ∧ w ≤ 5) → Q (some (vi (-2))) A) : CALL d mX13_count [vr 307, vi w] A Q := by
  refine CALL.of (by decide) (Nat.le_of_ble_eq_true rfl) ?_
  change AW d mX13_count 0 [some (vr 307), some (vi w)] [] A Q
  refine aw_iload_n (pc' := 1) rfl dX13_count_0 rfl ?_
  by_cases z_1_0 : w = 0
  · refine aw_tabIn (pc' := 40) dX13_count_1 (by omega) (by omega) (off := 39) (by rw [z_1_0]; rfl) (by decide) ?_
    refine aw_aload_n (pc' := 41) rfl dX13_count_40 rfl ?_
    refine aw_geti (pc' := 44) (k9 := 12) dX13_count_41 rfl fX13_196 rfl (by decide) rfl (MO (A := A) hM) ?_
    refine AW.ret (some (vi _)) dX13_count_44 trivial ?_
    first | exact h0 (by omega) | exact h1 (by omega) _ hn9 | exact h2 (by omega) | exact h3 (by omega) | exact h4 (by omega) | exact h5 (by omega) | exact hB (by omega)
  by_cases z_1_1 : w = 1
  · refine aw_tabIn (pc' := 45) dX13_count_1 (by omega) (by omega) (off := 44) (by rw [z_1_1]; rfl) (by decide) ?_
    refine aw_aload_n (pc' := 46) rfl dX13_count_45 rfl ?_
    refine aw_callV (ci := 11) (d' := d - 1) (as := []) (pc' := 49) (by decide) rfl kX13_jobs iX13_jobs sX13_jobs lX13_401 (MO (A := A) hM) dX13_count_46 rfl rfl (Nat.le_of_ble_eq_true rfl) (by omega) ?_
    refine c_jobs (by omega) hM (fun n hn9 => ?_)
    refine AW.ret (some (vi _)) dX13_count_49 trivial ?_
    first | exact h0 (by omega) | exact h1 (by omega) _ hn9 | exact h2 (by omega) | exact h3 (by omega) | exact h4 (by omega) | exact h5 (by omega) | exact hB (by omega)
  by_cases z_1_2 : w = 2
  · refine aw_tabIn (pc' := 50) dX13_count_1 (by omega) (by omega) (off := 49) (by rw [z_1_2]; rfl) (by decide) ?_
    refine aw_aload_n (pc' := 51) rfl dX13_count_50 rfl ?_
    refine aw_geti (pc' := 54) (k9 := 49) dX13_count_51 rfl fX13_367 rfl (by decide) rfl (MO (A := A) hM) ?_
    refine AW.ret (some (vi _)) dX13_count_54 trivial ?_
    first | exact h0 (by omega) | exact h1 (by omega) _ hn9 | exact h2 (by omega) | exact h3 (by omega) | exact h4 (by omega) | exact h5 (by omega) | exact hB (by omega)
  by_cases z_1_3 : w = 3
  · refine aw_tabIn (pc' := 55) dX13_count_1 (by omega) (by omega) (off := 54) (by rw [z_1_3]; rfl) (by decide) ?_
    refine aw_aload_n (pc' := 56) rfl dX13_count_55 rfl ?_
    refine aw_geti (pc' := 59) (k9 := 52) dX13_count_56 rfl fX13_383 rfl (by decide) rfl (MO (A := A) hM) ?_
    refine AW.ret (some (vi _)) dX13_count_59 trivial ?_
    first | exact h0 (by omega) | exact h1 (by omega) _ hn9 | exact h2 (by omega) | exact h3 (by omega) | exact h4 (by omega) | exact h5 (by omega) | exact hB (by omega)
  by_cases z_1_4 : w = 4
  · refine aw_tabIn (pc' := 60) dX13_count_1 (by omega) (by omega) (off := 59) (by rw [z_1_4]; rfl) (by decide) ?_
    refine aw_aload_n (pc' := 61) rfl dX13_count_60 rfl ?_
    refine aw_geti (pc' := 64) (k9 := 54) dX13_count_61 rfl fX13_386 rfl (by decide) rfl (MO (A := A) hM) ?_
    refine AW.ret (some (vi _)) dX13_count_64 trivial ?_
    first | exact h0 (by omega) | exact h1 (by omega) _ hn9 | exact h2 (by omega) | exact h3 (by omega) | exact h4 (by omega) | exact h5 (by omega) | exact hB (by omega)
  by_cases z_1_5 : w = 5
  · refine aw_tabIn (pc' := 65) dX13_count_1 (by omega) (by omega) (off := 64) (by rw [z_1_5]; rfl) (by decide) ?_
    refine aw_aload_n (pc' := 66) rfl dX13_count_65 rfl ?_
    refine aw_geti (pc' := 69) (k9 := 17) dX13_count_66 rfl fX13_181 rfl (by decide) rfl (MO (A := A) hM) ?_
    refine AW.ret (some (vi _)) dX13_count_69 trivial ?_
    first | exact h0 (by omega) | exact h1 (by omega) _ hn9 | exact h2 (by omega) | exact h3 (by omega) | exact h4 (by omega) | exact h5 (by omega) | exact hB (by omega)
  refine aw_tabOut (pc' := 70) dX13_count_1 (by omega) (by decide) ?_
  refine aw_bipush (pc' := 72) (by decide +kernel) dX13_count_70 rfl ?_
  refine AW.ret (some (vi _)) dX13_count_72 trivial ?_
  first | exact h0 (by omega) | exact h1 (by omega) _ hn9 | exact h2 (by omega) | exact h3 (by omega) | exact h4 (by omega) | exact h5 (by omega) | exact hB (by omega)
