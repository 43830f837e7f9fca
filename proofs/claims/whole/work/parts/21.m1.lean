/-! ===== the reference: little methods ===== -/
theorem aw_getp {d : Nat} {M : MD} {pc pc' : Nat} {lv : LV} {st : List AV} {A : AHp} {Q : Option AV → AHp → Prop} {o p : Int} {idx ci k : Nat} (hd : decode M.2.1 pc = .ok (.getfield idx, 3)) (hp9 : pc + 3 = pc') (hf : FL M.1.cls idx ci k) {k9 : Int} (hk9 : (k : Int) = k9) (ht : tk (tyC ci k) = 1) (hfin : (clT ci k).2.2.2 = true) (hO : isO A o (ci + 1)) (he : hp A o k9 = p)
    (kk : AW d M pc' lv (vr p :: st) A Q) : AW d M pc lv (vr o :: st) A Q := by
  rw [← he] at kk
  exact aw_getfr hd hp9 hf hk9 ht hfin hO kk
theorem cmp_eq {x y : Int} : (if x = y then (0 : Int) else if x < y then -1 else 1) = 0 ↔ x = y := by (repeat' split) <;> omega
theorem cmp_lt {x y : Int} : (if x = y then (0 : Int) else if x < y then -1 else 1) < 0 ↔ x < y := by (repeat' split) <;> omega
theorem cmp_ge {x y : Int} : 0 ≤ (if x = y then (0 : Int) else if x < y then -1 else 1) ↔ y ≤ x := by (repeat' split) <;> omega
theorem cmp_gt {x y : Int} : 0 < (if x = y then (0 : Int) else if x < y then -1 else 1) ↔ y < x := by (repeat' split) <;> omega
theorem cmp_le {x y : Int} : (if x = y then (0 : Int) else if x < y then -1 else 1) ≤ 0 ↔ x ≤ y := by (repeat' split) <;> omega
theorem iv_1 {c : Prop} [Decidable c] (h : c) {x y : Int} {Q : Option AV → AHp → Prop} {A : AHp} (hQ : Q (some (vi (if c then x else y))) A) : Q (some (vi x)) A := by rw [if_pos h] at hQ; exact hQ
theorem iv_0 {c : Prop} [Decidable c] (h : ¬ c) {x y : Int} {Q : Option AV → AHp → Prop} {A : AHp} (hQ : Q (some (vi (if c then x else y))) A) : Q (some (vi y)) A := by rw [if_neg h] at hQ; exact hQ

set_option maxRecDepth 20000 in
theorem c_in {d : Nat} {v a b : Int} {A : AHp} {Q : Option AV → AHp → Prop} (hd : 0 ≤ d) (h1 : a ≤ v → v ≤ b → Q (some (vi 1)) A) (h0 : ¬ (a ≤ v ∧ v ≤ b) → Q (some (vi 0)) A) : CALL d mX13_in [vl v, vl a, vl b] A Q := by
  refine CALL.of (by decide) (Nat.le_of_ble_eq_true rfl) ?_
  change AW d mX13_in 0 [some (vl v), none, some (vl a), none, some (vl b), none] [] A Q
  refine aw_lload_n (pc' := 1) rfl dX13_in_0 rfl ?_
  refine aw_lload_n (pc' := 2) rfl dX13_in_1 rfl ?_
  refine aw_lcmp (pc' := 3) dX13_in_2 rfl ?_
  refine aw_if_lt (pt := 17) (pf := 6) dX13_in_3 (by decide) rfl (fun c_3 => ?_) (fun c_3 => ?_)
  · replace c_3 := (cmp_lt).mp c_3
    refine aw_iconst (pc' := 18) (by decide) dX13_in_17 rfl ?_
    refine AW.ret (some (vi _)) dX13_in_18 (Or.inl rfl) ?_
    exact h0 (by omega)
  · replace c_3 := (not_congr cmp_lt).mp c_3
    refine aw_lload_n (pc' := 7) rfl dX13_in_6 rfl ?_
    refine aw_lload (pc' := 9) rfl dX13_in_7 rfl ?_
    refine aw_lcmp (pc' := 10) dX13_in_9 rfl ?_
    refine aw_if_gt (pt := 17) (pf := 13) dX13_in_10 (by decide) rfl (fun c_10 => ?_) (fun c_10 => ?_)
    · replace c_10 := (cmp_gt).mp c_10
      refine aw_iconst (pc' := 18) (by decide) dX13_in_17 rfl ?_
      refine AW.ret (some (vi _)) dX13_in_18 (Or.inl rfl) ?_
      exact h0 (by omega)
    · replace c_10 := (not_congr cmp_gt).mp c_10
      refine aw_iconst (pc' := 14) (by decide) dX13_in_13 rfl ?_
      refine aw_goto (pc' := 18) dX13_in_14 (by decide) ?_
      refine AW.ret (some (vi _)) dX13_in_18 (Or.inr rfl) ?_
      exact h1 (by omega) (by omega)

set_option maxRecDepth 20000 in
theorem c_feed {d : Nat} {s : Int} {A : AHp} {Q : Option AV → AHp → Prop} (hd : 1 ≤ d) (hM : MLAY A) (ht : 0 ≤ hv A 307 17 ∧ hv A 307 17 ≤ 100)
  (hBad : ¬ (0 ≤ s ∧ s ≤ 127) → Q (some (vi (-2))) A) (hFull : 0 ≤ s → s ≤ 127 → hv A 307 17 = 100 → Q (some (vi (-4))) A)
  (hOk : 0 ≤ s → s ≤ 127 → hv A 307 17 < 100 → Q (some (vi (hv A 307 17 + 1))) (hset (hset A 322 (hv A 307 17) s) 307 17 (hv A 307 17 + 1))) : CALL d mX13_feed [vr 307, vi s] A Q := by
  refine CALL.of (by decide) (Nat.le_of_ble_eq_true rfl) ?_
  change AW d mX13_feed 0 [some (vr 307), some (vi s)] [] A Q
  refine aw_iload_n (pc' := 1) rfl dX13_feed_0 rfl ?_
  refine aw_i2l (pc' := 2) dX13_feed_1 rfl ?_
  refine aw_lconst (x := 0) (pc' := 3) (by decide +kernel) dX13_feed_2 rfl ?_
  refine aw_ldc2 (x := (127)) (pc' := 6) qX13_175 (by decide) dX13_feed_3 rfl ?_
  refine aw_callS (d' := d - 1) (as := [_, _, _]) (pc' := 9) kX13_in tX13_in lX13_177 dX13_feed_6 rfl rfl (Nat.le_of_ble_eq_true rfl) (by omega) ?_
  refine c_in (by omega) (fun g1_6 g2_6 => ?_) (fun g0_6 => ?_)
  · refine aw_if_ne (pt := 15) (pf := 12) dX13_feed_9 (by decide) rfl (fun _ => ?_) (fun c_9 => absurd (by decide) c_9)
    refine aw_aload_n (pc' := 16) rfl dX13_feed_15 rfl ?_
    refine aw_geti (pc' := 19) (k9 := 17) dX13_feed_16 rfl fX13_181 rfl (by decide) rfl (MO (A := A) hM) ?_
    refine aw_bipush (pc' := 21) (by decide +kernel) dX13_feed_19 rfl ?_
    refine aw_icmp_ne (pt := 27) (pf := 24) dX13_feed_21 (by decide) rfl (fun c_21 => ?_) (fun c_21 => ?_)
    · refine aw_aload_n (pc' := 28) rfl dX13_feed_27 rfl ?_
      refine aw_getp (pc' := 31) (k9 := 16) (p := 322) dX13_feed_28 rfl fX13_89 rfl rfl rfl (MO (A := A) hM) (M_text (A := A) hM) ?_
      refine aw_aload_n (pc' := 32) rfl dX13_feed_31 rfl ?_
      refine aw_geti (pc' := 35) (k9 := 17) dX13_feed_32 rfl fX13_181 rfl (by decide) rfl (MO (A := A) hM) ?_
      refine aw_iload_n (pc' := 36) rfl dX13_feed_35 rfl ?_
      refine aw_iast (pc' := 37) dX13_feed_36 rfl (MA_text (A := A) hM) (by omega) (by omega) ?_
      refine aw_aload_n (pc' := 38) rfl dX13_feed_37 rfl ?_
      refine aw_dup (pc' := 39) rfl dX13_feed_38 rfl ?_
      refine aw_geti (pc' := 42) (k9 := 17) dX13_feed_39 rfl fX13_181 rfl (by decide) rfl (MO (A := A) hM) ?_
      try simp only [hv_set, hv_cpy, hv_pset, hp_set, hp_cpy, Int.reduceEq, false_and, and_false, true_and, and_true, if_false, if_true, reduceIte]
      refine aw_iconst (pc' := 43) (by decide) dX13_feed_42 rfl ?_
      refine aw_iadd (pc' := 44) (by first | exact w32_id (by omega) (by omega) | rfl) dX13_feed_43 rfl ?_
      refine aw_puti (pc' := 47) (k9 := 17) dX13_feed_44 rfl fX13_181 rfl rfl rfl (MO (A := A) hM) ?_
      refine aw_aload_n (pc' := 48) rfl dX13_feed_47 rfl ?_
      refine aw_geti (pc' := 51) (k9 := 17) dX13_feed_48 rfl fX13_181 rfl (by decide) rfl (MO (A := A) hM) ?_
      try simp only [hv_set, hv_cpy, hv_pset, hp_set, hp_cpy, Int.reduceEq, false_and, and_false, true_and, and_true, if_false, if_true, reduceIte]
      refine AW.ret (some (vi _)) dX13_feed_51 trivial ?_
      exact hOk (by omega) (by omega) (by omega)
    · replace c_21 := Classical.not_not.mp c_21
      refine aw_bipush (pc' := 26) (by decide +kernel) dX13_feed_24 rfl ?_
      refine AW.ret (some (vi _)) dX13_feed_26 trivial ?_
      exact hFull (by omega) (by omega) (by omega)
  · refine aw_if_ne (pt := 15) (pf := 12) dX13_feed_9 (by decide) rfl (fun c_9 => absurd c_9 (by decide)) (fun _ => ?_)
    refine aw_bipush (pc' := 14) (by decide +kernel) dX13_feed_12 rfl ?_
    refine AW.ret (some (vi _)) dX13_feed_14 trivial ?_
    exact hBad (by omega)
