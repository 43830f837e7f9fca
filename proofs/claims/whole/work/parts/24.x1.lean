/-! ===== the class: little methods ===== -/
set_option maxRecDepth 20000 in
theorem x_isLine {d : Nat} {l : Int} {A : AHp} {Q : Option AV → AHp → Prop} (hd : 0 ≤ d) (hX : XLAY A)
  (h1 : 0 ≤ l → l < hv A 64 1 → Q (some (vi 1)) A) (h0 : ¬ (0 ≤ l ∧ l < hv A 64 1) → Q (some (vi 0)) A) : CALL d mX12_isLine [vr 60, vi l] A Q := by
  refine CALL.of (by decide) (Nat.le_of_ble_eq_true rfl) ?_
  change AW d mX12_isLine 0 [some (vr 60), some (vi l)] [] A Q
  refine aw_iload_n (pc' := 1) rfl dX12_isLine_0 rfl ?_
  refine aw_if_lt (pt := 19) (pf := 4) dX12_isLine_1 (by decide) rfl (fun c_1 => ?_) (fun c_1 => ?_)
  · refine aw_iconst (pc' := 20) (by decide) dX12_isLine_19 rfl ?_
    refine AW.ret (some (vi _)) dX12_isLine_20 (Or.inl rfl) ?_
    exact h0 (by omega)
  · refine aw_iload_n (pc' := 5) rfl dX12_isLine_4 rfl ?_
    refine aw_aload_n (pc' := 6) rfl dX12_isLine_5 rfl ?_
    refine aw_getp (pc' := 9) (k9 := 1) (p := 64) dX12_isLine_6 rfl fX12_21 rfl rfl rfl (XO (A := A) hX) (X_machine (A := A) hX) ?_
    refine aw_geti (pc' := 12) (k9 := 1) dX12_isLine_9 rfl fX12_70 rfl (by decide) rfl (XO_machine (A := A) hX) ?_
    refine aw_icmp_ge (pt := 19) (pf := 15) dX12_isLine_12 (by decide) rfl (fun c_12 => ?_) (fun c_12 => ?_)
    · refine aw_iconst (pc' := 20) (by decide) dX12_isLine_19 rfl ?_
      refine AW.ret (some (vi _)) dX12_isLine_20 (Or.inl rfl) ?_
      exact h0 (by omega)
    · refine aw_iconst (pc' := 16) (by decide) dX12_isLine_15 rfl ?_
      refine aw_goto (pc' := 20) dX12_isLine_16 (by decide) ?_
      refine AW.ret (some (vi _)) dX12_isLine_20 (Or.inr rfl) ?_
      exact h1 (by omega) (by omega)

set_option maxRecDepth 20000 in
theorem x_isLineOrNone {d : Nat} {l : Int} {A : AHp} {Q : Option AV → AHp → Prop} (hd : 1 ≤ d) (hX : XLAY A)
  (h1 : l = -1 ∨ (0 ≤ l ∧ l < hv A 64 1) → Q (some (vi 1)) A) (h0 : ¬ (l = -1 ∨ (0 ≤ l ∧ l < hv A 64 1)) → Q (some (vi 0)) A) : CALL d mX12_isLineOrNone [vr 60, vi l] A Q := by
  refine CALL.of (by decide) (Nat.le_of_ble_eq_true rfl) ?_
  change AW d mX12_isLineOrNone 0 [some (vr 60), some (vi l)] [] A Q
  refine aw_iload_n (pc' := 1) rfl dX12_isLineOrNone_0 rfl ?_
  refine aw_iconst (pc' := 2) (by decide) dX12_isLineOrNone_1 rfl ?_
  refine aw_icmp_eq (pt := 13) (pf := 5) dX12_isLineOrNone_2 (by decide) rfl (fun c_2 => ?_) (fun c_2 => ?_)
  · refine aw_iconst (pc' := 14) (by decide) dX12_isLineOrNone_13 rfl ?_
    refine aw_goto (pc' := 18) dX12_isLineOrNone_14 (by decide) ?_
    refine AW.ret (some (vi _)) dX12_isLineOrNone_18 (Or.inr rfl) ?_
    exact h1 (by omega)
  · refine aw_aload_n (pc' := 6) rfl dX12_isLineOrNone_5 rfl ?_
    refine aw_iload_n (pc' := 7) rfl dX12_isLineOrNone_6 rfl ?_
    refine aw_callV (ci := 10) (d' := d - 1) (as := [_]) (pc' := 10) (by decide) rfl kX12_isLine iX12_isLine sX12_isLine lX12_83 (XO (A := A) hX) dX12_isLineOrNone_7 rfl rfl (Nat.le_of_ble_eq_true rfl) (by omega) ?_
    refine x_isLine (by omega) hX (fun e1_7 e2_7 => ?_) (fun e0_7 => ?_)
    · refine aw_if_eq (pt := 17) (pf := 13) dX12_isLineOrNone_10 (by decide) rfl (fun c_10 => absurd c_10 (by decide)) (fun _ => ?_)
      refine aw_iconst (pc' := 14) (by decide) dX12_isLineOrNone_13 rfl ?_
      refine aw_goto (pc' := 18) dX12_isLineOrNone_14 (by decide) ?_
      refine AW.ret (some (vi _)) dX12_isLineOrNone_18 (Or.inr rfl) ?_
      exact h1 (by omega)
    · refine aw_if_eq (pt := 17) (pf := 13) dX12_isLineOrNone_10 (by decide) rfl (fun _ => ?_) (fun c_10 => absurd (by decide) c_10)
      refine aw_iconst (pc' := 18) (by decide) dX12_isLineOrNone_17 rfl ?_
      refine AW.ret (some (vi _)) dX12_isLineOrNone_18 (Or.inl rfl) ?_
      exact h0 (by omega)

set_option maxRecDepth 20000 in
theorem x_isName {d : Nat} {n : Int} {A : AHp} {Q : Option AV → AHp → Prop} (hd : 0 ≤ d) (h1 : 0 ≤ n ∧ n ≤ 4 → Q (some (vi 1)) A) (h0 : ¬ (0 ≤ n ∧ n ≤ 4) → Q (some (vi 0)) A) : CALL d mX12_isName [vi n] A Q := by
  refine CALL.of (by decide) (Nat.le_of_ble_eq_true rfl) ?_
  change AW d mX12_isName 0 [some (vi n)] [] A Q
  refine aw_iload_n (pc' := 1) rfl dX12_isName_0 rfl ?_
  refine aw_if_lt (pt := 13) (pf := 4) dX12_isName_1 (by decide) rfl (fun c_1 => ?_) (fun c_1 => ?_)
  · refine aw_iconst (pc' := 14) (by decide) dX12_isName_13 rfl ?_
    refine AW.ret (some (vi _)) dX12_isName_14 (Or.inl rfl) ?_
    exact h0 (by omega)
  · refine aw_iload_n (pc' := 5) rfl dX12_isName_4 rfl ?_
    refine aw_iconst (pc' := 6) (by decide) dX12_isName_5 rfl ?_
    refine aw_icmp_ge (pt := 13) (pf := 9) dX12_isName_6 (by decide) rfl (fun c_6 => ?_) (fun c_6 => ?_)
    · refine aw_iconst (pc' := 14) (by decide) dX12_isName_13 rfl ?_
      refine AW.ret (some (vi _)) dX12_isName_14 (Or.inl rfl) ?_
      exact h0 (by omega)
    · refine aw_iconst (pc' := 10) (by decide) dX12_isName_9 rfl ?_
      refine aw_goto (pc' := 14) dX12_isName_10 (by decide) ?_
      refine AW.ret (some (vi _)) dX12_isName_14 (Or.inr rfl) ?_
      exact h1 (by omega)

set_option maxRecDepth 20000 in
theorem x_isFunction {d : Nat} {n : Int} {A : AHp} {Q : Option AV → AHp → Prop} (hd : 0 ≤ d) (h1 : 0 ≤ n ∧ n ≤ 2 → Q (some (vi 1)) A) (h0 : ¬ (0 ≤ n ∧ n ≤ 2) → Q (some (vi 0)) A) : CALL d mX12_isFunction [vi n] A Q := by
  refine CALL.of (by decide) (Nat.le_of_ble_eq_true rfl) ?_
  change AW d mX12_isFunction 0 [some (vi n)] [] A Q
  refine aw_iload_n (pc' := 1) rfl dX12_isFunction_0 rfl ?_
  refine aw_if_lt (pt := 13) (pf := 4) dX12_isFunction_1 (by decide) rfl (fun c_1 => ?_) (fun c_1 => ?_)
  · refine aw_iconst (pc' := 14) (by decide) dX12_isFunction_13 rfl ?_
    refine AW.ret (some (vi _)) dX12_isFunction_14 (Or.inl rfl) ?_
    exact h0 (by omega)
  · refine aw_iload_n (pc' := 5) rfl dX12_isFunction_4 rfl ?_
    refine aw_iconst (pc' := 6) (by decide) dX12_isFunction_5 rfl ?_
    refine aw_icmp_ge (pt := 13) (pf := 9) dX12_isFunction_6 (by decide) rfl (fun c_6 => ?_) (fun c_6 => ?_)
    · refine aw_iconst (pc' := 14) (by decide) dX12_isFunction_13 rfl ?_
      refine AW.ret (some (vi _)) dX12_isFunction_14 (Or.inl rfl) ?_
      exact h0 (by omega)
    · refine aw_iconst (pc' := 10) (by decide) dX12_isFunction_9 rfl ?_
      refine aw_goto (pc' := 14) dX12_isFunction_10 (by decide) ?_
      refine AW.ret (some (vi _)) dX12_isFunction_14 (Or.inr rfl) ?_
      exact h1 (by omega)

set_option maxRecDepth 20000 in
theorem x_isPart {d : Nat} {n : Int} {A : AHp} {Q : Option AV → AHp → Prop} (hd : 0 ≤ d) (h1 : n = 0 ∨ n = 1 → Q (some (vi 1)) A) (h0 : ¬ (n = 0 ∨ n = 1) → Q (some (vi 0)) A) : CALL d mX12_isPart [vi n] A Q := by
  refine CALL.of (by decide) (Nat.le_of_ble_eq_true rfl) ?_
  change AW d mX12_isPart 0 [some (vi n)] [] A Q
  refine aw_iload_n (pc' := 1) rfl dX12_isPart_0 rfl ?_
  refine aw_if_eq (pt := 9) (pf := 4) dX12_isPart_1 (by decide) rfl (fun c_1 => ?_) (fun c_1 => ?_)
  · refine aw_iconst (pc' := 10) (by decide) dX12_isPart_9 rfl ?_
    refine aw_goto (pc' := 14) dX12_isPart_10 (by decide) ?_
    refine AW.ret (some (vi _)) dX12_isPart_14 (Or.inr rfl) ?_
    exact h1 (by omega)
  · refine aw_iload_n (pc' := 5) rfl dX12_isPart_4 rfl ?_
    refine aw_iconst (pc' := 6) (by decide) dX12_isPart_5 rfl ?_
    refine aw_icmp_ne (pt := 13) (pf := 9) dX12_isPart_6 (by decide) rfl (fun c_6 => ?_) (fun c_6 => ?_)
    · refine aw_iconst (pc' := 14) (by decide) dX12_isPart_13 rfl ?_
      refine AW.ret (some (vi _)) dX12_isPart_14 (Or.inl rfl) ?_
      exact h0 (by omega)
    · replace c_6 := Classical.not_not.mp c_6
      refine aw_iconst (pc' := 10) (by decide) dX12_isPart_9 rfl ?_
      refine aw_goto (pc' := 14) dX12_isPart_10 (by decide) ?_
      refine AW.ret (some (vi _)) dX12_isPart_14 (Or.inr rfl) ?_
      exact h1 (by omega)

set_option maxRecDepth 20000 in
theorem x_isTape {d : Nat} {n : Int} {A : AHp} {Q : Option AV → AHp → Prop} (hd : 0 ≤ d) (h1 : 0 ≤ n ∧ n ≤ 5 → Q (some (vi 1)) A) (h0 : ¬ (0 ≤ n ∧ n ≤ 5) → Q (some (vi 0)) A) : CALL d mX12_isTape [vi n] A Q := by
  refine CALL.of (by decide) (Nat.le_of_ble_eq_true rfl) ?_
  change AW d mX12_isTape 0 [some (vi n)] [] A Q
  refine aw_iload_n (pc' := 1) rfl dX12_isTape_0 rfl ?_
  refine aw_if_lt (pt := 14) (pf := 4) dX12_isTape_1 (by decide) rfl (fun c_1 => ?_) (fun c_1 => ?_)
  · refine aw_iconst (pc' := 15) (by decide) dX12_isTape_14 rfl ?_
    refine AW.ret (some (vi _)) dX12_isTape_15 (Or.inl rfl) ?_
    exact h0 (by omega)
  · refine aw_iload_n (pc' := 5) rfl dX12_isTape_4 rfl ?_
    refine aw_bipush (pc' := 7) (by decide +kernel) dX12_isTape_5 rfl ?_
    refine aw_icmp_ge (pt := 14) (pf := 10) dX12_isTape_7 (by decide) rfl (fun c_7 => ?_) (fun c_7 => ?_)
    · refine aw_iconst (pc' := 15) (by decide) dX12_isTape_14 rfl ?_
      refine AW.ret (some (vi _)) dX12_isTape_15 (Or.inl rfl) ?_
      exact h0 (by omega)
    · refine aw_iconst (pc' := 11) (by decide) dX12_isTape_10 rfl ?_
      refine aw_goto (pc' := 15) dX12_isTape_11 (by decide) ?_
      refine AW.ret (some (vi _)) dX12_isTape_15 (Or.inr rfl) ?_
      exact h1 (by omega)

set_option maxRecDepth 20000 in
theorem x_rdadd {d : Nat} {s : Int} {A : AHp} {Q : Option AV → AHp → Prop} (hd : 0 ≤ d) (hX : XLAY A) (ht : 0 ≤ hv A 61 2 ∧ hv A 61 2 ≤ 100) (hs0 : 0 ≤ s) (hs1 : s ≤ 127)
  (h1 : hv A 61 2 < 100 → Q (some (vi 1)) (hset (hset A 63 (hv A 61 2) s) 61 2 (hv A 61 2 + 1))) (h0 : hv A 61 2 = 100 → Q (some (vi 0)) A) : CALL d mX7_add [vr 61, vi s] A Q := by
  refine CALL.of (by decide) (Nat.le_of_ble_eq_true rfl) ?_
  change AW d mX7_add 0 [some (vr 61), some (vi s)] [] A Q
  refine aw_aload_n (pc' := 1) rfl dX7_add_0 rfl ?_
  refine aw_geti (pc' := 4) (k9 := 2) dX7_add_1 rfl fX7_25 rfl (by decide) rfl (XO_reader (A := A) hX) ?_
  refine aw_bipush (pc' := 6) (by decide +kernel) dX7_add_4 rfl ?_
  refine aw_icmp_lt (pt := 11) (pf := 9) dX7_add_6 (by decide) rfl (fun c_6 => ?_) (fun c_6 => ?_)
  · refine aw_aload_n (pc' := 12) rfl dX7_add_11 rfl ?_
    refine aw_getp (pc' := 15) (k9 := 1) (p := 63) dX7_add_12 rfl fX7_21 rfl rfl rfl (XO_reader (A := A) hX) (X_text (A := A) hX) ?_
    refine aw_aload_n (pc' := 16) rfl dX7_add_15 rfl ?_
    refine aw_geti (pc' := 19) (k9 := 2) dX7_add_16 rfl fX7_25 rfl (by decide) rfl (XO_reader (A := A) hX) ?_
    refine aw_iload_n (pc' := 20) rfl dX7_add_19 rfl ?_
    refine aw_i2b (pc' := 21) (i8_id (by omega) (by omega)) dX7_add_20 rfl ?_
    refine aw_bast (pc' := 22) dX7_add_21 rfl (XA_text (A := A) hX) (by omega) (by omega) (by omega) ?_
    refine aw_aload_n (pc' := 23) rfl dX7_add_22 rfl ?_
    refine aw_dup (pc' := 24) rfl dX7_add_23 rfl ?_
    refine aw_geti (pc' := 27) (k9 := 2) dX7_add_24 rfl fX7_25 rfl (by decide) rfl (XO_reader (A := A) hX) ?_
    try simp (disch := omega) only [hv_e1, hv_n1, hv_n2, hv_c1, hv_c2, hv_pset]
    refine aw_iconst (pc' := 28) (by decide) dX7_add_27 rfl ?_
    refine aw_iadd (pc' := 29) (by first | exact w32_id (by omega) (by omega) | rfl) dX7_add_28 rfl ?_
    refine aw_puti (pc' := 32) (k9 := 2) dX7_add_29 rfl fX7_25 rfl rfl rfl (XO_reader (A := A) hX) ?_
    refine aw_iconst (pc' := 33) (by decide) dX7_add_32 rfl ?_
    refine AW.ret (some (vi _)) dX7_add_33 (Or.inr rfl) ?_
    exact h1 (by omega)
  · refine aw_iconst (pc' := 10) (by decide) dX7_add_9 rfl ?_
    refine AW.ret (some (vi _)) dX7_add_10 (Or.inl rfl) ?_
    exact h0 (by omega)

set_option maxRecDepth 20000 in
theorem x_feed {d : Nat} {s : Int} {A : AHp} {Q : Option AV → AHp → Prop} (hd : 1 ≤ d) (hX : XLAY A) (ht : 0 ≤ hv A 61 2 ∧ hv A 61 2 ≤ 100)
  (hBad : ¬ (0 ≤ s ∧ s ≤ 127) → Q (some (vi (-2))) A) (hFull : 0 ≤ s → s ≤ 127 → hv A 61 2 = 100 → Q (some (vi (-4))) A)
  (hOk : 0 ≤ s → s ≤ 127 → hv A 61 2 < 100 → Q (some (vi (hv A 61 2 + 1))) (hset (hset A 63 (hv A 61 2) s) 61 2 (hv A 61 2 + 1))) : CALL d mX12_feed [vr 60, vi s] A Q := by
  refine CALL.of (by decide) (Nat.le_of_ble_eq_true rfl) ?_
  change AW d mX12_feed 0 [some (vr 60), some (vi s)] [] A Q
  refine aw_iload_n (pc' := 1) rfl dX12_feed_0 rfl ?_
  refine aw_if_lt (pt := 10) (pf := 4) dX12_feed_1 (by decide) rfl (fun c_1 => ?_) (fun c_1 => ?_)
  · refine aw_bipush (pc' := 12) (by decide +kernel) dX12_feed_10 rfl ?_
    refine AW.ret (some (vi _)) dX12_feed_12 trivial ?_
    first | exact hBad (by omega) | exact hFull (by omega) (by omega) (by omega) | exact hOk (by omega) (by omega) (by omega)
  · refine aw_iload_n (pc' := 5) rfl dX12_feed_4 rfl ?_
    refine aw_bipush (pc' := 7) (by decide +kernel) dX12_feed_5 rfl ?_
    refine aw_icmp_le (pt := 13) (pf := 10) dX12_feed_7 (by decide) rfl (fun c_7 => ?_) (fun c_7 => ?_)
    · refine aw_aload_n (pc' := 14) rfl dX12_feed_13 rfl ?_
      refine aw_getp (pc' := 17) (k9 := 0) (p := 61) dX12_feed_14 rfl fX12_14 rfl rfl rfl (XO (A := A) hX) (X_reader (A := A) hX) ?_
      refine aw_iload_n (pc' := 18) rfl dX12_feed_17 rfl ?_
      refine aw_callV (ci := 6) (d' := d - 1) (as := [_]) (pc' := 21) (by decide) rfl kX7_add iX7_add sX7_add lX12_62 (XO_reader (A := A) hX) dX12_feed_18 rfl rfl (Nat.le_of_ble_eq_true rfl) (by omega) ?_
      refine x_rdadd (by omega) hX ht (by omega) (by omega) (fun e1 => ?_) (fun e0 => ?_)
      · refine aw_if_eq (pt := 34) (pf := 24) dX12_feed_21 (by decide) rfl (fun c_21 => absurd c_21 (by decide)) (fun _ => ?_)
        refine aw_aload_n (pc' := 25) rfl dX12_feed_24 rfl ?_
        refine aw_getp (pc' := 28) (k9 := 0) (p := 61) dX12_feed_25 rfl fX12_14 rfl rfl rfl (XO (A := A) hX) (X_reader (A := A) hX) ?_
        refine aw_geti (pc' := 31) (k9 := 2) dX12_feed_28 rfl fX12_66 rfl (by decide) rfl (XO_reader (A := A) hX) ?_
        try simp (disch := omega) only [hv_e1, hv_n1, hv_n2, hv_c1, hv_c2, hv_pset]
        refine aw_goto (pc' := 36) dX12_feed_31 (by decide) ?_
        refine AW.ret (some (vi _)) dX12_feed_36 trivial ?_
        first | exact hBad (by omega) | exact hFull (by omega) (by omega) (by omega) | exact hOk (by omega) (by omega) (by omega)
      · refine aw_if_eq (pt := 34) (pf := 24) dX12_feed_21 (by decide) rfl (fun _ => ?_) (fun c_21 => absurd (by decide) c_21)
        refine aw_bipush (pc' := 36) (by decide +kernel) dX12_feed_34 rfl ?_
        refine AW.ret (some (vi _)) dX12_feed_36 trivial ?_
        first | exact hBad (by omega) | exact hFull (by omega) (by omega) (by omega) | exact hOk (by omega) (by omega) (by omega)
    · refine aw_bipush (pc' := 12) (by decide +kernel) dX12_feed_10 rfl ?_
      refine AW.ret (some (vi _)) dX12_feed_12 trivial ?_
      first | exact hBad (by omega) | exact hFull (by omega) (by omega) (by omega) | exact hOk (by omega) (by omega) (by omega)

set_option maxRecDepth 20000 in
theorem x_define {d : Nat} {f l : Int} {A : AHp} {Q : Option AV → AHp → Prop} (hd : 2 ≤ d) (hX : XLAY A) (hln : 0 ≤ hv A 64 1 ∧ hv A 64 1 ≤ 8)
  (hN : ¬ (0 ≤ f ∧ f ≤ 2 ∧ (l = -1 ∨ (0 ≤ l ∧ l < hv A 64 1))) → Q (some (vi (-1))) A)
  (hO1 : 0 ≤ f → f ≤ 2 → l = -1 → Q (some (vi (hv A 209 f))) (hset A 209 f (-5)))
  (hO2 : 0 ≤ f → f ≤ 2 → 0 ≤ l → l < hv A 64 1 → Q (some (vi (hv A 209 f))) (hset A 209 f l)) : CALL d mX12_define [vr 60, vi f, vi l] A Q := by
  refine CALL.of (by decide) (Nat.le_of_ble_eq_true rfl) ?_
  change AW d mX12_define 0 [some (vr 60), some (vi f), some (vi l), none] [] A Q
  refine aw_iload_n (pc' := 1) rfl dX12_define_0 rfl ?_
  refine aw_callS (d' := d - 1) (as := [_]) (pc' := 4) kX12_isFunction tX12_isFunction lX12_101 dX12_define_1 rfl rfl (Nat.le_of_ble_eq_true rfl) (by omega) ?_
  refine x_isFunction (by omega)  (fun e1_1 => ?_) (fun e0_1 => ?_)
  · refine aw_if_eq (pt := 15) (pf := 7) dX12_define_4 (by decide) rfl (fun c_4 => absurd c_4 (by decide)) (fun _ => ?_)
    refine aw_aload_n (pc' := 8) rfl dX12_define_7 rfl ?_
    refine aw_iload_n (pc' := 9) rfl dX12_define_8 rfl ?_
    refine aw_callV (ci := 10) (d' := d - 1) (as := [_]) (pc' := 12) (by decide) rfl kX12_isLineOrNone iX12_isLineOrNone sX12_isLineOrNone lX12_104 (XO (A := A) hX) dX12_define_9 rfl rfl (Nat.le_of_ble_eq_true rfl) (by omega) ?_
    refine x_isLineOrNone (by omega) hX (fun e1_9 => ?_) (fun e0_9 => ?_)
    · refine aw_if_ne (pt := 17) (pf := 15) dX12_define_12 (by decide) rfl (fun _ => ?_) (fun c_12 => absurd (by decide) c_12)
      refine aw_aload_n (pc' := 18) rfl dX12_define_17 rfl ?_
      refine aw_getp (pc' := 21) (k9 := 2) (p := 207) dX12_define_18 rfl fX12_28 rfl rfl rfl (XO (A := A) hX) (X_now (A := A) hX) ?_
      refine aw_getp (pc' := 24) (k9 := 1) (p := 209) dX12_define_21 rfl fX12_107 rfl rfl rfl (XK_now (A := A) hX).1 (XK_now (A := A) hX).2.2.1.1 ?_
      refine aw_iload_n (pc' := 25) rfl dX12_define_24 rfl ?_
      refine aw_iald (pc' := 26) dX12_define_25 rfl (XK_now (A := A) hX).2.2.1.2 (by omega) (by omega) ?_
      refine aw_istore_n (pc' := 27) (lv' := [_, _, _, _]) dX12_define_26 rfl (by decide) rfl ?_
      refine aw_aload_n (pc' := 28) rfl dX12_define_27 rfl ?_
      refine aw_getp (pc' := 31) (k9 := 2) (p := 207) dX12_define_28 rfl fX12_28 rfl rfl rfl (XO (A := A) hX) (X_now (A := A) hX) ?_
      refine aw_getp (pc' := 34) (k9 := 1) (p := 209) dX12_define_31 rfl fX12_107 rfl rfl rfl (XK_now (A := A) hX).1 (XK_now (A := A) hX).2.2.1.1 ?_
      refine aw_iload_n (pc' := 35) rfl dX12_define_34 rfl ?_
      refine aw_iload_n (pc' := 36) rfl dX12_define_35 rfl ?_
      refine aw_if_ge (pt := 44) (pf := 39) dX12_define_36 (by decide) rfl (fun c_36 => ?_) (fun c_36 => ?_)
      · refine aw_iload_n (pc' := 45) rfl dX12_define_44 rfl ?_
        refine aw_iast (pc' := 46) dX12_define_45 rfl (XK_now (A := A) hX).2.2.1.2 (by omega) (by omega) ?_
        refine aw_iload_n (pc' := 47) rfl dX12_define_46 rfl ?_
        refine AW.ret (some (vi _)) dX12_define_47 trivial ?_
        first | exact hN (by omega) | exact hO1 (by omega) (by omega) (by omega) | exact hO2 (by omega) (by omega) (by omega) (by omega)
      · refine aw_bipush (pc' := 41) (by decide +kernel) dX12_define_39 rfl ?_
        refine aw_goto (pc' := 45) dX12_define_41 (by decide) ?_
        refine aw_iast (pc' := 46) dX12_define_45 rfl (XK_now (A := A) hX).2.2.1.2 (by omega) (by omega) ?_
        refine aw_iload_n (pc' := 47) rfl dX12_define_46 rfl ?_
        refine AW.ret (some (vi _)) dX12_define_47 trivial ?_
        first | exact hN (by omega) | exact hO1 (by omega) (by omega) (by omega) | exact hO2 (by omega) (by omega) (by omega) (by omega)
    · refine aw_if_ne (pt := 17) (pf := 15) dX12_define_12 (by decide) rfl (fun c_12 => absurd c_12 (by decide)) (fun _ => ?_)
      refine aw_iconst (pc' := 16) (by decide) dX12_define_15 rfl ?_
      refine AW.ret (some (vi _)) dX12_define_16 trivial ?_
      first | exact hN (by omega) | exact hO1 (by omega) (by omega) (by omega) | exact hO2 (by omega) (by omega) (by omega) (by omega)
  · refine aw_if_eq (pt := 15) (pf := 7) dX12_define_4 (by decide) rfl (fun _ => ?_) (fun c_4 => absurd (by decide) c_4)
    refine aw_iconst (pc' := 16) (by decide) dX12_define_15 rfl ?_
    refine AW.ret (some (vi _)) dX12_define_16 trivial ?_
    first | exact hN (by omega) | exact hO1 (by omega) (by omega) (by omega) | exact hO2 (by omega) (by omega) (by omega) (by omega)

set_option maxRecDepth 20000 in
theorem x_trap {d : Nat} {l : Int} {A : AHp} {Q : Option AV → AHp → Prop} (hd : 2 ≤ d) (hX : XLAY A) (hln : 0 ≤ hv A 64 1 ∧ hv A 64 1 ≤ 8)
  (hN : ¬ (l = -1 ∨ (0 ≤ l ∧ l < hv A 64 1)) → Q (some (vi (-1))) A)
  (hO1 : l = -1 → Q (some (vi (hv A 207 2))) (hset A 207 2 (-5)))
  (hO2 : 0 ≤ l → l < hv A 64 1 → Q (some (vi (hv A 207 2))) (hset A 207 2 l)) : CALL d mX12_trap [vr 60, vi l] A Q := by
  refine CALL.of (by decide) (Nat.le_of_ble_eq_true rfl) ?_
  change AW d mX12_trap 0 [some (vr 60), some (vi l), none] [] A Q
  refine aw_aload_n (pc' := 1) rfl dX12_trap_0 rfl ?_
  refine aw_iload_n (pc' := 2) rfl dX12_trap_1 rfl ?_
  refine aw_callV (ci := 10) (d' := d - 1) (as := [_]) (pc' := 5) (by decide) rfl kX12_isLineOrNone iX12_isLineOrNone sX12_isLineOrNone lX12_104 (XO (A := A) hX) dX12_trap_2 rfl rfl (Nat.le_of_ble_eq_true rfl) (by omega) ?_
  refine x_isLineOrNone (by omega) hX (fun e1_2 => ?_) (fun e0_2 => ?_)
  · refine aw_if_ne (pt := 10) (pf := 8) dX12_trap_5 (by decide) rfl (fun _ => ?_) (fun c_5 => absurd (by decide) c_5)
    refine aw_aload_n (pc' := 11) rfl dX12_trap_10 rfl ?_
    refine aw_getp (pc' := 14) (k9 := 2) (p := 207) dX12_trap_11 rfl fX12_28 rfl rfl rfl (XO (A := A) hX) (X_now (A := A) hX) ?_
    refine aw_geti (pc' := 17) (k9 := 2) dX12_trap_14 rfl fX12_110 rfl (by decide) rfl (XK_now (A := A) hX).1 ?_
    refine aw_istore_n (pc' := 18) (lv' := [_, _, _]) dX12_trap_17 rfl (by decide) rfl ?_
    refine aw_aload_n (pc' := 19) rfl dX12_trap_18 rfl ?_
    refine aw_getp (pc' := 22) (k9 := 2) (p := 207) dX12_trap_19 rfl fX12_28 rfl rfl rfl (XO (A := A) hX) (X_now (A := A) hX) ?_
    refine aw_iload_n (pc' := 23) rfl dX12_trap_22 rfl ?_
    refine aw_if_ge (pt := 31) (pf := 26) dX12_trap_23 (by decide) rfl (fun c_23 => ?_) (fun c_23 => ?_)
    · refine aw_iload_n (pc' := 32) rfl dX12_trap_31 rfl ?_
      refine aw_puti (pc' := 35) (k9 := 2) dX12_trap_32 rfl fX12_110 rfl rfl rfl (XK_now (A := A) hX).1 ?_
      refine aw_iload_n (pc' := 36) rfl dX12_trap_35 rfl ?_
      refine AW.ret (some (vi _)) dX12_trap_36 trivial ?_
      first | exact hN (by omega) | exact hO1 (by omega) | exact hO2 (by omega) (by omega)
    · refine aw_bipush (pc' := 28) (by decide +kernel) dX12_trap_26 rfl ?_
      refine aw_goto (pc' := 32) dX12_trap_28 (by decide) ?_
      refine aw_puti (pc' := 35) (k9 := 2) dX12_trap_32 rfl fX12_110 rfl rfl rfl (XK_now (A := A) hX).1 ?_
      refine aw_iload_n (pc' := 36) rfl dX12_trap_35 rfl ?_
      refine AW.ret (some (vi _)) dX12_trap_36 trivial ?_
      first | exact hN (by omega) | exact hO1 (by omega) | exact hO2 (by omega) (by omega)
  · refine aw_if_ne (pt := 10) (pf := 8) dX12_trap_5 (by decide) rfl (fun c_5 => absurd c_5 (by decide)) (fun _ => ?_)
    refine aw_iconst (pc' := 9) (by decide) dX12_trap_8 rfl ?_
    refine AW.ret (some (vi _)) dX12_trap_9 trivial ?_
    first | exact hN (by omega) | exact hO1 (by omega) | exact hO2 (by omega) (by omega)

set_option maxRecDepth 20000 in
theorem x_value {d : Nat} {n v : Int} {A : AHp} {Q : Option AV → AHp → Prop} (hd : 1 ≤ d) (hX : XLAY A)
  (hN : ¬ (0 ≤ n ∧ n ≤ 4) → Q (some (vl (-9223372036854775808))) A)
  (hO : 0 ≤ n → n ≤ 4 → Q (some (vl (hv A 208 n))) (hset A 208 n v)) : CALL d mX12_value [vr 60, vi n, vi v] A Q := by
  refine CALL.of (by decide) (Nat.le_of_ble_eq_true rfl) ?_
  change AW d mX12_value 0 [some (vr 60), some (vi n), some (vi v), none] [] A Q
  refine aw_iload_n (pc' := 1) rfl dX12_value_0 rfl ?_
  refine aw_callS (d' := d - 1) (as := [_]) (pc' := 4) kX12_isName tX12_isName lX12_113 dX12_value_1 rfl rfl (Nat.le_of_ble_eq_true rfl) (by omega) ?_
  refine x_isName (by omega)  (fun e1_1 => ?_) (fun e0_1 => ?_)
  · refine aw_if_ne (pt := 11) (pf := 7) dX12_value_4 (by decide) rfl (fun _ => ?_) (fun c_4 => absurd (by decide) c_4)
    refine aw_aload_n (pc' := 12) rfl dX12_value_11 rfl ?_
    refine aw_getp (pc' := 15) (k9 := 2) (p := 207) dX12_value_12 rfl fX12_28 rfl rfl rfl (XO (A := A) hX) (X_now (A := A) hX) ?_
    refine aw_getp (pc' := 18) (k9 := 0) (p := 208) dX12_value_15 rfl fX12_118 rfl rfl rfl (XK_now (A := A) hX).1 (XK_now (A := A) hX).2.1.1 ?_
    refine aw_iload_n (pc' := 19) rfl dX12_value_18 rfl ?_
    refine aw_iald (pc' := 20) dX12_value_19 rfl (XK_now (A := A) hX).2.1.2 (by omega) (by omega) ?_
    refine aw_istore_n (pc' := 21) (lv' := [_, _, _, _]) dX12_value_20 rfl (by decide) rfl ?_
    refine aw_aload_n (pc' := 22) rfl dX12_value_21 rfl ?_
    refine aw_getp (pc' := 25) (k9 := 2) (p := 207) dX12_value_22 rfl fX12_28 rfl rfl rfl (XO (A := A) hX) (X_now (A := A) hX) ?_
    refine aw_getp (pc' := 28) (k9 := 0) (p := 208) dX12_value_25 rfl fX12_118 rfl rfl rfl (XK_now (A := A) hX).1 (XK_now (A := A) hX).2.1.1 ?_
    refine aw_iload_n (pc' := 29) rfl dX12_value_28 rfl ?_
    refine aw_iload_n (pc' := 30) rfl dX12_value_29 rfl ?_
    refine aw_iast (pc' := 31) dX12_value_30 rfl (XK_now (A := A) hX).2.1.2 (by omega) (by omega) ?_
    refine aw_iload_n (pc' := 32) rfl dX12_value_31 rfl ?_
    refine aw_i2l (pc' := 33) dX12_value_32 rfl ?_
    refine AW.ret (some (vl _)) dX12_value_33 trivial ?_
    first | exact hN (by omega) | exact hO (by omega) (by omega)
  · refine aw_if_ne (pt := 11) (pf := 7) dX12_value_4 (by decide) rfl (fun c_4 => absurd c_4 (by decide)) (fun _ => ?_)
    refine aw_ldc2 (x := (-9223372036854775808)) (pc' := 10) qX12_116 (by decide) dX12_value_7 rfl ?_
    refine AW.ret (some (vl _)) dX12_value_10 trivial ?_
    first | exact hN (by omega) | exact hO (by omega) (by omega)

set_option maxRecDepth 20000 in
theorem x_at {d : Nat} {a p : Int} {A : AHp} {Q : Option AV → AHp → Prop} (hd : 0 ≤ d) (hN : NumsAt A a) (hs60 : hv A a 1 ≤ 60)
  (h0 : ¬ (0 ≤ p ∧ p < hv A a 1) → Q (some (vl (-9223372036854775808))) A) (h1 : 0 ≤ p → p < hv A a 1 → Q (some (vl (hv A (a + 1) p))) A) : CALL d mX5_at [vr a, vi p] A Q := by
  refine CALL.of (by decide) (Nat.le_of_ble_eq_true rfl) ?_
  change AW d mX5_at 0 [some (vr a), some (vi p)] [] A Q
  refine aw_iload_n (pc' := 1) rfl dX5_at_0 rfl ?_
  refine aw_if_lt (pt := 22) (pf := 4) dX5_at_1 (by decide) rfl (fun c_1 => ?_) (fun c_1 => ?_)
  · refine aw_ldc2 (x := (-9223372036854775808)) (pc' := 25) qX5_19 (by decide) dX5_at_22 rfl ?_
    refine AW.ret (some (vl _)) dX5_at_25 trivial ?_
    first | exact h0 (by omega) | exact h1 (by omega) (by omega)
  · refine aw_iload_n (pc' := 5) rfl dX5_at_4 rfl ?_
    refine aw_aload_n (pc' := 6) rfl dX5_at_5 rfl ?_
    refine aw_geti (pc' := 9) (k9 := 1) dX5_at_6 rfl fX5_15 rfl (by decide) rfl hN.1 ?_
    refine aw_icmp_ge (pt := 22) (pf := 12) dX5_at_9 (by decide) rfl (fun c_9 => ?_) (fun c_9 => ?_)
    · refine aw_ldc2 (x := (-9223372036854775808)) (pc' := 25) qX5_19 (by decide) dX5_at_22 rfl ?_
      refine AW.ret (some (vl _)) dX5_at_25 trivial ?_
      first | exact h0 (by omega) | exact h1 (by omega) (by omega)
    · refine aw_aload_n (pc' := 13) rfl dX5_at_12 rfl ?_
      refine aw_getp (pc' := 16) (k9 := 0) (p := (a + 1)) dX5_at_13 rfl fX5_9 rfl rfl rfl hN.1 hN.2.1 ?_
      refine aw_iload_n (pc' := 17) rfl dX5_at_16 rfl ?_
      refine aw_iald (pc' := 18) dX5_at_17 rfl hN.2.2 (by omega) (by omega) ?_
      refine aw_i2l (pc' := 19) dX5_at_18 rfl ?_
      refine aw_goto (pc' := 25) dX5_at_19 (by decide) ?_
      refine AW.ret (some (vl _)) dX5_at_25 trivial ?_
      first | exact h0 (by omega) | exact h1 (by omega) (by omega)

set_option maxRecDepth 20000 in
theorem x_nadd {d : Nat} {a x : Int} {A : AHp} {Q : Option AV → AHp → Prop} (hd : 0 ≤ d) (hN : NumsAt A a) (hs0 : 0 ≤ hv A a 1) (ha : 0 < a)
  (h0 : 60 ≤ hv A a 1 → Q none A) (h1 : hv A a 1 < 60 → Q none (hset (hset A (a + 1) (hv A a 1) (w32 x)) a 1 (hv A a 1 + 1))) : CALL d mX5_add [vr a, vl x] A Q := by
  refine CALL.of (by decide) (Nat.le_of_ble_eq_true rfl) ?_
  change AW d mX5_add 0 [some (vr a), some (vl x), none] [] A Q
  refine aw_aload_n (pc' := 1) rfl dX5_add_0 rfl ?_
  refine aw_geti (pc' := 4) (k9 := 1) dX5_add_1 rfl fX5_15 rfl (by decide) rfl hN.1 ?_
  refine aw_bipush (pc' := 6) (by decide +kernel) dX5_add_4 rfl ?_
  refine aw_icmp_ge (pt := 30) (pf := 9) dX5_add_6 (by decide) rfl (fun c_6 => ?_) (fun c_6 => ?_)
  · refine AW.ret none dX5_add_30 trivial ?_
    first | exact h0 (by omega) | exact h1 (by omega)
  · refine aw_aload_n (pc' := 10) rfl dX5_add_9 rfl ?_
    refine aw_getp (pc' := 13) (k9 := 0) (p := (a + 1)) dX5_add_10 rfl fX5_9 rfl rfl rfl hN.1 hN.2.1 ?_
    refine aw_aload_n (pc' := 14) rfl dX5_add_13 rfl ?_
    refine aw_geti (pc' := 17) (k9 := 1) dX5_add_14 rfl fX5_15 rfl (by decide) rfl hN.1 ?_
    refine aw_lload_n (pc' := 18) rfl dX5_add_17 rfl ?_
    refine aw_l2i (pc' := 19) (by first | exact w32_id (by omega) (by omega) | rfl) dX5_add_18 rfl ?_
    refine aw_iast (pc' := 20) dX5_add_19 rfl hN.2.2 (by omega) (by omega) ?_
    refine aw_aload_n (pc' := 21) rfl dX5_add_20 rfl ?_
    refine aw_dup (pc' := 22) rfl dX5_add_21 rfl ?_
    refine aw_geti (pc' := 25) (k9 := 1) dX5_add_22 rfl fX5_15 rfl (by decide) rfl hN.1 ?_
    try simp (disch := omega) only [hv_e1, hv_n1, hv_n2, hv_c1, hv_c2, hv_pset]
    refine aw_iconst (pc' := 26) (by decide) dX5_add_25 rfl ?_
    refine aw_iadd (pc' := 27) (by first | exact w32_id (by omega) (by omega) | rfl) dX5_add_26 rfl ?_
    refine aw_puti (pc' := 30) (k9 := 1) dX5_add_27 rfl fX5_15 rfl rfl rfl hN.1 ?_
    refine AW.ret none dX5_add_30 trivial ?_
    first | exact h0 (by omega) | exact h1 (by omega)

set_option maxRecDepth 20000 in
theorem x_radd {d : Nat} {a n u v : Int} {A : AHp} {Q : Option AV → AHp → Prop} (hd : 0 ≤ d) (hR : RowsAt A a n) (hs0 : 0 ≤ hv A a 2) (hs1 : hv A a 2 ≤ n) (ha : 0 < a) (hn9 : n ≤ 1000)
  (h0 : hv A a 2 = n → Q (some (vi (-4))) A) (h1 : hv A a 2 < n → Q (some (vi (hv A a 2 + 1))) (hset (hset (hset A (a + 1) (hv A a 2) u) (a + 2) (hv A a 2) v) a 2 (hv A a 2 + 1))) : CALL d mX8_add [vr a, vi u, vi v] A Q := by
  refine CALL.of (by decide) (Nat.le_of_ble_eq_true rfl) ?_
  change AW d mX8_add 0 [some (vr a), some (vi u), some (vi v)] [] A Q
  refine aw_aload_n (pc' := 1) rfl dX8_add_0 rfl ?_
  refine aw_geti (pc' := 4) (k9 := 2) dX8_add_1 rfl fX8_18 rfl (by decide) rfl hR.1 ?_
  refine aw_aload_n (pc' := 5) rfl dX8_add_4 rfl ?_
  refine aw_getp (pc' := 8) (k9 := 0) (p := (a + 1)) dX8_add_5 rfl fX8_9 rfl rfl rfl hR.1 hR.2.1 ?_
  refine aw_alen (pc' := 9) dX8_add_8 rfl hR.2.2.2.1 ?_
  refine aw_icmp_lt (pt := 15) (pf := 12) dX8_add_9 (by decide) rfl (fun c_9 => ?_) (fun c_9 => ?_)
  · refine aw_aload_n (pc' := 16) rfl dX8_add_15 rfl ?_
    refine aw_getp (pc' := 19) (k9 := 0) (p := (a + 1)) dX8_add_16 rfl fX8_9 rfl rfl rfl hR.1 hR.2.1 ?_
    refine aw_aload_n (pc' := 20) rfl dX8_add_19 rfl ?_
    refine aw_geti (pc' := 23) (k9 := 2) dX8_add_20 rfl fX8_18 rfl (by decide) rfl hR.1 ?_
    refine aw_iload_n (pc' := 24) rfl dX8_add_23 rfl ?_
    refine aw_iast (pc' := 25) dX8_add_24 rfl hR.2.2.2.1 (by omega) (by omega) ?_
    refine aw_aload_n (pc' := 26) rfl dX8_add_25 rfl ?_
    refine aw_getp (pc' := 29) (k9 := 1) (p := (a + 2)) dX8_add_26 rfl fX8_15 rfl rfl rfl hR.1 hR.2.2.1 ?_
    refine aw_aload_n (pc' := 30) rfl dX8_add_29 rfl ?_
    refine aw_geti (pc' := 33) (k9 := 2) dX8_add_30 rfl fX8_18 rfl (by decide) rfl hR.1 ?_
    try simp (disch := omega) only [hv_e1, hv_n1, hv_n2, hv_c1, hv_c2, hv_pset]
    refine aw_iload_n (pc' := 34) rfl dX8_add_33 rfl ?_
    refine aw_iast (pc' := 35) dX8_add_34 rfl hR.2.2.2.2 (by omega) (by omega) ?_
    refine aw_aload_n (pc' := 36) rfl dX8_add_35 rfl ?_
    refine aw_dup (pc' := 37) rfl dX8_add_36 rfl ?_
    refine aw_geti (pc' := 40) (k9 := 2) dX8_add_37 rfl fX8_18 rfl (by decide) rfl hR.1 ?_
    try simp (disch := omega) only [hv_e1, hv_n1, hv_n2, hv_c1, hv_c2, hv_pset]
    refine aw_iconst (pc' := 41) (by decide) dX8_add_40 rfl ?_
    refine aw_iadd (pc' := 42) (by first | exact w32_id (by omega) (by omega) | rfl) dX8_add_41 rfl ?_
    refine aw_puti (pc' := 45) (k9 := 2) dX8_add_42 rfl fX8_18 rfl rfl rfl hR.1 ?_
    refine aw_aload_n (pc' := 46) rfl dX8_add_45 rfl ?_
    refine aw_geti (pc' := 49) (k9 := 2) dX8_add_46 rfl fX8_18 rfl (by decide) rfl hR.1 ?_
    try simp (disch := omega) only [hv_e1, hv_n1, hv_n2, hv_c1, hv_c2, hv_pset]
    refine AW.ret (some (vi _)) dX8_add_49 trivial ?_
    first | exact h0 (by omega) | exact h1 (by omega)
  · refine aw_bipush (pc' := 14) (by decide +kernel) dX8_add_12 rfl ?_
    refine AW.ret (some (vi _)) dX8_add_14 trivial ?_
    first | exact h0 (by omega) | exact h1 (by omega)

set_option maxRecDepth 20000 in
theorem x_rclear {d : Nat} {a n : Int} {A : AHp} {Q : Option AV → AHp → Prop} (hd : 0 ≤ d) (hR : RowsAt A a n) (hQ : Q (some (vi 0)) (hset A a 2 0)) : CALL d mX8_clear [vr a] A Q := by
  refine CALL.of (by decide) (Nat.le_of_ble_eq_true rfl) ?_
  change AW d mX8_clear 0 [some (vr a)] [] A Q
  refine aw_aload_n (pc' := 1) rfl dX8_clear_0 rfl ?_
  refine aw_iconst (pc' := 2) (by decide) dX8_clear_1 rfl ?_
  refine aw_puti (pc' := 5) (k9 := 2) dX8_clear_2 rfl fX8_18 rfl rfl rfl hR.1 ?_
  refine aw_iconst (pc' := 6) (by decide) dX8_clear_5 rfl ?_
  refine AW.ret (some (vi _)) dX8_clear_6 trivial ?_
  exact hQ

set_option maxRecDepth 20000 in
theorem x_see {d : Nat} {p v : Int} {A : AHp} {Q : Option AV → AHp → Prop} (hd : 1 ≤ d) (hX : XLAY A) (hs9 : 0 ≤ hv A 212 2 ∧ hv A 212 2 ≤ 5)
  (hC : p = -1 → Q (some (vi 0)) (hset A 212 2 0)) (hB : p ≠ -1 → ¬ (0 ≤ p ∧ p ≤ 59) → Q (some (vi (-2))) A) (hF : 0 ≤ p → p ≤ 59 → hv A 212 2 = 5 → Q (some (vi (-4))) A)
  (hO : 0 ≤ p → p ≤ 59 → hv A 212 2 < 5 → Q (some (vi (hv A 212 2 + 1))) (hset (hset (hset A 213 (hv A 212 2) p) 214 (hv A 212 2) v) 212 2 (hv A 212 2 + 1))) : CALL d mX12_see [vr 60, vi p, vi v] A Q := by
  refine CALL.of (by decide) (Nat.le_of_ble_eq_true rfl) ?_
  change AW d mX12_see 0 [some (vr 60), some (vi p), some (vi v)] [] A Q
  refine aw_iload_n (pc' := 1) rfl dX12_see_0 rfl ?_
  refine aw_iconst (pc' := 2) (by decide) dX12_see_1 rfl ?_
  refine aw_icmp_ne (pt := 16) (pf := 5) dX12_see_2 (by decide) rfl (fun c_2 => ?_) (fun c_2 => ?_)
  · refine aw_iload_n (pc' := 17) rfl dX12_see_16 rfl ?_
    refine aw_if_lt (pt := 26) (pf := 20) dX12_see_17 (by decide) rfl (fun c_17 => ?_) (fun c_17 => ?_)
    · refine aw_bipush (pc' := 28) (by decide +kernel) dX12_see_26 rfl ?_
      refine AW.ret (some (vi _)) dX12_see_28 trivial ?_
      first | exact hC (by omega) | exact hB (by omega) (by omega) | exact hF (by omega) (by omega) (by omega) | exact hO (by omega) (by omega) (by omega)
    · refine aw_iload_n (pc' := 21) rfl dX12_see_20 rfl ?_
      refine aw_bipush (pc' := 23) (by decide +kernel) dX12_see_21 rfl ?_
      refine aw_icmp_lt (pt := 29) (pf := 26) dX12_see_23 (by decide) rfl (fun c_23 => ?_) (fun c_23 => ?_)
      · refine aw_aload_n (pc' := 30) rfl dX12_see_29 rfl ?_
        refine aw_getp (pc' := 33) (k9 := 2) (p := 207) dX12_see_30 rfl fX12_28 rfl rfl rfl (XO (A := A) hX) (X_now (A := A) hX) ?_
        refine aw_getp (pc' := 36) (k9 := 6) (p := 212) dX12_see_33 rfl fX12_173 rfl rfl rfl (XK_now (A := A) hX).1 (XK_now (A := A) hX).2.2.2.2.1.1 ?_
        refine aw_iload_n (pc' := 37) rfl dX12_see_36 rfl ?_
        refine aw_iload_n (pc' := 38) rfl dX12_see_37 rfl ?_
        refine aw_callV (ci := 7) (d' := d - 1) (as := [_, _]) (pc' := 41) (by decide) rfl kX8_add iX8_add sX8_add lX12_183 (XK_now (A := A) hX).2.2.2.2.1.2.1 dX12_see_38 rfl rfl (Nat.le_of_ble_eq_true rfl) (by omega) ?_
        refine x_radd (by omega) (XK_now (A := A) hX).2.2.2.2.1.2 (by omega) (by omega) (by decide) (by decide) (fun q0 => ?_) (fun q1 => ?_)
        · refine AW.ret (some (vi _)) dX12_see_41 trivial ?_
          first | exact hC (by omega) | exact hB (by omega) (by omega) | exact hF (by omega) (by omega) (by omega) | exact hO (by omega) (by omega) (by omega)
        · refine AW.ret (some (vi _)) dX12_see_41 trivial ?_
          first | exact hC (by omega) | exact hB (by omega) (by omega) | exact hF (by omega) (by omega) (by omega) | exact hO (by omega) (by omega) (by omega)
      · refine aw_bipush (pc' := 28) (by decide +kernel) dX12_see_26 rfl ?_
        refine AW.ret (some (vi _)) dX12_see_28 trivial ?_
        first | exact hC (by omega) | exact hB (by omega) (by omega) | exact hF (by omega) (by omega) (by omega) | exact hO (by omega) (by omega) (by omega)
  · replace c_2 := Classical.not_not.mp c_2
    refine aw_aload_n (pc' := 6) rfl dX12_see_5 rfl ?_
    refine aw_getp (pc' := 9) (k9 := 2) (p := 207) dX12_see_6 rfl fX12_28 rfl rfl rfl (XO (A := A) hX) (X_now (A := A) hX) ?_
    refine aw_getp (pc' := 12) (k9 := 6) (p := 212) dX12_see_9 rfl fX12_173 rfl rfl rfl (XK_now (A := A) hX).1 (XK_now (A := A) hX).2.2.2.2.1.1 ?_
    refine aw_callV (ci := 7) (d' := d - 1) (as := []) (pc' := 15) (by decide) rfl kX8_clear iX8_clear sX8_clear lX12_177 (XK_now (A := A) hX).2.2.2.2.1.2.1 dX12_see_12 rfl rfl (Nat.le_of_ble_eq_true rfl) (by omega) ?_
    refine x_rclear (by omega) (XK_now (A := A) hX).2.2.2.2.1.2 ?_
    refine AW.ret (some (vi _)) dX12_see_15 trivial ?_
    first | exact hC (by omega) | exact hB (by omega) (by omega) | exact hF (by omega) (by omega) (by omega) | exact hO (by omega) (by omega) (by omega)

set_option maxRecDepth 20000 in
theorem x_book {d : Nat} {n v : Int} {A : AHp} {Q : Option AV → AHp → Prop} (hd : 1 ≤ d) (hX : XLAY A) (hs9 : 0 ≤ hv A 218 2 ∧ hv A 218 2 ≤ 8)
  (hC : n = -1 → Q (some (vi 0)) (hset A 218 2 0)) (hN : n ≠ -1 → ¬ (0 ≤ n ∧ n ≤ 4) → Q (some (vi (-1))) A) (hF : 0 ≤ n → n ≤ 4 → hv A 218 2 = 8 → Q (some (vi (-4))) A)
  (hO : 0 ≤ n → n ≤ 4 → hv A 218 2 < 8 → Q (some (vi (hv A 218 2 + 1))) (hset (hset (hset A 219 (hv A 218 2) n) 220 (hv A 218 2) v) 218 2 (hv A 218 2 + 1))) : CALL d mX12_book [vr 60, vi n, vi v] A Q := by
  refine CALL.of (by decide) (Nat.le_of_ble_eq_true rfl) ?_
  change AW d mX12_book 0 [some (vr 60), some (vi n), some (vi v)] [] A Q
  refine aw_iload_n (pc' := 1) rfl dX12_book_0 rfl ?_
  refine aw_iconst (pc' := 2) (by decide) dX12_book_1 rfl ?_
  refine aw_icmp_ne (pt := 16) (pf := 5) dX12_book_2 (by decide) rfl (fun c_2 => ?_) (fun c_2 => ?_)
  · refine aw_iload_n (pc' := 17) rfl dX12_book_16 rfl ?_
    refine aw_callS (d' := d - 1) (as := [_]) (pc' := 20) kX12_isName tX12_isName lX12_113 dX12_book_17 rfl rfl (Nat.le_of_ble_eq_true rfl) (by omega) ?_
    refine x_isName (by omega)  (fun e1_17 => ?_) (fun e0_17 => ?_)
    · refine aw_if_eq (pt := 38) (pf := 23) dX12_book_20 (by decide) rfl (fun c_20 => absurd c_20 (by decide)) (fun _ => ?_)
      refine aw_aload_n (pc' := 24) rfl dX12_book_23 rfl ?_
      refine aw_getp (pc' := 27) (k9 := 2) (p := 207) dX12_book_24 rfl fX12_28 rfl rfl rfl (XO (A := A) hX) (X_now (A := A) hX) ?_
      refine aw_getp (pc' := 30) (k9 := 8) (p := 218) dX12_book_27 rfl fX12_226 rfl rfl rfl (XK_now (A := A) hX).1 (XK_now (A := A) hX).2.2.2.2.2.2.1 ?_
      refine aw_iload_n (pc' := 31) rfl dX12_book_30 rfl ?_
      refine aw_iload_n (pc' := 32) rfl dX12_book_31 rfl ?_
      refine aw_callV (ci := 7) (d' := d - 1) (as := [_, _]) (pc' := 35) (by decide) rfl kX8_add iX8_add sX8_add lX12_183 (XK_now (A := A) hX).2.2.2.2.2.2.2.1 dX12_book_32 rfl rfl (Nat.le_of_ble_eq_true rfl) (by omega) ?_
      refine x_radd (by omega) (XK_now (A := A) hX).2.2.2.2.2.2.2 (by omega) (by omega) (by decide) (by decide) (fun q0 => ?_) (fun q1 => ?_)
      · refine aw_goto (pc' := 39) dX12_book_35 (by decide) ?_
        refine AW.ret (some (vi _)) dX12_book_39 trivial ?_
        first | exact hC (by omega) | exact hN (by omega) (by omega) | exact hF (by omega) (by omega) (by omega) | exact hO (by omega) (by omega) (by omega)
      · refine aw_goto (pc' := 39) dX12_book_35 (by decide) ?_
        refine AW.ret (some (vi _)) dX12_book_39 trivial ?_
        first | exact hC (by omega) | exact hN (by omega) (by omega) | exact hF (by omega) (by omega) (by omega) | exact hO (by omega) (by omega) (by omega)
    · refine aw_if_eq (pt := 38) (pf := 23) dX12_book_20 (by decide) rfl (fun _ => ?_) (fun c_20 => absurd (by decide) c_20)
      refine aw_iconst (pc' := 39) (by decide) dX12_book_38 rfl ?_
      refine AW.ret (some (vi _)) dX12_book_39 trivial ?_
      first | exact hC (by omega) | exact hN (by omega) (by omega) | exact hF (by omega) (by omega) (by omega) | exact hO (by omega) (by omega) (by omega)
  · replace c_2 := Classical.not_not.mp c_2
    refine aw_aload_n (pc' := 6) rfl dX12_book_5 rfl ?_
    refine aw_getp (pc' := 9) (k9 := 2) (p := 207) dX12_book_6 rfl fX12_28 rfl rfl rfl (XO (A := A) hX) (X_now (A := A) hX) ?_
    refine aw_getp (pc' := 12) (k9 := 8) (p := 218) dX12_book_9 rfl fX12_226 rfl rfl rfl (XK_now (A := A) hX).1 (XK_now (A := A) hX).2.2.2.2.2.2.1 ?_
    refine aw_callV (ci := 7) (d' := d - 1) (as := []) (pc' := 15) (by decide) rfl kX8_clear iX8_clear sX8_clear lX12_177 (XK_now (A := A) hX).2.2.2.2.2.2.2.1 dX12_book_12 rfl rfl (Nat.le_of_ble_eq_true rfl) (by omega) ?_
    refine x_rclear (by omega) (XK_now (A := A) hX).2.2.2.2.2.2.2 ?_
    refine AW.ret (some (vi _)) dX12_book_15 trivial ?_
    first | exact hC (by omega) | exact hN (by omega) (by omega) | exact hF (by omega) (by omega) (by omega) | exact hO (by omega) (by omega) (by omega)

set_option maxRecDepth 20000 in
theorem x_isPlanned {d : Nat} {w n : Int} {A : AHp} {Q : Option AV → AHp → Prop} (hd : 1 ≤ d) (hX : XLAY A) (h1 : (w = 0 ∧ 0 ≤ n ∧ n < hv A 64 1 ∨ w = 1 ∧ 0 ≤ n ∧ n ≤ 4 ∨ w = 2 ∧ 0 ≤ n ∧ n ≤ 2 ∨ w = 3) → Q (some (vi 1)) A) (h0 : ¬ (w = 0 ∧ 0 ≤ n ∧ n < hv A 64 1 ∨ w = 1 ∧ 0 ≤ n ∧ n ≤ 4 ∨ w = 2 ∧ 0 ≤ n ∧ n ≤ 2 ∨ w = 3) → Q (some (vi 0)) A) : CALL d mX12_isPlanned [vr 60, vi w, vi n] A Q := by
  refine CALL.of (by decide) (Nat.le_of_ble_eq_true rfl) ?_
  change AW d mX12_isPlanned 0 [some (vr 60), some (vi w), some (vi n)] [] A Q
  refine aw_iload_n (pc' := 1) rfl dX12_isPlanned_0 rfl ?_
  by_cases z_1_0 : w = 0
  · refine aw_tabIn (pc' := 32) dX12_isPlanned_1 (by omega) (by omega) (off := 31) (by rw [z_1_0]; rfl) (by decide) ?_
    refine aw_aload_n (pc' := 33) rfl dX12_isPlanned_32 rfl ?_
    refine aw_iload_n (pc' := 34) rfl dX12_isPlanned_33 rfl ?_
    refine aw_callV (ci := 10) (d' := d - 1) (as := [_]) (pc' := 37) (by decide) rfl kX12_isLine iX12_isLine sX12_isLine lX12_83 (XO (A := A) hX) dX12_isPlanned_34 rfl rfl (Nat.le_of_ble_eq_true rfl) (by omega) ?_
    refine x_isLine (by omega) hX (fun e1_34 e2_34 => ?_) (fun e0_34 => ?_)
    · refine AW.ret (some (vi _)) dX12_isPlanned_37 (Or.inr rfl) ?_
      exact h1 (by omega)
    · refine AW.ret (some (vi _)) dX12_isPlanned_37 (Or.inl rfl) ?_
      exact h0 (by omega)
  by_cases z_1_1 : w = 1
  · refine aw_tabIn (pc' := 38) dX12_isPlanned_1 (by omega) (by omega) (off := 37) (by rw [z_1_1]; rfl) (by decide) ?_
    refine aw_iload_n (pc' := 39) rfl dX12_isPlanned_38 rfl ?_
    refine aw_callS (d' := d - 1) (as := [_]) (pc' := 42) kX12_isName tX12_isName lX12_113 dX12_isPlanned_39 rfl rfl (Nat.le_of_ble_eq_true rfl) (by omega) ?_
    refine x_isName (by omega)  (fun e1_39 => ?_) (fun e0_39 => ?_)
    · refine AW.ret (some (vi _)) dX12_isPlanned_42 (Or.inr rfl) ?_
      exact h1 (by omega)
    · refine AW.ret (some (vi _)) dX12_isPlanned_42 (Or.inl rfl) ?_
      exact h0 (by omega)
  by_cases z_1_2 : w = 2
  · refine aw_tabIn (pc' := 43) dX12_isPlanned_1 (by omega) (by omega) (off := 42) (by rw [z_1_2]; rfl) (by decide) ?_
    refine aw_iload_n (pc' := 44) rfl dX12_isPlanned_43 rfl ?_
    refine aw_callS (d' := d - 1) (as := [_]) (pc' := 47) kX12_isFunction tX12_isFunction lX12_101 dX12_isPlanned_44 rfl rfl (Nat.le_of_ble_eq_true rfl) (by omega) ?_
    refine x_isFunction (by omega)  (fun e1_44 => ?_) (fun e0_44 => ?_)
    · refine AW.ret (some (vi _)) dX12_isPlanned_47 (Or.inr rfl) ?_
      exact h1 (by omega)
    · refine AW.ret (some (vi _)) dX12_isPlanned_47 (Or.inl rfl) ?_
      exact h0 (by omega)
  by_cases z_1_3 : w = 3
  · refine aw_tabIn (pc' := 48) dX12_isPlanned_1 (by omega) (by omega) (off := 47) (by rw [z_1_3]; rfl) (by decide) ?_
    refine aw_iconst (pc' := 49) (by decide) dX12_isPlanned_48 rfl ?_
    refine AW.ret (some (vi _)) dX12_isPlanned_49 (Or.inr rfl) ?_
    exact h1 (by omega)
  refine aw_tabOut (pc' := 50) dX12_isPlanned_1 (by omega) (by decide) ?_
  refine aw_iconst (pc' := 51) (by decide) dX12_isPlanned_50 rfl ?_
  refine AW.ret (some (vi _)) dX12_isPlanned_51 (Or.inl rfl) ?_
  exact h0 (by omega)

set_option maxRecDepth 20000 in
theorem x_plan {d : Nat} {w n : Int} {A : AHp} {Q : Option AV → AHp → Prop} (hd : 2 ≤ d) (hX : XLAY A) (hln : 0 ≤ hv A 64 1 ∧ hv A 64 1 ≤ 8) (hs9 : 0 ≤ hv A 215 2 ∧ hv A 215 2 ≤ 10)
  (hC : w = -1 → Q (some (vi 0)) (hset A 215 2 0)) (hN : w ≠ -1 → ¬ (w = 0 ∧ 0 ≤ n ∧ n < hv A 64 1 ∨ w = 1 ∧ 0 ≤ n ∧ n ≤ 4 ∨ w = 2 ∧ 0 ≤ n ∧ n ≤ 2 ∨ w = 3) → Q (some (vi (-1))) A)
  (hF : (w = 0 ∧ 0 ≤ n ∧ n < hv A 64 1 ∨ w = 1 ∧ 0 ≤ n ∧ n ≤ 4 ∨ w = 2 ∧ 0 ≤ n ∧ n ≤ 2 ∨ w = 3) → hv A 215 2 = 10 → Q (some (vi (-4))) A)
  (hO : (w = 0 ∧ 0 ≤ n ∧ n < hv A 64 1 ∨ w = 1 ∧ 0 ≤ n ∧ n ≤ 4 ∨ w = 2 ∧ 0 ≤ n ∧ n ≤ 2 ∨ w = 3) → hv A 215 2 < 10 → Q (some (vi (hv A 215 2 + 1))) (hset (hset (hset A 216 (hv A 215 2) w) 217 (hv A 215 2) n) 215 2 (hv A 215 2 + 1))) : CALL d mX12_plan [vr 60, vi w, vi n] A Q := by
  refine CALL.of (by decide) (Nat.le_of_ble_eq_true rfl) ?_
  change AW d mX12_plan 0 [some (vr 60), some (vi w), some (vi n)] [] A Q
  refine aw_iload_n (pc' := 1) rfl dX12_plan_0 rfl ?_
  refine aw_iconst (pc' := 2) (by decide) dX12_plan_1 rfl ?_
  refine aw_icmp_ne (pt := 16) (pf := 5) dX12_plan_2 (by decide) rfl (fun c_2 => ?_) (fun c_2 => ?_)
  · refine aw_aload_n (pc' := 17) rfl dX12_plan_16 rfl ?_
    refine aw_iload_n (pc' := 18) rfl dX12_plan_17 rfl ?_
    refine aw_iload_n (pc' := 19) rfl dX12_plan_18 rfl ?_
    refine aw_callV (ci := 10) (d' := d - 1) (as := [_, _]) (pc' := 22) (by decide) rfl kX12_isPlanned iX12_isPlanned sX12_isPlanned lX12_218 (XO (A := A) hX) dX12_plan_19 rfl rfl (Nat.le_of_ble_eq_true rfl) (by omega) ?_
    refine x_isPlanned (by omega) hX (fun e1_19 => ?_) (fun e0_19 => ?_)
    · refine aw_if_eq (pt := 40) (pf := 25) dX12_plan_22 (by decide) rfl (fun c_22 => absurd c_22 (by decide)) (fun _ => ?_)
      refine aw_aload_n (pc' := 26) rfl dX12_plan_25 rfl ?_
      refine aw_getp (pc' := 29) (k9 := 2) (p := 207) dX12_plan_26 rfl fX12_28 rfl rfl rfl (XO (A := A) hX) (X_now (A := A) hX) ?_
      refine aw_getp (pc' := 32) (k9 := 7) (p := 215) dX12_plan_29 rfl fX12_215 rfl rfl rfl (XK_now (A := A) hX).1 (XK_now (A := A) hX).2.2.2.2.2.1.1 ?_
      refine aw_iload_n (pc' := 33) rfl dX12_plan_32 rfl ?_
      refine aw_iload_n (pc' := 34) rfl dX12_plan_33 rfl ?_
      refine aw_callV (ci := 7) (d' := d - 1) (as := [_, _]) (pc' := 37) (by decide) rfl kX8_add iX8_add sX8_add lX12_183 (XK_now (A := A) hX).2.2.2.2.2.1.2.1 dX12_plan_34 rfl rfl (Nat.le_of_ble_eq_true rfl) (by omega) ?_
      refine x_radd (by omega) (XK_now (A := A) hX).2.2.2.2.2.1.2 (by omega) (by omega) (by decide) (by decide) (fun q0 => ?_) (fun q1 => ?_)
      · refine aw_goto (pc' := 41) dX12_plan_37 (by decide) ?_
        refine AW.ret (some (vi _)) dX12_plan_41 trivial ?_
        first | exact hC (by omega) | exact hN (by omega) (by omega) | exact hF (by omega) (by omega) | exact hO (by omega) (by omega)
      · refine aw_goto (pc' := 41) dX12_plan_37 (by decide) ?_
        refine AW.ret (some (vi _)) dX12_plan_41 trivial ?_
        first | exact hC (by omega) | exact hN (by omega) (by omega) | exact hF (by omega) (by omega) | exact hO (by omega) (by omega)
    · refine aw_if_eq (pt := 40) (pf := 25) dX12_plan_22 (by decide) rfl (fun _ => ?_) (fun c_22 => absurd (by decide) c_22)
      refine aw_iconst (pc' := 41) (by decide) dX12_plan_40 rfl ?_
      refine AW.ret (some (vi _)) dX12_plan_41 trivial ?_
      first | exact hC (by omega) | exact hN (by omega) (by omega) | exact hF (by omega) (by omega) | exact hO (by omega) (by omega)
  · replace c_2 := Classical.not_not.mp c_2
    refine aw_aload_n (pc' := 6) rfl dX12_plan_5 rfl ?_
    refine aw_getp (pc' := 9) (k9 := 2) (p := 207) dX12_plan_6 rfl fX12_28 rfl rfl rfl (XO (A := A) hX) (X_now (A := A) hX) ?_
    refine aw_getp (pc' := 12) (k9 := 7) (p := 215) dX12_plan_9 rfl fX12_215 rfl rfl rfl (XK_now (A := A) hX).1 (XK_now (A := A) hX).2.2.2.2.2.1.1 ?_
    refine aw_callV (ci := 7) (d' := d - 1) (as := []) (pc' := 15) (by decide) rfl kX8_clear iX8_clear sX8_clear lX12_177 (XK_now (A := A) hX).2.2.2.2.2.1.2.1 dX12_plan_12 rfl rfl (Nat.le_of_ble_eq_true rfl) (by omega) ?_
    refine x_rclear (by omega) (XK_now (A := A) hX).2.2.2.2.2.1.2 ?_
    refine AW.ret (some (vi _)) dX12_plan_15 trivial ?_
    first | exact hC (by omega) | exact hN (by omega) (by omega) | exact hF (by omega) (by omega) | exact hO (by omega) (by omega)

set_option maxRecDepth 20000 in
theorem x_ofRun {d : Nat} {a w : Int} {A : AHp} {Q : Option AV → AHp → Prop} (hd : 1 ≤ d) (hK : KeptAt A a) (hm : 0 ≤ hv A (a + 3) 1 ∧ hv A (a + 3) 1 ≤ 60) (hw9 : in32 w)
  (h0 : w = 0 → Q (some (vl (hv A (a + 3) 1))) A) (h1 : w = 1 → Q (some (vl (hv A a 4))) A) (h2 : w = 2 → Q (some (vl (hv A a 5))) A)
  (hO : 40 ≤ w → w < 40 + hv A (a + 3) 1 → Q (some (vl (hv A (a + 3 + 1) (w - 40)))) A)
  (hN : ¬ (0 ≤ w ∧ w ≤ 2) → ¬ (40 ≤ w ∧ w < 40 + hv A (a + 3) 1) → Q (some (vl (-9223372036854775808))) A) : CALL d mX12_ofRun [vr a, vi w] A Q := by
  refine CALL.of (by decide) (Nat.le_of_ble_eq_true rfl) ?_
  change AW d mX12_ofRun 0 [some (vr a), some (vi w)] [] A Q
  refine aw_iload_n (pc' := 1) rfl dX12_ofRun_0 rfl ?_
  by_cases z_1_0 : w = 0
  · refine aw_tabIn (pc' := 28) dX12_ofRun_1 (by omega) (by omega) (off := 27) (by rw [z_1_0]; rfl) (by decide) ?_
    refine aw_aload_n (pc' := 29) rfl dX12_ofRun_28 rfl ?_
    refine aw_getp (pc' := 32) (k9 := 3) (p := (a + 3)) dX12_ofRun_29 rfl fX12_125 rfl rfl rfl hK.1 hK.2.2.2.1.1 ?_
    refine aw_geti (pc' := 35) (k9 := 1) dX12_ofRun_32 rfl fX12_129 rfl (by decide) rfl hK.2.2.2.1.2.1 ?_
    refine aw_i2l (pc' := 36) dX12_ofRun_35 rfl ?_
    refine AW.ret (some (vl _)) dX12_ofRun_36 trivial ?_
    first | exact h0 (by omega) | exact h1 (by omega) | exact h2 (by omega) | exact hO (by omega) (by omega) | exact hN (by omega) (by omega)
  by_cases z_1_1 : w = 1
  · refine aw_tabIn (pc' := 37) dX12_ofRun_1 (by omega) (by omega) (off := 36) (by rw [z_1_1]; rfl) (by decide) ?_
    refine aw_aload_n (pc' := 38) rfl dX12_ofRun_37 rfl ?_
    refine aw_geti (pc' := 41) (k9 := 4) dX12_ofRun_38 rfl fX12_138 rfl (by decide) rfl hK.1 ?_
    refine aw_i2l (pc' := 42) dX12_ofRun_41 rfl ?_
    refine AW.ret (some (vl _)) dX12_ofRun_42 trivial ?_
    first | exact h0 (by omega) | exact h1 (by omega) | exact h2 (by omega) | exact hO (by omega) (by omega) | exact hN (by omega) (by omega)
  by_cases z_1_2 : w = 2
  · refine aw_tabIn (pc' := 43) dX12_ofRun_1 (by omega) (by omega) (off := 42) (by rw [z_1_2]; rfl) (by decide) ?_
    refine aw_aload_n (pc' := 44) rfl dX12_ofRun_43 rfl ?_
    refine aw_geti (pc' := 47) (k9 := 5) dX12_ofRun_44 rfl fX12_141 rfl (by decide) rfl hK.1 ?_
    refine aw_i2l (pc' := 48) dX12_ofRun_47 rfl ?_
    refine AW.ret (some (vl _)) dX12_ofRun_48 trivial ?_
    first | exact h0 (by omega) | exact h1 (by omega) | exact h2 (by omega) | exact hO (by omega) (by omega) | exact hN (by omega) (by omega)
  refine aw_tabOut (pc' := 49) dX12_ofRun_1 (by omega) (by decide) ?_
  refine aw_iload_n (pc' := 50) rfl dX12_ofRun_49 rfl ?_
  refine aw_bipush (pc' := 52) (by decide +kernel) dX12_ofRun_50 rfl ?_
  refine aw_icmp_ge (pt := 61) (pf := 55) dX12_ofRun_52 (by decide) rfl (fun c_52 => ?_) (fun c_52 => ?_)
  · refine aw_aload_n (pc' := 62) rfl dX12_ofRun_61 rfl ?_
    refine aw_getp (pc' := 65) (k9 := 3) (p := (a + 3)) dX12_ofRun_62 rfl fX12_125 rfl rfl rfl hK.1 hK.2.2.2.1.1 ?_
    refine aw_iload_n (pc' := 66) rfl dX12_ofRun_65 rfl ?_
    refine aw_bipush (pc' := 68) (by decide +kernel) dX12_ofRun_66 rfl ?_
    refine aw_isub (pc' := 69) (by first | exact w32_id (by omega) (by omega) | rfl) dX12_ofRun_68 rfl ?_
    refine aw_callV (ci := 4) (d' := d - 1) (as := [_]) (pc' := 72) (by decide) rfl kX5_at iX5_at sX5_at lX12_144 hK.2.2.2.1.2.1 dX12_ofRun_69 rfl rfl (Nat.le_of_ble_eq_true rfl) (by omega) ?_
    refine x_at (by omega) hK.2.2.2.1.2 (by omega) (fun q0 => ?_) (fun q1 q2 => ?_)
    · refine AW.ret (some (vl _)) dX12_ofRun_72 trivial ?_
      first | exact h0 (by omega) | exact h1 (by omega) | exact h2 (by omega) | exact hO (by omega) (by omega) | exact hN (by omega) (by omega)
    · refine AW.ret (some (vl _)) dX12_ofRun_72 trivial ?_
      first | exact h0 (by omega) | exact h1 (by omega) | exact h2 (by omega) | exact hO (by omega) (by omega) | exact hN (by omega) (by omega)
  · refine aw_ldc2 (x := (-9223372036854775808)) (pc' := 58) qX12_116 (by decide) dX12_ofRun_55 rfl ?_
    refine aw_goto (pc' := 72) dX12_ofRun_58 (by decide) ?_
    refine AW.ret (some (vl _)) dX12_ofRun_72 trivial ?_
    first | exact h0 (by omega) | exact h1 (by omega) | exact h2 (by omega) | exact hO (by omega) (by omega) | exact hN (by omega) (by omega)

set_option maxRecDepth 20000 in
theorem x_told {d : Nat} {w : Int} {A : AHp} {Q : Option AV → AHp → Prop} (hd : 2 ≤ d) (hX : XLAY A) (hm : 0 ≤ hv A 210 1 ∧ hv A 210 1 ≤ 60) (hw9 : in32 w)
  (h0 : w = 0 → Q (some (vl (hv A 210 1))) A) (h1 : w = 1 → Q (some (vl (hv A 207 4))) A) (h2 : w = 2 → Q (some (vl (hv A 207 5))) A)
  (hV : 10 ≤ w → w ≤ 14 → Q (some (vl (hv A 208 (w - 10)))) A) (hF : 20 ≤ w → w ≤ 22 → Q (some (vl (hv A 209 (w - 20)))) A) (hT : w = 30 → Q (some (vl (hv A 207 2))) A)
  (hO : 40 ≤ w → w < 40 + hv A 210 1 → Q (some (vl (hv A 211 (w - 40)))) A)
  (hN : ¬ (0 ≤ w ∧ w ≤ 2) → ¬ (10 ≤ w ∧ w ≤ 14) → ¬ (20 ≤ w ∧ w ≤ 22) → w ≠ 30 → ¬ (40 ≤ w ∧ w < 40 + hv A 210 1) → Q (some (vl (-9223372036854775808))) A) : CALL d mX12_told [vr 60, vi w] A Q := by
  refine CALL.of (by decide) (Nat.le_of_ble_eq_true rfl) ?_
  change AW d mX12_told 0 [some (vr 60), some (vi w)] [] A Q
  refine aw_iload_n (pc' := 1) rfl dX12_told_0 rfl ?_
  refine aw_bipush (pc' := 3) (by decide +kernel) dX12_told_1 rfl ?_
  refine aw_icmp_lt (pt := 26) (pf := 6) dX12_told_3 (by decide) rfl (fun c_3 => ?_) (fun c_3 => ?_)
  · refine aw_iload_n (pc' := 27) rfl dX12_told_26 rfl ?_
    refine aw_bipush (pc' := 29) (by decide +kernel) dX12_told_27 rfl ?_
    refine aw_icmp_lt (pt := 52) (pf := 32) dX12_told_29 (by decide) rfl (fun c_29 => ?_) (fun c_29 => ?_)
    · refine aw_iload_n (pc' := 53) rfl dX12_told_52 rfl ?_
      refine aw_bipush (pc' := 55) (by decide +kernel) dX12_told_53 rfl ?_
      refine aw_icmp_ne (pt := 69) (pf := 58) dX12_told_55 (by decide) rfl (fun c_55 => ?_) (fun c_55 => ?_)
      · refine aw_aload_n (pc' := 70) rfl dX12_told_69 rfl ?_
        refine aw_getp (pc' := 73) (k9 := 2) (p := 207) dX12_told_70 rfl fX12_28 rfl rfl rfl (XO (A := A) hX) (X_now (A := A) hX) ?_
        refine aw_iload_n (pc' := 74) rfl dX12_told_73 rfl ?_
        refine aw_callS (d' := d - 1) (as := [_, _]) (pc' := 77) kX12_ofRun tX12_ofRun lX12_134 dX12_told_74 rfl rfl (Nat.le_of_ble_eq_true rfl) (by omega) ?_
        refine x_ofRun (a := 207) (by omega) (XK_now hX) hm hw9 (fun q0 => ?_) (fun q0 => ?_) (fun q0 => ?_) (fun q0 q1 => ?_) (fun q0 q1 => ?_)
        · refine AW.ret (some (vl _)) dX12_told_77 trivial ?_
          first | exact h0 (by omega) | exact h1 (by omega) | exact h2 (by omega) | exact hV (by omega) (by omega) | exact hF (by omega) (by omega) | exact hT (by omega) | exact hO (by omega) (by omega) | exact hN (by omega) (by omega) (by omega) (by omega) (by omega)
        · refine AW.ret (some (vl _)) dX12_told_77 trivial ?_
          first | exact h0 (by omega) | exact h1 (by omega) | exact h2 (by omega) | exact hV (by omega) (by omega) | exact hF (by omega) (by omega) | exact hT (by omega) | exact hO (by omega) (by omega) | exact hN (by omega) (by omega) (by omega) (by omega) (by omega)
        · refine AW.ret (some (vl _)) dX12_told_77 trivial ?_
          first | exact h0 (by omega) | exact h1 (by omega) | exact h2 (by omega) | exact hV (by omega) (by omega) | exact hF (by omega) (by omega) | exact hT (by omega) | exact hO (by omega) (by omega) | exact hN (by omega) (by omega) (by omega) (by omega) (by omega)
        · simp only [Int.reduceAdd] at q1 ⊢
          refine AW.ret (some (vl _)) dX12_told_77 trivial ?_
          first | exact h0 (by omega) | exact h1 (by omega) | exact h2 (by omega) | exact hV (by omega) (by omega) | exact hF (by omega) (by omega) | exact hT (by omega) | exact hO (by omega) (by omega) | exact hN (by omega) (by omega) (by omega) (by omega) (by omega)
        · simp only [Int.reduceAdd] at q1 ⊢
          refine AW.ret (some (vl _)) dX12_told_77 trivial ?_
          first | exact h0 (by omega) | exact h1 (by omega) | exact h2 (by omega) | exact hV (by omega) (by omega) | exact hF (by omega) (by omega) | exact hT (by omega) | exact hO (by omega) (by omega) | exact hN (by omega) (by omega) (by omega) (by omega) (by omega)
      · replace c_55 := Classical.not_not.mp c_55
        refine aw_aload_n (pc' := 59) rfl dX12_told_58 rfl ?_
        refine aw_getp (pc' := 62) (k9 := 2) (p := 207) dX12_told_59 rfl fX12_28 rfl rfl rfl (XO (A := A) hX) (X_now (A := A) hX) ?_
        refine aw_geti (pc' := 65) (k9 := 2) dX12_told_62 rfl fX12_110 rfl (by decide) rfl (XK_now (A := A) hX).1 ?_
        refine aw_i2l (pc' := 66) dX12_told_65 rfl ?_
        refine aw_goto (pc' := 77) dX12_told_66 (by decide) ?_
        refine AW.ret (some (vl _)) dX12_told_77 trivial ?_
        first | exact h0 (by omega) | exact h1 (by omega) | exact h2 (by omega) | exact hV (by omega) (by omega) | exact hF (by omega) (by omega) | exact hT (by omega) | exact hO (by omega) (by omega) | exact hN (by omega) (by omega) (by omega) (by omega) (by omega)
    · refine aw_iload_n (pc' := 33) rfl dX12_told_32 rfl ?_
      refine aw_bipush (pc' := 35) (by decide +kernel) dX12_told_33 rfl ?_
      refine aw_icmp_ge (pt := 52) (pf := 38) dX12_told_35 (by decide) rfl (fun c_35 => ?_) (fun c_35 => ?_)
      · refine aw_iload_n (pc' := 53) rfl dX12_told_52 rfl ?_
        refine aw_bipush (pc' := 55) (by decide +kernel) dX12_told_53 rfl ?_
        refine aw_icmp_ne (pt := 69) (pf := 58) dX12_told_55 (by decide) rfl (fun c_55 => ?_) (fun c_55 => ?_)
        · refine aw_aload_n (pc' := 70) rfl dX12_told_69 rfl ?_
          refine aw_getp (pc' := 73) (k9 := 2) (p := 207) dX12_told_70 rfl fX12_28 rfl rfl rfl (XO (A := A) hX) (X_now (A := A) hX) ?_
          refine aw_iload_n (pc' := 74) rfl dX12_told_73 rfl ?_
          refine aw_callS (d' := d - 1) (as := [_, _]) (pc' := 77) kX12_ofRun tX12_ofRun lX12_134 dX12_told_74 rfl rfl (Nat.le_of_ble_eq_true rfl) (by omega) ?_
          refine x_ofRun (a := 207) (by omega) (XK_now hX) hm hw9 (fun q0 => ?_) (fun q0 => ?_) (fun q0 => ?_) (fun q0 q1 => ?_) (fun q0 q1 => ?_)
          · refine AW.ret (some (vl _)) dX12_told_77 trivial ?_
            first | exact h0 (by omega) | exact h1 (by omega) | exact h2 (by omega) | exact hV (by omega) (by omega) | exact hF (by omega) (by omega) | exact hT (by omega) | exact hO (by omega) (by omega) | exact hN (by omega) (by omega) (by omega) (by omega) (by omega)
          · refine AW.ret (some (vl _)) dX12_told_77 trivial ?_
            first | exact h0 (by omega) | exact h1 (by omega) | exact h2 (by omega) | exact hV (by omega) (by omega) | exact hF (by omega) (by omega) | exact hT (by omega) | exact hO (by omega) (by omega) | exact hN (by omega) (by omega) (by omega) (by omega) (by omega)
          · refine AW.ret (some (vl _)) dX12_told_77 trivial ?_
            first | exact h0 (by omega) | exact h1 (by omega) | exact h2 (by omega) | exact hV (by omega) (by omega) | exact hF (by omega) (by omega) | exact hT (by omega) | exact hO (by omega) (by omega) | exact hN (by omega) (by omega) (by omega) (by omega) (by omega)
          · simp only [Int.reduceAdd] at q1 ⊢
            refine AW.ret (some (vl _)) dX12_told_77 trivial ?_
            first | exact h0 (by omega) | exact h1 (by omega) | exact h2 (by omega) | exact hV (by omega) (by omega) | exact hF (by omega) (by omega) | exact hT (by omega) | exact hO (by omega) (by omega) | exact hN (by omega) (by omega) (by omega) (by omega) (by omega)
          · simp only [Int.reduceAdd] at q1 ⊢
            refine AW.ret (some (vl _)) dX12_told_77 trivial ?_
            first | exact h0 (by omega) | exact h1 (by omega) | exact h2 (by omega) | exact hV (by omega) (by omega) | exact hF (by omega) (by omega) | exact hT (by omega) | exact hO (by omega) (by omega) | exact hN (by omega) (by omega) (by omega) (by omega) (by omega)
        · replace c_55 := Classical.not_not.mp c_55
          refine aw_aload_n (pc' := 59) rfl dX12_told_58 rfl ?_
          refine aw_getp (pc' := 62) (k9 := 2) (p := 207) dX12_told_59 rfl fX12_28 rfl rfl rfl (XO (A := A) hX) (X_now (A := A) hX) ?_
          refine aw_geti (pc' := 65) (k9 := 2) dX12_told_62 rfl fX12_110 rfl (by decide) rfl (XK_now (A := A) hX).1 ?_
          refine aw_i2l (pc' := 66) dX12_told_65 rfl ?_
          refine aw_goto (pc' := 77) dX12_told_66 (by decide) ?_
          refine AW.ret (some (vl _)) dX12_told_77 trivial ?_
          first | exact h0 (by omega) | exact h1 (by omega) | exact h2 (by omega) | exact hV (by omega) (by omega) | exact hF (by omega) (by omega) | exact hT (by omega) | exact hO (by omega) (by omega) | exact hN (by omega) (by omega) (by omega) (by omega) (by omega)
      · refine aw_aload_n (pc' := 39) rfl dX12_told_38 rfl ?_
        refine aw_getp (pc' := 42) (k9 := 2) (p := 207) dX12_told_39 rfl fX12_28 rfl rfl rfl (XO (A := A) hX) (X_now (A := A) hX) ?_
        refine aw_getp (pc' := 45) (k9 := 1) (p := 209) dX12_told_42 rfl fX12_107 rfl rfl rfl (XK_now (A := A) hX).1 (XK_now (A := A) hX).2.2.1.1 ?_
        refine aw_iload_n (pc' := 46) rfl dX12_told_45 rfl ?_
        refine aw_bipush (pc' := 48) (by decide +kernel) dX12_told_46 rfl ?_
        refine aw_isub (pc' := 49) (by first | exact w32_id (by omega) (by omega) | rfl) dX12_told_48 rfl ?_
        refine aw_iald (pc' := 50) dX12_told_49 rfl (XK_now (A := A) hX).2.2.1.2 (by omega) (by omega) ?_
        refine aw_i2l (pc' := 51) dX12_told_50 rfl ?_
        refine AW.ret (some (vl _)) dX12_told_51 trivial ?_
        first | exact h0 (by omega) | exact h1 (by omega) | exact h2 (by omega) | exact hV (by omega) (by omega) | exact hF (by omega) (by omega) | exact hT (by omega) | exact hO (by omega) (by omega) | exact hN (by omega) (by omega) (by omega) (by omega) (by omega)
  · refine aw_iload_n (pc' := 7) rfl dX12_told_6 rfl ?_
    refine aw_bipush (pc' := 9) (by decide +kernel) dX12_told_7 rfl ?_
    refine aw_icmp_ge (pt := 26) (pf := 12) dX12_told_9 (by decide) rfl (fun c_9 => ?_) (fun c_9 => ?_)
    · refine aw_iload_n (pc' := 27) rfl dX12_told_26 rfl ?_
      refine aw_bipush (pc' := 29) (by decide +kernel) dX12_told_27 rfl ?_
      refine aw_icmp_lt (pt := 52) (pf := 32) dX12_told_29 (by decide) rfl (fun c_29 => ?_) (fun c_29 => ?_)
      · refine aw_iload_n (pc' := 53) rfl dX12_told_52 rfl ?_
        refine aw_bipush (pc' := 55) (by decide +kernel) dX12_told_53 rfl ?_
        refine aw_icmp_ne (pt := 69) (pf := 58) dX12_told_55 (by decide) rfl (fun c_55 => ?_) (fun c_55 => ?_)
        · refine aw_aload_n (pc' := 70) rfl dX12_told_69 rfl ?_
          refine aw_getp (pc' := 73) (k9 := 2) (p := 207) dX12_told_70 rfl fX12_28 rfl rfl rfl (XO (A := A) hX) (X_now (A := A) hX) ?_
          refine aw_iload_n (pc' := 74) rfl dX12_told_73 rfl ?_
          refine aw_callS (d' := d - 1) (as := [_, _]) (pc' := 77) kX12_ofRun tX12_ofRun lX12_134 dX12_told_74 rfl rfl (Nat.le_of_ble_eq_true rfl) (by omega) ?_
          refine x_ofRun (a := 207) (by omega) (XK_now hX) hm hw9 (fun q0 => ?_) (fun q0 => ?_) (fun q0 => ?_) (fun q0 q1 => ?_) (fun q0 q1 => ?_)
          · refine AW.ret (some (vl _)) dX12_told_77 trivial ?_
            first | exact h0 (by omega) | exact h1 (by omega) | exact h2 (by omega) | exact hV (by omega) (by omega) | exact hF (by omega) (by omega) | exact hT (by omega) | exact hO (by omega) (by omega) | exact hN (by omega) (by omega) (by omega) (by omega) (by omega)
          · refine AW.ret (some (vl _)) dX12_told_77 trivial ?_
            first | exact h0 (by omega) | exact h1 (by omega) | exact h2 (by omega) | exact hV (by omega) (by omega) | exact hF (by omega) (by omega) | exact hT (by omega) | exact hO (by omega) (by omega) | exact hN (by omega) (by omega) (by omega) (by omega) (by omega)
          · refine AW.ret (some (vl _)) dX12_told_77 trivial ?_
            first | exact h0 (by omega) | exact h1 (by omega) | exact h2 (by omega) | exact hV (by omega) (by omega) | exact hF (by omega) (by omega) | exact hT (by omega) | exact hO (by omega) (by omega) | exact hN (by omega) (by omega) (by omega) (by omega) (by omega)
          · simp only [Int.reduceAdd] at q1 ⊢
            refine AW.ret (some (vl _)) dX12_told_77 trivial ?_
            first | exact h0 (by omega) | exact h1 (by omega) | exact h2 (by omega) | exact hV (by omega) (by omega) | exact hF (by omega) (by omega) | exact hT (by omega) | exact hO (by omega) (by omega) | exact hN (by omega) (by omega) (by omega) (by omega) (by omega)
          · simp only [Int.reduceAdd] at q1 ⊢
            refine AW.ret (some (vl _)) dX12_told_77 trivial ?_
            first | exact h0 (by omega) | exact h1 (by omega) | exact h2 (by omega) | exact hV (by omega) (by omega) | exact hF (by omega) (by omega) | exact hT (by omega) | exact hO (by omega) (by omega) | exact hN (by omega) (by omega) (by omega) (by omega) (by omega)
        · replace c_55 := Classical.not_not.mp c_55
          refine aw_aload_n (pc' := 59) rfl dX12_told_58 rfl ?_
          refine aw_getp (pc' := 62) (k9 := 2) (p := 207) dX12_told_59 rfl fX12_28 rfl rfl rfl (XO (A := A) hX) (X_now (A := A) hX) ?_
          refine aw_geti (pc' := 65) (k9 := 2) dX12_told_62 rfl fX12_110 rfl (by decide) rfl (XK_now (A := A) hX).1 ?_
          refine aw_i2l (pc' := 66) dX12_told_65 rfl ?_
          refine aw_goto (pc' := 77) dX12_told_66 (by decide) ?_
          refine AW.ret (some (vl _)) dX12_told_77 trivial ?_
          first | exact h0 (by omega) | exact h1 (by omega) | exact h2 (by omega) | exact hV (by omega) (by omega) | exact hF (by omega) (by omega) | exact hT (by omega) | exact hO (by omega) (by omega) | exact hN (by omega) (by omega) (by omega) (by omega) (by omega)
      · refine aw_iload_n (pc' := 33) rfl dX12_told_32 rfl ?_
        refine aw_bipush (pc' := 35) (by decide +kernel) dX12_told_33 rfl ?_
        refine aw_icmp_ge (pt := 52) (pf := 38) dX12_told_35 (by decide) rfl (fun c_35 => ?_) (fun c_35 => ?_)
        · refine aw_iload_n (pc' := 53) rfl dX12_told_52 rfl ?_
          refine aw_bipush (pc' := 55) (by decide +kernel) dX12_told_53 rfl ?_
          refine aw_icmp_ne (pt := 69) (pf := 58) dX12_told_55 (by decide) rfl (fun c_55 => ?_) (fun c_55 => ?_)
          · refine aw_aload_n (pc' := 70) rfl dX12_told_69 rfl ?_
            refine aw_getp (pc' := 73) (k9 := 2) (p := 207) dX12_told_70 rfl fX12_28 rfl rfl rfl (XO (A := A) hX) (X_now (A := A) hX) ?_
            refine aw_iload_n (pc' := 74) rfl dX12_told_73 rfl ?_
            refine aw_callS (d' := d - 1) (as := [_, _]) (pc' := 77) kX12_ofRun tX12_ofRun lX12_134 dX12_told_74 rfl rfl (Nat.le_of_ble_eq_true rfl) (by omega) ?_
            refine x_ofRun (a := 207) (by omega) (XK_now hX) hm hw9 (fun q0 => ?_) (fun q0 => ?_) (fun q0 => ?_) (fun q0 q1 => ?_) (fun q0 q1 => ?_)
            · refine AW.ret (some (vl _)) dX12_told_77 trivial ?_
              first | exact h0 (by omega) | exact h1 (by omega) | exact h2 (by omega) | exact hV (by omega) (by omega) | exact hF (by omega) (by omega) | exact hT (by omega) | exact hO (by omega) (by omega) | exact hN (by omega) (by omega) (by omega) (by omega) (by omega)
            · refine AW.ret (some (vl _)) dX12_told_77 trivial ?_
              first | exact h0 (by omega) | exact h1 (by omega) | exact h2 (by omega) | exact hV (by omega) (by omega) | exact hF (by omega) (by omega) | exact hT (by omega) | exact hO (by omega) (by omega) | exact hN (by omega) (by omega) (by omega) (by omega) (by omega)
            · refine AW.ret (some (vl _)) dX12_told_77 trivial ?_
              first | exact h0 (by omega) | exact h1 (by omega) | exact h2 (by omega) | exact hV (by omega) (by omega) | exact hF (by omega) (by omega) | exact hT (by omega) | exact hO (by omega) (by omega) | exact hN (by omega) (by omega) (by omega) (by omega) (by omega)
            · simp only [Int.reduceAdd] at q1 ⊢
              refine AW.ret (some (vl _)) dX12_told_77 trivial ?_
              first | exact h0 (by omega) | exact h1 (by omega) | exact h2 (by omega) | exact hV (by omega) (by omega) | exact hF (by omega) (by omega) | exact hT (by omega) | exact hO (by omega) (by omega) | exact hN (by omega) (by omega) (by omega) (by omega) (by omega)
            · simp only [Int.reduceAdd] at q1 ⊢
              refine AW.ret (some (vl _)) dX12_told_77 trivial ?_
              first | exact h0 (by omega) | exact h1 (by omega) | exact h2 (by omega) | exact hV (by omega) (by omega) | exact hF (by omega) (by omega) | exact hT (by omega) | exact hO (by omega) (by omega) | exact hN (by omega) (by omega) (by omega) (by omega) (by omega)
          · replace c_55 := Classical.not_not.mp c_55
            refine aw_aload_n (pc' := 59) rfl dX12_told_58 rfl ?_
            refine aw_getp (pc' := 62) (k9 := 2) (p := 207) dX12_told_59 rfl fX12_28 rfl rfl rfl (XO (A := A) hX) (X_now (A := A) hX) ?_
            refine aw_geti (pc' := 65) (k9 := 2) dX12_told_62 rfl fX12_110 rfl (by decide) rfl (XK_now (A := A) hX).1 ?_
            refine aw_i2l (pc' := 66) dX12_told_65 rfl ?_
            refine aw_goto (pc' := 77) dX12_told_66 (by decide) ?_
            refine AW.ret (some (vl _)) dX12_told_77 trivial ?_
            first | exact h0 (by omega) | exact h1 (by omega) | exact h2 (by omega) | exact hV (by omega) (by omega) | exact hF (by omega) (by omega) | exact hT (by omega) | exact hO (by omega) (by omega) | exact hN (by omega) (by omega) (by omega) (by omega) (by omega)
        · refine aw_aload_n (pc' := 39) rfl dX12_told_38 rfl ?_
          refine aw_getp (pc' := 42) (k9 := 2) (p := 207) dX12_told_39 rfl fX12_28 rfl rfl rfl (XO (A := A) hX) (X_now (A := A) hX) ?_
          refine aw_getp (pc' := 45) (k9 := 1) (p := 209) dX12_told_42 rfl fX12_107 rfl rfl rfl (XK_now (A := A) hX).1 (XK_now (A := A) hX).2.2.1.1 ?_
          refine aw_iload_n (pc' := 46) rfl dX12_told_45 rfl ?_
          refine aw_bipush (pc' := 48) (by decide +kernel) dX12_told_46 rfl ?_
          refine aw_isub (pc' := 49) (by first | exact w32_id (by omega) (by omega) | rfl) dX12_told_48 rfl ?_
          refine aw_iald (pc' := 50) dX12_told_49 rfl (XK_now (A := A) hX).2.2.1.2 (by omega) (by omega) ?_
          refine aw_i2l (pc' := 51) dX12_told_50 rfl ?_
          refine AW.ret (some (vl _)) dX12_told_51 trivial ?_
          first | exact h0 (by omega) | exact h1 (by omega) | exact h2 (by omega) | exact hV (by omega) (by omega) | exact hF (by omega) (by omega) | exact hT (by omega) | exact hO (by omega) (by omega) | exact hN (by omega) (by omega) (by omega) (by omega) (by omega)
    · refine aw_aload_n (pc' := 13) rfl dX12_told_12 rfl ?_
      refine aw_getp (pc' := 16) (k9 := 2) (p := 207) dX12_told_13 rfl fX12_28 rfl rfl rfl (XO (A := A) hX) (X_now (A := A) hX) ?_
      refine aw_getp (pc' := 19) (k9 := 0) (p := 208) dX12_told_16 rfl fX12_118 rfl rfl rfl (XK_now (A := A) hX).1 (XK_now (A := A) hX).2.1.1 ?_
      refine aw_iload_n (pc' := 20) rfl dX12_told_19 rfl ?_
      refine aw_bipush (pc' := 22) (by decide +kernel) dX12_told_20 rfl ?_
      refine aw_isub (pc' := 23) (by first | exact w32_id (by omega) (by omega) | rfl) dX12_told_22 rfl ?_
      refine aw_iald (pc' := 24) dX12_told_23 rfl (XK_now (A := A) hX).2.1.2 (by omega) (by omega) ?_
      refine aw_i2l (pc' := 25) dX12_told_24 rfl ?_
      refine AW.ret (some (vl _)) dX12_told_25 trivial ?_
      first | exact h0 (by omega) | exact h1 (by omega) | exact h2 (by omega) | exact hV (by omega) (by omega) | exact hF (by omega) (by omega) | exact hT (by omega) | exact hO (by omega) (by omega) | exact hN (by omega) (by omega) (by omega) (by omega) (by omega)

set_option maxRecDepth 20000 in
theorem x_isJob {d : Nat} {j : Int} {A : AHp} {Q : Option AV → AHp → Prop} (hd : 0 ≤ d) (hX : XLAY A) (h1 : 0 ≤ j → j ≤ 3 → hv A 264 j ≠ -5 → Q (some (vi 1)) A) (h0 : ¬ (0 ≤ j ∧ j ≤ 3 ∧ hv A 264 j ≠ -5) → Q (some (vi 0)) A) : CALL d mX12_isJob [vr 60, vi j] A Q := by
  refine CALL.of (by decide) (Nat.le_of_ble_eq_true rfl) ?_
  change AW d mX12_isJob 0 [some (vr 60), some (vi j)] [] A Q
  refine aw_iload_n (pc' := 1) rfl dX12_isJob_0 rfl ?_
  refine aw_if_lt (pt := 24) (pf := 4) dX12_isJob_1 (by decide) rfl (fun c_1 => ?_) (fun c_1 => ?_)
  · refine aw_iconst (pc' := 25) (by decide) dX12_isJob_24 rfl ?_
    refine AW.ret (some (vi _)) dX12_isJob_25 (Or.inl rfl) ?_
    exact h0 (by omega)
  · refine aw_iload_n (pc' := 5) rfl dX12_isJob_4 rfl ?_
    refine aw_iconst (pc' := 6) (by decide) dX12_isJob_5 rfl ?_
    refine aw_icmp_ge (pt := 24) (pf := 9) dX12_isJob_6 (by decide) rfl (fun c_6 => ?_) (fun c_6 => ?_)
    · refine aw_iconst (pc' := 25) (by decide) dX12_isJob_24 rfl ?_
      refine AW.ret (some (vi _)) dX12_isJob_25 (Or.inl rfl) ?_
      exact h0 (by omega)
    · refine aw_aload_n (pc' := 10) rfl dX12_isJob_9 rfl ?_
      refine aw_getp (pc' := 13) (k9 := 8) (p := 264) dX12_isJob_10 rfl fX12_47 rfl rfl rfl (XO (A := A) hX) (X_jobLines (A := A) hX) ?_
      refine aw_iload_n (pc' := 14) rfl dX12_isJob_13 rfl ?_
      refine aw_iald (pc' := 15) dX12_isJob_14 rfl (XA_jobLines (A := A) hX) (by omega) (by omega) ?_
      refine aw_bipush (pc' := 17) (by decide +kernel) dX12_isJob_15 rfl ?_
      refine aw_icmp_eq (pt := 24) (pf := 20) dX12_isJob_17 (by decide) rfl (fun c_17 => ?_) (fun c_17 => ?_)
      · refine aw_iconst (pc' := 25) (by decide) dX12_isJob_24 rfl ?_
        refine AW.ret (some (vi _)) dX12_isJob_25 (Or.inl rfl) ?_
        exact h0 (by omega)
      · refine aw_iconst (pc' := 21) (by decide) dX12_isJob_20 rfl ?_
        refine aw_goto (pc' := 25) dX12_isJob_21 (by decide) ?_
        refine AW.ret (some (vi _)) dX12_isJob_25 (Or.inr rfl) ?_
        exact h1 (by omega) (by omega) (by omega)

set_option maxRecDepth 20000 in
theorem x_stop {d : Nat} {j : Int} {A : AHp} {Q : Option AV → AHp → Prop} (hd : 1 ≤ d) (hX : XLAY A)
  (hN : ¬ (0 ≤ j ∧ j ≤ 3 ∧ hv A 264 j ≠ -5) → Q (some (vi (-1))) A)
  (hO : 0 ≤ j → j ≤ 3 → hv A 264 j ≠ -5 → Q (some (vi (hv A 264 j))) (hset A 264 j (-5))) : CALL d mX12_stop [vr 60, vi j] A Q := by
  refine CALL.of (by decide) (Nat.le_of_ble_eq_true rfl) ?_
  change AW d mX12_stop 0 [some (vr 60), some (vi j), none] [] A Q
  refine aw_aload_n (pc' := 1) rfl dX12_stop_0 rfl ?_
  refine aw_iload_n (pc' := 2) rfl dX12_stop_1 rfl ?_
  refine aw_callV (ci := 10) (d' := d - 1) (as := [_]) (pc' := 5) (by decide) rfl kX12_isJob iX12_isJob sX12_isJob lX12_156 (XO (A := A) hX) dX12_stop_2 rfl rfl (Nat.le_of_ble_eq_true rfl) (by omega) ?_
  refine x_isJob (by omega) hX (fun e1_2 e2_2 e3_2 => ?_) (fun e0_2 => ?_)
  · refine aw_if_ne (pt := 10) (pf := 8) dX12_stop_5 (by decide) rfl (fun _ => ?_) (fun c_5 => absurd (by decide) c_5)
    refine aw_aload_n (pc' := 11) rfl dX12_stop_10 rfl ?_
    refine aw_getp (pc' := 14) (k9 := 8) (p := 264) dX12_stop_11 rfl fX12_47 rfl rfl rfl (XO (A := A) hX) (X_jobLines (A := A) hX) ?_
    refine aw_iload_n (pc' := 15) rfl dX12_stop_14 rfl ?_
    refine aw_iald (pc' := 16) dX12_stop_15 rfl (XA_jobLines (A := A) hX) (by omega) (by omega) ?_
    refine aw_istore_n (pc' := 17) (lv' := [_, _, _]) dX12_stop_16 rfl (by decide) rfl ?_
    refine aw_aload_n (pc' := 18) rfl dX12_stop_17 rfl ?_
    refine aw_getp (pc' := 21) (k9 := 8) (p := 264) dX12_stop_18 rfl fX12_47 rfl rfl rfl (XO (A := A) hX) (X_jobLines (A := A) hX) ?_
    refine aw_iload_n (pc' := 22) rfl dX12_stop_21 rfl ?_
    refine aw_bipush (pc' := 24) (by decide +kernel) dX12_stop_22 rfl ?_
    refine aw_iast (pc' := 25) dX12_stop_24 rfl (XA_jobLines (A := A) hX) (by omega) (by omega) ?_
    refine aw_iload_n (pc' := 26) rfl dX12_stop_25 rfl ?_
    refine AW.ret (some (vi _)) dX12_stop_26 trivial ?_
    first | exact hN (by omega) | exact hO (by omega) (by omega) (by omega)
  · refine aw_if_ne (pt := 10) (pf := 8) dX12_stop_5 (by decide) rfl (fun c_5 => absurd c_5 (by decide)) (fun _ => ?_)
    refine aw_iconst (pc' := 9) (by decide) dX12_stop_8 rfl ?_
    refine AW.ret (some (vi _)) dX12_stop_9 trivial ?_
    first | exact hN (by omega) | exact hO (by omega) (by omega) (by omega)

set_option maxRecDepth 20000 in
theorem x_jobCount {d : Nat}  {A : AHp} {Q : Option AV → AHp → Prop} (hd : 1 ≤ d) (hX : XLAY A)
  (hO : ∀ n, n = (if hv A 264 0 ≠ -5 then 1 else 0) + (if hv A 264 1 ≠ -5 then 1 else 0) + (if hv A 264 2 ≠ -5 then 1 else 0) + (if hv A 264 3 ≠ -5 then 1 else 0) → Q (some (vi n)) A) : CALL d mX12_jobCount [vr 60] A Q := by
  refine CALL.of (by decide) (Nat.le_of_ble_eq_true rfl) ?_
  change AW d mX12_jobCount 0 [some (vr 60), none, none] [] A Q
  refine aw_iconst (pc' := 1) (by decide) dX12_jobCount_0 rfl ?_
  refine aw_istore_n (pc' := 2) (lv' := [_, _, _]) dX12_jobCount_1 rfl (by decide) rfl ?_
  refine aw_iconst (pc' := 3) (by decide) dX12_jobCount_2 rfl ?_
  refine aw_istore_n (pc' := 4) (lv' := [_, _, _]) dX12_jobCount_3 rfl (by decide) rfl ?_
  refine aw_iload_n (pc' := 5) rfl dX12_jobCount_4 rfl ?_
  refine aw_iconst (pc' := 6) (by decide) dX12_jobCount_5 rfl ?_
  refine aw_icmp_ge (pt := 26) (pf := 9) dX12_jobCount_6 (by decide) rfl (fun c_6 => absurd c_6 (by decide)) (fun _ => ?_)
  refine aw_aload_n (pc' := 10) rfl dX12_jobCount_9 rfl ?_
  refine aw_iload_n (pc' := 11) rfl dX12_jobCount_10 rfl ?_
  refine aw_callV (ci := 10) (d' := d - 1) (as := [_]) (pc' := 14) (by decide) rfl kX12_isJob iX12_isJob sX12_isJob lX12_156 (XO (A := A) hX) dX12_jobCount_11 rfl rfl (Nat.le_of_ble_eq_true rfl) (by omega) ?_
  refine x_isJob (by omega) hX (fun e1_0 e2_0 e3_0 => ?_) (fun e0_0 => ?_)
  · refine aw_if_eq (pt := 20) (pf := 17) dX12_jobCount_14 (by decide) rfl (fun c_14 => absurd c_14 (by decide)) (fun _ => ?_)
    refine aw_iinc (y := 1) (pc' := 20) (lv' := [_, _, _]) dX12_jobCount_17 rfl rfl (by decide) (by decide) rfl ?_
    refine aw_iinc (y := 1) (pc' := 23) (lv' := [_, _, _]) dX12_jobCount_20 rfl rfl (by decide) (by decide) rfl ?_
    refine aw_goto (pc' := 4) dX12_jobCount_23 (by decide) ?_
    refine aw_iload_n (pc' := 5) rfl dX12_jobCount_4 rfl ?_
    refine aw_iconst (pc' := 6) (by decide) dX12_jobCount_5 rfl ?_
    refine aw_icmp_ge (pt := 26) (pf := 9) dX12_jobCount_6 (by decide) rfl (fun c_6 => absurd c_6 (by decide)) (fun _ => ?_)
    refine aw_aload_n (pc' := 10) rfl dX12_jobCount_9 rfl ?_
    refine aw_iload_n (pc' := 11) rfl dX12_jobCount_10 rfl ?_
    refine aw_callV (ci := 10) (d' := d - 1) (as := [_]) (pc' := 14) (by decide) rfl kX12_isJob iX12_isJob sX12_isJob lX12_156 (XO (A := A) hX) dX12_jobCount_11 rfl rfl (Nat.le_of_ble_eq_true rfl) (by omega) ?_
    refine x_isJob (by omega) hX (fun e1_1 e2_1 e3_1 => ?_) (fun e0_1 => ?_)
    · refine aw_if_eq (pt := 20) (pf := 17) dX12_jobCount_14 (by decide) rfl (fun c_14 => absurd c_14 (by decide)) (fun _ => ?_)
      refine aw_iinc (y := 2) (pc' := 20) (lv' := [_, _, _]) dX12_jobCount_17 rfl rfl (by decide) (by decide) rfl ?_
      refine aw_iinc (y := 2) (pc' := 23) (lv' := [_, _, _]) dX12_jobCount_20 rfl rfl (by decide) (by decide) rfl ?_
      refine aw_goto (pc' := 4) dX12_jobCount_23 (by decide) ?_
      refine aw_iload_n (pc' := 5) rfl dX12_jobCount_4 rfl ?_
      refine aw_iconst (pc' := 6) (by decide) dX12_jobCount_5 rfl ?_
      refine aw_icmp_ge (pt := 26) (pf := 9) dX12_jobCount_6 (by decide) rfl (fun c_6 => absurd c_6 (by decide)) (fun _ => ?_)
      refine aw_aload_n (pc' := 10) rfl dX12_jobCount_9 rfl ?_
      refine aw_iload_n (pc' := 11) rfl dX12_jobCount_10 rfl ?_
      refine aw_callV (ci := 10) (d' := d - 1) (as := [_]) (pc' := 14) (by decide) rfl kX12_isJob iX12_isJob sX12_isJob lX12_156 (XO (A := A) hX) dX12_jobCount_11 rfl rfl (Nat.le_of_ble_eq_true rfl) (by omega) ?_
      refine x_isJob (by omega) hX (fun e1_2 e2_2 e3_2 => ?_) (fun e0_2 => ?_)
      · refine aw_if_eq (pt := 20) (pf := 17) dX12_jobCount_14 (by decide) rfl (fun c_14 => absurd c_14 (by decide)) (fun _ => ?_)
        refine aw_iinc (y := 3) (pc' := 20) (lv' := [_, _, _]) dX12_jobCount_17 rfl rfl (by decide) (by decide) rfl ?_
        refine aw_iinc (y := 3) (pc' := 23) (lv' := [_, _, _]) dX12_jobCount_20 rfl rfl (by decide) (by decide) rfl ?_
        refine aw_goto (pc' := 4) dX12_jobCount_23 (by decide) ?_
        refine aw_iload_n (pc' := 5) rfl dX12_jobCount_4 rfl ?_
        refine aw_iconst (pc' := 6) (by decide) dX12_jobCount_5 rfl ?_
        refine aw_icmp_ge (pt := 26) (pf := 9) dX12_jobCount_6 (by decide) rfl (fun c_6 => absurd c_6 (by decide)) (fun _ => ?_)
        refine aw_aload_n (pc' := 10) rfl dX12_jobCount_9 rfl ?_
        refine aw_iload_n (pc' := 11) rfl dX12_jobCount_10 rfl ?_
        refine aw_callV (ci := 10) (d' := d - 1) (as := [_]) (pc' := 14) (by decide) rfl kX12_isJob iX12_isJob sX12_isJob lX12_156 (XO (A := A) hX) dX12_jobCount_11 rfl rfl (Nat.le_of_ble_eq_true rfl) (by omega) ?_
        refine x_isJob (by omega) hX (fun e1_3 e2_3 e3_3 => ?_) (fun e0_3 => ?_)
        · refine aw_if_eq (pt := 20) (pf := 17) dX12_jobCount_14 (by decide) rfl (fun c_14 => absurd c_14 (by decide)) (fun _ => ?_)
          refine aw_iinc (y := 4) (pc' := 20) (lv' := [_, _, _]) dX12_jobCount_17 rfl rfl (by decide) (by decide) rfl ?_
          refine aw_iinc (y := 4) (pc' := 23) (lv' := [_, _, _]) dX12_jobCount_20 rfl rfl (by decide) (by decide) rfl ?_
          refine aw_goto (pc' := 4) dX12_jobCount_23 (by decide) ?_
          refine aw_iload_n (pc' := 5) rfl dX12_jobCount_4 rfl ?_
          refine aw_iconst (pc' := 6) (by decide) dX12_jobCount_5 rfl ?_
          refine aw_icmp_ge (pt := 26) (pf := 9) dX12_jobCount_6 (by decide) rfl (fun _ => ?_) (fun c_6 => absurd (by decide) c_6)
          refine aw_iload_n (pc' := 27) rfl dX12_jobCount_26 rfl ?_
          refine AW.ret (some (vi _)) dX12_jobCount_27 trivial ?_
          exact hO _ (by (repeat' split) <;> omega)
        · refine aw_if_eq (pt := 20) (pf := 17) dX12_jobCount_14 (by decide) rfl (fun _ => ?_) (fun c_14 => absurd (by decide) c_14)
          refine aw_iinc (y := 4) (pc' := 23) (lv' := [_, _, _]) dX12_jobCount_20 rfl rfl (by decide) (by decide) rfl ?_
          refine aw_goto (pc' := 4) dX12_jobCount_23 (by decide) ?_
          refine aw_iload_n (pc' := 5) rfl dX12_jobCount_4 rfl ?_
          refine aw_iconst (pc' := 6) (by decide) dX12_jobCount_5 rfl ?_
          refine aw_icmp_ge (pt := 26) (pf := 9) dX12_jobCount_6 (by decide) rfl (fun _ => ?_) (fun c_6 => absurd (by decide) c_6)
          refine aw_iload_n (pc' := 27) rfl dX12_jobCount_26 rfl ?_
          refine AW.ret (some (vi _)) dX12_jobCount_27 trivial ?_
          exact hO _ (by (repeat' split) <;> omega)
      · refine aw_if_eq (pt := 20) (pf := 17) dX12_jobCount_14 (by decide) rfl (fun _ => ?_) (fun c_14 => absurd (by decide) c_14)
        refine aw_iinc (y := 3) (pc' := 23) (lv' := [_, _, _]) dX12_jobCount_20 rfl rfl (by decide) (by decide) rfl ?_
        refine aw_goto (pc' := 4) dX12_jobCount_23 (by decide) ?_
        refine aw_iload_n (pc' := 5) rfl dX12_jobCount_4 rfl ?_
        refine aw_iconst (pc' := 6) (by decide) dX12_jobCount_5 rfl ?_
        refine aw_icmp_ge (pt := 26) (pf := 9) dX12_jobCount_6 (by decide) rfl (fun c_6 => absurd c_6 (by decide)) (fun _ => ?_)
        refine aw_aload_n (pc' := 10) rfl dX12_jobCount_9 rfl ?_
        refine aw_iload_n (pc' := 11) rfl dX12_jobCount_10 rfl ?_
        refine aw_callV (ci := 10) (d' := d - 1) (as := [_]) (pc' := 14) (by decide) rfl kX12_isJob iX12_isJob sX12_isJob lX12_156 (XO (A := A) hX) dX12_jobCount_11 rfl rfl (Nat.le_of_ble_eq_true rfl) (by omega) ?_
        refine x_isJob (by omega) hX (fun e1_3 e2_3 e3_3 => ?_) (fun e0_3 => ?_)
        · refine aw_if_eq (pt := 20) (pf := 17) dX12_jobCount_14 (by decide) rfl (fun c_14 => absurd c_14 (by decide)) (fun _ => ?_)
          refine aw_iinc (y := 3) (pc' := 20) (lv' := [_, _, _]) dX12_jobCount_17 rfl rfl (by decide) (by decide) rfl ?_
          refine aw_iinc (y := 4) (pc' := 23) (lv' := [_, _, _]) dX12_jobCount_20 rfl rfl (by decide) (by decide) rfl ?_
          refine aw_goto (pc' := 4) dX12_jobCount_23 (by decide) ?_
          refine aw_iload_n (pc' := 5) rfl dX12_jobCount_4 rfl ?_
          refine aw_iconst (pc' := 6) (by decide) dX12_jobCount_5 rfl ?_
          refine aw_icmp_ge (pt := 26) (pf := 9) dX12_jobCount_6 (by decide) rfl (fun _ => ?_) (fun c_6 => absurd (by decide) c_6)
          refine aw_iload_n (pc' := 27) rfl dX12_jobCount_26 rfl ?_
          refine AW.ret (some (vi _)) dX12_jobCount_27 trivial ?_
          exact hO _ (by (repeat' split) <;> omega)
        · refine aw_if_eq (pt := 20) (pf := 17) dX12_jobCount_14 (by decide) rfl (fun _ => ?_) (fun c_14 => absurd (by decide) c_14)
          refine aw_iinc (y := 4) (pc' := 23) (lv' := [_, _, _]) dX12_jobCount_20 rfl rfl (by decide) (by decide) rfl ?_
          refine aw_goto (pc' := 4) dX12_jobCount_23 (by decide) ?_
          refine aw_iload_n (pc' := 5) rfl dX12_jobCount_4 rfl ?_
          refine aw_iconst (pc' := 6) (by decide) dX12_jobCount_5 rfl ?_
          refine aw_icmp_ge (pt := 26) (pf := 9) dX12_jobCount_6 (by decide) rfl (fun _ => ?_) (fun c_6 => absurd (by decide) c_6)
          refine aw_iload_n (pc' := 27) rfl dX12_jobCount_26 rfl ?_
          refine AW.ret (some (vi _)) dX12_jobCount_27 trivial ?_
          exact hO _ (by (repeat' split) <;> omega)
    · refine aw_if_eq (pt := 20) (pf := 17) dX12_jobCount_14 (by decide) rfl (fun _ => ?_) (fun c_14 => absurd (by decide) c_14)
      refine aw_iinc (y := 2) (pc' := 23) (lv' := [_, _, _]) dX12_jobCount_20 rfl rfl (by decide) (by decide) rfl ?_
      refine aw_goto (pc' := 4) dX12_jobCount_23 (by decide) ?_
      refine aw_iload_n (pc' := 5) rfl dX12_jobCount_4 rfl ?_
      refine aw_iconst (pc' := 6) (by decide) dX12_jobCount_5 rfl ?_
      refine aw_icmp_ge (pt := 26) (pf := 9) dX12_jobCount_6 (by decide) rfl (fun c_6 => absurd c_6 (by decide)) (fun _ => ?_)
      refine aw_aload_n (pc' := 10) rfl dX12_jobCount_9 rfl ?_
      refine aw_iload_n (pc' := 11) rfl dX12_jobCount_10 rfl ?_
      refine aw_callV (ci := 10) (d' := d - 1) (as := [_]) (pc' := 14) (by decide) rfl kX12_isJob iX12_isJob sX12_isJob lX12_156 (XO (A := A) hX) dX12_jobCount_11 rfl rfl (Nat.le_of_ble_eq_true rfl) (by omega) ?_
      refine x_isJob (by omega) hX (fun e1_2 e2_2 e3_2 => ?_) (fun e0_2 => ?_)
      · refine aw_if_eq (pt := 20) (pf := 17) dX12_jobCount_14 (by decide) rfl (fun c_14 => absurd c_14 (by decide)) (fun _ => ?_)
        refine aw_iinc (y := 2) (pc' := 20) (lv' := [_, _, _]) dX12_jobCount_17 rfl rfl (by decide) (by decide) rfl ?_
        refine aw_iinc (y := 3) (pc' := 23) (lv' := [_, _, _]) dX12_jobCount_20 rfl rfl (by decide) (by decide) rfl ?_
        refine aw_goto (pc' := 4) dX12_jobCount_23 (by decide) ?_
        refine aw_iload_n (pc' := 5) rfl dX12_jobCount_4 rfl ?_
        refine aw_iconst (pc' := 6) (by decide) dX12_jobCount_5 rfl ?_
        refine aw_icmp_ge (pt := 26) (pf := 9) dX12_jobCount_6 (by decide) rfl (fun c_6 => absurd c_6 (by decide)) (fun _ => ?_)
        refine aw_aload_n (pc' := 10) rfl dX12_jobCount_9 rfl ?_
        refine aw_iload_n (pc' := 11) rfl dX12_jobCount_10 rfl ?_
        refine aw_callV (ci := 10) (d' := d - 1) (as := [_]) (pc' := 14) (by decide) rfl kX12_isJob iX12_isJob sX12_isJob lX12_156 (XO (A := A) hX) dX12_jobCount_11 rfl rfl (Nat.le_of_ble_eq_true rfl) (by omega) ?_
        refine x_isJob (by omega) hX (fun e1_3 e2_3 e3_3 => ?_) (fun e0_3 => ?_)
        · refine aw_if_eq (pt := 20) (pf := 17) dX12_jobCount_14 (by decide) rfl (fun c_14 => absurd c_14 (by decide)) (fun _ => ?_)
          refine aw_iinc (y := 3) (pc' := 20) (lv' := [_, _, _]) dX12_jobCount_17 rfl rfl (by decide) (by decide) rfl ?_
          refine aw_iinc (y := 4) (pc' := 23) (lv' := [_, _, _]) dX12_jobCount_20 rfl rfl (by decide) (by decide) rfl ?_
          refine aw_goto (pc' := 4) dX12_jobCount_23 (by decide) ?_
          refine aw_iload_n (pc' := 5) rfl dX12_jobCount_4 rfl ?_
          refine aw_iconst (pc' := 6) (by decide) dX12_jobCount_5 rfl ?_
          refine aw_icmp_ge (pt := 26) (pf := 9) dX12_jobCount_6 (by decide) rfl (fun _ => ?_) (fun c_6 => absurd (by decide) c_6)
          refine aw_iload_n (pc' := 27) rfl dX12_jobCount_26 rfl ?_
          refine AW.ret (some (vi _)) dX12_jobCount_27 trivial ?_
          exact hO _ (by (repeat' split) <;> omega)
        · refine aw_if_eq (pt := 20) (pf := 17) dX12_jobCount_14 (by decide) rfl (fun _ => ?_) (fun c_14 => absurd (by decide) c_14)
          refine aw_iinc (y := 4) (pc' := 23) (lv' := [_, _, _]) dX12_jobCount_20 rfl rfl (by decide) (by decide) rfl ?_
          refine aw_goto (pc' := 4) dX12_jobCount_23 (by decide) ?_
          refine aw_iload_n (pc' := 5) rfl dX12_jobCount_4 rfl ?_
          refine aw_iconst (pc' := 6) (by decide) dX12_jobCount_5 rfl ?_
          refine aw_icmp_ge (pt := 26) (pf := 9) dX12_jobCount_6 (by decide) rfl (fun _ => ?_) (fun c_6 => absurd (by decide) c_6)
          refine aw_iload_n (pc' := 27) rfl dX12_jobCount_26 rfl ?_
          refine AW.ret (some (vi _)) dX12_jobCount_27 trivial ?_
          exact hO _ (by (repeat' split) <;> omega)
      · refine aw_if_eq (pt := 20) (pf := 17) dX12_jobCount_14 (by decide) rfl (fun _ => ?_) (fun c_14 => absurd (by decide) c_14)
        refine aw_iinc (y := 3) (pc' := 23) (lv' := [_, _, _]) dX12_jobCount_20 rfl rfl (by decide) (by decide) rfl ?_
        refine aw_goto (pc' := 4) dX12_jobCount_23 (by decide) ?_
        refine aw_iload_n (pc' := 5) rfl dX12_jobCount_4 rfl ?_
        refine aw_iconst (pc' := 6) (by decide) dX12_jobCount_5 rfl ?_
        refine aw_icmp_ge (pt := 26) (pf := 9) dX12_jobCount_6 (by decide) rfl (fun c_6 => absurd c_6 (by decide)) (fun _ => ?_)
        refine aw_aload_n (pc' := 10) rfl dX12_jobCount_9 rfl ?_
        refine aw_iload_n (pc' := 11) rfl dX12_jobCount_10 rfl ?_
        refine aw_callV (ci := 10) (d' := d - 1) (as := [_]) (pc' := 14) (by decide) rfl kX12_isJob iX12_isJob sX12_isJob lX12_156 (XO (A := A) hX) dX12_jobCount_11 rfl rfl (Nat.le_of_ble_eq_true rfl) (by omega) ?_
        refine x_isJob (by omega) hX (fun e1_3 e2_3 e3_3 => ?_) (fun e0_3 => ?_)
        · refine aw_if_eq (pt := 20) (pf := 17) dX12_jobCount_14 (by decide) rfl (fun c_14 => absurd c_14 (by decide)) (fun _ => ?_)
          refine aw_iinc (y := 2) (pc' := 20) (lv' := [_, _, _]) dX12_jobCount_17 rfl rfl (by decide) (by decide) rfl ?_
          refine aw_iinc (y := 4) (pc' := 23) (lv' := [_, _, _]) dX12_jobCount_20 rfl rfl (by decide) (by decide) rfl ?_
          refine aw_goto (pc' := 4) dX12_jobCount_23 (by decide) ?_
          refine aw_iload_n (pc' := 5) rfl dX12_jobCount_4 rfl ?_
          refine aw_iconst (pc' := 6) (by decide) dX12_jobCount_5 rfl ?_
          refine aw_icmp_ge (pt := 26) (pf := 9) dX12_jobCount_6 (by decide) rfl (fun _ => ?_) (fun c_6 => absurd (by decide) c_6)
          refine aw_iload_n (pc' := 27) rfl dX12_jobCount_26 rfl ?_
          refine AW.ret (some (vi _)) dX12_jobCount_27 trivial ?_
          exact hO _ (by (repeat' split) <;> omega)
        · refine aw_if_eq (pt := 20) (pf := 17) dX12_jobCount_14 (by decide) rfl (fun _ => ?_) (fun c_14 => absurd (by decide) c_14)
          refine aw_iinc (y := 4) (pc' := 23) (lv' := [_, _, _]) dX12_jobCount_20 rfl rfl (by decide) (by decide) rfl ?_
          refine aw_goto (pc' := 4) dX12_jobCount_23 (by decide) ?_
          refine aw_iload_n (pc' := 5) rfl dX12_jobCount_4 rfl ?_
          refine aw_iconst (pc' := 6) (by decide) dX12_jobCount_5 rfl ?_
          refine aw_icmp_ge (pt := 26) (pf := 9) dX12_jobCount_6 (by decide) rfl (fun _ => ?_) (fun c_6 => absurd (by decide) c_6)
          refine aw_iload_n (pc' := 27) rfl dX12_jobCount_26 rfl ?_
          refine AW.ret (some (vi _)) dX12_jobCount_27 trivial ?_
          exact hO _ (by (repeat' split) <;> omega)
  · refine aw_if_eq (pt := 20) (pf := 17) dX12_jobCount_14 (by decide) rfl (fun _ => ?_) (fun c_14 => absurd (by decide) c_14)
    refine aw_iinc (y := 1) (pc' := 23) (lv' := [_, _, _]) dX12_jobCount_20 rfl rfl (by decide) (by decide) rfl ?_
    refine aw_goto (pc' := 4) dX12_jobCount_23 (by decide) ?_
    refine aw_iload_n (pc' := 5) rfl dX12_jobCount_4 rfl ?_
    refine aw_iconst (pc' := 6) (by decide) dX12_jobCount_5 rfl ?_
    refine aw_icmp_ge (pt := 26) (pf := 9) dX12_jobCount_6 (by decide) rfl (fun c_6 => absurd c_6 (by decide)) (fun _ => ?_)
    refine aw_aload_n (pc' := 10) rfl dX12_jobCount_9 rfl ?_
    refine aw_iload_n (pc' := 11) rfl dX12_jobCount_10 rfl ?_
    refine aw_callV (ci := 10) (d' := d - 1) (as := [_]) (pc' := 14) (by decide) rfl kX12_isJob iX12_isJob sX12_isJob lX12_156 (XO (A := A) hX) dX12_jobCount_11 rfl rfl (Nat.le_of_ble_eq_true rfl) (by omega) ?_
    refine x_isJob (by omega) hX (fun e1_1 e2_1 e3_1 => ?_) (fun e0_1 => ?_)
    · refine aw_if_eq (pt := 20) (pf := 17) dX12_jobCount_14 (by decide) rfl (fun c_14 => absurd c_14 (by decide)) (fun _ => ?_)
      refine aw_iinc (y := 1) (pc' := 20) (lv' := [_, _, _]) dX12_jobCount_17 rfl rfl (by decide) (by decide) rfl ?_
      refine aw_iinc (y := 2) (pc' := 23) (lv' := [_, _, _]) dX12_jobCount_20 rfl rfl (by decide) (by decide) rfl ?_
      refine aw_goto (pc' := 4) dX12_jobCount_23 (by decide) ?_
      refine aw_iload_n (pc' := 5) rfl dX12_jobCount_4 rfl ?_
      refine aw_iconst (pc' := 6) (by decide) dX12_jobCount_5 rfl ?_
      refine aw_icmp_ge (pt := 26) (pf := 9) dX12_jobCount_6 (by decide) rfl (fun c_6 => absurd c_6 (by decide)) (fun _ => ?_)
      refine aw_aload_n (pc' := 10) rfl dX12_jobCount_9 rfl ?_
      refine aw_iload_n (pc' := 11) rfl dX12_jobCount_10 rfl ?_
      refine aw_callV (ci := 10) (d' := d - 1) (as := [_]) (pc' := 14) (by decide) rfl kX12_isJob iX12_isJob sX12_isJob lX12_156 (XO (A := A) hX) dX12_jobCount_11 rfl rfl (Nat.le_of_ble_eq_true rfl) (by omega) ?_
      refine x_isJob (by omega) hX (fun e1_2 e2_2 e3_2 => ?_) (fun e0_2 => ?_)
      · refine aw_if_eq (pt := 20) (pf := 17) dX12_jobCount_14 (by decide) rfl (fun c_14 => absurd c_14 (by decide)) (fun _ => ?_)
        refine aw_iinc (y := 2) (pc' := 20) (lv' := [_, _, _]) dX12_jobCount_17 rfl rfl (by decide) (by decide) rfl ?_
        refine aw_iinc (y := 3) (pc' := 23) (lv' := [_, _, _]) dX12_jobCount_20 rfl rfl (by decide) (by decide) rfl ?_
        refine aw_goto (pc' := 4) dX12_jobCount_23 (by decide) ?_
        refine aw_iload_n (pc' := 5) rfl dX12_jobCount_4 rfl ?_
        refine aw_iconst (pc' := 6) (by decide) dX12_jobCount_5 rfl ?_
        refine aw_icmp_ge (pt := 26) (pf := 9) dX12_jobCount_6 (by decide) rfl (fun c_6 => absurd c_6 (by decide)) (fun _ => ?_)
        refine aw_aload_n (pc' := 10) rfl dX12_jobCount_9 rfl ?_
        refine aw_iload_n (pc' := 11) rfl dX12_jobCount_10 rfl ?_
        refine aw_callV (ci := 10) (d' := d - 1) (as := [_]) (pc' := 14) (by decide) rfl kX12_isJob iX12_isJob sX12_isJob lX12_156 (XO (A := A) hX) dX12_jobCount_11 rfl rfl (Nat.le_of_ble_eq_true rfl) (by omega) ?_
        refine x_isJob (by omega) hX (fun e1_3 e2_3 e3_3 => ?_) (fun e0_3 => ?_)
        · refine aw_if_eq (pt := 20) (pf := 17) dX12_jobCount_14 (by decide) rfl (fun c_14 => absurd c_14 (by decide)) (fun _ => ?_)
          refine aw_iinc (y := 3) (pc' := 20) (lv' := [_, _, _]) dX12_jobCount_17 rfl rfl (by decide) (by decide) rfl ?_
          refine aw_iinc (y := 4) (pc' := 23) (lv' := [_, _, _]) dX12_jobCount_20 rfl rfl (by decide) (by decide) rfl ?_
          refine aw_goto (pc' := 4) dX12_jobCount_23 (by decide) ?_
          refine aw_iload_n (pc' := 5) rfl dX12_jobCount_4 rfl ?_
          refine aw_iconst (pc' := 6) (by decide) dX12_jobCount_5 rfl ?_
          refine aw_icmp_ge (pt := 26) (pf := 9) dX12_jobCount_6 (by decide) rfl (fun _ => ?_) (fun c_6 => absurd (by decide) c_6)
          refine aw_iload_n (pc' := 27) rfl dX12_jobCount_26 rfl ?_
          refine AW.ret (some (vi _)) dX12_jobCount_27 trivial ?_
          exact hO _ (by (repeat' split) <;> omega)
        · refine aw_if_eq (pt := 20) (pf := 17) dX12_jobCount_14 (by decide) rfl (fun _ => ?_) (fun c_14 => absurd (by decide) c_14)
          refine aw_iinc (y := 4) (pc' := 23) (lv' := [_, _, _]) dX12_jobCount_20 rfl rfl (by decide) (by decide) rfl ?_
          refine aw_goto (pc' := 4) dX12_jobCount_23 (by decide) ?_
          refine aw_iload_n (pc' := 5) rfl dX12_jobCount_4 rfl ?_
          refine aw_iconst (pc' := 6) (by decide) dX12_jobCount_5 rfl ?_
          refine aw_icmp_ge (pt := 26) (pf := 9) dX12_jobCount_6 (by decide) rfl (fun _ => ?_) (fun c_6 => absurd (by decide) c_6)
          refine aw_iload_n (pc' := 27) rfl dX12_jobCount_26 rfl ?_
          refine AW.ret (some (vi _)) dX12_jobCount_27 trivial ?_
          exact hO _ (by (repeat' split) <;> omega)
      · refine aw_if_eq (pt := 20) (pf := 17) dX12_jobCount_14 (by decide) rfl (fun _ => ?_) (fun c_14 => absurd (by decide) c_14)
        refine aw_iinc (y := 3) (pc' := 23) (lv' := [_, _, _]) dX12_jobCount_20 rfl rfl (by decide) (by decide) rfl ?_
        refine aw_goto (pc' := 4) dX12_jobCount_23 (by decide) ?_
        refine aw_iload_n (pc' := 5) rfl dX12_jobCount_4 rfl ?_
        refine aw_iconst (pc' := 6) (by decide) dX12_jobCount_5 rfl ?_
        refine aw_icmp_ge (pt := 26) (pf := 9) dX12_jobCount_6 (by decide) rfl (fun c_6 => absurd c_6 (by decide)) (fun _ => ?_)
        refine aw_aload_n (pc' := 10) rfl dX12_jobCount_9 rfl ?_
        refine aw_iload_n (pc' := 11) rfl dX12_jobCount_10 rfl ?_
        refine aw_callV (ci := 10) (d' := d - 1) (as := [_]) (pc' := 14) (by decide) rfl kX12_isJob iX12_isJob sX12_isJob lX12_156 (XO (A := A) hX) dX12_jobCount_11 rfl rfl (Nat.le_of_ble_eq_true rfl) (by omega) ?_
        refine x_isJob (by omega) hX (fun e1_3 e2_3 e3_3 => ?_) (fun e0_3 => ?_)
        · refine aw_if_eq (pt := 20) (pf := 17) dX12_jobCount_14 (by decide) rfl (fun c_14 => absurd c_14 (by decide)) (fun _ => ?_)
          refine aw_iinc (y := 2) (pc' := 20) (lv' := [_, _, _]) dX12_jobCount_17 rfl rfl (by decide) (by decide) rfl ?_
          refine aw_iinc (y := 4) (pc' := 23) (lv' := [_, _, _]) dX12_jobCount_20 rfl rfl (by decide) (by decide) rfl ?_
          refine aw_goto (pc' := 4) dX12_jobCount_23 (by decide) ?_
          refine aw_iload_n (pc' := 5) rfl dX12_jobCount_4 rfl ?_
          refine aw_iconst (pc' := 6) (by decide) dX12_jobCount_5 rfl ?_
          refine aw_icmp_ge (pt := 26) (pf := 9) dX12_jobCount_6 (by decide) rfl (fun _ => ?_) (fun c_6 => absurd (by decide) c_6)
          refine aw_iload_n (pc' := 27) rfl dX12_jobCount_26 rfl ?_
          refine AW.ret (some (vi _)) dX12_jobCount_27 trivial ?_
          exact hO _ (by (repeat' split) <;> omega)
        · refine aw_if_eq (pt := 20) (pf := 17) dX12_jobCount_14 (by decide) rfl (fun _ => ?_) (fun c_14 => absurd (by decide) c_14)
          refine aw_iinc (y := 4) (pc' := 23) (lv' := [_, _, _]) dX12_jobCount_20 rfl rfl (by decide) (by decide) rfl ?_
          refine aw_goto (pc' := 4) dX12_jobCount_23 (by decide) ?_
          refine aw_iload_n (pc' := 5) rfl dX12_jobCount_4 rfl ?_
          refine aw_iconst (pc' := 6) (by decide) dX12_jobCount_5 rfl ?_
          refine aw_icmp_ge (pt := 26) (pf := 9) dX12_jobCount_6 (by decide) rfl (fun _ => ?_) (fun c_6 => absurd (by decide) c_6)
          refine aw_iload_n (pc' := 27) rfl dX12_jobCount_26 rfl ?_
          refine AW.ret (some (vi _)) dX12_jobCount_27 trivial ?_
          exact hO _ (by (repeat' split) <;> omega)
    · refine aw_if_eq (pt := 20) (pf := 17) dX12_jobCount_14 (by decide) rfl (fun _ => ?_) (fun c_14 => absurd (by decide) c_14)
      refine aw_iinc (y := 2) (pc' := 23) (lv' := [_, _, _]) dX12_jobCount_20 rfl rfl (by decide) (by decide) rfl ?_
      refine aw_goto (pc' := 4) dX12_jobCount_23 (by decide) ?_
      refine aw_iload_n (pc' := 5) rfl dX12_jobCount_4 rfl ?_
      refine aw_iconst (pc' := 6) (by decide) dX12_jobCount_5 rfl ?_
      refine aw_icmp_ge (pt := 26) (pf := 9) dX12_jobCount_6 (by decide) rfl (fun c_6 => absurd c_6 (by decide)) (fun _ => ?_)
      refine aw_aload_n (pc' := 10) rfl dX12_jobCount_9 rfl ?_
      refine aw_iload_n (pc' := 11) rfl dX12_jobCount_10 rfl ?_
      refine aw_callV (ci := 10) (d' := d - 1) (as := [_]) (pc' := 14) (by decide) rfl kX12_isJob iX12_isJob sX12_isJob lX12_156 (XO (A := A) hX) dX12_jobCount_11 rfl rfl (Nat.le_of_ble_eq_true rfl) (by omega) ?_
      refine x_isJob (by omega) hX (fun e1_2 e2_2 e3_2 => ?_) (fun e0_2 => ?_)
      · refine aw_if_eq (pt := 20) (pf := 17) dX12_jobCount_14 (by decide) rfl (fun c_14 => absurd c_14 (by decide)) (fun _ => ?_)
        refine aw_iinc (y := 1) (pc' := 20) (lv' := [_, _, _]) dX12_jobCount_17 rfl rfl (by decide) (by decide) rfl ?_
        refine aw_iinc (y := 3) (pc' := 23) (lv' := [_, _, _]) dX12_jobCount_20 rfl rfl (by decide) (by decide) rfl ?_
        refine aw_goto (pc' := 4) dX12_jobCount_23 (by decide) ?_
        refine aw_iload_n (pc' := 5) rfl dX12_jobCount_4 rfl ?_
        refine aw_iconst (pc' := 6) (by decide) dX12_jobCount_5 rfl ?_
        refine aw_icmp_ge (pt := 26) (pf := 9) dX12_jobCount_6 (by decide) rfl (fun c_6 => absurd c_6 (by decide)) (fun _ => ?_)
        refine aw_aload_n (pc' := 10) rfl dX12_jobCount_9 rfl ?_
        refine aw_iload_n (pc' := 11) rfl dX12_jobCount_10 rfl ?_
        refine aw_callV (ci := 10) (d' := d - 1) (as := [_]) (pc' := 14) (by decide) rfl kX12_isJob iX12_isJob sX12_isJob lX12_156 (XO (A := A) hX) dX12_jobCount_11 rfl rfl (Nat.le_of_ble_eq_true rfl) (by omega) ?_
        refine x_isJob (by omega) hX (fun e1_3 e2_3 e3_3 => ?_) (fun e0_3 => ?_)
        · refine aw_if_eq (pt := 20) (pf := 17) dX12_jobCount_14 (by decide) rfl (fun c_14 => absurd c_14 (by decide)) (fun _ => ?_)
          refine aw_iinc (y := 2) (pc' := 20) (lv' := [_, _, _]) dX12_jobCount_17 rfl rfl (by decide) (by decide) rfl ?_
          refine aw_iinc (y := 4) (pc' := 23) (lv' := [_, _, _]) dX12_jobCount_20 rfl rfl (by decide) (by decide) rfl ?_
          refine aw_goto (pc' := 4) dX12_jobCount_23 (by decide) ?_
          refine aw_iload_n (pc' := 5) rfl dX12_jobCount_4 rfl ?_
          refine aw_iconst (pc' := 6) (by decide) dX12_jobCount_5 rfl ?_
          refine aw_icmp_ge (pt := 26) (pf := 9) dX12_jobCount_6 (by decide) rfl (fun _ => ?_) (fun c_6 => absurd (by decide) c_6)
          refine aw_iload_n (pc' := 27) rfl dX12_jobCount_26 rfl ?_
          refine AW.ret (some (vi _)) dX12_jobCount_27 trivial ?_
          exact hO _ (by (repeat' split) <;> omega)
        · refine aw_if_eq (pt := 20) (pf := 17) dX12_jobCount_14 (by decide) rfl (fun _ => ?_) (fun c_14 => absurd (by decide) c_14)
          refine aw_iinc (y := 4) (pc' := 23) (lv' := [_, _, _]) dX12_jobCount_20 rfl rfl (by decide) (by decide) rfl ?_
          refine aw_goto (pc' := 4) dX12_jobCount_23 (by decide) ?_
          refine aw_iload_n (pc' := 5) rfl dX12_jobCount_4 rfl ?_
          refine aw_iconst (pc' := 6) (by decide) dX12_jobCount_5 rfl ?_
          refine aw_icmp_ge (pt := 26) (pf := 9) dX12_jobCount_6 (by decide) rfl (fun _ => ?_) (fun c_6 => absurd (by decide) c_6)
          refine aw_iload_n (pc' := 27) rfl dX12_jobCount_26 rfl ?_
          refine AW.ret (some (vi _)) dX12_jobCount_27 trivial ?_
          exact hO _ (by (repeat' split) <;> omega)
      · refine aw_if_eq (pt := 20) (pf := 17) dX12_jobCount_14 (by decide) rfl (fun _ => ?_) (fun c_14 => absurd (by decide) c_14)
        refine aw_iinc (y := 3) (pc' := 23) (lv' := [_, _, _]) dX12_jobCount_20 rfl rfl (by decide) (by decide) rfl ?_
        refine aw_goto (pc' := 4) dX12_jobCount_23 (by decide) ?_
        refine aw_iload_n (pc' := 5) rfl dX12_jobCount_4 rfl ?_
        refine aw_iconst (pc' := 6) (by decide) dX12_jobCount_5 rfl ?_
        refine aw_icmp_ge (pt := 26) (pf := 9) dX12_jobCount_6 (by decide) rfl (fun c_6 => absurd c_6 (by decide)) (fun _ => ?_)
        refine aw_aload_n (pc' := 10) rfl dX12_jobCount_9 rfl ?_
        refine aw_iload_n (pc' := 11) rfl dX12_jobCount_10 rfl ?_
        refine aw_callV (ci := 10) (d' := d - 1) (as := [_]) (pc' := 14) (by decide) rfl kX12_isJob iX12_isJob sX12_isJob lX12_156 (XO (A := A) hX) dX12_jobCount_11 rfl rfl (Nat.le_of_ble_eq_true rfl) (by omega) ?_
        refine x_isJob (by omega) hX (fun e1_3 e2_3 e3_3 => ?_) (fun e0_3 => ?_)
        · refine aw_if_eq (pt := 20) (pf := 17) dX12_jobCount_14 (by decide) rfl (fun c_14 => absurd c_14 (by decide)) (fun _ => ?_)
          refine aw_iinc (y := 1) (pc' := 20) (lv' := [_, _, _]) dX12_jobCount_17 rfl rfl (by decide) (by decide) rfl ?_
          refine aw_iinc (y := 4) (pc' := 23) (lv' := [_, _, _]) dX12_jobCount_20 rfl rfl (by decide) (by decide) rfl ?_
          refine aw_goto (pc' := 4) dX12_jobCount_23 (by decide) ?_
          refine aw_iload_n (pc' := 5) rfl dX12_jobCount_4 rfl ?_
          refine aw_iconst (pc' := 6) (by decide) dX12_jobCount_5 rfl ?_
          refine aw_icmp_ge (pt := 26) (pf := 9) dX12_jobCount_6 (by decide) rfl (fun _ => ?_) (fun c_6 => absurd (by decide) c_6)
          refine aw_iload_n (pc' := 27) rfl dX12_jobCount_26 rfl ?_
          refine AW.ret (some (vi _)) dX12_jobCount_27 trivial ?_
          exact hO _ (by (repeat' split) <;> omega)
        · refine aw_if_eq (pt := 20) (pf := 17) dX12_jobCount_14 (by decide) rfl (fun _ => ?_) (fun c_14 => absurd (by decide) c_14)
          refine aw_iinc (y := 4) (pc' := 23) (lv' := [_, _, _]) dX12_jobCount_20 rfl rfl (by decide) (by decide) rfl ?_
          refine aw_goto (pc' := 4) dX12_jobCount_23 (by decide) ?_
          refine aw_iload_n (pc' := 5) rfl dX12_jobCount_4 rfl ?_
          refine aw_iconst (pc' := 6) (by decide) dX12_jobCount_5 rfl ?_
          refine aw_icmp_ge (pt := 26) (pf := 9) dX12_jobCount_6 (by decide) rfl (fun _ => ?_) (fun c_6 => absurd (by decide) c_6)
          refine aw_iload_n (pc' := 27) rfl dX12_jobCount_26 rfl ?_
          refine AW.ret (some (vi _)) dX12_jobCount_27 trivial ?_
          exact hO _ (by (repeat' split) <;> omega)

set_option maxRecDepth 20000 in
theorem x_count {d : Nat} {w : Int} {A : AHp} {Q : Option AV → AHp → Prop} (hd : 2 ≤ d) (hX : XLAY A)
  (h0 : w = 0 → Q (some (vi (hv A 64 1))) A) (h1 : w = 1 → ∀ n, n = (if hv A 264 0 ≠ -5 then 1 else 0) + (if hv A 264 1 ≠ -5 then 1 else 0) + (if hv A 264 2 ≠ -5 then 1 else 0) + (if hv A 264 3 ≠ -5 then 1 else 0) → Q (some (vi n)) A) (h2 : w = 2 → Q (some (vi (hv A 212 2))) A) (h3 : w = 3 → Q (some (vi (hv A 215 2))) A) (h4 : w = 4 → Q (some (vi (hv A 218 2))) A) (h5 : w = 5 → Q (some (vi (hv A 61 2))) A) (hB : ¬ (0 ≤ w ∧ w ≤ 5) → Q (some (vi (-2))) A) : CALL d mX12_count [vr 60, vi w] A Q := by
  refine CALL.of (by decide) (Nat.le_of_ble_eq_true rfl) ?_
  change AW d mX12_count 0 [some (vr 60), some (vi w)] [] A Q
  refine aw_iload_n (pc' := 1) rfl dX12_count_0 rfl ?_
  by_cases z_1_0 : w = 0
  · refine aw_tabIn (pc' := 40) dX12_count_1 (by omega) (by omega) (off := 39) (by rw [z_1_0]; rfl) (by decide) ?_
    refine aw_aload_n (pc' := 41) rfl dX12_count_40 rfl ?_
    refine aw_getp (pc' := 44) (k9 := 1) (p := 64) dX12_count_41 rfl fX12_21 rfl rfl rfl (XO (A := A) hX) (X_machine (A := A) hX) ?_
    refine aw_geti (pc' := 47) (k9 := 1) dX12_count_44 rfl fX12_70 rfl (by decide) rfl (XO_machine (A := A) hX) ?_
    refine AW.ret (some (vi _)) dX12_count_47 trivial ?_
    first | exact h0 (by omega) | exact h1 (by omega) _ hn9 | exact h2 (by omega) | exact h3 (by omega) | exact h4 (by omega) | exact h5 (by omega) | exact hB (by omega)
  by_cases z_1_1 : w = 1
  · refine aw_tabIn (pc' := 48) dX12_count_1 (by omega) (by omega) (off := 47) (by rw [z_1_1]; rfl) (by decide) ?_
    refine aw_aload_n (pc' := 49) rfl dX12_count_48 rfl ?_
    refine aw_callV (ci := 10) (d' := d - 1) (as := []) (pc' := 52) (by decide) rfl kX12_jobCount iX12_jobCount sX12_jobCount lX12_244 (XO (A := A) hX) dX12_count_49 rfl rfl (Nat.le_of_ble_eq_true rfl) (by omega) ?_
    refine x_jobCount (by omega) hX (fun n hn9 => ?_)
    refine AW.ret (some (vi _)) dX12_count_52 trivial ?_
    first | exact h0 (by omega) | exact h1 (by omega) _ hn9 | exact h2 (by omega) | exact h3 (by omega) | exact h4 (by omega) | exact h5 (by omega) | exact hB (by omega)
  by_cases z_1_2 : w = 2
  · refine aw_tabIn (pc' := 53) dX12_count_1 (by omega) (by omega) (off := 52) (by rw [z_1_2]; rfl) (by decide) ?_
    refine aw_aload_n (pc' := 54) rfl dX12_count_53 rfl ?_
    refine aw_getp (pc' := 57) (k9 := 2) (p := 207) dX12_count_54 rfl fX12_28 rfl rfl rfl (XO (A := A) hX) (X_now (A := A) hX) ?_
    refine aw_getp (pc' := 60) (k9 := 6) (p := 212) dX12_count_57 rfl fX12_173 rfl rfl rfl (XK_now (A := A) hX).1 (XK_now (A := A) hX).2.2.2.2.1.1 ?_
    refine aw_geti (pc' := 63) (k9 := 2) dX12_count_60 rfl fX12_194 rfl (by decide) rfl (XK_now (A := A) hX).2.2.2.2.1.2.1 ?_
    refine AW.ret (some (vi _)) dX12_count_63 trivial ?_
    first | exact h0 (by omega) | exact h1 (by omega) _ hn9 | exact h2 (by omega) | exact h3 (by omega) | exact h4 (by omega) | exact h5 (by omega) | exact hB (by omega)
  by_cases z_1_3 : w = 3
  · refine aw_tabIn (pc' := 64) dX12_count_1 (by omega) (by omega) (off := 63) (by rw [z_1_3]; rfl) (by decide) ?_
    refine aw_aload_n (pc' := 65) rfl dX12_count_64 rfl ?_
    refine aw_getp (pc' := 68) (k9 := 2) (p := 207) dX12_count_65 rfl fX12_28 rfl rfl rfl (XO (A := A) hX) (X_now (A := A) hX) ?_
    refine aw_getp (pc' := 71) (k9 := 7) (p := 215) dX12_count_68 rfl fX12_215 rfl rfl rfl (XK_now (A := A) hX).1 (XK_now (A := A) hX).2.2.2.2.2.1.1 ?_
    refine aw_geti (pc' := 74) (k9 := 2) dX12_count_71 rfl fX12_194 rfl (by decide) rfl (XK_now (A := A) hX).2.2.2.2.2.1.2.1 ?_
    refine AW.ret (some (vi _)) dX12_count_74 trivial ?_
    first | exact h0 (by omega) | exact h1 (by omega) _ hn9 | exact h2 (by omega) | exact h3 (by omega) | exact h4 (by omega) | exact h5 (by omega) | exact hB (by omega)
  by_cases z_1_4 : w = 4
  · refine aw_tabIn (pc' := 75) dX12_count_1 (by omega) (by omega) (off := 74) (by rw [z_1_4]; rfl) (by decide) ?_
    refine aw_aload_n (pc' := 76) rfl dX12_count_75 rfl ?_
    refine aw_getp (pc' := 79) (k9 := 2) (p := 207) dX12_count_76 rfl fX12_28 rfl rfl rfl (XO (A := A) hX) (X_now (A := A) hX) ?_
    refine aw_getp (pc' := 82) (k9 := 8) (p := 218) dX12_count_79 rfl fX12_226 rfl rfl rfl (XK_now (A := A) hX).1 (XK_now (A := A) hX).2.2.2.2.2.2.1 ?_
    refine aw_geti (pc' := 85) (k9 := 2) dX12_count_82 rfl fX12_194 rfl (by decide) rfl (XK_now (A := A) hX).2.2.2.2.2.2.2.1 ?_
    refine AW.ret (some (vi _)) dX12_count_85 trivial ?_
    first | exact h0 (by omega) | exact h1 (by omega) _ hn9 | exact h2 (by omega) | exact h3 (by omega) | exact h4 (by omega) | exact h5 (by omega) | exact hB (by omega)
  by_cases z_1_5 : w = 5
  · refine aw_tabIn (pc' := 86) dX12_count_1 (by omega) (by omega) (off := 85) (by rw [z_1_5]; rfl) (by decide) ?_
    refine aw_aload_n (pc' := 87) rfl dX12_count_86 rfl ?_
    refine aw_getp (pc' := 90) (k9 := 0) (p := 61) dX12_count_87 rfl fX12_14 rfl rfl rfl (XO (A := A) hX) (X_reader (A := A) hX) ?_
    refine aw_geti (pc' := 93) (k9 := 2) dX12_count_90 rfl fX12_66 rfl (by decide) rfl (XO_reader (A := A) hX) ?_
    refine AW.ret (some (vi _)) dX12_count_93 trivial ?_
    first | exact h0 (by omega) | exact h1 (by omega) _ hn9 | exact h2 (by omega) | exact h3 (by omega) | exact h4 (by omega) | exact h5 (by omega) | exact hB (by omega)
  refine aw_tabOut (pc' := 94) dX12_count_1 (by omega) (by decide) ?_
  refine aw_bipush (pc' := 96) (by decide +kernel) dX12_count_94 rfl ?_
  refine AW.ret (some (vi _)) dX12_count_96 trivial ?_
  first | exact h0 (by omega) | exact h1 (by omega) _ hn9 | exact h2 (by omega) | exact h3 (by omega) | exact h4 (by omega) | exact h5 (by omega) | exact hB (by omega)

/-- the tapes stand where they stood -/
def TPS (A : AHp) : Prop := ∀ i : Int, 0 ≤ i → i < 6 → hv A 266 i = 295 + 2 * i
set_option maxRecDepth 20000 in
theorem l_become {d : Nat} {A : AHp} {a s n : Int} {Q : Option AV → AHp → Prop} : ∀ (m : Nat) (k : Int), (60 - k).toNat = m → 0 ≤ k → k ≤ 60 → TapeAt A a → Q (some (vi 1)) (hfill A (a + 1) 0 60 0) → AW d mX10_become 12 [some (vr a), some (vi s), some (vi n), some (vi k)] [] (hfill A (a + 1) 0 k 0) Q := by
  intro m
  induction m using Nat.strongRecOn with
  | _ m ih =>
    intro k hm hk0 hkn hT hQ
    refine aw_iload_n (pc' := 13) rfl dX10_become_12 rfl ?_
    refine aw_bipush (pc' := 15) (by decide +kernel) dX10_become_13 rfl ?_
    refine aw_icmp_ge (pt := 31) (pf := 18) dX10_become_15 (by decide) rfl (fun c_15 => ?_) (fun c_15 => ?_)
    · refine aw_iconst (pc' := 32) (by decide) dX10_become_31 rfl ?_
      refine AW.ret (some (vi _)) dX10_become_32 trivial ?_
      rw [show k = 60 by omega]
      exact hQ
    · refine aw_aload_n (pc' := 19) rfl dX10_become_18 rfl ?_
      refine aw_getp (pc' := 22) (k9 := 2) (p := (a + 1)) dX10_become_19 rfl fX10_15 rfl rfl rfl hT.1 hT.2.1 ?_
      refine aw_iload_n (pc' := 23) rfl dX10_become_22 rfl ?_
      refine aw_lconst (x := 0) (pc' := 24) (by decide +kernel) dX10_become_23 rfl ?_
      refine aw_last (pc' := 25) dX10_become_24 rfl hT.2.2 (by omega) (by omega) ?_
      refine aw_iinc (pc' := 28) (lv' := [_, _, _, _]) dX10_become_25 rfl rfl (by decide) (by first | exact w32_id (by omega) (by omega) | rfl) rfl ?_
      refine aw_goto (pc' := 12) dX10_become_28 (by decide) ?_
      have e9 := hfill_s A (o := a + 1) (lo := 0) (x := 0) hk0
      rw [Int.zero_add] at e9
      rw [e9]
      exact ih _ (by omega) (k + 1) rfl (by omega) (by omega) hT hQ

set_option maxRecDepth 20000 in
theorem x_become {d : Nat} {a s n : Int} {A : AHp} {Q : Option AV → AHp → Prop} (hd : 0 ≤ d) (hT : TapeAt A a) (hQ : Q (some (vi 1)) (hfill (hset (hset A a 0 s) a 1 n) (a + 1) 0 60 0)) : CALL d mX10_become [vr a, vi s, vi n] A Q := by
  refine CALL.of (by decide) (Nat.le_of_ble_eq_true rfl) ?_
  change AW d mX10_become 0 [some (vr a), some (vi s), some (vi n), none] [] A Q
  refine aw_aload_n (pc' := 1) rfl dX10_become_0 rfl ?_
  refine aw_iload_n (pc' := 2) rfl dX10_become_1 rfl ?_
  refine aw_puti (pc' := 5) (k9 := 0) dX10_become_2 rfl fX10_9 rfl rfl rfl hT.1 ?_
  refine aw_aload_n (pc' := 6) rfl dX10_become_5 rfl ?_
  refine aw_iload_n (pc' := 7) rfl dX10_become_6 rfl ?_
  refine aw_puti (pc' := 10) (k9 := 1) dX10_become_7 rfl fX10_19 rfl rfl rfl hT.1 ?_
  refine aw_iconst (pc' := 11) (by decide) dX10_become_10 rfl ?_
  refine aw_istore_n (pc' := 12) (lv' := [_, _, _, _]) dX10_become_11 rfl (by decide) rfl ?_
  rw [← hfill_0 (hset (hset A a 0 s) a 1 n) (a + 1) 0 0]
  exact l_become _ 0 rfl (by omega) (by omega) hT hQ
