/-! ===== the class's reader: bytes, numbers ===== -/
def btX (v : Sg) (k : Int) : Int := if k < v 61 2 then v 63 k else -1
theorem btX_4 {v : Sg} {x k : Int} : btX (sset v 61 4 x) k = btX v k := by
  unfold btX
  rw [sset_2 (by omega), sset_1 (by omega)]
/-- both readers see the same bytes -/
def BSM (v s : Sg) : Prop := (0 ≤ v 61 2 ∧ v 61 2 ≤ 100) ∧ (∀ k, 0 ≤ k → btX v k = btS s k) ∧ ∀ k, 0 ≤ k → -1 ≤ btS s k ∧ btS s k ≤ 127
theorem BSM.at {v s : Sg} {x : Int} (h : BSM v s) : BSM (sset v 61 4 x) s := by
  obtain ⟨h1, h2, h3⟩ := h
  refine ⟨by rw [sset_2 (by omega)]; exact h1, fun k hk => by rw [btX_4]; exact h2 k hk, h3⟩
set_option maxRecDepth 20000 in
theorem x_peek {d : Nat} {s : Sg} {A : AHp} {v : Sg} {Q : Option AV → AHp → Prop} (hd : 0 ≤ d) (hX : XLAY A) (hB : BSM v s) (hat : 0 ≤ v 61 4 ∧ v 61 4 ≤ 110) (hQ : Q (some (vi (btS s (v 61 4)))) (cl A v)) : CALL d mX7_peek [vr 61] (cl A v) Q := by
  refine CALL.of (by decide) (Nat.le_of_ble_eq_true rfl) ?_
  change AW d mX7_peek 0 [some (vr 61)] [] (cl A v) Q
  obtain ⟨hl9, hbt, hbr⟩ := id hB
  rw [← hbt _ hat.1] at hQ
  unfold btX at hQ
  refine aw_aload_n (pc' := 1) rfl dX7_peek_0 rfl ?_
  refine aw_geti (pc' := 4) (k9 := 4) dX7_peek_1 rfl fX7_29 rfl (by decide) rfl (XO_reader (A := (cl A v)) hX) ?_
  try simp (disch := omega) only [hv_cl, cl_set, sset_e, sset_1, sset_2, sset_ss, btX_4]
  refine aw_aload_n (pc' := 5) rfl dX7_peek_4 rfl ?_
  refine aw_geti (pc' := 8) (k9 := 2) dX7_peek_5 rfl fX7_25 rfl (by decide) rfl (XO_reader (A := (cl A v)) hX) ?_
  try simp (disch := omega) only [hv_cl, cl_set, sset_e, sset_1, sset_2, sset_ss, btX_4]
  refine aw_icmp_ge (pt := 32) (pf := 11) dX7_peek_8 (by decide) rfl (fun c_8 => ?_) (fun c_8 => ?_)
  · refine aw_iconst (pc' := 33) (by decide) dX7_peek_32 rfl ?_
    refine AW.ret (some (vi _)) dX7_peek_33 trivial ?_
    try simp (disch := omega) only [hv_cl, cl_set, sset_e, sset_1, sset_2, sset_ss, btX_4]
    first
    | (exfalso; omega)
    | (simp (disch := omega) only [if_pos, if_neg] at hQ; exact hQ)
  · refine aw_aload_n (pc' := 12) rfl dX7_peek_11 rfl ?_
    refine aw_geti (pc' := 15) (k9 := 4) dX7_peek_12 rfl fX7_29 rfl (by decide) rfl (XO_reader (A := (cl A v)) hX) ?_
    try simp (disch := omega) only [hv_cl, cl_set, sset_e, sset_1, sset_2, sset_ss, btX_4]
    refine aw_bipush (pc' := 17) (by decide +kernel) dX7_peek_15 rfl ?_
    refine aw_icmp_ge (pt := 32) (pf := 20) dX7_peek_17 (by decide) rfl (fun c_17 => ?_) (fun c_17 => ?_)
    · refine aw_iconst (pc' := 33) (by decide) dX7_peek_32 rfl ?_
      refine AW.ret (some (vi _)) dX7_peek_33 trivial ?_
      try simp (disch := omega) only [hv_cl, cl_set, sset_e, sset_1, sset_2, sset_ss, btX_4]
      first
      | (exfalso; omega)
      | (simp (disch := omega) only [if_pos, if_neg] at hQ; exact hQ)
    · refine aw_aload_n (pc' := 21) rfl dX7_peek_20 rfl ?_
      refine aw_getp (pc' := 24) (k9 := 1) (p := 63) dX7_peek_21 rfl fX7_21 rfl rfl rfl (XO_reader (A := (cl A v)) hX) (X_text (A := (cl A v)) hX) ?_
      refine aw_aload_n (pc' := 25) rfl dX7_peek_24 rfl ?_
      refine aw_geti (pc' := 28) (k9 := 4) dX7_peek_25 rfl fX7_29 rfl (by decide) rfl (XO_reader (A := (cl A v)) hX) ?_
      try simp (disch := omega) only [hv_cl, cl_set, sset_e, sset_1, sset_2, sset_ss, btX_4]
      refine aw_bald (pc' := 29) dX7_peek_28 rfl (XA_text (A := (cl A v)) hX) (by omega) (by omega) ?_
      try simp (disch := omega) only [hv_cl, cl_set, sset_e, sset_1, sset_2, sset_ss, btX_4]
      refine aw_goto (pc' := 33) dX7_peek_29 (by decide) ?_
      refine AW.ret (some (vi _)) dX7_peek_33 trivial ?_
      try simp (disch := omega) only [hv_cl, cl_set, sset_e, sset_1, sset_2, sset_ss, btX_4]
      first
      | (exfalso; omega)
      | (simp (disch := omega) only [if_pos, if_neg] at hQ; exact hQ)

set_option maxRecDepth 20000 in
theorem x_takes {d : Nat} {s : Sg} {c : Int} {A : AHp} {v : Sg} {Q : Option AV → AHp → Prop} (hd : 1 ≤ d) (hX : XLAY A) (hB : BSM v s) (hat : 0 ≤ v 61 4 ∧ v 61 4 ≤ 110) (h1 : btS s (v 61 4) = c → Q (some (vi 1)) (cl A (sset v 61 4 (v 61 4 + 1)))) (h0 : btS s (v 61 4) ≠ c → Q (some (vi 0)) (cl A v)) : CALL d mX7_takes [vr 61, vi c] (cl A v) Q := by
  refine CALL.of (by decide) (Nat.le_of_ble_eq_true rfl) ?_
  change AW d mX7_takes 0 [some (vr 61), some (vi c)] [] (cl A v) Q
  refine aw_aload_n (pc' := 1) rfl dX7_takes_0 rfl ?_
  refine aw_callV (ci := 6) (d' := d - 1) (as := []) (pc' := 4) (by decide) rfl kX7_peek iX7_peek sX7_peek lX7_64 (XO_reader (A := (cl A v)) hX) dX7_takes_1 rfl rfl (Nat.le_of_ble_eq_true rfl) (by omega) ?_
  try simp (disch := omega) only [hv_cl, cl_set, sset_e, sset_1, sset_2, sset_ss, btX_4]
  refine x_peek (s := s) (by omega) hX (by first | exact hB | exact hB.at) (by first | exact hat | omega | (simp (disch := omega) only [sset_e]; omega)) ?_
  try simp (disch := omega) only [hv_cl, cl_set, sset_e, sset_1, sset_2, sset_ss, btX_4]
  refine aw_iload_n (pc' := 5) rfl dX7_takes_4 rfl ?_
  refine aw_icmp_eq (pt := 10) (pf := 8) dX7_takes_5 (by decide) rfl (fun c_5 => ?_) (fun c_5 => ?_)
  · refine aw_aload_n (pc' := 11) rfl dX7_takes_10 rfl ?_
    refine aw_dup (pc' := 12) rfl dX7_takes_11 rfl ?_
    refine aw_geti (pc' := 15) (k9 := 4) dX7_takes_12 rfl fX7_29 rfl (by decide) rfl (XO_reader (A := (cl A v)) hX) ?_
    try simp (disch := omega) only [hv_cl, cl_set, sset_e, sset_1, sset_2, sset_ss, btX_4]
    refine aw_iconst (pc' := 16) (by decide) dX7_takes_15 rfl ?_
    refine aw_iadd (pc' := 17) (by first | exact w32_id (by omega) (by omega) | rfl) dX7_takes_16 rfl ?_
    refine aw_puti (pc' := 20) (k9 := 4) dX7_takes_17 rfl fX7_29 rfl rfl rfl (XO_reader (A := (cl A v)) hX) ?_
    refine aw_iconst (pc' := 21) (by decide) dX7_takes_20 rfl ?_
    refine AW.ret (some (vi _)) dX7_takes_21 (Or.inr rfl) ?_
    try simp (disch := omega) only [hv_cl, cl_set, sset_e, sset_1, sset_2, sset_ss, btX_4]
    exact h1 (by omega)
  · refine aw_iconst (pc' := 9) (by decide) dX7_takes_8 rfl ?_
    refine AW.ret (some (vi _)) dX7_takes_9 (Or.inl rfl) ?_
    try simp (disch := omega) only [hv_cl, cl_set, sset_e, sset_1, sset_2, sset_ss, btX_4]
    exact h0 (by omega)

set_option maxRecDepth 20000 in
theorem x_faultAt {d : Nat} {p : Int} {A : AHp} {v : Sg} {Q : Option AV → AHp → Prop} (hd : 0 ≤ d) (hX : XLAY A) (hQ : Q (some (vi 0)) (cl A (sset v 61 3 p))) : CALL d mX7_faultAt [vr 61, vi p] (cl A v) Q := by
  refine CALL.of (by decide) (Nat.le_of_ble_eq_true rfl) ?_
  change AW d mX7_faultAt 0 [some (vr 61), some (vi p)] [] (cl A v) Q
  refine aw_aload_n (pc' := 1) rfl dX7_faultAt_0 rfl ?_
  refine aw_iload_n (pc' := 2) rfl dX7_faultAt_1 rfl ?_
  refine aw_puti (pc' := 5) (k9 := 3) dX7_faultAt_2 rfl fX7_168 rfl rfl rfl (XO_reader (A := (cl A v)) hX) ?_
  refine aw_iconst (pc' := 6) (by decide) dX7_faultAt_5 rfl ?_
  refine AW.ret (some (vi _)) dX7_faultAt_6 (Or.inl rfl) ?_
  try simp (disch := omega) only [hv_cl, cl_set, sset_e, sset_1, sset_2, sset_ss, btX_4]
  exact hQ

set_option maxRecDepth 20000 in
theorem x_takesF {d : Nat} {s : Sg} {c : Int} {A : AHp} {v : Sg} {Q : Option AV → AHp → Prop} (hd : 2 ≤ d) (hX : XLAY A) (hB : BSM v s) (hat : 0 ≤ v 61 4 ∧ v 61 4 ≤ 110) (h1 : btS s (v 61 4) = c → Q (some (vi 1)) (cl A (sset v 61 4 (v 61 4 + 1)))) (h0 : btS s (v 61 4) ≠ c → Q (some (vi 0)) (cl A (sset v 61 3 (v 61 4)))) : CALL d mX7_takesOrFaults [vr 61, vi c] (cl A v) Q := by
  refine CALL.of (by decide) (Nat.le_of_ble_eq_true rfl) ?_
  change AW d mX7_takesOrFaults 0 [some (vr 61), some (vi c)] [] (cl A v) Q
  refine aw_aload_n (pc' := 1) rfl dX7_takesOrFaults_0 rfl ?_
  refine aw_iload_n (pc' := 2) rfl dX7_takesOrFaults_1 rfl ?_
  refine aw_callV (ci := 6) (d' := d - 1) (as := [_]) (pc' := 5) (by decide) rfl kX7_takes iX7_takes sX7_takes lX7_85 (XO_reader (A := (cl A v)) hX) dX7_takesOrFaults_2 rfl rfl (Nat.le_of_ble_eq_true rfl) (by omega) ?_
  try simp (disch := omega) only [hv_cl, cl_set, sset_e, sset_1, sset_2, sset_ss, btX_4]
  refine x_takes (s := s) (by omega) hX (by first | exact hB | exact hB.at) (by first | exact hat | omega | (simp (disch := omega) only [sset_e]; omega)) (fun t1_2 => ?_) (fun t0_2 => ?_)
  · try simp only [sset_e] at t1_2 ⊢
    refine aw_if_ne (pt := 19) (pf := 8) dX7_takesOrFaults_5 (by decide) rfl (fun _ => ?_) (fun c_5 => absurd (by decide) c_5)
    refine aw_iconst (pc' := 20) (by decide) dX7_takesOrFaults_19 rfl ?_
    refine aw_goto (pc' := 24) dX7_takesOrFaults_20 (by decide) ?_
    refine AW.ret (some (vi _)) dX7_takesOrFaults_24 (Or.inr rfl) ?_
    try simp (disch := omega) only [hv_cl, cl_set, sset_e, sset_1, sset_2, sset_ss, btX_4]
    exact h1 (by omega)
  · try simp only [sset_e] at t0_2
    refine aw_if_ne (pt := 19) (pf := 8) dX7_takesOrFaults_5 (by decide) rfl (fun c_5 => absurd c_5 (by decide)) (fun _ => ?_)
    refine aw_aload_n (pc' := 9) rfl dX7_takesOrFaults_8 rfl ?_
    refine aw_aload_n (pc' := 10) rfl dX7_takesOrFaults_9 rfl ?_
    refine aw_geti (pc' := 13) (k9 := 4) dX7_takesOrFaults_10 rfl fX7_29 rfl (by decide) rfl (XO_reader (A := (cl A v)) hX) ?_
    try simp (disch := omega) only [hv_cl, cl_set, sset_e, sset_1, sset_2, sset_ss, btX_4]
    refine aw_callV (ci := 6) (d' := d - 1) (as := [_]) (pc' := 16) (by decide) rfl kX7_faultAt iX7_faultAt sX7_faultAt lX7_42 (XO_reader (A := (cl A v)) hX) dX7_takesOrFaults_13 rfl rfl (Nat.le_of_ble_eq_true rfl) (by omega) ?_
    try simp (disch := omega) only [hv_cl, cl_set, sset_e, sset_1, sset_2, sset_ss, btX_4]
    refine x_faultAt (by omega) hX ?_
    refine aw_if_eq (pt := 23) (pf := 19) dX7_takesOrFaults_16 (by decide) rfl (fun _ => ?_) (fun c_16 => absurd (by decide) c_16)
    refine aw_iconst (pc' := 24) (by decide) dX7_takesOrFaults_23 rfl ?_
    refine AW.ret (some (vi _)) dX7_takesOrFaults_24 (Or.inl rfl) ?_
    try simp (disch := omega) only [hv_cl, cl_set, sset_e, sset_1, sset_2, sset_ss, btX_4]
    exact h0 (by omega)

set_option maxRecDepth 20000 in
theorem x_isJoin {d : Nat} {c : Int} {A : AHp} {v : Sg} {Q : Option AV → AHp → Prop} (hd : 0 ≤ d) (h1 : c = 59 ∨ c = 38 ∨ c = 47 → Q (some (vi 1)) (cl A v)) (h0 : ¬ (c = 59 ∨ c = 38 ∨ c = 47) → Q (some (vi 0)) (cl A v)) : CALL d mX7_isJoin [vi c] (cl A v) Q := by
  refine CALL.of (by decide) (Nat.le_of_ble_eq_true rfl) ?_
  change AW d mX7_isJoin 0 [some (vi c)] [] (cl A v) Q
  refine aw_iload_n (pc' := 1) rfl dX7_isJoin_0 rfl ?_
  refine aw_bipush (pc' := 3) (by decide +kernel) dX7_isJoin_1 rfl ?_
  refine aw_icmp_eq (pt := 18) (pf := 6) dX7_isJoin_3 (by decide) rfl (fun c_3 => ?_) (fun c_3 => ?_)
  · refine aw_iconst (pc' := 19) (by decide) dX7_isJoin_18 rfl ?_
    refine aw_goto (pc' := 23) dX7_isJoin_19 (by decide) ?_
    refine AW.ret (some (vi _)) dX7_isJoin_23 (Or.inr rfl) ?_
    exact h1 (by omega)
  · refine aw_iload_n (pc' := 7) rfl dX7_isJoin_6 rfl ?_
    refine aw_bipush (pc' := 9) (by decide +kernel) dX7_isJoin_7 rfl ?_
    refine aw_icmp_eq (pt := 18) (pf := 12) dX7_isJoin_9 (by decide) rfl (fun c_9 => ?_) (fun c_9 => ?_)
    · refine aw_iconst (pc' := 19) (by decide) dX7_isJoin_18 rfl ?_
      refine aw_goto (pc' := 23) dX7_isJoin_19 (by decide) ?_
      refine AW.ret (some (vi _)) dX7_isJoin_23 (Or.inr rfl) ?_
      exact h1 (by omega)
    · refine aw_iload_n (pc' := 13) rfl dX7_isJoin_12 rfl ?_
      refine aw_bipush (pc' := 15) (by decide +kernel) dX7_isJoin_13 rfl ?_
      refine aw_icmp_ne (pt := 22) (pf := 18) dX7_isJoin_15 (by decide) rfl (fun c_15 => ?_) (fun c_15 => ?_)
      · refine aw_iconst (pc' := 23) (by decide) dX7_isJoin_22 rfl ?_
        refine AW.ret (some (vi _)) dX7_isJoin_23 (Or.inl rfl) ?_
        exact h0 (by omega)
      · replace c_15 := Classical.not_not.mp c_15
        refine aw_iconst (pc' := 19) (by decide) dX7_isJoin_18 rfl ?_
        refine aw_goto (pc' := 23) dX7_isJoin_19 (by decide) ?_
        refine AW.ret (some (vi _)) dX7_isJoin_23 (Or.inr rfl) ?_
        exact h1 (by omega)

set_option maxRecDepth 20000 in
theorem x_isLetter {d : Nat} {c : Int} {A : AHp} {v : Sg} {Q : Option AV → AHp → Prop} (hd : 0 ≤ d) (h1 : 97 ≤ c ∧ c ≤ 122 → Q (some (vi 1)) (cl A v)) (h0 : ¬ (97 ≤ c ∧ c ≤ 122) → Q (some (vi 0)) (cl A v)) : CALL d mX7_isLetter [vi c] (cl A v) Q := by
  refine CALL.of (by decide) (Nat.le_of_ble_eq_true rfl) ?_
  change AW d mX7_isLetter 0 [some (vi c)] [] (cl A v) Q
  refine aw_iload_n (pc' := 1) rfl dX7_isLetter_0 rfl ?_
  refine aw_bipush (pc' := 3) (by decide +kernel) dX7_isLetter_1 rfl ?_
  refine aw_icmp_lt (pt := 16) (pf := 6) dX7_isLetter_3 (by decide) rfl (fun c_3 => ?_) (fun c_3 => ?_)
  · refine aw_iconst (pc' := 17) (by decide) dX7_isLetter_16 rfl ?_
    refine AW.ret (some (vi _)) dX7_isLetter_17 (Or.inl rfl) ?_
    exact h0 (by omega)
  · refine aw_iload_n (pc' := 7) rfl dX7_isLetter_6 rfl ?_
    refine aw_bipush (pc' := 9) (by decide +kernel) dX7_isLetter_7 rfl ?_
    refine aw_icmp_gt (pt := 16) (pf := 12) dX7_isLetter_9 (by decide) rfl (fun c_9 => ?_) (fun c_9 => ?_)
    · refine aw_iconst (pc' := 17) (by decide) dX7_isLetter_16 rfl ?_
      refine AW.ret (some (vi _)) dX7_isLetter_17 (Or.inl rfl) ?_
      exact h0 (by omega)
    · refine aw_iconst (pc' := 13) (by decide) dX7_isLetter_12 rfl ?_
      refine aw_goto (pc' := 17) dX7_isLetter_13 (by decide) ?_
      refine AW.ret (some (vi _)) dX7_isLetter_17 (Or.inr rfl) ?_
      exact h1 (by omega)

set_option maxRecDepth 20000 in
theorem x_isDigit {d : Nat} {c : Int} {A : AHp} {v : Sg} {Q : Option AV → AHp → Prop} (hd : 0 ≤ d) (h1 : 48 ≤ c ∧ c ≤ 57 → Q (some (vi 1)) (cl A v)) (h0 : ¬ (48 ≤ c ∧ c ≤ 57) → Q (some (vi 0)) (cl A v)) : CALL d mX7_isDigit [vi c] (cl A v) Q := by
  refine CALL.of (by decide) (Nat.le_of_ble_eq_true rfl) ?_
  change AW d mX7_isDigit 0 [some (vi c)] [] (cl A v) Q
  refine aw_iload_n (pc' := 1) rfl dX7_isDigit_0 rfl ?_
  refine aw_bipush (pc' := 3) (by decide +kernel) dX7_isDigit_1 rfl ?_
  refine aw_icmp_lt (pt := 16) (pf := 6) dX7_isDigit_3 (by decide) rfl (fun c_3 => ?_) (fun c_3 => ?_)
  · refine aw_iconst (pc' := 17) (by decide) dX7_isDigit_16 rfl ?_
    refine AW.ret (some (vi _)) dX7_isDigit_17 (Or.inl rfl) ?_
    exact h0 (by omega)
  · refine aw_iload_n (pc' := 7) rfl dX7_isDigit_6 rfl ?_
    refine aw_bipush (pc' := 9) (by decide +kernel) dX7_isDigit_7 rfl ?_
    refine aw_icmp_gt (pt := 16) (pf := 12) dX7_isDigit_9 (by decide) rfl (fun c_9 => ?_) (fun c_9 => ?_)
    · refine aw_iconst (pc' := 17) (by decide) dX7_isDigit_16 rfl ?_
      refine AW.ret (some (vi _)) dX7_isDigit_17 (Or.inl rfl) ?_
      exact h0 (by omega)
    · refine aw_iconst (pc' := 13) (by decide) dX7_isDigit_12 rfl ?_
      refine aw_goto (pc' := 17) dX7_isDigit_13 (by decide) ?_
      refine AW.ret (some (vi _)) dX7_isDigit_17 (Or.inr rfl) ?_
      exact h1 (by omega)

set_option maxRecDepth 20000 in
theorem x_readName {d : Nat} {s : Sg} {A : AHp} {v : Sg} {Q : Option AV → AHp → Prop} (hd : 1 ≤ d) (hX : XLAY A) (hB : BSM v s) (hat : 0 ≤ v 61 4 ∧ v 61 4 ≤ 110) (h1 : 97 ≤ btS s (v 61 4) → btS s (v 61 4) ≤ 101 → Q (some (vi (-1 - (btS s (v 61 4) - 97)))) (cl A (sset v 61 4 (v 61 4 + 1)))) (h0 : ¬ (97 ≤ btS s (v 61 4) ∧ btS s (v 61 4) ≤ 101) → Q (some (vi (-7))) (cl A (sset v 61 3 (v 61 4)))) : CALL d mX7_readName [vr 61] (cl A v) Q := by
  refine CALL.of (by decide) (Nat.le_of_ble_eq_true rfl) ?_
  change AW d mX7_readName 0 [some (vr 61), none] [] (cl A v) Q
  have hbr := hB.2.2 _ hat.1
  refine aw_aload_n (pc' := 1) rfl dX7_readName_0 rfl ?_
  refine aw_callV (ci := 6) (d' := d - 1) (as := []) (pc' := 4) (by decide) rfl kX7_peek iX7_peek sX7_peek lX7_64 (XO_reader (A := (cl A v)) hX) dX7_readName_1 rfl rfl (Nat.le_of_ble_eq_true rfl) (by omega) ?_
  try simp (disch := omega) only [hv_cl, cl_set, sset_e, sset_1, sset_2, sset_ss, btX_4]
  refine x_peek (s := s) (by omega) hX (by first | exact hB | exact hB.at) (by first | exact hat | omega | (simp (disch := omega) only [sset_e]; omega)) ?_
  try simp (disch := omega) only [hv_cl, cl_set, sset_e, sset_1, sset_2, sset_ss, btX_4]
  refine aw_bipush (pc' := 6) (by decide +kernel) dX7_readName_4 rfl ?_
  refine aw_isub (pc' := 7) (by first | exact w32_id (by omega) (by omega) | rfl) dX7_readName_6 rfl ?_
  refine aw_istore_n (pc' := 8) (lv' := [_, _]) dX7_readName_7 rfl (by decide) rfl ?_
  refine aw_iload_n (pc' := 9) rfl dX7_readName_8 rfl ?_
  refine aw_callSN (d' := d - 1) (as := [_]) (pc' := 12) kX12_isName tX12_isName nX7_165 dX7_readName_9 rfl rfl (Nat.le_of_ble_eq_true rfl) (by omega) ?_
  refine x_isName (by omega)  (fun e1_9 => ?_) (fun e0_9 => ?_)
  · refine aw_if_ne (pt := 27) (pf := 15) dX7_readName_12 (by decide) rfl (fun _ => ?_) (fun c_12 => absurd (by decide) c_12)
    refine aw_aload_n (pc' := 28) rfl dX7_readName_27 rfl ?_
    refine aw_dup (pc' := 29) rfl dX7_readName_28 rfl ?_
    refine aw_geti (pc' := 32) (k9 := 4) dX7_readName_29 rfl fX7_29 rfl (by decide) rfl (XO_reader (A := (cl A v)) hX) ?_
    try simp (disch := omega) only [hv_cl, cl_set, sset_e, sset_1, sset_2, sset_ss, btX_4]
    refine aw_iconst (pc' := 33) (by decide) dX7_readName_32 rfl ?_
    refine aw_iadd (pc' := 34) (by first | exact w32_id (by omega) (by omega) | rfl) dX7_readName_33 rfl ?_
    refine aw_puti (pc' := 37) (k9 := 4) dX7_readName_34 rfl fX7_29 rfl rfl rfl (XO_reader (A := (cl A v)) hX) ?_
    refine aw_iconst (pc' := 38) (by decide) dX7_readName_37 rfl ?_
    refine aw_iload_n (pc' := 39) rfl dX7_readName_38 rfl ?_
    refine aw_isub (pc' := 40) (by first | exact w32_id (by omega) (by omega) | rfl) dX7_readName_39 rfl ?_
    refine AW.ret (some (vi _)) dX7_readName_40 trivial ?_
    try simp (disch := omega) only [hv_cl, cl_set, sset_e, sset_1, sset_2, sset_ss, btX_4]
    exact h1 (by omega) (by omega)
  · refine aw_if_ne (pt := 27) (pf := 15) dX7_readName_12 (by decide) rfl (fun c_12 => absurd c_12 (by decide)) (fun _ => ?_)
    refine aw_aload_n (pc' := 16) rfl dX7_readName_15 rfl ?_
    refine aw_aload_n (pc' := 17) rfl dX7_readName_16 rfl ?_
    refine aw_geti (pc' := 20) (k9 := 4) dX7_readName_17 rfl fX7_29 rfl (by decide) rfl (XO_reader (A := (cl A v)) hX) ?_
    try simp (disch := omega) only [hv_cl, cl_set, sset_e, sset_1, sset_2, sset_ss, btX_4]
    refine aw_callV (ci := 6) (d' := d - 1) (as := [_]) (pc' := 23) (by decide) rfl kX7_faultAt iX7_faultAt sX7_faultAt lX7_42 (XO_reader (A := (cl A v)) hX) dX7_readName_20 rfl rfl (Nat.le_of_ble_eq_true rfl) (by omega) ?_
    try simp (disch := omega) only [hv_cl, cl_set, sset_e, sset_1, sset_2, sset_ss, btX_4]
    refine x_faultAt (by omega) hX ?_
    refine aw_pop (pc' := 24) rfl dX7_readName_23 rfl ?_
    refine aw_bipush (pc' := 26) (by decide +kernel) dX7_readName_24 rfl ?_
    refine AW.ret (some (vi _)) dX7_readName_26 trivial ?_
    try simp (disch := omega) only [hv_cl, cl_set, sset_e, sset_1, sset_2, sset_ss, btX_4]
    exact h0 (by omega)

set_option maxRecDepth 20000 in
theorem lx_dig {d : Nat} {A : AHp} {v s : Sg} {a : Int} {Q : Option AV → AHp → Prop} : ∀ (m : Nat) (n : Nat) (x : Int), 3 - n = m → 2 ≤ d → XLAY A → BSM v s → (0 ≤ a ∧ a ≤ 102) → n ≤ 3 → (∀ j : Nat, j < n → 48 ≤ btS s (a + j) ∧ btS s (a + j) ≤ 57) → x = (if n = 0 then -7 else digV s a n) → (∀ (n : Nat) (L2 : Option AV), n ≤ 3 → (∀ j : Nat, j < n → 48 ≤ btS s (a + j) ∧ btS s (a + j) ≤ 57) → (n < 3 → ¬ (48 ≤ btS s (a + n) ∧ btS s (a + n) ≤ 57)) → AW d mX7_readTerm 81 [some (vr 61), some (vi (if n = 0 then -7 else digV s a n)), L2] [] (cl A (sset v 61 4 (a + n))) Q) → AW d mX7_readTerm 33 [some (vr 61), some (vi x), some (vi (n : Int))] [] (cl A (sset v 61 4 (a + n))) Q := by
  intro m
  induction m using Nat.strongRecOn with
  | _ m ih =>
    intro n x hm hd hX hB ha hn hds ex hE
    have hb := hB.2.2 (a + n) (by omega)
    have hvb := digV_b (s := s) (a := a) n hn hds
    have hxm : max x 0 = digV s a n := by
      rw [ex]
      split
      · next q => rw [q]; rfl
      · omega
    refine aw_iload_n (pc' := 34) rfl dX7_readTerm_33 rfl ?_
    refine aw_iconst (pc' := 35) (by decide) dX7_readTerm_34 rfl ?_
    refine aw_icmp_ge (pt := 81) (pf := 38) dX7_readTerm_35 (by decide) rfl (fun c_35 => ?_) (fun c_35 => ?_)
    · rw [ex]
      exact hE n _ hn hds (fun q => by omega)
    · refine aw_aload_n (pc' := 39) rfl dX7_readTerm_38 rfl ?_
      refine aw_callV (ci := 6) (d' := d - 1) (as := []) (pc' := 42) (by decide) rfl kX7_peek iX7_peek sX7_peek lX7_64 (XO_reader (A := (cl A (sset v 61 4 (a + n)))) hX) dX7_readTerm_39 rfl rfl (Nat.le_of_ble_eq_true rfl) (by omega) ?_
      try simp (disch := omega) only [hv_cl, cl_set, sset_e, sset_1, sset_2, sset_ss, btX_4]
      refine x_peek (s := s) (by omega) hX hB.at (by simp (disch := omega) only [sset_e]; omega) ?_
      simp only [sset_e]
      refine aw_callS (d' := d - 1) (as := [_]) (pc' := 45) kX7_isDigit tX7_isDigit lX7_162 dX7_readTerm_42 rfl rfl (Nat.le_of_ble_eq_true rfl) (by omega) ?_
      refine x_isDigit (by omega) (fun d1 => ?_) (fun d0 => ?_)
      · refine aw_if_eq (pt := 81) (pf := 48) dX7_readTerm_45 (by decide) rfl (fun c_45 => absurd c_45 (by decide)) (fun _ => ?_)
        refine aw_iload_n (pc' := 49) rfl dX7_readTerm_48 rfl ?_
        refine aw_iconst (pc' := 50) (by decide) dX7_readTerm_49 rfl ?_
        refine aw_callS (d' := d - 1) (as := [_, _]) (pc' := 53) kJ9_max_7cf53 tJ9_max_7cf53 lX7_94 dX7_readTerm_50 rfl rfl (Nat.le_of_ble_eq_true rfl) (by omega) ?_
        refine c_max (by omega) ?_
        rw [hxm]
        refine aw_bipush (pc' := 55) (by decide +kernel) dX7_readTerm_53 rfl ?_
        refine aw_imul (pc' := 56) (by first | exact w32_id (by omega) (by omega) | rfl) dX7_readTerm_55 rfl ?_
        refine aw_aload_n (pc' := 57) rfl dX7_readTerm_56 rfl ?_
        refine aw_callV (ci := 6) (d' := d - 1) (as := []) (pc' := 60) (by decide) rfl kX7_peek iX7_peek sX7_peek lX7_64 (XO_reader (A := (cl A (sset v 61 4 (a + n)))) hX) dX7_readTerm_57 rfl rfl (Nat.le_of_ble_eq_true rfl) (by omega) ?_
        try simp (disch := omega) only [hv_cl, cl_set, sset_e, sset_1, sset_2, sset_ss, btX_4]
        refine x_peek (s := s) (by omega) hX hB.at (by simp (disch := omega) only [sset_e]; omega) ?_
        simp only [sset_e]
        refine aw_iadd (pc' := 61) (by first | exact w32_id (by omega) (by omega) | rfl) dX7_readTerm_60 rfl ?_
        refine aw_bipush (pc' := 63) (by decide +kernel) dX7_readTerm_61 rfl ?_
        refine aw_isub (pc' := 64) (by first | exact w32_id (by omega) (by omega) | rfl) dX7_readTerm_63 rfl ?_
        refine aw_istore_n (pc' := 65) (lv' := [_, _, _]) dX7_readTerm_64 rfl (by decide) rfl ?_
        refine aw_aload_n (pc' := 66) rfl dX7_readTerm_65 rfl ?_
        refine aw_dup (pc' := 67) rfl dX7_readTerm_66 rfl ?_
        refine aw_geti (pc' := 70) (k9 := 4) dX7_readTerm_67 rfl fX7_29 rfl (by decide) rfl (XO_reader (A := (cl A (sset v 61 4 (a + n)))) hX) ?_
        try simp (disch := omega) only [hv_cl, cl_set, sset_e, sset_1, sset_2, sset_ss, btX_4]
        refine aw_iconst (pc' := 71) (by decide) dX7_readTerm_70 rfl ?_
        refine aw_iadd (pc' := 72) (by first | exact w32_id (by omega) (by omega) | rfl) dX7_readTerm_71 rfl ?_
        refine aw_puti (pc' := 75) (k9 := 4) dX7_readTerm_72 rfl fX7_29 rfl rfl rfl (XO_reader (A := (cl A (sset v 61 4 (a + n)))) hX) ?_
        refine aw_iinc (pc' := 78) (lv' := [_, _, _]) dX7_readTerm_75 rfl rfl (by decide) (by first | exact w32_id (by omega) (by omega) | rfl) rfl ?_
        refine aw_goto (pc' := 33) dX7_readTerm_78 (by decide) ?_
        try simp (disch := omega) only [hv_cl, cl_set, sset_e, sset_1, sset_2, sset_ss, btX_4]
        rw [show a + (n : Int) + 1 = a + ((n + 1 : Nat) : Int) by omega, show ((n : Int) + 1) = ((n + 1 : Nat) : Int) by omega]
        exact ih _ (by omega) (n + 1) _ rfl hd hX hB ha (by omega) (fun j hj => by by_cases e : j = n; subst e; omega; exact hds j (by omega)) (by rw [if_neg (by omega)]; show _ = 10 * digV s a n + btS s (a + n) - 48; omega) hE
      · refine aw_if_eq (pt := 81) (pf := 48) dX7_readTerm_45 (by decide) rfl (fun _ => ?_) (fun c_45 => absurd (by decide) c_45)
        rw [ex]
        exact hE n _ hn hds (fun q => by omega)

set_option maxRecDepth 20000 in
theorem lx_trmE {d : Nat} {A : AHp} {v s : Sg} {a : Int} {n : Nat} {L2 : Option AV} {Q : Option AV → AHp → Prop} (hd : 2 ≤ d) (hX : XLAY A) (hv8 : 0 ≤ digV s a n) (h0 : n = 0 → Q (some (vi (-7))) (cl A (sset (sset v 61 4 (a + n)) 61 3 (a + n)))) (h1 : n ≠ 0 → Q (some (vi (digV s a n))) (cl A (sset v 61 4 (a + n)))) : AW d mX7_readTerm 81 [some (vr 61), some (vi (if n = 0 then -7 else digV s a n)), L2] [] (cl A (sset v 61 4 (a + n))) Q := by
  refine aw_iload_n (pc' := 82) rfl dX7_readTerm_81 rfl ?_
  refine aw_bipush (pc' := 84) (by decide +kernel) dX7_readTerm_82 rfl ?_
  refine aw_icmp_ne (pt := 96) (pf := 87) dX7_readTerm_84 (by decide) rfl (fun c_84 => ?_) (fun c_84 => ?_)
  · have hn0 : n ≠ 0 := fun q => c_84 (by rw [if_pos q])
    rw [if_neg hn0]
    refine aw_iload_n (pc' := 97) rfl dX7_readTerm_96 rfl ?_
    refine AW.ret (some (vi _)) dX7_readTerm_97 trivial ?_
    try simp (disch := omega) only [hv_cl, cl_set, sset_e, sset_1, sset_2, sset_ss, btX_4]
    first | exact h0 hn0 | exact h1 hn0
  · replace c_84 := Classical.not_not.mp c_84
    have hn0 : n = 0 := by
      by_cases q : n = 0
      · exact q
      · rw [if_neg q] at c_84
        omega
    rw [if_pos hn0]
    refine aw_aload_n (pc' := 88) rfl dX7_readTerm_87 rfl ?_
    refine aw_aload_n (pc' := 89) rfl dX7_readTerm_88 rfl ?_
    refine aw_geti (pc' := 92) (k9 := 4) dX7_readTerm_89 rfl fX7_29 rfl (by decide) rfl (XO_reader (A := (cl A (sset v 61 4 (a + n)))) hX) ?_
    try simp (disch := omega) only [hv_cl, cl_set, sset_e, sset_1, sset_2, sset_ss, btX_4]
    refine aw_callV (ci := 6) (d' := d - 1) (as := [_]) (pc' := 95) (by decide) rfl kX7_faultAt iX7_faultAt sX7_faultAt lX7_42 (XO_reader (A := (cl A (sset v 61 4 (a + n)))) hX) dX7_readTerm_92 rfl rfl (Nat.le_of_ble_eq_true rfl) (by omega) ?_
    try simp (disch := omega) only [hv_cl, cl_set, sset_e, sset_1, sset_2, sset_ss, btX_4]
    refine x_faultAt (by omega) hX ?_
    refine aw_pop (pc' := 96) rfl dX7_readTerm_95 rfl ?_
    refine aw_iload_n (pc' := 97) rfl dX7_readTerm_96 rfl ?_
    refine AW.ret (some (vi _)) dX7_readTerm_97 trivial ?_
    try simp (disch := omega) only [hv_cl, cl_set, sset_e, sset_1, sset_2, sset_ss, btX_4]
    first | exact h0 hn0 | exact h1 hn0

set_option maxRecDepth 20000 in
theorem x_readTerm {d : Nat} {s : Sg} {A : AHp} {v : Sg} {Q : Option AV → AHp → Prop} (hd : 3 ≤ d) (hX : XLAY A) (hB : BSM v s) (hat : 0 ≤ v 61 4 ∧ v 61 4 ≤ 102) (h1 : (numR s (v 61 4)).1 = true → Q (some (vi (numR s (v 61 4)).2.2)) (cl A (sset v 61 4 (numR s (v 61 4)).2.1))) (h0 : (numR s (v 61 4)).1 = false → ∀ x, Q (some (vi (-7))) (cl A (sset (sset v 61 4 x) 61 3 (numR s (v 61 4)).2.1))) : CALL d mX7_readTerm [vr 61] (cl A v) Q := by
  refine CALL.of (by decide) (Nat.le_of_ble_eq_true rfl) ?_
  change AW d mX7_readTerm 0 [some (vr 61), none, none] [] (cl A v) Q
  have hbr0 := hB.2.2 _ hat.1
  have hbr1 := hB.2.2 (v 61 4 + 1) (by omega)
  unfold numR at h1 h0
  refine aw_aload_n (pc' := 1) rfl dX7_readTerm_0 rfl ?_
  refine aw_bipush (pc' := 3) (by decide +kernel) dX7_readTerm_1 rfl ?_
  refine aw_callV (ci := 6) (d' := d - 1) (as := [_]) (pc' := 6) (by decide) rfl kX7_takes iX7_takes sX7_takes lX7_85 (XO_reader (A := (cl A v)) hX) dX7_readTerm_3 rfl rfl (Nat.le_of_ble_eq_true rfl) (by omega) ?_
  try simp (disch := omega) only [hv_cl, cl_set, sset_e, sset_1, sset_2, sset_ss, btX_4]
  refine x_takes (s := s) (by omega) hX (by first | exact hB | exact hB.at) (by first | exact hat | omega | (simp (disch := omega) only [sset_e]; omega)) (fun t1_3 => ?_) (fun t0_3 => ?_)
  · try simp only [sset_e] at t1_3 ⊢
    refine aw_if_eq (pt := 28) (pf := 9) dX7_readTerm_6 (by decide) rfl (fun c_6 => absurd c_6 (by decide)) (fun _ => ?_)
    refine aw_aload_n (pc' := 10) rfl dX7_readTerm_9 rfl ?_
    refine aw_bipush (pc' := 12) (by decide +kernel) dX7_readTerm_10 rfl ?_
    refine aw_callV (ci := 6) (d' := d - 1) (as := [_]) (pc' := 15) (by decide) rfl kX7_takes iX7_takes sX7_takes lX7_85 (XO_reader (A := (cl A v)) hX) dX7_readTerm_12 rfl rfl (Nat.le_of_ble_eq_true rfl) (by omega) ?_
    try simp (disch := omega) only [hv_cl, cl_set, sset_e, sset_1, sset_2, sset_ss, btX_4]
    refine x_takes (s := s) (by omega) hX (by first | exact hB | exact hB.at) (by first | exact hat | omega | (simp (disch := omega) only [sset_e]; omega)) (fun t1_12 => ?_) (fun t0_12 => ?_)
    · try simp only [sset_e] at t1_12 ⊢
      refine aw_if_eq (pt := 23) (pf := 18) dX7_readTerm_15 (by decide) rfl (fun c_15 => absurd c_15 (by decide)) (fun _ => ?_)
      refine aw_bipush (pc' := 20) (by decide +kernel) dX7_readTerm_18 rfl ?_
      refine aw_goto (pc' := 27) dX7_readTerm_20 (by decide) ?_
      refine AW.ret (some (vi _)) dX7_readTerm_27 trivial ?_
      try simp (disch := omega) only [hv_cl, cl_set, sset_e, sset_1, sset_2, sset_ss, btX_4]
      first
      | (exfalso; omega)
      | (simp (disch := omega) only [if_pos, if_neg] at h1; exact h1 rfl)
      | (simp (disch := omega) only [if_pos, if_neg, true_imp_iff] at h1; exact h1)
      | (simp (disch := omega) only [if_pos, if_neg] at h0; exact h0 rfl _)
      | (simp (disch := omega) only [if_pos, if_neg, true_imp_iff] at h0; exact h0 _)
    · try simp only [sset_e] at t0_12
      refine aw_if_eq (pt := 23) (pf := 18) dX7_readTerm_15 (by decide) rfl (fun _ => ?_) (fun c_15 => absurd (by decide) c_15)
      refine aw_aload_n (pc' := 24) rfl dX7_readTerm_23 rfl ?_
      refine aw_callV (ci := 6) (d' := d - 1) (as := []) (pc' := 27) (by decide) rfl kX7_readName iX7_readName sX7_readName lX7_132 (XO_reader (A := (cl A v)) hX) dX7_readTerm_24 rfl rfl (Nat.le_of_ble_eq_true rfl) (by omega) ?_
      try simp (disch := omega) only [hv_cl, cl_set, sset_e, sset_1, sset_2, sset_ss, btX_4]
      refine x_readName (s := s) (by omega) hX hB.at (by simp (disch := omega) only [sset_e]; omega) (fun n1 n2 => ?_) (fun n0 => ?_)
      · try simp only [sset_e] at n1 n2 ⊢
        refine AW.ret (some (vi _)) dX7_readTerm_27 trivial ?_
        try simp (disch := omega) only [hv_cl, cl_set, sset_e, sset_1, sset_2, sset_ss, btX_4]
        first
        | (exfalso; omega)
        | (simp (disch := omega) only [if_pos, if_neg] at h1; exact h1 rfl)
        | (simp (disch := omega) only [if_pos, if_neg, true_imp_iff] at h1; exact h1)
        | (simp (disch := omega) only [if_pos, if_neg] at h0; exact h0 rfl _)
        | (simp (disch := omega) only [if_pos, if_neg, true_imp_iff] at h0; exact h0 _)
      · try simp only [sset_e] at n0 ⊢
        refine AW.ret (some (vi _)) dX7_readTerm_27 trivial ?_
        try simp (disch := omega) only [hv_cl, cl_set, sset_e, sset_1, sset_2, sset_ss, btX_4]
        first
        | (exfalso; omega)
        | (simp (disch := omega) only [if_pos, if_neg] at h1; exact h1 rfl)
        | (simp (disch := omega) only [if_pos, if_neg, true_imp_iff] at h1; exact h1)
        | (simp (disch := omega) only [if_pos, if_neg] at h0; exact h0 rfl _)
        | (simp (disch := omega) only [if_pos, if_neg, true_imp_iff] at h0; exact h0 _)
  · try simp only [sset_e] at t0_3
    refine aw_if_eq (pt := 28) (pf := 9) dX7_readTerm_6 (by decide) rfl (fun _ => ?_) (fun c_6 => absurd (by decide) c_6)
    refine aw_bipush (pc' := 30) (by decide +kernel) dX7_readTerm_28 rfl ?_
    refine aw_istore_n (pc' := 31) (lv' := [_, _, _]) dX7_readTerm_30 rfl (by decide) rfl ?_
    refine aw_iconst (pc' := 32) (by decide) dX7_readTerm_31 rfl ?_
    refine aw_istore_n (pc' := 33) (lv' := [_, _, _]) dX7_readTerm_32 rfl (by decide) rfl ?_
    try simp (disch := omega) only [hv_cl, cl_set, sset_e, sset_1, sset_2, sset_ss, btX_4]
    have e0 : v = sset v 61 4 (v 61 4 + ((0 : Nat) : Int)) := by
      funext a b
      unfold sset
      split
      · next z => rw [z.1, z.2]; omega
      · rfl
    have hgo : AW d mX7_readTerm 33 [some (vr 61), some (vi (-7)), some (vi ((0 : Nat) : Int))] [] (cl A (sset v 61 4 (v 61 4 + ((0 : Nat) : Int)))) Q := by
      refine lx_dig 3 0 (-7) rfl (by omega) hX hB (by omega) (by omega) (fun j hj => by omega) rfl (fun n L2 hn hds hnd => ?_)
      have hdn : digN s (v 61 4) = n := by
        unfold digN
        have d0 := hds 0
        have d1 := hds 1
        have d2 := hds 2
        have e0 : v 61 4 + ((0 : Nat) : Int) = v 61 4 := by omega
        have e1 : v 61 4 + ((1 : Nat) : Int) = v 61 4 + 1 := by omega
        have e2 : v 61 4 + ((2 : Nat) : Int) = v 61 4 + 2 := by omega
        rw [e0] at d0
        rw [e1] at d1
        rw [e2] at d2
        rcases (show n = 0 ∨ n = 1 ∨ n = 2 ∨ n = 3 by omega) with q | q | q | q
        · subst q
          rw [if_pos (by have := hnd (by omega); rw [e0] at this; exact this)]
          rfl
        · subst q
          rw [if_neg (Classical.not_not.mpr (d0 (by omega))), if_pos (by have := hnd (by omega); rw [e1] at this; exact this)]
          rfl
        · subst q
          rw [if_neg (Classical.not_not.mpr (d0 (by omega))), if_neg (Classical.not_not.mpr (d1 (by omega))), if_pos (by have := hnd (by omega); rw [e2] at this; exact this)]
          rfl
        · subst q
          rw [if_neg (Classical.not_not.mpr (d0 (by omega))), if_neg (Classical.not_not.mpr (d1 (by omega))), if_neg (Classical.not_not.mpr (d2 (by omega)))]
          rfl
      rw [if_neg (by omega), hdn] at h1 h0
      refine lx_trmE (by omega) hX (digV_b (s := s) (a := v 61 4) n hn hds).1 (fun q => ?_) (fun q => ?_)
      · rw [if_pos (by omega)] at h0
        have := h0 rfl (v 61 4 + n)
        rw [show v 61 4 + (n : Int) = v 61 4 by omega] at this ⊢
        exact this
      · rw [if_neg (by omega), show ((n : Int)).toNat = n by omega] at h1
        exact h1 rfl
    rw [← e0] at hgo
    exact hgo
