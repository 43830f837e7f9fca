/-! ===== the class's reader: readWord; adding a line ===== -/
theorem letN_lt {s : Sg} (h17 : s 307 17 ≤ 100) {m : Nat} {a : Int} (ha : a ≤ s 307 17) (h : letN s (m + 1) a ≠ a) : 97 ≤ btS s a ∧ btS s a ≤ 122 := by
  unfold letN at h
  split at h
  · assumption
  · exact absurd rfl h
set_option maxRecDepth 20000 in
theorem lx_let {d : Nat} {A : AHp} {v s : Sg} {f : Int} {Q : Option AV → AHp → Prop} : ∀ (m : Nat) (a : Int), 2 ≤ d → XLAY A → TSM v s → 0 ≤ a → a ≤ v 61 2 → v 61 2 - a < m → AW d mX7_readWord 40 [some (vr 61), some (vi f), some (vi (letN s m a)), some (vi (letN s m a))] [] (cl A v) Q → AW d mX7_readWord 10 [some (vr 61), some (vi f), some (vi a), some (vi a)] [] (cl A v) Q := by
  intro m
  induction m using Nat.strongRecOn with
  | _ m ih =>
    intro a hd hX hT ha0 ha hm hE
    have hl9 := hT.1.1
    have hb := hT.1.2.2 a ha0
    have h2 := hT.1.2.1 a ha0
    have hlt : 97 ≤ btS s a → a < v 61 2 := fun q => by
      rw [← h2] at q
      unfold btX at q
      split at q
      · assumption
      · omega
    have hge : ¬ a < v 61 2 → btS s a = -1 := fun q => by
      rw [← h2]
      unfold btX
      rw [if_neg q]
    have hlx : a < v 61 2 → v 63 a = btS s a := fun q => by
      rw [← h2]
      unfold btX
      rw [if_pos q]
    cases m with
    | zero => omega
    | succ m =>
    unfold letN at hE
    refine aw_iload_n (pc' := 11) rfl dX7_readWord_10 rfl ?_
    refine aw_aload_n (pc' := 12) rfl dX7_readWord_11 rfl ?_
    refine aw_geti (pc' := 15) (k9 := 2) dX7_readWord_12 rfl fX7_25 rfl (by decide) rfl (XO_reader (A := (cl A v)) hX) ?_
    try simp (disch := omega) only [hv_cl, cl_set, sset_e, sset_1, sset_2, sset_ss, btX_4]
    refine aw_icmp_ge (pt := 40) (pf := 18) dX7_readWord_15 (by decide) rfl (fun c_15 => ?_) (fun c_15 => ?_)
    · first
      | (rw [if_neg dn] at hE; exact hE)
      | (have hg9 := hge (by omega); rw [if_neg (by omega)] at hE; exact hE)
    · refine aw_aload_n (pc' := 19) rfl dX7_readWord_18 rfl ?_
      refine aw_getp (pc' := 22) (k9 := 1) (p := 63) dX7_readWord_19 rfl fX7_21 rfl rfl rfl (XO_reader (A := (cl A v)) hX) (X_text (A := (cl A v)) hX) ?_
      refine aw_iload_n (pc' := 23) rfl dX7_readWord_22 rfl ?_
      refine aw_bald (pc' := 24) dX7_readWord_23 rfl (XA_text (A := (cl A v)) hX) (by omega) (by omega) ?_
      try simp (disch := omega) only [hv_cl, cl_set, sset_e, sset_1, sset_2, sset_ss, btX_4]
      refine aw_callS (d' := d - 1) (as := [_]) (pc' := 27) kX7_isLetter tX7_isLetter lX7_141 dX7_readWord_24 rfl rfl (Nat.le_of_ble_eq_true rfl) (by omega) ?_
      try simp (disch := omega) only [hv_cl, cl_set, sset_e, sset_1, sset_2, sset_ss, btX_4]
      rw [hlx (by omega)]
      refine x_isLetter (by omega) (fun dl => ?_) (fun dn => ?_)
      · refine aw_if_eq (pt := 40) (pf := 30) dX7_readWord_27 (by decide) rfl (fun c_27 => absurd c_27 (by decide)) (fun _ => ?_)
        refine aw_iload_n (pc' := 31) rfl dX7_readWord_30 rfl ?_
        refine aw_iconst (pc' := 32) (by decide) dX7_readWord_31 rfl ?_
        refine aw_iadd (pc' := 33) (by first | exact w32_id (by omega) (by omega) | rfl) dX7_readWord_32 rfl ?_
        refine aw_istore_n (pc' := 34) (lv' := [_, _, _, _]) dX7_readWord_33 rfl (by decide) rfl ?_
        refine aw_iinc (pc' := 37) (lv' := [_, _, _, _]) dX7_readWord_34 rfl rfl (by decide) (by first | exact w32_id (by omega) (by omega) | rfl) rfl ?_
        refine aw_goto (pc' := 10) dX7_readWord_37 (by decide) ?_
        rw [if_pos dl] at hE
        exact ih m (by omega) (a + 1) hd hX hT (by omega) (by omega) (by omega) hE
      · refine aw_if_eq (pt := 40) (pf := 30) dX7_readWord_27 (by decide) rfl (fun _ => ?_) (fun c_27 => absurd (by decide) c_27)
        first
        | (rw [if_neg dn] at hE; exact hE)
        | (have hg9 := hge (by omega); rw [if_neg (by omega)] at hE; exact hE)

set_option maxRecDepth 20000 in
theorem lx_rwT {d : Nat} {A : AHp} {v s : Sg} {f e : Int} {L3 : Option AV} {Q : Option AV → AHp → Prop} (hd : 6 ≤ d) (hX : XLAY A) (hT : TSM v s) (he : e = letN s 101 (v 61 4)) (hft : 0 ≤ v 61 4 ∧ e ≤ v 61 2 ∧ v 61 4 ≤ e) (hf : f = 0 ∨ f = 1)
  (h0 : (wofS s (v 61 4) (letN s 101 (v 61 4)) < 0 ∨ (11 ≤ wofS s (v 61 4) (letN s 101 (v 61 4)) ∧ f = 0)) → Q (some (vr 0)) (cl A (sset v 61 3 (v 61 4)))) (h1 : ¬ (wofS s (v 61 4) (letN s 101 (v 61 4)) < 0 ∨ (11 ≤ wofS s (v 61 4) (letN s 101 (v 61 4)) ∧ f = 0)) → Q (some (vr (1 + wofS s (v 61 4) (letN s 101 (v 61 4))))) (cl A (sset v 61 4 e))) : AW d mX7_readWord 40 [some (vr 61), some (vi f), some (vi e), L3] [] (cl A v) Q := by
  refine aw_aload_n (pc' := 41) rfl dX7_readWord_40 rfl ?_
  refine aw_iload_n (pc' := 42) rfl dX7_readWord_41 rfl ?_
  refine aw_callV (ci := 6) (d' := d - 1) (as := [_]) (pc' := 45) (by decide) rfl kX7_wordAt iX7_wordAt sX7_wordAt lX7_144 (XO_reader (A := (cl A v)) hX) dX7_readWord_42 rfl rfl (Nat.le_of_ble_eq_true rfl) (by omega) ?_
  try simp (disch := omega) only [hv_cl, cl_set, sset_e, sset_1, sset_2, sset_ss, btX_4]
  refine x_wordAt (s := s) (by omega) hX hT hft ?_ ?_
  · intro q1 q2
    have hl9 := hT.1.1
    have h2 := letN_lt (s := s) (by rw [← hT.2.1]; omega) (m := 100) (a := v 61 4) (by rw [← hT.2.1]; omega) (show letN s (100 + 1) (v 61 4) ≠ v 61 4 from by show letN s 101 (v 61 4) ≠ v 61 4; omega)
    have h3 := hT.bt (k := v 61 4) (by omega) (by omega)
    have h4 := hT.1.2.1 (v 61 4) (by omega)
    unfold btX at h4
    rw [if_pos (by omega), h3, q2] at h4
    omega
  rw [he]
  have hwb := wof_b (s := s) (f := v 61 4) (t := letN s 101 (v 61 4))
  generalize hwq : wofS s (v 61 4) (letN s 101 (v 61 4)) = wq at hwb h0 h1 ⊢
  have hwf := fun (q : ¬ wq < 0) => wf_tab (o := 1 + wq) (by omega) (by omega)
  generalize hro : (if wq < 0 then 0 else 1 + wq) = ro
  have hr0 : wq < 0 → ro = 0 := fun q => by rw [← hro, if_pos q]
  have hr1 : ¬ wq < 0 → ro = 1 + wq := fun q => by rw [← hro, if_neg q]
  have hr34 : ro ≠ 34 := by rw [← hro]; split <;> omega
  refine aw_astore_n (pc' := 46) (lv' := [_, _, _, _]) dX7_readWord_45 rfl (by decide) rfl ?_
  refine aw_aload_n (pc' := 47) rfl dX7_readWord_46 rfl ?_
  refine aw_ifnull (pt := 61) (pf := 50) hr34 dX7_readWord_47 (by decide) rfl (fun c_47 => ?_) (fun c_47 => ?_)
  · have hwn : wq < 0 := by
      rcases Int.lt_or_le wq 0 with q | q
      · exact q
      · have := hr1 (by omega)
        omega
    refine aw_aload_n (pc' := 62) rfl dX7_readWord_61 rfl ?_
    refine aw_aload_n (pc' := 63) rfl dX7_readWord_62 rfl ?_
    refine aw_geti (pc' := 66) (k9 := 4) dX7_readWord_63 rfl fX7_29 rfl (by decide) rfl (XO_reader (A := (cl A v)) hX) ?_
    try simp (disch := omega) only [hv_cl, cl_set, sset_e, sset_1, sset_2, sset_ss, btX_4]
    refine aw_callV (ci := 6) (d' := d - 1) (as := [_]) (pc' := 69) (by decide) rfl kX7_faultAt iX7_faultAt sX7_faultAt lX7_42 (XO_reader (A := (cl A v)) hX) dX7_readWord_66 rfl rfl (Nat.le_of_ble_eq_true rfl) (by omega) ?_
    try simp (disch := omega) only [hv_cl, cl_set, sset_e, sset_1, sset_2, sset_ss, btX_4]
    refine x_faultAt (by omega) hX ?_
    refine aw_pop (pc' := 70) rfl dX7_readWord_69 rfl ?_
    refine aw_null (pc' := 71) dX7_readWord_70 rfl ?_
    refine AW.ret (some (vr _)) dX7_readWord_71 trivial ?_
    try simp (disch := omega) only [hv_cl, cl_set, sset_e, sset_1, sset_2, sset_ss, btX_4]
    refine h0 ?_
    first
    | exact Or.inl hwn
    | (refine Or.inr ⟨?_, by omega⟩; rw [hwf2] at c_58; split at c_58 <;> omega)
  · have hwn : ¬ wq < 0 := fun q => c_47 (hr0 q)
    have hro2 := hr1 hwn
    have hwf2 := hwf hwn
    rw [← hro2] at hwf2
    refine aw_iload_n (pc' := 51) rfl dX7_readWord_50 rfl ?_
    refine aw_if_ne (pt := 72) (pf := 54) dX7_readWord_51 (by decide) rfl (fun c_51 => ?_) (fun c_51 => ?_)
    · refine aw_aload_n (pc' := 73) rfl dX7_readWord_72 rfl ?_
      refine aw_iload_n (pc' := 74) rfl dX7_readWord_73 rfl ?_
      refine aw_puti (pc' := 77) (k9 := 4) dX7_readWord_74 rfl fX7_29 rfl rfl rfl (XO_reader (A := (cl A v)) hX) ?_
      refine aw_aload_n (pc' := 78) rfl dX7_readWord_77 rfl ?_
      refine AW.ret (some (vr _)) dX7_readWord_78 trivial ?_
      try simp (disch := omega) only [hv_cl, cl_set, sset_e, sset_1, sset_2, sset_ss, btX_4]
      have hq := h1 (fun q => by
        rcases q with q | ⟨q1, q2⟩
        · exact hwn q
        · first
          | omega
          | (rw [hwf2, if_pos (by omega)] at c_58; omega))
      rw [he] at hq
      rw [hro2]
      exact hq
    · replace c_51 := Classical.not_not.mp c_51
      refine aw_aload_n (pc' := 55) rfl dX7_readWord_54 rfl ?_
      refine aw_wFun (pc' := 58) (by first | omega | (rcases Int.lt_or_le wq 0 with q | q; (have := hr0 q; omega); (have := hr1 (by omega); omega))) (by rcases Int.lt_or_le wq 0 with q | q; (have := hr0 q; omega); (have := hr1 (by omega); omega)) fX7_148 dX7_readWord_55 rfl ?_
      try simp (disch := omega) only [hv_cl, cl_set, sset_e, sset_1, sset_2, sset_ss, btX_4]
      refine aw_if_lt (pt := 72) (pf := 61) dX7_readWord_58 (by decide) rfl (fun c_58 => ?_) (fun c_58 => ?_)
      · refine aw_aload_n (pc' := 73) rfl dX7_readWord_72 rfl ?_
        refine aw_iload_n (pc' := 74) rfl dX7_readWord_73 rfl ?_
        refine aw_puti (pc' := 77) (k9 := 4) dX7_readWord_74 rfl fX7_29 rfl rfl rfl (XO_reader (A := (cl A v)) hX) ?_
        refine aw_aload_n (pc' := 78) rfl dX7_readWord_77 rfl ?_
        refine AW.ret (some (vr _)) dX7_readWord_78 trivial ?_
        try simp (disch := omega) only [hv_cl, cl_set, sset_e, sset_1, sset_2, sset_ss, btX_4]
        have hq := h1 (fun q => by
          rcases q with q | ⟨q1, q2⟩
          · exact hwn q
          · first
            | omega
            | (rw [hwf2, if_pos (by omega)] at c_58; omega))
        rw [he] at hq
        rw [hro2]
        exact hq
      · refine aw_aload_n (pc' := 62) rfl dX7_readWord_61 rfl ?_
        refine aw_aload_n (pc' := 63) rfl dX7_readWord_62 rfl ?_
        refine aw_geti (pc' := 66) (k9 := 4) dX7_readWord_63 rfl fX7_29 rfl (by decide) rfl (XO_reader (A := (cl A v)) hX) ?_
        try simp (disch := omega) only [hv_cl, cl_set, sset_e, sset_1, sset_2, sset_ss, btX_4]
        refine aw_callV (ci := 6) (d' := d - 1) (as := [_]) (pc' := 69) (by decide) rfl kX7_faultAt iX7_faultAt sX7_faultAt lX7_42 (XO_reader (A := (cl A v)) hX) dX7_readWord_66 rfl rfl (Nat.le_of_ble_eq_true rfl) (by omega) ?_
        try simp (disch := omega) only [hv_cl, cl_set, sset_e, sset_1, sset_2, sset_ss, btX_4]
        refine x_faultAt (by omega) hX ?_
        refine aw_pop (pc' := 70) rfl dX7_readWord_69 rfl ?_
        refine aw_null (pc' := 71) dX7_readWord_70 rfl ?_
        refine AW.ret (some (vr _)) dX7_readWord_71 trivial ?_
        try simp (disch := omega) only [hv_cl, cl_set, sset_e, sset_1, sset_2, sset_ss, btX_4]
        refine h0 ?_
        first
        | exact Or.inl hwn
        | (refine Or.inr ⟨?_, by omega⟩; rw [hwf2] at c_58; split at c_58 <;> omega)

set_option maxRecDepth 20000 in
theorem x_readWord {d : Nat} {s : Sg} {f : Int} {A : AHp} {v : Sg} {Q : Option AV → AHp → Prop} (hd : 6 ≤ d) (hX : XLAY A) (hT : TSM v s) (hat : 0 ≤ v 61 4 ∧ v 61 4 ≤ v 61 2) (hf : f = 0 ∨ f = 1)
  (h0 : (wofS s (v 61 4) (letN s 101 (v 61 4)) < 0 ∨ (11 ≤ wofS s (v 61 4) (letN s 101 (v 61 4)) ∧ f = 0)) → Q (some (vr 0)) (cl A (sset v 61 3 (v 61 4)))) (h1 : ¬ (wofS s (v 61 4) (letN s 101 (v 61 4)) < 0 ∨ (11 ≤ wofS s (v 61 4) (letN s 101 (v 61 4)) ∧ f = 0)) → Q (some (vr (1 + wofS s (v 61 4) (letN s 101 (v 61 4))))) (cl A (sset v 61 4 (letN s 101 (v 61 4))))) : CALL d mX7_readWord [vr 61, vi f] (cl A v) Q := by
  refine CALL.of (by decide) (Nat.le_of_ble_eq_true rfl) ?_
  change AW d mX7_readWord 0 [some (vr 61), some (vi f), none, none] [] (cl A v) Q
  have hl9 := hT.1.1
  have hle := letN_b (s := s) (by rw [← hT.2.1]; omega) 101 (v 61 4) (by rw [← hT.2.1]; exact hat.2)
  rw [← hT.2.1] at hle
  refine aw_aload_n (pc' := 1) rfl dX7_readWord_0 rfl ?_
  refine aw_geti (pc' := 4) (k9 := 4) dX7_readWord_1 rfl fX7_29 rfl (by decide) rfl (XO_reader (A := (cl A v)) hX) ?_
  try simp (disch := omega) only [hv_cl, cl_set, sset_e, sset_1, sset_2, sset_ss, btX_4]
  refine aw_istore_n (pc' := 5) (lv' := [_, _, _, _]) dX7_readWord_4 rfl (by decide) rfl ?_
  refine aw_aload_n (pc' := 6) rfl dX7_readWord_5 rfl ?_
  refine aw_geti (pc' := 9) (k9 := 4) dX7_readWord_6 rfl fX7_29 rfl (by decide) rfl (XO_reader (A := (cl A v)) hX) ?_
  try simp (disch := omega) only [hv_cl, cl_set, sset_e, sset_1, sset_2, sset_ss, btX_4]
  refine aw_istore_n (pc' := 10) (lv' := [_, _, _, _]) dX7_readWord_9 rfl (by decide) rfl ?_
  try simp (disch := omega) only [hv_cl, cl_set, sset_e, sset_1, sset_2, sset_ss, btX_4]
  refine lx_let 101 _ (by omega) hX hT hat.1 hat.2 (by omega) ?_
  exact lx_rwT hd hX hT rfl (by omega) hf h0 h1
