/-! ===== the class's reader: readCommand ===== -/
theorem wm_tab {o : Int} (h1 : 1 ≤ o) (h2 : o ≤ 15) : wMost o = if o = 1 then 4 else if o = 8 ∨ o = 10 ∨ o = 15 then 0 else 1 := by
  have h : o = 1 ∨ o = 2 ∨ o = 3 ∨ o = 4 ∨ o = 5 ∨ o = 6 ∨ o = 7 ∨ o = 8 ∨ o = 9 ∨ o = 10 ∨ o = 11 ∨ o = 12 ∨ o = 13 ∨ o = 14 ∨ o = 15 := by omega
  rcases h with rfl | rfl | rfl | rfl | rfl | rfl | rfl | rfl | rfl | rfl | rfl | rfl | rfl | rfl | rfl <;> simp [wMost, wdM]
theorem wl_tab {o : Int} (h1 : 1 ≤ o) (h2 : o ≤ 15) : wLeast o = if o = 8 ∨ o = 10 ∨ o = 15 then 0 else 1 := by
  have h : o = 1 ∨ o = 2 ∨ o = 3 ∨ o = 4 ∨ o = 5 ∨ o = 6 ∨ o = 7 ∨ o = 8 ∨ o = 9 ∨ o = 10 ∨ o = 11 ∨ o = 12 ∨ o = 13 ∨ o = 14 ∨ o = 15 := by omega
  rcases h with rfl | rfl | rfl | rfl | rfl | rfl | rfl | rfl | rfl | rfl | rfl | rfl | rfl | rfl | rfl <;> simp [wLeast, wdL]
theorem ech_no {st w : Int} {m : Nat} {g : Bool} {s : Sg} (h : ¬ (g = true ∧ w = 0 ∧ btS s (s 307 18) = 32 ∧ s 316 st < 4)) : echS st w m g s = (g, s) := by
  cases m with
  | zero => rfl
  | succ m =>
    unfold echS
    rw [if_neg h]
theorem ech_go {st : Int} {m : Nat} {s : Sg} (hm : 4 ≤ s 316 st + m) (h : btS s (s 307 18) = 32 ∧ s 316 st < 4) : ∃ m2, m = m2 + 1 ∧ echS st 0 m true s = echS st 0 m2 (numR s (s 307 18 + 1)).1 (numS s st) := by
  cases m with
  | zero => omega
  | succ m =>
    refine ⟨m, rfl, ?_⟩
    unfold echS
    rw [if_pos ⟨rfl, rfl, h.1, h.2⟩]
    cases m <;> rfl
/-- what reading a command may write -/
def XF2 (so ta : Int) (v w : Sg) : Prop := ∀ o k, o ≠ so → o ≠ ta → ¬ (o = 61 ∧ 3 ≤ k ∧ k ≤ 4) → w o k = v o k
theorem XF2.rf {so ta : Int} {v : Sg} : XF2 so ta v v := fun _ _ _ _ _ => rfl
theorem XF2.tr {so ta : Int} {v w x : Sg} (h : XF2 so ta v w) (g : XF2 so ta w x) : XF2 so ta v x := fun o k a b c => (g o k a b c).trans (h o k a b c)
theorem XF2.st {so ta o k x : Int} {v w : Sg} (h : XF2 so ta v w) (ho : o = so ∨ o = ta ∨ (o = 61 ∧ 3 ≤ k ∧ k ≤ 4)) : XF2 so ta v (sset w o k x) := fun o' k' a b c => by
  unfold sset
  rw [if_neg (fun z => by rcases ho with q | q | q; exact a (z.1.trans q); exact b (z.1.trans q); exact c (by omega))]
  exact h o' k' a b c
def RCV (v s : Sg) (so ta st i : Int) : Prop := TSM v s ∧ v 61 4 = s 307 18 ∧ v so 2 = i ∧ (∀ j, 0 ≤ j → j < i → v ta j = s 317 (4 * st + j)) ∧ ∀ j, 0 ≤ j → j < 4 → -7 ≤ v ta j ∧ v ta j ≤ 999
theorem TSM.o {v s : Sg} {o k x : Int} (h : TSM v s) (ho : o ≠ 61 ∧ o ≠ 62 ∧ o ≠ 63) : TSM (sset v o k x) s :=
  h.eq (sset_1 (by omega)) (fun _ => sset_1 (by omega)) (fun _ => sset_1 (by omega)) rfl (fun _ => rfl)
theorem TSM.n {v s : Sg} {st : Int} (h : TSM v s) : TSM v (numS s st) :=
  h.eq rfl (fun _ => rfl) (fun _ => rfl) (numS_fr (by omega)) (fun _ => numS_fr (by omega))
theorem RCV.num {v s : Sg} {so ta st i i2 : Int} (h : RCV v s so ta st i) (hn : (numR s (s 307 18 + 1)).1 = true) (hi : i = s 316 st) (hi4 : 0 ≤ i ∧ i < 4) (hso : 350 ≤ so ∧ 350 ≤ ta ∧ so ≠ ta) (h2 : i + 1 = i2) : RCV (sset (sset (sset v 61 4 (numR s (s 307 18 + 1)).2.1) ta i (numR s (s 307 18 + 1)).2.2) so 2 i2) (numS s st) so ta st i2 := by
  obtain ⟨h1, h2, h3, h4, h5⟩ := h
  have hk := numR_ok hn
  refine ⟨((h1.at.o (by omega)).o (by omega)).n, ?_, sset_e, fun j j0 j1 => ?_, fun j j0 j1 => ?_⟩
  · rw [sset_1 (by omega), sset_1 (by omega), sset_e, numS_at]
  · rw [sset_1 (by omega)]
    by_cases e : j = i
    · rw [e, sset_e, hi, numS_v hn]
    · rw [sset_2 e, sset_1 (by omega), numS_fr (by omega)]
      exact h4 j j0 (by omega)
  · rw [sset_1 (by omega)]
    by_cases e : j = i
    · rw [e, sset_e]
      omega
    · rw [sset_2 e, sset_1 (by omega)]
      exact h5 j j0 j1
/-- what was made of a command -/
def DAT (v t : Sg) (so ta st w : Int) : Prop := TSM v t ∧ v 61 4 = t 307 18 ∧ (0 ≤ v so 2 ∧ v so 2 ≤ 4) ∧ (∀ j, 0 ≤ j → j < 4 → -7 ≤ v ta j ∧ v ta j ≤ 999) ∧ (w ≠ 8 → v so 2 = t 316 st ∧ ∀ i, 0 ≤ i → i < t 316 st → v ta i = t 317 (4 * st + i)) ∧ (w = 8 → v ta 0 = -1 - t 315 st)
set_option maxRecDepth 20000 in
theorem lx_rc104 {d : Nat} {A : AHp} {v : Sg} {f o so ta i i2 x : Int} {Q : Option AV → AHp → Prop} (hX : XLAY A) (hO : isO A so 9) (hta : hp A so 1 = ta) (hTA : isA A ta 20 4) (hne : 350 ≤ so ∧ 350 ≤ ta ∧ so ≠ ta) (hi4 : 0 ≤ i ∧ i < 4) (hi2 : i + 1 = i2) (h1 : x ≠ -7 → AW d mX7_readCommand 34 [some (vr 61), some (vi f), some (vr o), some (vr so), some (vi i2)] [] (cl A (sset (sset v ta i x) so 2 i2)) Q) (h0 : x = -7 → Q (some (vr 0)) (cl A (sset (sset v ta i x) so 2 i2))) : AW d mX7_readCommand 104 [some (vr 61), some (vi f), some (vr o), some (vr so), some (vi i)] [vi x, vi i, vr ta] (cl A v) Q := by
  refine aw_iast (pc' := 105) dX7_readCommand_104 rfl hTA (by omega) (by omega) ?_
  refine aw_aload_n (pc' := 106) rfl dX7_readCommand_105 rfl ?_
  refine aw_iload (pc' := 108) rfl dX7_readCommand_106 rfl ?_
  refine aw_iconst (pc' := 109) (by decide) dX7_readCommand_108 rfl ?_
  refine aw_iadd (pc' := 110) (by first | exact w32_id (by omega) (by omega) | rfl) dX7_readCommand_109 rfl ?_
  refine aw_puti (pc' := 113) (k9 := 2) dX7_readCommand_110 rfl fX7_138 rfl rfl rfl hO ?_
  refine aw_aload_n (pc' := 114) rfl dX7_readCommand_113 rfl ?_
  refine aw_getp (pc' := 117) (k9 := 1) (p := ta) dX7_readCommand_114 rfl fX7_125 rfl rfl rfl hO hta ?_
  refine aw_iload (pc' := 119) rfl dX7_readCommand_117 rfl ?_
  refine aw_iald (pc' := 120) dX7_readCommand_119 rfl hTA (by omega) (by omega) ?_
  try simp (disch := omega) only [hv_cl, cl_set, sset_e, sset_1, sset_2, sset_ss, btX_4]
  refine aw_bipush (pc' := 122) (by decide +kernel) dX7_readCommand_120 rfl ?_
  refine aw_icmp_ne (pt := 127) (pf := 125) dX7_readCommand_122 (by decide) rfl (fun c_122 => ?_) (fun c_122 => ?_)
  · refine aw_iinc (pc' := 130) (lv' := [_, _, _, _, _]) dX7_readCommand_127 rfl rfl (by decide) (by first | exact w32_id (by omega) (by omega) | rfl) rfl ?_
    refine aw_goto (pc' := 34) dX7_readCommand_130 (by decide) ?_
    subst hi2
    try simp (disch := omega) only [hv_cl, cl_set, sset_e, sset_1, sset_2, sset_ss, btX_4]
    exact h1 (by omega)
  · replace c_122 := Classical.not_not.mp c_122
    refine aw_null (pc' := 126) dX7_readCommand_125 rfl ?_
    refine AW.ret (some (vr _)) dX7_readCommand_126 trivial ?_
    subst hi2
    try simp (disch := omega) only [hv_cl, cl_set, sset_e, sset_1, sset_2, sset_ss, btX_4]
    exact h0 (by omega)

set_option maxRecDepth 20000 in
theorem lx_rcX {d : Nat} {A : AHp} {v : Sg} {f o so i : Int} {Q : Option AV → AHp → Prop} (ho : 1 ≤ o ∧ o ≤ 15) (hmo : wMost o ≤ i) (hQ : Q (some (vr so)) (cl A v)) : AW d mX7_readCommand 34 [some (vr 61), some (vi f), some (vr o), some (vr so), some (vi i)] [] (cl A v) Q := by
  refine aw_iload (pc' := 36) rfl dX7_readCommand_34 rfl ?_
  refine aw_aload_n (pc' := 37) rfl dX7_readCommand_36 rfl ?_
  refine aw_wMost (pc' := 40) (by omega) (by omega) fX7_119 dX7_readCommand_37 rfl ?_
  try simp (disch := omega) only [hv_cl, cl_set, sset_e, sset_1, sset_2, sset_ss, btX_4]
  refine aw_icmp_ge (pt := 133) (pf := 43) dX7_readCommand_40 (by decide) rfl (fun c_40 => ?_) (fun c_40 => ?_)
  · refine aw_aload_n (pc' := 134) rfl dX7_readCommand_133 rfl ?_
    refine AW.ret (some (vr _)) dX7_readCommand_134 trivial ?_
    try simp (disch := omega) only [hv_cl, cl_set, sset_e, sset_1, sset_2, sset_ss, btX_4]
    exact hQ
  · exfalso
    omega

set_option maxRecDepth 20000 in
theorem lx_rcN {d : Nat} {A : AHp} {v s : Sg} {f o so ta : Int} {Q : Option AV → AHp → Prop} (hd : 4 ≤ d) (hX : XLAY A) (hO : isO A so 9) (hta : hp A so 1 = ta) (hTA : isA A ta 20 4) (hne : 350 ≤ so ∧ 350 ≤ ta ∧ so ≠ ta) (hB : BSM v s) (hat0 : 0 ≤ v 61 4 ∧ v 61 4 ≤ 100) (h4 : v 61 4 = s 307 18) (ho : 1 ≤ o ∧ o ≤ 15 ∧ o ≠ 9) (hmo : 1 ≤ wMost o) (hle : wLeast o = 1)
  (h0 : btS s (s 307 18) ≠ 32 → Q (some (vr 0)) (cl A (sset v 61 3 (s 307 18)))) (h2 : btS s (s 307 18) = 32 → (numR s (s 307 18 + 1)).1 = false → ∀ x, Q (some (vr 0)) (cl A (sset (sset (sset (sset v 61 4 x) 61 3 (numR s (s 307 18 + 1)).2.1) ta 0 (-7)) so 2 1)))
  (h1 : btS s (s 307 18) = 32 → (numR s (s 307 18 + 1)).1 = true → AW d mX7_readCommand 34 [some (vr 61), some (vi f), some (vr o), some (vr so), some (vi 1)] [] (cl A (sset (sset (sset v 61 4 (numR s (s 307 18 + 1)).2.1) ta 0 (numR s (s 307 18 + 1)).2.2) so 2 1)) Q) : AW d mX7_readCommand 34 [some (vr 61), some (vi f), some (vr o), some (vr so), some (vi 0)] [] (cl A v) Q := by
  refine aw_iload (pc' := 36) rfl dX7_readCommand_34 rfl ?_
  refine aw_aload_n (pc' := 37) rfl dX7_readCommand_36 rfl ?_
  refine aw_wMost (pc' := 40) (by omega) (by omega) fX7_119 dX7_readCommand_37 rfl ?_
  try simp (disch := omega) only [hv_cl, cl_set, sset_e, sset_1, sset_2, sset_ss, btX_4]
  refine aw_icmp_ge (pt := 133) (pf := 43) dX7_readCommand_40 (by decide) rfl (fun c_40 => ?_) (fun c_40 => ?_)
  · exfalso
    omega
  · refine aw_iload (pc' := 45) rfl dX7_readCommand_43 rfl ?_
    refine aw_iconst (pc' := 46) (by decide) dX7_readCommand_45 rfl ?_
    refine aw_icmp_ge (pt := 133) (pf := 49) dX7_readCommand_46 (by decide) rfl (fun c_46 => absurd c_46 (by decide)) (fun _ => ?_)
    refine aw_iload (pc' := 51) rfl dX7_readCommand_49 rfl ?_
    refine aw_aload_n (pc' := 52) rfl dX7_readCommand_51 rfl ?_
    refine aw_wLeast (pc' := 55) (by omega) (by omega) fX7_122 dX7_readCommand_52 rfl ?_
    try simp (disch := omega) only [hv_cl, cl_set, sset_e, sset_1, sset_2, sset_ss, btX_4]
    rw [hle]
    refine aw_icmp_lt (pt := 69) (pf := 58) dX7_readCommand_55 (by decide) rfl (fun _ => ?_) (fun c_55 => absurd (by decide) c_55)
    refine aw_aload_n (pc' := 70) rfl dX7_readCommand_69 rfl ?_
    refine aw_bipush (pc' := 72) (by decide +kernel) dX7_readCommand_70 rfl ?_
    refine aw_callV (ci := 6) (d' := d - 1) (as := [_]) (pc' := 75) (by decide) rfl kX7_takesOrFaults iX7_takesOrFaults sX7_takesOrFaults lX7_112 (XO_reader (A := (cl A v)) hX) dX7_readCommand_72 rfl rfl (Nat.le_of_ble_eq_true rfl) (by omega) ?_
    try simp (disch := omega) only [hv_cl, cl_set, sset_e, sset_1, sset_2, sset_ss, btX_4]
    have hat : 0 ≤ v 61 4 ∧ v 61 4 ≤ 110 := by omega
    refine x_takesF (s := s) (by omega) hX hB hat (fun t1 => ?_) (fun t0 => ?_)
    · rw [h4] at t1
      refine aw_if_ne (pt := 80) (pf := 78) dX7_readCommand_75 (by decide) rfl (fun _ => ?_) (fun c_75 => absurd (by decide) c_75)
      refine aw_aload_n (pc' := 81) rfl dX7_readCommand_80 rfl ?_
      refine aw_getp (pc' := 84) (k9 := 1) (p := ta) dX7_readCommand_81 rfl fX7_125 rfl rfl rfl hO hta ?_
      refine aw_iload (pc' := 86) rfl dX7_readCommand_84 rfl ?_
      refine aw_aload_n (pc' := 87) rfl dX7_readCommand_86 rfl ?_
      refine aw_gsW (j := 8) (pc' := 90) (by decide) fX7_129 dX7_readCommand_87 rfl ?_
      refine aw_acmp_ne (pt := 100) (pf := 93) (by omega) (by omega) dX7_readCommand_90 (by decide) rfl (fun c_90 => ?_) (fun c_90 => ?_)
      · refine aw_aload_n (pc' := 101) rfl dX7_readCommand_100 rfl ?_
        refine aw_callV (ci := 6) (d' := d - 1) (as := []) (pc' := 104) (by decide) rfl kX7_readTerm iX7_readTerm sX7_readTerm lX7_135 (XO_reader (A := (cl A v)) hX) dX7_readCommand_101 rfl rfl (Nat.le_of_ble_eq_true rfl) (by omega) ?_
        refine x_readTerm (s := s) (by omega) hX hB.at (by rw [sset_e]; omega) (fun hn => ?_) (fun hn x9 => ?_)
        · rw [sset_e, h4] at hn ⊢
          try simp only [sset_ss]
          have hk := numR_ok hn
          refine lx_rc104 (i2 := 1) hX hO hta hTA hne (by omega) (by omega) (fun z1 => ?_) (fun z0 => ?_)
          · first
            | exact absurd rfl z1
            | exact h1 t1 hn
          · first
            | (exfalso; omega)
            | exact h2 t1 hn _
        · rw [sset_e, h4] at hn ⊢
          try simp only [sset_ss]
          refine lx_rc104 (i2 := 1) hX hO hta hTA hne (by omega) (by omega) (fun z1 => ?_) (fun z0 => ?_)
          · first
            | exact absurd rfl z1
            | exact h1 t1 hn
          · first
            | (exfalso; omega)
            | exact h2 t1 hn _
      · exfalso
        omega
    · rw [h4] at t0 ⊢
      refine aw_if_ne (pt := 80) (pf := 78) dX7_readCommand_75 (by decide) rfl (fun c_75 => absurd c_75 (by decide)) (fun _ => ?_)
      refine aw_null (pc' := 79) dX7_readCommand_78 rfl ?_
      refine AW.ret (some (vr _)) dX7_readCommand_79 trivial ?_
      try simp (disch := omega) only [hv_cl, cl_set, sset_e, sset_1, sset_2, sset_ss, btX_4]
      exact h0 t0

set_option maxRecDepth 20000 in
theorem lx_rcS {d : Nat} {A : AHp} {v s : Sg} {f so ta : Int} {Q : Option AV → AHp → Prop} (hd : 4 ≤ d) (hX : XLAY A) (hO : isO A so 9) (hta : hp A so 1 = ta) (hTA : isA A ta 20 4) (hne : 350 ≤ so ∧ 350 ≤ ta ∧ so ≠ ta) (hB : BSM v s) (hat0 : 0 ≤ v 61 4 ∧ v 61 4 ≤ 100) (h4 : v 61 4 = s 307 18)
  (h0 : btS s (s 307 18) ≠ 32 → Q (some (vr 0)) (cl A (sset v 61 3 (s 307 18)))) (h2 : btS s (s 307 18) = 32 → ¬ (97 ≤ btS s (s 307 18 + 1) ∧ btS s (s 307 18 + 1) ≤ 101) → Q (some (vr 0)) (cl A (sset (sset (sset (sset v 61 4 (s 307 18 + 1)) 61 3 (s 307 18 + 1)) ta 0 (-7)) so 2 1)))
  (h1 : btS s (s 307 18) = 32 → (97 ≤ btS s (s 307 18 + 1) ∧ btS s (s 307 18 + 1) ≤ 101) → Q (some (vr so)) (cl A (sset (sset (sset v 61 4 (s 307 18 + 1 + 1)) ta 0 (-1 - (btS s (s 307 18 + 1) - 97))) so 2 1))) : AW d mX7_readCommand 34 [some (vr 61), some (vi f), some (vr 9), some (vr so), some (vi 0)] [] (cl A v) Q := by
  refine aw_iload (pc' := 36) rfl dX7_readCommand_34 rfl ?_
  refine aw_aload_n (pc' := 37) rfl dX7_readCommand_36 rfl ?_
  refine aw_wMost (pc' := 40) (by omega) (by omega) fX7_119 dX7_readCommand_37 rfl ?_
  try simp (disch := omega) only [hv_cl, cl_set, sset_e, sset_1, sset_2, sset_ss, btX_4]
  rw [wm_tab (by omega) (by omega), if_neg (by omega), if_neg (by omega)]
  refine aw_icmp_ge (pt := 133) (pf := 43) dX7_readCommand_40 (by decide) rfl (fun c_40 => absurd c_40 (by decide)) (fun _ => ?_)
  refine aw_iload (pc' := 45) rfl dX7_readCommand_43 rfl ?_
  refine aw_iconst (pc' := 46) (by decide) dX7_readCommand_45 rfl ?_
  refine aw_icmp_ge (pt := 133) (pf := 49) dX7_readCommand_46 (by decide) rfl (fun c_46 => absurd c_46 (by decide)) (fun _ => ?_)
  refine aw_iload (pc' := 51) rfl dX7_readCommand_49 rfl ?_
  refine aw_aload_n (pc' := 52) rfl dX7_readCommand_51 rfl ?_
  refine aw_wLeast (pc' := 55) (by omega) (by omega) fX7_122 dX7_readCommand_52 rfl ?_
  try simp (disch := omega) only [hv_cl, cl_set, sset_e, sset_1, sset_2, sset_ss, btX_4]
  rw [wl_tab (by omega) (by omega), if_neg (by omega)]
  refine aw_icmp_lt (pt := 69) (pf := 58) dX7_readCommand_55 (by decide) rfl (fun _ => ?_) (fun c_55 => absurd (by decide) c_55)
  refine aw_aload_n (pc' := 70) rfl dX7_readCommand_69 rfl ?_
  refine aw_bipush (pc' := 72) (by decide +kernel) dX7_readCommand_70 rfl ?_
  refine aw_callV (ci := 6) (d' := d - 1) (as := [_]) (pc' := 75) (by decide) rfl kX7_takesOrFaults iX7_takesOrFaults sX7_takesOrFaults lX7_112 (XO_reader (A := (cl A v)) hX) dX7_readCommand_72 rfl rfl (Nat.le_of_ble_eq_true rfl) (by omega) ?_
  try simp (disch := omega) only [hv_cl, cl_set, sset_e, sset_1, sset_2, sset_ss, btX_4]
  have hat : 0 ≤ v 61 4 ∧ v 61 4 ≤ 110 := by omega
  refine x_takesF (s := s) (by omega) hX hB hat (fun t1 => ?_) (fun t0 => ?_)
  · rw [h4] at t1
    refine aw_if_ne (pt := 80) (pf := 78) dX7_readCommand_75 (by decide) rfl (fun _ => ?_) (fun c_75 => absurd (by decide) c_75)
    refine aw_aload_n (pc' := 81) rfl dX7_readCommand_80 rfl ?_
    refine aw_getp (pc' := 84) (k9 := 1) (p := ta) dX7_readCommand_81 rfl fX7_125 rfl rfl rfl hO hta ?_
    refine aw_iload (pc' := 86) rfl dX7_readCommand_84 rfl ?_
    refine aw_aload_n (pc' := 87) rfl dX7_readCommand_86 rfl ?_
    refine aw_gsW (j := 8) (pc' := 90) (by decide) fX7_129 dX7_readCommand_87 rfl ?_
    refine aw_acmp_ne (pt := 100) (pf := 93) (by omega) (by omega) dX7_readCommand_90 (by decide) rfl (fun c_90 => ?_) (fun c_90 => ?_)
    · exfalso
      omega
    · refine aw_aload_n (pc' := 94) rfl dX7_readCommand_93 rfl ?_
      refine aw_callV (ci := 6) (d' := d - 1) (as := []) (pc' := 97) (by decide) rfl kX7_readName iX7_readName sX7_readName lX7_132 (XO_reader (A := (cl A v)) hX) dX7_readCommand_94 rfl rfl (Nat.le_of_ble_eq_true rfl) (by omega) ?_
      refine x_readName (s := s) (by omega) hX hB.at (by rw [sset_e]; omega) (fun n1 n2 => ?_) (fun n0 => ?_)
      · rw [sset_e, h4] at n1 n2 ⊢
        try simp only [sset_ss]
        refine aw_goto (pc' := 104) dX7_readCommand_97 (by decide) ?_
        refine lx_rc104 (i2 := 1) hX hO hta hTA hne (by omega) (by omega) (fun z1 => ?_) (fun z0 => ?_)
        · first
          | exact absurd rfl z1
          | (refine lx_rcX (by omega) (by rw [wm_tab (by omega) (by omega), if_neg (by omega), if_neg (by omega)]; omega) ?_; exact h1 t1 ⟨n1, n2⟩)
        · first
          | (exfalso; omega)
          | exact h2 t1 n0
      · rw [sset_e, h4] at n0 ⊢
        try simp only [sset_ss]
        refine aw_goto (pc' := 104) dX7_readCommand_97 (by decide) ?_
        refine lx_rc104 (i2 := 1) hX hO hta hTA hne (by omega) (by omega) (fun z1 => ?_) (fun z0 => ?_)
        · first
          | exact absurd rfl z1
          | (refine lx_rcX (by omega) (by rw [wm_tab (by omega) (by omega), if_neg (by omega), if_neg (by omega)]; omega) ?_; exact h1 t1 ⟨n1, n2⟩)
        · first
          | (exfalso; omega)
          | exact h2 t1 n0
  · rw [h4] at t0 ⊢
    refine aw_if_ne (pt := 80) (pf := 78) dX7_readCommand_75 (by decide) rfl (fun c_75 => absurd c_75 (by decide)) (fun _ => ?_)
    refine aw_null (pc' := 79) dX7_readCommand_78 rfl ?_
    refine AW.ret (some (vr _)) dX7_readCommand_79 trivial ?_
    try simp (disch := omega) only [hv_cl, cl_set, sset_e, sset_1, sset_2, sset_ss, btX_4]
    exact h0 t0

set_option maxRecDepth 20000 in
theorem lx_ech {d : Nat} {A : AHp} {f so ta st : Int} (hd : 4 ≤ d) (hX : XLAY A) (hO : isO A so 9) (hta : hp A so 1 = ta) (hTA : isA A ta 20 4) (hne : 350 ≤ so ∧ 350 ≤ ta ∧ so ≠ ta) {Q : Option AV → AHp → Prop} : ∀ (m : Nat) (v s : Sg) (i : Int), RCV v s so ta st i → (s 307 17 ≤ 100 ∧ 0 ≤ s 307 18 ∧ s 307 18 ≤ s 307 17) → i = s 316 st → (1 ≤ i ∧ i ≤ 4) → 4 ≤ i + m →
  ((echS st 0 m true s).1 = true → ∀ w, XF2 so ta v w → RCV w (echS st 0 m true s).2 so ta st ((echS st 0 m true s).2 316 st) → Q (some (vr so)) (cl A w)) →
  ((echS st 0 m true s).1 = false → ∀ w, XF2 so ta v w → w 61 3 = (echS st 0 m true s).2 307 19 → Q (some (vr 0)) (cl A w)) → AW d mX7_readCommand 34 [some (vr 61), some (vi f), some (vr 1), some (vr so), some (vi i)] [] (cl A v) Q := by
  intro m
  induction m using Nat.strongRecOn with
  | _ m ih =>
    intro v s i hR h18 hi hi4 hm hS hFl
    have hB : BSM v s := hR.1.1
    have h4 : v 61 4 = s 307 18 := hR.2.1
    have hat : 0 ≤ v 61 4 ∧ v 61 4 ≤ 110 := by omega
    refine aw_iload (pc' := 36) rfl dX7_readCommand_34 rfl ?_
    refine aw_aload_n (pc' := 37) rfl dX7_readCommand_36 rfl ?_
    refine aw_wMost (pc' := 40) (by omega) (by omega) fX7_119 dX7_readCommand_37 rfl ?_
    try simp (disch := omega) only [hv_cl, cl_set, sset_e, sset_1, sset_2, sset_ss, btX_4]
    rw [wm_tab (by omega) (by omega), if_pos (by omega)]
    refine aw_icmp_ge (pt := 133) (pf := 43) dX7_readCommand_40 (by decide) rfl (fun c_40 => ?_) (fun c_40 => ?_)
    · refine aw_aload_n (pc' := 134) rfl dX7_readCommand_133 rfl ?_
      refine AW.ret (some (vr _)) dX7_readCommand_134 trivial ?_
      try simp (disch := omega) only [hv_cl, cl_set, sset_e, sset_1, sset_2, sset_ss, btX_4]
      have e9 := ech_no (st := st) (w := 0) (m := m) (g := true) (s := s) (fun z => by omega)
      rw [e9] at hS
      exact hS rfl v XF2.rf (by show RCV v s so ta st (s 316 st); rw [← hi]; exact hR)
    · refine aw_iload (pc' := 45) rfl dX7_readCommand_43 rfl ?_
      refine aw_iconst (pc' := 46) (by decide) dX7_readCommand_45 rfl ?_
      refine aw_icmp_ge (pt := 133) (pf := 49) dX7_readCommand_46 (by decide) rfl (fun c_46 => ?_) (fun c_46 => ?_)
      · exfalso
        omega
      · refine aw_iload (pc' := 51) rfl dX7_readCommand_49 rfl ?_
        refine aw_aload_n (pc' := 52) rfl dX7_readCommand_51 rfl ?_
        refine aw_wLeast (pc' := 55) (by omega) (by omega) fX7_122 dX7_readCommand_52 rfl ?_
        try simp (disch := omega) only [hv_cl, cl_set, sset_e, sset_1, sset_2, sset_ss, btX_4]
        rw [wl_tab (by omega) (by omega), if_neg (by omega)]
        refine aw_icmp_lt (pt := 69) (pf := 58) dX7_readCommand_55 (by decide) rfl (fun c_55 => ?_) (fun c_55 => ?_)
        · exfalso
          omega
        · refine aw_aload_n (pc' := 59) rfl dX7_readCommand_58 rfl ?_
          refine aw_callV (ci := 6) (d' := d - 1) (as := []) (pc' := 62) (by decide) rfl kX7_peek iX7_peek sX7_peek lX7_64 (XO_reader (A := A) hX) dX7_readCommand_59 rfl rfl (Nat.le_of_ble_eq_true rfl) (by omega) ?_
          try simp (disch := omega) only [hv_cl, cl_set, sset_e, sset_1, sset_2, sset_ss, btX_4]
          refine x_peek (s := s) (by omega) hX (by first | exact hB | exact hB.at) (by first | exact hat | omega | (simp (disch := omega) only [sset_e]; omega)) ?_
          try simp (disch := omega) only [hv_cl, cl_set, sset_e, sset_1, sset_2, sset_ss, btX_4]
          refine aw_bipush (pc' := 64) (by decide +kernel) dX7_readCommand_62 rfl ?_
          refine aw_icmp_eq (pt := 69) (pf := 67) dX7_readCommand_64 (by decide) rfl (fun c_64 => ?_) (fun c_64 => ?_)
          · rw [h4] at c_64
            obtain ⟨m2, hm2, he⟩ := ech_go (st := st) (m := m) (s := s) (by omega) ⟨c_64, by omega⟩
            rw [he] at hS hFl
            subst hm2
            refine aw_aload_n (pc' := 70) rfl dX7_readCommand_69 rfl ?_
            refine aw_bipush (pc' := 72) (by decide +kernel) dX7_readCommand_70 rfl ?_
            refine aw_callV (ci := 6) (d' := d - 1) (as := [_]) (pc' := 75) (by decide) rfl kX7_takesOrFaults iX7_takesOrFaults sX7_takesOrFaults lX7_112 (XO_reader (A := A) hX) dX7_readCommand_72 rfl rfl (Nat.le_of_ble_eq_true rfl) (by omega) ?_
            try simp (disch := omega) only [hv_cl, cl_set, sset_e, sset_1, sset_2, sset_ss, btX_4]
            refine x_takesF (s := s) (by omega) hX hB hat (fun t1 => ?_) (fun t0 => ?_)
            · refine aw_if_ne (pt := 80) (pf := 78) dX7_readCommand_75 (by decide) rfl (fun _ => ?_) (fun c_75 => absurd (by decide) c_75)
              refine aw_aload_n (pc' := 81) rfl dX7_readCommand_80 rfl ?_
              refine aw_getp (pc' := 84) (k9 := 1) (p := ta) dX7_readCommand_81 rfl fX7_125 rfl rfl rfl hO hta ?_
              refine aw_iload (pc' := 86) rfl dX7_readCommand_84 rfl ?_
              refine aw_aload_n (pc' := 87) rfl dX7_readCommand_86 rfl ?_
              refine aw_gsW (j := 8) (pc' := 90) (by decide) fX7_129 dX7_readCommand_87 rfl ?_
              refine aw_acmp_ne (pt := 100) (pf := 93) (by omega) (by omega) dX7_readCommand_90 (by decide) rfl (fun c_90 => ?_) (fun c_90 => ?_)
              · refine aw_aload_n (pc' := 101) rfl dX7_readCommand_100 rfl ?_
                refine aw_callV (ci := 6) (d' := d - 1) (as := []) (pc' := 104) (by decide) rfl kX7_readTerm iX7_readTerm sX7_readTerm lX7_135 (XO_reader (A := A) hX) dX7_readCommand_101 rfl rfl (Nat.le_of_ble_eq_true rfl) (by omega) ?_
                refine x_readTerm (s := s) (by omega) hX hB.at (by rw [sset_e]; omega) (fun hn => ?_) (fun hn x9 => ?_)
                · rw [sset_e, h4] at hn ⊢
                  try simp only [sset_ss]
                  have hk := numR_ok hn
                  refine lx_rc104 hX hO hta hTA hne (by omega) rfl (fun z1 => ?_) (fun z0 => ?_)
                  · first
                    | exact absurd rfl z1
                    | (rw [hn] at hS hFl
                       have e16 : numS s st 316 st = s 316 st + 1 := by rw [numS_many, if_pos hn]
                       have e18 : numS s st 307 18 = (numR s (s 307 18 + 1)).2.1 := numS_at
                       have e17 : numS s st 307 17 = s 307 17 := numS_fr (by omega)
                       exact ih m2 (by omega) _ (numS s st) (i + 1) (hR.num hn hi (by omega) hne rfl) (by omega) (by omega) (by omega) (by omega) (fun q w hw hr => hS q w (((((XF2.rf.st (Or.inr (Or.inr (by omega)))).st (Or.inr (Or.inl rfl))).st (Or.inl rfl))).tr hw) hr) (fun q w hw hr => hFl q w (((((XF2.rf.st (Or.inr (Or.inr (by omega)))).st (Or.inr (Or.inl rfl))).st (Or.inl rfl))).tr hw) hr))
                  · first
                    | (exfalso; omega)
                    | (rw [hn, ech_no (fun z => absurd z.1 Bool.false_ne_true)] at hFl; exact hFl rfl _ ((((XF2.rf.st (Or.inr (Or.inr (by omega)))).st (Or.inr (Or.inr (by omega)))).st (Or.inr (Or.inl rfl))).st (Or.inl rfl)) (by rw [sset_1 (by omega), sset_1 (by omega), sset_e]; exact (numS_19 hn).symm))
                · rw [sset_e, h4] at hn ⊢
                  try simp only [sset_ss]
                  refine lx_rc104 hX hO hta hTA hne (by omega) rfl (fun z1 => ?_) (fun z0 => ?_)
                  · first
                    | exact absurd rfl z1
                    | (rw [hn] at hS hFl
                       have e16 : numS s st 316 st = s 316 st + 1 := by rw [numS_many, if_pos hn]
                       have e18 : numS s st 307 18 = (numR s (s 307 18 + 1)).2.1 := numS_at
                       have e17 : numS s st 307 17 = s 307 17 := numS_fr (by omega)
                       exact ih m2 (by omega) _ (numS s st) (i + 1) (hR.num hn hi (by omega) hne rfl) (by omega) (by omega) (by omega) (by omega) (fun q w hw hr => hS q w (((((XF2.rf.st (Or.inr (Or.inr (by omega)))).st (Or.inr (Or.inl rfl))).st (Or.inl rfl))).tr hw) hr) (fun q w hw hr => hFl q w (((((XF2.rf.st (Or.inr (Or.inr (by omega)))).st (Or.inr (Or.inl rfl))).st (Or.inl rfl))).tr hw) hr))
                  · first
                    | (exfalso; omega)
                    | (rw [hn, ech_no (fun z => absurd z.1 Bool.false_ne_true)] at hFl; exact hFl rfl _ ((((XF2.rf.st (Or.inr (Or.inr (by omega)))).st (Or.inr (Or.inr (by omega)))).st (Or.inr (Or.inl rfl))).st (Or.inl rfl)) (by rw [sset_1 (by omega), sset_1 (by omega), sset_e]; exact (numS_19 hn).symm))
              · exfalso
                omega
            · refine aw_if_ne (pt := 80) (pf := 78) dX7_readCommand_75 (by decide) rfl (fun c_75 => absurd c_75 (by decide)) (fun _ => ?_)
              refine aw_null (pc' := 79) dX7_readCommand_78 rfl ?_
              refine AW.ret (some (vr _)) dX7_readCommand_79 trivial ?_
              exact absurd (by rw [h4]; exact c_64) t0
          · refine aw_aload_n (pc' := 68) rfl dX7_readCommand_67 rfl ?_
            refine AW.ret (some (vr _)) dX7_readCommand_68 trivial ?_
            try simp (disch := omega) only [hv_cl, cl_set, sset_e, sset_1, sset_2, sset_ss, btX_4]
            have e9 := ech_no (st := st) (w := 0) (m := m) (g := true) (s := s) (fun z => c_64 (by rw [h4]; exact z.2.2.1))
            rw [e9] at hS
            exact hS rfl v XF2.rf (by show RCV v s so ta st (s 316 st); rw [← hi]; exact hR)
