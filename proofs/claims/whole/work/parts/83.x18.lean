/-! ===== the class: adding a line; how many pipes a list has ===== -/
/-- how many pipes the reference's list has -/
def cnT (T : Sg) : Nat → Int → Int
  | 0, _ => 0
  | m + 1, p => if p < 0 then 0 else 1 + cnT T m (T 310 p)
theorem cnT_no {T : Sg} {p : Int} (h : p < 0) : ∀ m, cnT T m p = 0
  | 0 => rfl
  | _ + 1 => if_pos h
set_option maxRecDepth 20000 in
theorem x_addLine {d : Nat} {q : Int} {A : AHp} {v : Sg} {Q : Option AV → AHp → Prop} (hd : 0 ≤ d) (hX : XLAY A) (hln : 0 ≤ v 64 1 ∧ v 64 1 ≤ 8) (hls : ∀ j, 0 ≤ j → j < v 64 1 → isO A (v 65 j) 3) (hL : isO A q 3)
  (h0 : 8 ≤ v 64 1 → Q (some (vi (-4))) (cl A v)) (h1 : v 64 1 < 8 → Q (some (vi (v 64 1))) (cl A (sset (sset v 65 (v 64 1) q) 64 1 (v 64 1 + 1)))) : CALL d mX4_add [vr 64, vr q] (cl A v) Q := by
  refine CALL.of (by decide) (Nat.le_of_ble_eq_true rfl) ?_
  change AW d mX4_add 0 [some (vr 64), some (vr q)] [] (cl A v) Q
  refine aw_aload_n (pc' := 1) rfl dX4_add_0 rfl ?_
  refine aw_geti (pc' := 4) (k9 := 1) dX4_add_1 rfl fX4_24 rfl (by decide) rfl (XO_machine (A := (cl A v)) hX) ?_
  try simp (disch := omega) only [hv_cl, cl_set, sset_e, sset_1, sset_2, sset_ss, btX_4]
  refine aw_bipush (pc' := 6) (by decide +kernel) dX4_add_4 rfl ?_
  refine aw_icmp_lt (pt := 12) (pf := 9) dX4_add_6 (by decide) rfl (fun c_6 => ?_) (fun c_6 => ?_)
  · refine aw_aload_n (pc' := 13) rfl dX4_add_12 rfl ?_
    refine aw_getp (pc' := 16) (k9 := 0) (p := 65) dX4_add_13 rfl fX4_11 rfl rfl rfl (XO_machine (A := (cl A v)) hX) (X_lines (A := (cl A v)) hX) ?_
    refine aw_aload_n (pc' := 17) rfl dX4_add_16 rfl ?_
    refine aw_geti (pc' := 20) (k9 := 1) dX4_add_17 rfl fX4_24 rfl (by decide) rfl (XO_machine (A := (cl A v)) hX) ?_
    try simp (disch := omega) only [hv_cl, cl_set, sset_e, sset_1, sset_2, sset_ss, btX_4]
    refine aw_aload_n (pc' := 21) rfl dX4_add_20 rfl ?_
    refine aw_aast (pc' := 22) (t0 := 5) (ci := 2) (fun _ => rfl) (by decide) (by decide) dX4_add_21 rfl (XA_lines (A := (cl A v)) hX) (by omega) (by omega) hL ?_
    refine aw_aload_n (pc' := 23) rfl dX4_add_22 rfl ?_
    refine aw_dup (pc' := 24) rfl dX4_add_23 rfl ?_
    refine aw_geti (pc' := 27) (k9 := 1) dX4_add_24 rfl fX4_24 rfl (by decide) rfl (XO_machine (A := (cl A v)) hX) ?_
    try simp (disch := omega) only [hv_cl, cl_set, sset_e, sset_1, sset_2, sset_ss, btX_4]
    refine aw_iconst (pc' := 28) (by decide) dX4_add_27 rfl ?_
    refine aw_iadd (pc' := 29) (by first | exact w32_id (by omega) (by omega) | rfl) dX4_add_28 rfl ?_
    refine aw_puti (pc' := 32) (k9 := 1) dX4_add_29 rfl fX4_24 rfl rfl rfl (XO_machine (A := (cl A v)) hX) ?_
    refine aw_aload_n (pc' := 33) rfl dX4_add_32 rfl ?_
    refine aw_geti (pc' := 36) (k9 := 1) dX4_add_33 rfl fX4_24 rfl (by decide) rfl (XO_machine (A := (cl A v)) hX) ?_
    try simp (disch := omega) only [hv_cl, cl_set, sset_e, sset_1, sset_2, sset_ss, btX_4]
    refine aw_iconst (pc' := 37) (by decide) dX4_add_36 rfl ?_
    refine aw_isub (pc' := 38) (by first | exact w32_id (by omega) (by omega) | rfl) dX4_add_37 rfl ?_
    refine AW.ret (some (vi _)) dX4_add_38 trivial ?_
    try simp (disch := omega) only [hv_cl, cl_set, sset_e, sset_1, sset_2]
    have h1f := h1 (by omega)
    rw [Int.add_sub_cancel]
    exact h1f
  · refine aw_bipush (pc' := 11) (by decide +kernel) dX4_add_9 rfl ?_
    refine AW.ret (some (vi _)) dX4_add_11 trivial ?_
    try simp (disch := omega) only [hv_cl, cl_set, sset_e, sset_1, sset_2]
    exact h0 (by omega)

set_option maxRecDepth 20000 in
theorem lx_size {d : Nat} {A : AHp} {v T : Sg} {P : Int → Int → Prop} {f : Int} {Q : Option AV → AHp → Prop} : ∀ (m : Nat) (po p c : Int), (∀ po p, P po p → PIP A po) → CHR v T P m po p → 0 ≤ c → c + m ≤ 1000 → Q (some (vi (c + cnT T m p))) (cl A v) → AW d mX7_sizeOf 4 [some (vr f), some (vi c), some (vr po)] [] (cl A v) Q := by
  intro m
  induction m using Nat.strongRecOn with
  | _ m ih =>
    intro po p c hP h hc0 hc1 hQ
    have hcs : (po = 0 ∧ p = -1) ∨ ∃ m2, m = m2 + 1 ∧ 350 ≤ po ∧ 0 ≤ p ∧ P po p ∧ CHR v T P m2 (v po 3) (T 310 p) := by
      cases m with
      | zero => exact Or.inl h
      | succ m =>
        rcases h with h | ⟨h1, h2, h3⟩
        · exact Or.inl h
        · exact Or.inr ⟨m, rfl, h1.1, h1.2, h2, h3⟩
    clear h
    have h34 : ¬ po = 34 := by
      rcases hcs with h | ⟨_, _, h, _⟩
      · omega
      · omega
    refine aw_aload_n (pc' := 5) rfl dX7_sizeOf_4 rfl ?_
    refine aw_ifnull (pt := 19) (pf := 8) h34 dX7_sizeOf_5 (by decide) rfl (fun c_5 => ?_) (fun c_5 => ?_)
    · obtain ⟨hpo0, hp1⟩ : po = 0 ∧ p = -1 := by
        rcases hcs with h | ⟨_, _, h, _⟩
        · exact h
        · omega
      refine aw_iload_n (pc' := 20) rfl dX7_sizeOf_19 rfl ?_
      refine AW.ret (some (vi _)) dX7_sizeOf_20 trivial ?_
      rw [cnT_no (by omega), Int.add_zero] at hQ
      exact hQ
    · obtain ⟨m2, hm2, hq350, hq0, hqP, hCh⟩ : ∃ m2, m = m2 + 1 ∧ 350 ≤ po ∧ 0 ≤ p ∧ P po p ∧ CHR v T P m2 (v po 3) (T 310 p) := by
        rcases hcs with h | h
        · exact absurd h.1 c_5
        · exact h
      subst hm2
      have hPo := hP po p hqP
      clear hcs
      refine aw_iinc (pc' := 11) (lv' := [_, _, _]) dX7_sizeOf_8 rfl rfl (by decide) (by first | exact w32_id (by omega) (by omega) | rfl) rfl ?_
      refine aw_aload_n (pc' := 12) rfl dX7_sizeOf_11 rfl ?_
      refine aw_getr (pc' := 15) (k9 := 3) dX7_sizeOf_12 rfl fX7_55 rfl rfl rfl hPo.2.1 ?_
      try simp (disch := omega) only [hv_cl, cl_set, sset_e, sset_1, sset_2, sset_ss, btX_4]
      refine aw_astore_n (pc' := 16) (lv' := [_, _, _]) dX7_sizeOf_15 rfl (by decide) rfl ?_
      refine aw_goto (pc' := 4) dX7_sizeOf_16 (by decide) ?_
      refine ih m2 (by omega) (v po 3) (T 310 p) (c + 1) hP hCh (by omega) (by omega) ?_
      rw [show c + 1 + cnT T m2 (T 310 p) = c + (1 + cnT T m2 (T 310 p)) by omega]
      have e9 : cnT T (m2 + 1) p = 1 + cnT T m2 (T 310 p) := if_neg (by omega)
      rw [← e9]
      exact hQ

set_option maxRecDepth 20000 in
theorem x_sizeOf {d : Nat} {T : Sg} {P : Int → Int → Prop} {po p : Int} {m : Nat} {A : AHp} {v : Sg} {Q : Option AV → AHp → Prop} (hd : 0 ≤ d) (hP : ∀ po p, P po p → PIP A po) (h : CHR v T P m po p) (hm : m ≤ 900) (hQ : Q (some (vi (cnT T m p))) (cl A v)) : CALL d mX7_sizeOf [vr po] (cl A v) Q := by
  refine CALL.of (by decide) (Nat.le_of_ble_eq_true rfl) ?_
  change AW d mX7_sizeOf 0 [some (vr po), none, none] [] (cl A v) Q
  refine aw_iconst (pc' := 1) (by decide) dX7_sizeOf_0 rfl ?_
  refine aw_istore_n (pc' := 2) (lv' := [_, _, _]) dX7_sizeOf_1 rfl (by decide) rfl ?_
  refine aw_aload_n (pc' := 3) rfl dX7_sizeOf_2 rfl ?_
  refine aw_astore_n (pc' := 4) (lv' := [_, _, _]) dX7_sizeOf_3 rfl (by decide) rfl ?_
  refine lx_size m po p 0 hP h (by omega) (by omega) ?_
  rw [Int.zero_add]
  exact hQ
