/-! ===== the reference: stages ===== -/
/-- next keeps to nx, if it may go K deep -/
def NXC (nx : Sg → Int → Int → Option (Int × Sg)) (K : Nat) : Prop := ∀ (d : Nat) (A : AHp) (s : Sg) (fr k x : Int) (t : Sg) (Q : Option AV → AHp → Prop), K ≤ d → MLAY A → nx s fr k = some (x, t) → Q (some (vl x)) (lift A t) → CALL d mX13_next [vr 307, vi fr, vi k] (lift A s) Q
theorem ahead_z {nx : Sg → Int → Int → Option (Int × Sg)} {s t : Sg} {fr k x : Int} (hk : k = 0) (h : aheadS nx s fr k = some (x, t)) : x = (-9223372036854775808) ∧ t = sset s 307 34 (w32 (s 307 34 + if x = (-9223372036854775808) then 0 else 1)) := by
  unfold aheadS at h
  rw [if_pos hk, Option.bind_some, Option.some.injEq, Prod.mk.injEq] at h
  obtain ⟨h1, h2⟩ := h
  subst h1
  exact ⟨rfl, h2.symm⟩
theorem ahead_n {nx : Sg → Int → Int → Option (Int × Sg)} {s t : Sg} {fr k x : Int} (hk : k ≠ 0) (h : aheadS nx s fr k = some (x, t)) : ∃ r, nx s fr (k - 1) = some (x, r) ∧ t = sset r 307 34 (w32 (r 307 34 + if x = (-9223372036854775808) then 0 else 1)) := by
  unfold aheadS at h
  rw [if_neg hk] at h
  obtain ⟨⟨a, r⟩, h1, h2⟩ := Option.bind_eq_some_iff.mp h
  rw [Option.some.injEq, Prod.mk.injEq] at h2
  obtain ⟨h3, h4⟩ := h2
  simp only at h3
  subst h3
  exact ⟨r, h1, h4.symm⟩
set_option maxRecDepth 20000 in
theorem l_ahT {d : Nat} {A : AHp} {r : Sg} {fr k x : Int} {Q : Option AV → AHp → Prop} (hM : MLAY A) (hQ : Q (some (vl x)) (lift A (sset r 307 34 (w32 (r 307 34 + if x = (-9223372036854775808) then 0 else 1))))) : AW d mX13_ahead 19 [some (vr 307), some (vi fr), some (vi k), some (vl x), none] [] (lift A r) Q := by
  refine aw_aload_n (pc' := 20) rfl dX13_ahead_19 rfl ?_
  refine aw_dup (pc' := 21) rfl dX13_ahead_20 rfl ?_
  refine aw_geti (pc' := 24) (k9 := 34) dX13_ahead_21 rfl fX13_279 rfl (by decide) rfl (MO (A := (lift A r)) hM) ?_
  try simp (disch := omega) only [hv_in, lift_set, sset_e, sset_1, sset_2, workS_o, stagesS_o, beginsS_o]
  refine aw_lload_n (pc' := 25) rfl dX13_ahead_24 rfl ?_
  refine aw_ldc2 (x := (-9223372036854775808)) (pc' := 28) qX13_267 (by decide) dX13_ahead_25 rfl ?_
  refine aw_lcmp (pc' := 29) dX13_ahead_28 rfl ?_
  refine aw_if_ne (pt := 36) (pf := 32) dX13_ahead_29 (by decide) rfl (fun c_29 => ?_) (fun c_29 => ?_)
  · replace c_29 := (not_congr cmp_eq).mp c_29
    refine aw_iconst (pc' := 37) (by decide) dX13_ahead_36 rfl ?_
    refine aw_iadd (pc' := 38) rfl dX13_ahead_37 rfl ?_
    refine aw_puti (pc' := 41) (k9 := 34) dX13_ahead_38 rfl fX13_279 rfl rfl rfl (MO (A := (lift A r)) hM) ?_
    refine aw_lload_n (pc' := 42) rfl dX13_ahead_41 rfl ?_
    refine AW.ret (some (vl _)) dX13_ahead_42 trivial ?_
    try simp (disch := omega) only [hv_in, lift_set, sset_e, sset_1, sset_2, workS_o, stagesS_o, beginsS_o]
    simp (disch := omega) only [if_pos, if_neg] at hQ
    exact hQ
  · replace c_29 := Classical.not_not.mp c_29
    replace c_29 := (cmp_eq).mp c_29
    refine aw_iconst (pc' := 33) (by decide) dX13_ahead_32 rfl ?_
    refine aw_goto (pc' := 37) dX13_ahead_33 (by decide) ?_
    refine aw_iadd (pc' := 38) rfl dX13_ahead_37 rfl ?_
    refine aw_puti (pc' := 41) (k9 := 34) dX13_ahead_38 rfl fX13_279 rfl rfl rfl (MO (A := (lift A r)) hM) ?_
    refine aw_lload_n (pc' := 42) rfl dX13_ahead_41 rfl ?_
    refine AW.ret (some (vl _)) dX13_ahead_42 trivial ?_
    try simp (disch := omega) only [hv_in, lift_set, sset_e, sset_1, sset_2, workS_o, stagesS_o, beginsS_o]
    simp (disch := omega) only [if_pos, if_neg] at hQ
    exact hQ

set_option maxRecDepth 20000 in
theorem c_ahead {d : Nat} {nx : Sg → Int → Int → Option (Int × Sg)} {K : Nat} {fr k x : Int} {t : Sg} {A : AHp} {s : Sg} {Q : Option AV → AHp → Prop} (hd : K + 1 ≤ d) (hM : MLAY A) (hN : NXC nx K) (hk : 0 ≤ k ∧ k ≤ 5) (h : aheadS nx s fr k = some (x, t)) (hQ : Q (some (vl x)) (lift A t)) : CALL d mX13_ahead [vr 307, vi fr, vi k] (lift A s) Q := by
  refine CALL.of (by decide) (Nat.le_of_ble_eq_true rfl) ?_
  change AW d mX13_ahead 0 [some (vr 307), some (vi fr), some (vi k), none, none] [] (lift A s) Q
  refine aw_iload_n (pc' := 1) rfl dX13_ahead_0 rfl ?_
  refine aw_if_ne (pt := 10) (pf := 4) dX13_ahead_1 (by decide) rfl (fun c_1 => ?_) (fun c_1 => ?_)
  · refine aw_aload_n (pc' := 11) rfl dX13_ahead_10 rfl ?_
    refine aw_iload_n (pc' := 12) rfl dX13_ahead_11 rfl ?_
    refine aw_iload_n (pc' := 13) rfl dX13_ahead_12 rfl ?_
    refine aw_iconst (pc' := 14) (by decide) dX13_ahead_13 rfl ?_
    refine aw_isub (pc' := 15) (by first | exact w32_id (by omega) (by omega) | rfl) dX13_ahead_14 rfl ?_
    refine aw_callV (ci := 11) (d' := d - 1) (as := [_, _]) (pc' := 18) (by decide) rfl kX13_next iX13_next sX13_next lX13_275 (MO (A := (lift A s)) hM) dX13_ahead_15 rfl rfl (Nat.le_of_ble_eq_true rfl) (by omega) ?_
    obtain ⟨r, g1, g2⟩ := ahead_n (by omega) h
    subst g2
    refine hN _ A _ _ _ _ _ _ (by omega) hM g1 ?_
    refine aw_lstore_n (pc' := 19) (lv' := [_, _, _, _, _]) dX13_ahead_18 rfl (by decide) rfl ?_
    exact l_ahT hM hQ
  · replace c_1 := Classical.not_not.mp c_1
    refine aw_ldc2 (x := (-9223372036854775808)) (pc' := 7) qX13_267 (by decide) dX13_ahead_4 rfl ?_
    refine aw_goto (pc' := 18) dX13_ahead_7 (by decide) ?_
    refine aw_lstore_n (pc' := 19) (lv' := [_, _, _, _, _]) dX13_ahead_18 rfl (by decide) rfl ?_
    obtain ⟨g1, g2⟩ := ahead_z (by omega) h
    subst g1 g2
    exact l_ahT hM hQ

theorem keeps_s {nx : Sg → Int → Int → Option (Int × Sg)} {s t : Sg} {fr k n x : Int} {m : Nat} (h : keepsS nx fr k n m s = some (x, t)) : ∃ m' a r, m = m' + 1 ∧ aheadS nx s fr k = some (a, r) ∧ ((a = (-9223372036854775808) ∨ (if n = 0 then a = 0 else a.tmod n = 0)) ∧ x = a ∧ t = r ∨ ¬ (a = (-9223372036854775808) ∨ (if n = 0 then a = 0 else a.tmod n = 0)) ∧ keepsS nx fr k n m' r = some (x, t)) := by
  cases m with
  | zero => simp [keepsS] at h
  | succ m =>
    unfold keepsS at h
    obtain ⟨⟨a, r⟩, h1, h2⟩ := Option.bind_eq_some_iff.mp h
    refine ⟨m, a, r, rfl, h1, ?_⟩
    by_cases e : a = (-9223372036854775808) ∨ (if n = 0 then a = 0 else a.tmod n = 0)
    · rw [if_pos e, Option.some.injEq, Prod.mk.injEq] at h2
      exact Or.inl ⟨e, h2.1.symm, h2.2.symm⟩
    · rw [if_neg e] at h2
      exact Or.inr ⟨e, h2⟩
theorem sums_s {nx : Sg → Int → Int → Option (Int × Sg)} {s t : Sg} {fr k a z : Int} {m : Nat} (h : sumsS nx fr k m a s = some (z, t)) : ∃ m' x r, m = m' + 1 ∧ aheadS nx s fr k = some (x, r) ∧ (if x = (-9223372036854775808) then some (a, r) else sumsS nx fr k m' (w32 (a + w32 x)) r) = some (z, t) := by
  cases m with
  | zero => simp [sumsS] at h
  | succ m =>
    unfold sumsS at h
    obtain ⟨⟨x, r⟩, h1, h2⟩ := Option.bind_eq_some_iff.mp h
    exact ⟨m, x, r, rfl, h1, h2⟩
theorem sets_s {nx : Sg → Int → Int → Option (Int × Sg)} {s t : Sg} {fr k : Int} {a z : Option Int} {m : Nat} (h : setsS nx fr k m a s = some (z, t)) : ∃ m' x r, m = m' + 1 ∧ aheadS nx s fr k = some (x, r) ∧ (if x = (-9223372036854775808) then some (a, r) else setsS nx fr k m' (some (w32 x)) r) = some (z, t) := by
  cases m with
  | zero => simp [setsS] at h
  | succ m =>
    unfold setsS at h
    obtain ⟨⟨x, r⟩, h1, h2⟩ := Option.bind_eq_some_iff.mp h
    exact ⟨m, x, r, rfl, h1, h2⟩
set_option maxRecDepth 20000 in
theorem l_keeps {d : Nat} {A : AHp} {nx : Sg → Int → Int → Option (Int × Sg)} {K : Nat} {fr k n x : Int} {t : Sg} {Q : Option AV → AHp → Prop} : ∀ (m : Nat) (s : Sg), K + 2 ≤ d → MLAY A → NXC nx K → (0 ≤ k ∧ k ≤ 5) → keepsS nx fr k n m s = some (x, t) → Q (some (vl x)) (lift A t) → ∀ (L4 L5 : Option AV), AW d mX13_keeps 0 [some (vr 307), some (vi fr), some (vi k), some (vi n), L4, L5] [] (lift A s) Q := by
  intro m
  induction m using Nat.strongRecOn with
  | _ m ih =>
    intro s hd hM hN hk h hQ L4 L5
    obtain ⟨m1, a, r, g1, g2, g3⟩ := keeps_s h
    refine aw_aload_n (pc' := 1) rfl dX13_keeps_0 rfl ?_
    refine aw_iload_n (pc' := 2) rfl dX13_keeps_1 rfl ?_
    refine aw_iload_n (pc' := 3) rfl dX13_keeps_2 rfl ?_
    refine aw_callV (ci := 11) (d' := d - 1) (as := [_, _]) (pc' := 6) (by decide) rfl kX13_ahead iX13_ahead sX13_ahead lX13_289 (MO (A := (lift A s)) hM) dX13_keeps_3 rfl rfl (Nat.le_of_ble_eq_true rfl) (by omega) ?_
    refine c_ahead (by omega) hM hN hk g2 ?_
    refine aw_lstore (pc' := 8) (lv' := [_, _, _, _, _, _]) dX13_keeps_6 rfl (by decide) rfl ?_
    refine aw_lload (pc' := 10) rfl dX13_keeps_8 rfl ?_
    refine aw_ldc2 (x := (-9223372036854775808)) (pc' := 13) qX13_267 (by decide) dX13_keeps_10 rfl ?_
    refine aw_lcmp (pc' := 14) dX13_keeps_13 rfl ?_
    refine aw_if_eq (pt := 41) (pf := 17) dX13_keeps_14 (by decide) rfl (fun c_14 => ?_) (fun c_14 => ?_)
    · replace c_14 := (cmp_eq).mp c_14
      refine aw_lload (pc' := 43) rfl dX13_keeps_41 rfl ?_
      refine AW.ret (some (vl _)) dX13_keeps_43 trivial ?_
      rcases g3 with ⟨_, g4, g5⟩ | ⟨g3, _⟩
      · subst g4 g5
        exact hQ
      · exfalso
        apply g3
        first | exact Or.inl (by omega) | (refine Or.inr ?_; first | (rw [if_pos (by omega)]; omega) | (rw [if_neg (by omega)]; omega))
    · replace c_14 := (not_congr cmp_eq).mp c_14
      refine aw_iload_n (pc' := 18) rfl dX13_keeps_17 rfl ?_
      refine aw_if_ne (pt := 31) (pf := 21) dX13_keeps_18 (by decide) rfl (fun c_18 => ?_) (fun c_18 => ?_)
      · refine aw_lload (pc' := 33) rfl dX13_keeps_31 rfl ?_
        refine aw_iload_n (pc' := 34) rfl dX13_keeps_33 rfl ?_
        refine aw_i2l (pc' := 35) dX13_keeps_34 rfl ?_
        refine aw_lrem (pc' := 36) (by omega) rfl dX13_keeps_35 rfl ?_
        refine aw_lconst (x := 0) (pc' := 37) (by decide +kernel) dX13_keeps_36 rfl ?_
        refine aw_lcmp (pc' := 38) dX13_keeps_37 rfl ?_
        refine aw_if_ne (pt := 44) (pf := 41) dX13_keeps_38 (by decide) rfl (fun c_38 => ?_) (fun c_38 => ?_)
        · replace c_38 := (not_congr cmp_eq).mp c_38
          refine aw_goto (pc' := 0) dX13_keeps_44 (by decide) ?_
          rcases g3 with ⟨g3, _⟩ | ⟨_, g4⟩
          · exfalso
            rcases g3 with g3 | g3
            · omega
            · split at g3 <;> omega
          · exact ih m1 (by omega) r hd hM hN hk g4 hQ _ _
        · replace c_38 := Classical.not_not.mp c_38
          replace c_38 := (cmp_eq).mp c_38
          refine aw_lload (pc' := 43) rfl dX13_keeps_41 rfl ?_
          refine AW.ret (some (vl _)) dX13_keeps_43 trivial ?_
          rcases g3 with ⟨_, g4, g5⟩ | ⟨g3, _⟩
          · subst g4 g5
            exact hQ
          · exfalso
            apply g3
            first | exact Or.inl (by omega) | (refine Or.inr ?_; first | (rw [if_pos (by omega)]; omega) | (rw [if_neg (by omega)]; omega))
      · replace c_18 := Classical.not_not.mp c_18
        refine aw_lload (pc' := 23) rfl dX13_keeps_21 rfl ?_
        refine aw_lconst (x := 0) (pc' := 24) (by decide +kernel) dX13_keeps_23 rfl ?_
        refine aw_lcmp (pc' := 25) dX13_keeps_24 rfl ?_
        refine aw_if_ne (pt := 44) (pf := 28) dX13_keeps_25 (by decide) rfl (fun c_25 => ?_) (fun c_25 => ?_)
        · replace c_25 := (not_congr cmp_eq).mp c_25
          refine aw_goto (pc' := 0) dX13_keeps_44 (by decide) ?_
          rcases g3 with ⟨g3, _⟩ | ⟨_, g4⟩
          · exfalso
            rcases g3 with g3 | g3
            · omega
            · split at g3 <;> omega
          · exact ih m1 (by omega) r hd hM hN hk g4 hQ _ _
        · replace c_25 := Classical.not_not.mp c_25
          replace c_25 := (cmp_eq).mp c_25
          refine aw_goto (pc' := 41) dX13_keeps_28 (by decide) ?_
          refine aw_lload (pc' := 43) rfl dX13_keeps_41 rfl ?_
          refine AW.ret (some (vl _)) dX13_keeps_43 trivial ?_
          rcases g3 with ⟨_, g4, g5⟩ | ⟨g3, _⟩
          · subst g4 g5
            exact hQ
          · exfalso
            apply g3
            first | exact Or.inl (by omega) | (refine Or.inr ?_; first | (rw [if_pos (by omega)]; omega) | (rw [if_neg (by omega)]; omega))

set_option maxRecDepth 20000 in
theorem l_sums {d : Nat} {A : AHp} {nx : Sg → Int → Int → Option (Int × Sg)} {K : Nat} {fr k z i : Int} {t : Sg} {Q : Option AV → AHp → Prop} : ∀ (m : Nat) (a x : Int) (r : Sg), K + 2 ≤ d → MLAY A → NXC nx K → (0 ≤ k ∧ k ≤ 5) → (if x = (-9223372036854775808) then some (a, r) else sumsS nx fr k m (w32 (a + w32 x)) r) = some (z, t) → Q (some (vl z)) (lift A t) → AW d mX13_sums 39 [some (vr 307), some (vi fr), some (vi k), some (vi i), some (vi a), some (vl x), none] [] (lift A r) Q := by
  intro m
  induction m using Nat.strongRecOn with
  | _ m ih =>
    intro a x r hd hM hN hk h hQ
    refine aw_lload (pc' := 41) rfl dX13_sums_39 rfl ?_
    refine aw_ldc2 (x := (-9223372036854775808)) (pc' := 44) qX13_267 (by decide) dX13_sums_41 rfl ?_
    refine aw_lcmp (pc' := 45) dX13_sums_44 rfl ?_
    refine aw_if_eq (pt := 67) (pf := 48) dX13_sums_45 (by decide) rfl (fun c_45 => ?_) (fun c_45 => ?_)
    · replace c_45 := (cmp_eq).mp c_45
      refine aw_iload (pc' := 69) rfl dX13_sums_67 rfl ?_
      refine aw_i2l (pc' := 70) dX13_sums_69 rfl ?_
      refine AW.ret (some (vl _)) dX13_sums_70 trivial ?_
      rw [if_pos (by omega), Option.some.injEq, Prod.mk.injEq] at h
      obtain ⟨g1, g2⟩ := h
      subst g1 g2
      exact hQ
    · replace c_45 := (not_congr cmp_eq).mp c_45
      refine aw_iload (pc' := 50) rfl dX13_sums_48 rfl ?_
      refine aw_lload (pc' := 52) rfl dX13_sums_50 rfl ?_
      refine aw_l2i (pc' := 53) rfl dX13_sums_52 rfl ?_
      refine aw_iadd (pc' := 54) rfl dX13_sums_53 rfl ?_
      refine aw_istore (pc' := 56) (lv' := [_, _, _, _, _, _, _]) dX13_sums_54 rfl (by decide) rfl ?_
      refine aw_aload_n (pc' := 57) rfl dX13_sums_56 rfl ?_
      refine aw_iload_n (pc' := 58) rfl dX13_sums_57 rfl ?_
      refine aw_iload_n (pc' := 59) rfl dX13_sums_58 rfl ?_
      refine aw_callV (ci := 11) (d' := d - 1) (as := [_, _]) (pc' := 62) (by decide) rfl kX13_ahead iX13_ahead sX13_ahead lX13_289 (MO (A := (lift A r)) hM) dX13_sums_59 rfl rfl (Nat.le_of_ble_eq_true rfl) (by omega) ?_
      rw [if_neg (by omega)] at h
      obtain ⟨m1, x1, r1, g1, g2, g3⟩ := sums_s h
      refine c_ahead (by omega) hM hN hk g2 ?_
      refine aw_lstore (pc' := 64) (lv' := [_, _, _, _, _, _, _]) dX13_sums_62 rfl (by decide) rfl ?_
      refine aw_goto (pc' := 39) dX13_sums_64 (by decide) ?_
      exact ih m1 (by omega) _ _ _ hd hM hN hk g3 hQ

set_option maxRecDepth 20000 in
theorem c_sums {d : Nat} {nx : Sg → Int → Int → Option (Int × Sg)} {K : Nat} {fr k z : Int} {t : Sg} {A : AHp} {s : Sg} {Q : Option AV → AHp → Prop} (hd : K + 2 ≤ d) (hM : MLAY A) (hN : NXC nx K) (hfr : 0 ≤ fr ∧ fr < 28) (hk : 0 ≤ k ∧ k ≤ 5) (h : (if s 326 (6 * fr + k) = 1 then some ((-9223372036854775808), s) else sumsS nx fr k 200 0 (sset s 326 (6 * fr + k) 1)) = some (z, t)) (hQ : Q (some (vl z)) (lift A t)) : CALL d mX13_sums [vr 307, vi fr, vi k] (lift A s) Q := by
  refine CALL.of (by decide) (Nat.le_of_ble_eq_true rfl) ?_
  change AW d mX13_sums 0 [some (vr 307), some (vi fr), some (vi k), none, none, none, none] [] (lift A s) Q
  refine aw_bipush (pc' := 2) (by decide +kernel) dX13_sums_0 rfl ?_
  refine aw_iload_n (pc' := 3) rfl dX13_sums_2 rfl ?_
  refine aw_imul (pc' := 4) (by first | exact w32_id (by omega) (by omega) | rfl) dX13_sums_3 rfl ?_
  refine aw_iload_n (pc' := 5) rfl dX13_sums_4 rfl ?_
  refine aw_iadd (pc' := 6) (by first | exact w32_id (by omega) (by omega) | rfl) dX13_sums_5 rfl ?_
  refine aw_istore_n (pc' := 7) (lv' := [_, _, _, _, _, _, _]) dX13_sums_6 rfl (by decide) rfl ?_
  refine aw_aload_n (pc' := 8) rfl dX13_sums_7 rfl ?_
  refine aw_getp (pc' := 11) (k9 := 27) (p := 326) dX13_sums_8 rfl fX13_101 rfl rfl rfl (MO (A := (lift A s)) hM) (M_place (A := (lift A s)) hM) ?_
  refine aw_iload_n (pc' := 12) rfl dX13_sums_11 rfl ?_
  refine aw_iald (pc' := 13) dX13_sums_12 rfl (MA_place (A := (lift A s)) hM) (by omega) (by omega) ?_
  try simp (disch := omega) only [hv_in, lift_set, sset_e, sset_1, sset_2, workS_o, stagesS_o, beginsS_o]
  refine aw_iconst (pc' := 14) (by decide) dX13_sums_13 rfl ?_
  refine aw_icmp_ne (pt := 21) (pf := 17) dX13_sums_14 (by decide) rfl (fun c_14 => ?_) (fun c_14 => ?_)
  · refine aw_aload_n (pc' := 22) rfl dX13_sums_21 rfl ?_
    refine aw_getp (pc' := 25) (k9 := 27) (p := 326) dX13_sums_22 rfl fX13_101 rfl rfl rfl (MO (A := (lift A s)) hM) (M_place (A := (lift A s)) hM) ?_
    refine aw_iload_n (pc' := 26) rfl dX13_sums_25 rfl ?_
    refine aw_iconst (pc' := 27) (by decide) dX13_sums_26 rfl ?_
    refine aw_iast (pc' := 28) dX13_sums_27 rfl (MA_place (A := (lift A s)) hM) (by omega) (by omega) ?_
    refine aw_iconst (pc' := 29) (by decide) dX13_sums_28 rfl ?_
    refine aw_istore (pc' := 31) (lv' := [_, _, _, _, _, _, _]) dX13_sums_29 rfl (by decide) rfl ?_
    refine aw_aload_n (pc' := 32) rfl dX13_sums_31 rfl ?_
    refine aw_iload_n (pc' := 33) rfl dX13_sums_32 rfl ?_
    refine aw_iload_n (pc' := 34) rfl dX13_sums_33 rfl ?_
    refine aw_callV (ci := 11) (d' := d - 1) (as := [_, _]) (pc' := 37) (by decide) rfl kX13_ahead iX13_ahead sX13_ahead lX13_289 (MO (A := (lift A s)) hM) dX13_sums_34 rfl rfl (Nat.le_of_ble_eq_true rfl) (by omega) ?_
    rw [if_neg (by omega)] at h
    obtain ⟨m1, x1, r1, g1, g2, g3⟩ := sums_s h
    try simp (disch := omega) only [hv_in, lift_set, sset_e, sset_1, sset_2, workS_o, stagesS_o, beginsS_o]
    refine c_ahead (by omega) hM hN hk g2 ?_
    refine aw_lstore (pc' := 39) (lv' := [_, _, _, _, _, _, _]) dX13_sums_37 rfl (by decide) rfl ?_
    exact l_sums m1 0 x1 r1 hd hM hN hk g3 hQ
  · replace c_14 := Classical.not_not.mp c_14
    refine aw_ldc2 (x := (-9223372036854775808)) (pc' := 20) qX13_267 (by decide) dX13_sums_17 rfl ?_
    refine AW.ret (some (vl _)) dX13_sums_20 trivial ?_
    rw [if_pos (by omega), Option.some.injEq, Prod.mk.injEq] at h
    obtain ⟨g1, g2⟩ := h
    subst g1 g2
    exact hQ

set_option maxRecDepth 20000 in
theorem l_sets {d : Nat} {A : AHp} {nx : Sg → Int → Int → Option (Int × Sg)} {K : Nat} {fr k n : Int} {z : Option Int} {t : Sg} {Q : Option AV → AHp → Prop} : ∀ (m : Nat) (f v x : Int) (a : Option Int) (r : Sg), K + 2 ≤ d → MLAY A → NXC nx K → (0 ≤ fr ∧ fr < 28) → (0 ≤ k ∧ k ≤ 5) → (0 ≤ n ∧ n < 5) → (f = 0 ∧ a = none ∨ f = 1 ∧ a = some v) → (if x = (-9223372036854775808) then some (a, r) else setsS nx fr k m (some (w32 x)) r) = some (z, t) → Q (some (vl (-9223372036854775808))) (lift A (putS z t n fr k)) → AW d mX13_sets 14 [some (vr 307), some (vi fr), some (vi k), some (vi n), some (vi f), some (vi v), some (vl x), none] [] (lift A r) Q := by
  intro m
  induction m using Nat.strongRecOn with
  | _ m ih =>
    intro f v x a r hd hM hN hfr hk hn hf h hQ
    refine aw_lload (pc' := 16) rfl dX13_sets_14 rfl ?_
    refine aw_ldc2 (x := (-9223372036854775808)) (pc' := 19) qX13_267 (by decide) dX13_sets_16 rfl ?_
    refine aw_lcmp (pc' := 20) dX13_sets_19 rfl ?_
    refine aw_if_eq (pt := 42) (pf := 23) dX13_sets_20 (by decide) rfl (fun c_20 => ?_) (fun c_20 => ?_)
    · replace c_20 := (cmp_eq).mp c_20
      refine aw_iload (pc' := 44) rfl dX13_sets_42 rfl ?_
      refine aw_if_eq (pt := 67) (pf := 47) dX13_sets_44 (by decide) rfl (fun c_44 => ?_) (fun c_44 => ?_)
      · refine aw_ldc2 (x := (-9223372036854775808)) (pc' := 70) qX13_267 (by decide) dX13_sets_67 rfl ?_
        refine AW.ret (some (vl _)) dX13_sets_70 trivial ?_
        try simp (disch := omega) only [hv_in, lift_set, sset_e, sset_1, sset_2, workS_o, stagesS_o, beginsS_o]
        rw [if_pos (by omega), Option.some.injEq, Prod.mk.injEq] at h
        obtain ⟨g1, g2⟩ := h
        rcases hf with ⟨hf, g3⟩ | ⟨hf, g3⟩
        · first | (exfalso; omega) | (subst g1 g2; subst g3; exact hQ)
        · first | (exfalso; omega) | (subst g1 g2; subst g3; exact hQ)
      · refine aw_aload_n (pc' := 48) rfl dX13_sets_47 rfl ?_
        refine aw_getp (pc' := 51) (k9 := 13) (p := 320) dX13_sets_48 rfl fX13_79 rfl rfl rfl (MO (A := (lift A r)) hM) (M_values (A := (lift A r)) hM) ?_
        refine aw_iload_n (pc' := 52) rfl dX13_sets_51 rfl ?_
        refine aw_iload (pc' := 54) rfl dX13_sets_52 rfl ?_
        refine aw_iast (pc' := 55) dX13_sets_54 rfl (MA_values (A := (lift A r)) hM) (by omega) (by omega) ?_
        refine aw_aload_n (pc' := 56) rfl dX13_sets_55 rfl ?_
        refine aw_getp (pc' := 59) (k9 := 29) (p := 328) dX13_sets_56 rfl fX13_108 rfl rfl rfl (MO (A := (lift A r)) hM) (M_status (A := (lift A r)) hM) ?_
        refine aw_bipush (pc' := 61) (by decide +kernel) dX13_sets_59 rfl ?_
        refine aw_iload_n (pc' := 62) rfl dX13_sets_61 rfl ?_
        refine aw_imul (pc' := 63) (by first | exact w32_id (by omega) (by omega) | rfl) dX13_sets_62 rfl ?_
        refine aw_iload_n (pc' := 64) rfl dX13_sets_63 rfl ?_
        refine aw_iadd (pc' := 65) (by first | exact w32_id (by omega) (by omega) | rfl) dX13_sets_64 rfl ?_
        refine aw_iconst (pc' := 66) (by decide) dX13_sets_65 rfl ?_
        refine aw_iast (pc' := 67) dX13_sets_66 rfl (MA_status (A := (lift A r)) hM) (by omega) (by omega) ?_
        refine aw_ldc2 (x := (-9223372036854775808)) (pc' := 70) qX13_267 (by decide) dX13_sets_67 rfl ?_
        refine AW.ret (some (vl _)) dX13_sets_70 trivial ?_
        try simp (disch := omega) only [hv_in, lift_set, sset_e, sset_1, sset_2, workS_o, stagesS_o, beginsS_o]
        rw [if_pos (by omega), Option.some.injEq, Prod.mk.injEq] at h
        obtain ⟨g1, g2⟩ := h
        rcases hf with ⟨hf, g3⟩ | ⟨hf, g3⟩
        · first | (exfalso; omega) | (subst g1 g2; subst g3; exact hQ)
        · first | (exfalso; omega) | (subst g1 g2; subst g3; exact hQ)
    · replace c_20 := (not_congr cmp_eq).mp c_20
      refine aw_iconst (pc' := 24) (by decide) dX13_sets_23 rfl ?_
      refine aw_istore (pc' := 26) (lv' := [_, _, _, _, _, _, _, _]) dX13_sets_24 rfl (by decide) rfl ?_
      refine aw_lload (pc' := 28) rfl dX13_sets_26 rfl ?_
      refine aw_l2i (pc' := 29) rfl dX13_sets_28 rfl ?_
      refine aw_istore (pc' := 31) (lv' := [_, _, _, _, _, _, _, _]) dX13_sets_29 rfl (by decide) rfl ?_
      refine aw_aload_n (pc' := 32) rfl dX13_sets_31 rfl ?_
      refine aw_iload_n (pc' := 33) rfl dX13_sets_32 rfl ?_
      refine aw_iload_n (pc' := 34) rfl dX13_sets_33 rfl ?_
      refine aw_callV (ci := 11) (d' := d - 1) (as := [_, _]) (pc' := 37) (by decide) rfl kX13_ahead iX13_ahead sX13_ahead lX13_289 (MO (A := (lift A r)) hM) dX13_sets_34 rfl rfl (Nat.le_of_ble_eq_true rfl) (by omega) ?_
      rw [if_neg (by omega)] at h
      obtain ⟨m1, x1, r1, g1, g2, g3⟩ := sets_s h
      refine c_ahead (by omega) hM hN hk g2 ?_
      refine aw_lstore (pc' := 39) (lv' := [_, _, _, _, _, _, _, _]) dX13_sets_37 rfl (by decide) rfl ?_
      refine aw_goto (pc' := 14) dX13_sets_39 (by decide) ?_
      exact ih m1 (by omega) _ _ _ _ _ hd hM hN hfr hk hn (Or.inr ⟨rfl, rfl⟩) g3 hQ

set_option maxRecDepth 20000 in
theorem c_sets {d : Nat} {nx : Sg → Int → Int → Option (Int × Sg)} {K : Nat} {fr k n : Int} {z : Option Int} {t : Sg} {A : AHp} {s : Sg} {Q : Option AV → AHp → Prop} (hd : K + 2 ≤ d) (hM : MLAY A) (hN : NXC nx K) (hfr : 0 ≤ fr ∧ fr < 28) (hk : 0 ≤ k ∧ k ≤ 5) (hn : 0 ≤ n ∧ n < 5) (h : setsS nx fr k 200 none s = some (z, t)) (hQ : Q (some (vl (-9223372036854775808))) (lift A (putS z t n fr k))) : CALL d mX13_sets [vr 307, vi fr, vi k, vi n] (lift A s) Q := by
  refine CALL.of (by decide) (Nat.le_of_ble_eq_true rfl) ?_
  change AW d mX13_sets 0 [some (vr 307), some (vi fr), some (vi k), some (vi n), none, none, none, none] [] (lift A s) Q
  refine aw_iconst (pc' := 1) (by decide) dX13_sets_0 rfl ?_
  refine aw_istore (pc' := 3) (lv' := [_, _, _, _, _, _, _, _]) dX13_sets_1 rfl (by decide) rfl ?_
  refine aw_iconst (pc' := 4) (by decide) dX13_sets_3 rfl ?_
  refine aw_istore (pc' := 6) (lv' := [_, _, _, _, _, _, _, _]) dX13_sets_4 rfl (by decide) rfl ?_
  refine aw_aload_n (pc' := 7) rfl dX13_sets_6 rfl ?_
  refine aw_iload_n (pc' := 8) rfl dX13_sets_7 rfl ?_
  refine aw_iload_n (pc' := 9) rfl dX13_sets_8 rfl ?_
  refine aw_callV (ci := 11) (d' := d - 1) (as := [_, _]) (pc' := 12) (by decide) rfl kX13_ahead iX13_ahead sX13_ahead lX13_289 (MO (A := (lift A s)) hM) dX13_sets_9 rfl rfl (Nat.le_of_ble_eq_true rfl) (by omega) ?_
  obtain ⟨m1, x1, r1, g1, g2, g3⟩ := sets_s h
  refine c_ahead (by omega) hM hN hk g2 ?_
  refine aw_lstore (pc' := 14) (lv' := [_, _, _, _, _, _, _, _]) dX13_sets_12 rfl (by decide) rfl ?_
  exact l_sets m1 0 0 x1 none r1 hd hM hN hfr hk hn (Or.inl ⟨rfl, rfl⟩) g3 hQ
