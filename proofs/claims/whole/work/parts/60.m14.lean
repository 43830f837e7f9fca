/-! ===== the reference: fits, odds, ends ===== -/
/-- a row of runs: of the i-th the NAME is f i -/
def FAM (n : Nat) (l name : Int) (f : Nat → Int) (c : Nat) (s : Sg) (B W : Nat → Sg) : Prop := B 0 = sset s 320 name (f 0) ∧ (∀ i : Nat, i < c → thinksS n l (B i) = some (W i)) ∧ ∀ i : Nat, i + 1 < c → B (i + 1) = sset (W i) 320 name (f (i + 1))
noncomputable def seenS (t : Sg) : Bool := @decide (∀ j, 0 ≤ j → j < t 307 49 → t 339 (2 * j) < t 307 36 ∧ t 331 (t 339 (2 * j)) = t 339 (2 * j + 1)) (Classical.propDecidable _)
def cntB (b : Nat → Bool) : Nat → Int
  | 0 => 0
  | n + 1 => cntB b n + if b n then 1 else 0
/-- the last i below n with b, as 19 - i; -5: none -/
def lstB (b : Nat → Bool) : Nat → Int
  | 0 => -5
  | n + 1 => if b n then 19 - (n : Int) else lstB b n
theorem cntB_b {b : Nat → Bool} : ∀ n : Nat, 0 ≤ cntB b n ∧ cntB b n ≤ n
  | 0 => ⟨Int.le_refl _, Int.le_refl _⟩
  | n + 1 => by
    have := cntB_b (b := b) n
    unfold cntB
    split <;> omega
set_option maxRecDepth 20000 in
theorem l_fits {d : Nat} {A : AHp} {s0 : Sg} {n : Nat} {l name p was : Int} {B W : Nat → Sg} {Q : Option AV → AHp → Prop} : ∀ (m : Nat) (i : Nat) (s : Sg) (c e v : Int), 20 - i = m → 6 * n + 6 ≤ d → MLAY A → (∀ (d : Nat) (A : AHp) (a b : Int) (Q : Option AV → AHp → Prop), Q (some (vi (min a b))) A → CALL d mJ9_min_7cf53 [vi a, vi b] A Q) → i ≤ 20 → v = 19 - (i : Int) → (0 ≤ l ∧ l < 8) → (0 ≤ name ∧ name ≤ 4) → FAM n l name (fun i => 19 - (i : Int)) 20 s0 B W → (∀ i : Nat, i < 20 → (0 ≤ W i 307 49 ∧ W i 307 49 ≤ 5) ∧ W i 307 36 ≤ 60 ∧ ∀ j, 0 ≤ j → j < W i 307 49 → 0 ≤ W i 339 (2 * j) ∧ W i 339 (2 * j) ≤ 59) → (∀ i' : Nat, i' < 20 → i' = i → sset s 320 name v = B i') → (i = 20 → s = W 19) → c = cntB (fun i => seenS (W i)) i → e = lstB (fun i => seenS (W i)) i → Q (some (vi (if p = 0 then cntB (fun i => seenS (W i)) 20 else lstB (fun i => seenS (W i)) 20))) (lift A (sset (W 19) 320 name was)) → AW d mX13_fits 46 [some (vr 307), some (vi l), some (vi name), some (vi p), some (vi was), some (vi c), some (vi e), some (vi v)] [] (lift A s) Q := by
  intro m
  induction m using Nat.strongRecOn with
  | _ m ih =>
    intro i s c e v hm hd hM hMin hi ev hl hnm hF hWB hB h20 ec ee hQ
    have hcb := cntB_b (b := fun i => seenS (W i)) i
    rw [← ec] at hcb
    refine aw_iload (pc' := 48) rfl dX13_fits_46 rfl ?_
    refine aw_if_lt (pt := 84) (pf := 51) dX13_fits_48 (by decide) rfl (fun c_48 => ?_) (fun c_48 => ?_)
    · refine aw_aload_n (pc' := 85) rfl dX13_fits_84 rfl ?_
      refine aw_getp (pc' := 88) (k9 := 13) (p := 320) dX13_fits_85 rfl fX13_79 rfl rfl rfl (MO (A := (lift A s)) hM) (M_values (A := (lift A s)) hM) ?_
      refine aw_iload_n (pc' := 89) rfl dX13_fits_88 rfl ?_
      refine aw_iload (pc' := 91) rfl dX13_fits_89 rfl ?_
      refine aw_iast (pc' := 92) dX13_fits_91 rfl (MA_values (A := (lift A s)) hM) (by omega) (by omega) ?_
      refine aw_iload_n (pc' := 93) rfl dX13_fits_92 rfl ?_
      refine aw_if_ne (pt := 101) (pf := 96) dX13_fits_93 (by decide) rfl (fun c_93 => ?_) (fun c_93 => ?_)
      · refine aw_iload (pc' := 103) rfl dX13_fits_101 rfl ?_
        refine AW.ret (some (vi _)) dX13_fits_103 trivial ?_
        try simp (disch := omega) only [hv_in, lift_set, sset_e, sset_1, sset_2, workS_o, stagesS_o, beginsS_o, scpy_o, lift_cpy]
        have e20 := h20 (by omega)
        subst e20
        rw [show i = 20 by omega] at ec ee
        rw [← ec, ← ee] at hQ
        rw [if_neg (by omega)] at hQ
        exact hQ
      · replace c_93 := Classical.not_not.mp c_93
        refine aw_iload (pc' := 98) rfl dX13_fits_96 rfl ?_
        refine aw_goto (pc' := 103) dX13_fits_98 (by decide) ?_
        refine AW.ret (some (vi _)) dX13_fits_103 trivial ?_
        try simp (disch := omega) only [hv_in, lift_set, sset_e, sset_1, sset_2, workS_o, stagesS_o, beginsS_o, scpy_o, lift_cpy]
        have e20 := h20 (by omega)
        subst e20
        rw [show i = 20 by omega] at ec ee
        rw [← ec, ← ee] at hQ
        rw [if_pos (by omega)] at hQ
        exact hQ
    · refine aw_aload_n (pc' := 52) rfl dX13_fits_51 rfl ?_
      refine aw_getp (pc' := 55) (k9 := 13) (p := 320) dX13_fits_52 rfl fX13_79 rfl rfl rfl (MO (A := (lift A s)) hM) (M_values (A := (lift A s)) hM) ?_
      refine aw_iload_n (pc' := 56) rfl dX13_fits_55 rfl ?_
      refine aw_iload (pc' := 58) rfl dX13_fits_56 rfl ?_
      refine aw_iast (pc' := 59) dX13_fits_58 rfl (MA_values (A := (lift A s)) hM) (by omega) (by omega) ?_
      refine aw_aload_n (pc' := 60) rfl dX13_fits_59 rfl ?_
      refine aw_iload_n (pc' := 61) rfl dX13_fits_60 rfl ?_
      refine aw_callV (ci := 11) (d' := d - 1) (as := [_]) (pc' := 64) (by decide) rfl kX13_thinks iX13_thinks sX13_thinks lX13_364 (MO (A := (lift A s)) hM) dX13_fits_61 rfl rfl (Nat.le_of_ble_eq_true rfl) (by omega) ?_
      have hBi := hB i (by omega) rfl
      try simp (disch := omega) only [hv_in, lift_set, sset_e, sset_1, sset_2, workS_o, stagesS_o, beginsS_o, scpy_o, lift_cpy]
      rw [hBi]
      refine c_thinks (by omega) hM hMin hl (hF.2.1 i (by omega)) ?_
      obtain ⟨w1, w2, w3⟩ := hWB i (by omega)
      refine aw_aload_n (pc' := 65) rfl dX13_fits_64 rfl ?_
      refine aw_callV (ci := 11) (d' := d - 1) (as := []) (pc' := 68) (by decide) rfl kX13_isSeen iX13_isSeen sX13_isSeen lX13_375 (MO (A := (lift A s)) hM) dX13_fits_65 rfl rfl (Nat.le_of_ble_eq_true rfl) (by omega) ?_
      refine c_isSeen (by omega) hM (by simp (disch := decide) only [hv_in]; exact w1) (by simp (disch := decide) only [hv_in]; exact w2) (by simp (disch := decide) only [hv_in]; exact w3) (fun k g1 g2 g3 => ?_) (fun g => ?_)
      · have hsn : ¬ seenS (W i) = true := by
          unfold seenS
          simp (disch := decide) only [hv_in] at g2 g3
          simp only [decide_eq_true_eq]
          exact fun z => g3 (z k g1 g2)
        refine aw_if_eq (pt := 78) (pf := 71) dX13_fits_68 (by decide) rfl (fun _ => ?_) (fun c_68 => absurd (by decide) c_68)
        refine aw_iinc (pc' := 81) (lv' := [_, _, _, _, _, _, _, _]) dX13_fits_78 rfl rfl (by decide) (by first | exact w32_id (by omega) (by omega) | rfl) rfl ?_
        refine aw_goto (pc' := 46) dX13_fits_81 (by decide) ?_
        first
        | refine ih _ (by omega) (i + 1) (W i) (c + 1) v (v - 1) rfl hd hM hMin (by omega) (by omega) hl hnm hF hWB (fun i' q1 q2 => ?_) (fun q => ?_) ?_ ?_ hQ
        | refine ih _ (by omega) (i + 1) (W i) c e (v - 1) rfl hd hM hMin (by omega) (by omega) hl hnm hF hWB (fun i' q1 q2 => ?_) (fun q => ?_) ?_ ?_ hQ
        · rw [q2, hF.2.2 i (by omega), show v - 1 = 19 - ((i + 1 : Nat) : Int) by omega]
        · rw [show i = 19 by omega]
        · rw [ec]
          conv => rhs; unfold cntB
          first | rw [if_pos hsn] | rw [if_neg hsn, Int.add_zero]
        · unfold lstB
          first | (rw [if_pos hsn]; omega) | (rw [if_neg hsn]; exact ee)
      · have hsn : seenS (W i) = true := by
          unfold seenS
          simp (disch := decide) only [hv_in] at g
          simp only [decide_eq_true_eq]
          exact g
        refine aw_if_eq (pt := 78) (pf := 71) dX13_fits_68 (by decide) rfl (fun c_68 => absurd c_68 (by decide)) (fun _ => ?_)
        refine aw_iinc (pc' := 74) (lv' := [_, _, _, _, _, _, _, _]) dX13_fits_71 rfl rfl (by decide) (by first | exact w32_id (by omega) (by omega) | rfl) rfl ?_
        refine aw_iload (pc' := 76) rfl dX13_fits_74 rfl ?_
        refine aw_istore (pc' := 78) (lv' := [_, _, _, _, _, _, _, _]) dX13_fits_76 rfl (by decide) rfl ?_
        refine aw_iinc (pc' := 81) (lv' := [_, _, _, _, _, _, _, _]) dX13_fits_78 rfl rfl (by decide) (by first | exact w32_id (by omega) (by omega) | rfl) rfl ?_
        refine aw_goto (pc' := 46) dX13_fits_81 (by decide) ?_
        first
        | refine ih _ (by omega) (i + 1) (W i) (c + 1) v (v - 1) rfl hd hM hMin (by omega) (by omega) hl hnm hF hWB (fun i' q1 q2 => ?_) (fun q => ?_) ?_ ?_ hQ
        | refine ih _ (by omega) (i + 1) (W i) c e (v - 1) rfl hd hM hMin (by omega) (by omega) hl hnm hF hWB (fun i' q1 q2 => ?_) (fun q => ?_) ?_ ?_ hQ
        · rw [q2, hF.2.2 i (by omega), show v - 1 = 19 - ((i + 1 : Nat) : Int) by omega]
        · rw [show i = 19 by omega]
        · rw [ec]
          conv => rhs; unfold cntB
          first | rw [if_pos hsn] | rw [if_neg hsn, Int.add_zero]
        · unfold lstB
          first | (rw [if_pos hsn]; omega) | (rw [if_neg hsn]; exact ee)

set_option maxRecDepth 20000 in
theorem c_fits {d : Nat} {n : Nat} {l name p : Int} {A : AHp} {s : Sg} {Q : Option AV → AHp → Prop} (hd : 6 * n + 6 ≤ d) (hM : MLAY A) (hMin : ∀ (d : Nat) (A : AHp) (a b : Int) (Q : Option AV → AHp → Prop), Q (some (vi (min a b))) A → CALL d mJ9_min_7cf53 [vi a, vi b] A Q) (hln : 0 ≤ s 307 12 ∧ s 307 12 ≤ 8)
  (hN : ¬ (0 ≤ l ∧ l < s 307 12 ∧ 0 ≤ name ∧ name ≤ 4 ∧ 0 ≤ p ∧ p ≤ 1) → Q (some (vi (-1))) (lift A s))
  (hO : 0 ≤ l → l < s 307 12 → 0 ≤ name → name ≤ 4 → 0 ≤ p → p ≤ 1 → ∃ B W, FAM n l name (fun i => 19 - (i : Int)) 20 s B W ∧ (∀ i : Nat, i < 20 → (0 ≤ W i 307 49 ∧ W i 307 49 ≤ 5) ∧ W i 307 36 ≤ 60 ∧ ∀ j, 0 ≤ j → j < W i 307 49 → 0 ≤ W i 339 (2 * j) ∧ W i 339 (2 * j) ≤ 59) ∧ Q (some (vi (if p = 0 then cntB (fun i => seenS (W i)) 20 else lstB (fun i => seenS (W i)) 20))) (lift A (sset (W 19) 320 name (s 320 name)))) : CALL d mX13_fits [vr 307, vi l, vi name, vi p] (lift A s) Q := by
  refine CALL.of (by decide) (Nat.le_of_ble_eq_true rfl) ?_
  change AW d mX13_fits 0 [some (vr 307), some (vi l), some (vi name), some (vi p), none, none, none, none] [] (lift A s) Q
  refine aw_aload_n (pc' := 1) rfl dX13_fits_0 rfl ?_
  refine aw_iload_n (pc' := 2) rfl dX13_fits_1 rfl ?_
  refine aw_callV (ci := 11) (d' := d - 1) (as := [_]) (pc' := 5) (by decide) rfl kX13_isLine iX13_isLine sX13_isLine lX13_260 (MO (A := (lift A s)) hM) dX13_fits_2 rfl rfl (Nat.le_of_ble_eq_true rfl) (by omega) ?_
  refine c_isLine (by omega) hM (by rw [hv_in (by decide)]; exact hln) (fun e1_2 e2_2 => ?_) (fun e0_2 => ?_)
  · rw [hv_in (by decide)] at e2_2
    refine aw_if_eq (pt := 25) (pf := 8) dX13_fits_5 (by decide) rfl (fun c_5 => absurd c_5 (by decide)) (fun _ => ?_)
    refine aw_iload_n (pc' := 9) rfl dX13_fits_8 rfl ?_
    refine aw_callS (d' := d - 1) (as := [_]) (pc' := 12) kX13_isName tX13_isName lX13_372 dX13_fits_9 rfl rfl (Nat.le_of_ble_eq_true rfl) (by omega) ?_
    refine c_isName (by omega) (fun n1_9 n2_9 => ?_) (fun n0_9 => ?_)
    · refine aw_if_eq (pt := 25) (pf := 15) dX13_fits_12 (by decide) rfl (fun c_12 => absurd c_12 (by decide)) (fun _ => ?_)
      refine aw_iload_n (pc' := 16) rfl dX13_fits_15 rfl ?_
      refine aw_i2l (pc' := 17) dX13_fits_16 rfl ?_
      refine aw_lconst (x := 0) (pc' := 18) (by decide +kernel) dX13_fits_17 rfl ?_
      refine aw_lconst (x := 1) (pc' := 19) (by decide +kernel) dX13_fits_18 rfl ?_
      refine aw_callS (d' := d - 1) (as := [_, _, _]) (pc' := 22) kX13_in tX13_in lX13_177 dX13_fits_19 rfl rfl (Nat.le_of_ble_eq_true rfl) (by omega) ?_
      refine c_in (by omega) (fun g1_19 g2_19 => ?_) (fun g0_19 => ?_)
      · refine aw_if_ne (pt := 27) (pf := 25) dX13_fits_22 (by decide) rfl (fun _ => ?_) (fun c_22 => absurd (by decide) c_22)
        refine aw_aload_n (pc' := 28) rfl dX13_fits_27 rfl ?_
        refine aw_getp (pc' := 31) (k9 := 13) (p := 320) dX13_fits_28 rfl fX13_79 rfl rfl rfl (MO (A := (lift A s)) hM) (M_values (A := (lift A s)) hM) ?_
        refine aw_iload_n (pc' := 32) rfl dX13_fits_31 rfl ?_
        refine aw_iald (pc' := 33) dX13_fits_32 rfl (MA_values (A := (lift A s)) hM) (by omega) (by omega) ?_
        try simp (disch := omega) only [hv_in, lift_set, sset_e, sset_1, sset_2, workS_o, stagesS_o, beginsS_o, scpy_o, lift_cpy]
        refine aw_istore (pc' := 35) (lv' := [_, _, _, _, _, _, _, _]) dX13_fits_33 rfl (by decide) rfl ?_
        refine aw_iconst (pc' := 36) (by decide) dX13_fits_35 rfl ?_
        refine aw_istore (pc' := 38) (lv' := [_, _, _, _, _, _, _, _]) dX13_fits_36 rfl (by decide) rfl ?_
        refine aw_bipush (pc' := 40) (by decide +kernel) dX13_fits_38 rfl ?_
        refine aw_istore (pc' := 42) (lv' := [_, _, _, _, _, _, _, _]) dX13_fits_40 rfl (by decide) rfl ?_
        refine aw_bipush (pc' := 44) (by decide +kernel) dX13_fits_42 rfl ?_
        refine aw_istore (pc' := 46) (lv' := [_, _, _, _, _, _, _, _]) dX13_fits_44 rfl (by decide) rfl ?_
        try simp (disch := omega) only [hv_in, lift_set, sset_e, sset_1, sset_2, workS_o, stagesS_o, beginsS_o, scpy_o, lift_cpy]
        obtain ⟨B, W, hF, hWB, hQ⟩ := hO (by omega) (by omega) (by omega) (by omega) (by omega) (by omega)
        exact l_fits (s0 := s) _ 0 s 0 (-5) 19 rfl hd hM hMin (by omega) (by omega) (by omega) (by omega) hF hWB (fun i' q1 q2 => by rw [q2]; exact hF.1.symm) (fun q => by omega) rfl rfl hQ
      · refine aw_if_ne (pt := 27) (pf := 25) dX13_fits_22 (by decide) rfl (fun c_22 => absurd c_22 (by decide)) (fun _ => ?_)
        refine aw_iconst (pc' := 26) (by decide) dX13_fits_25 rfl ?_
        refine AW.ret (some (vi _)) dX13_fits_26 trivial ?_
        exact hN (by omega)
    · refine aw_if_eq (pt := 25) (pf := 15) dX13_fits_12 (by decide) rfl (fun _ => ?_) (fun c_12 => absurd (by decide) c_12)
      refine aw_iconst (pc' := 26) (by decide) dX13_fits_25 rfl ?_
      refine AW.ret (some (vi _)) dX13_fits_26 trivial ?_
      exact hN (by omega)
  · rw [hv_in (by decide)] at e0_2
    refine aw_if_eq (pt := 25) (pf := 8) dX13_fits_5 (by decide) rfl (fun _ => ?_) (fun c_5 => absurd (by decide) c_5)
    refine aw_iconst (pc' := 26) (by decide) dX13_fits_25 rfl ?_
    refine AW.ret (some (vi _)) dX13_fits_26 trivial ?_
    exact hN (by omega)

set_option maxRecDepth 20000 in
theorem l_odds {d : Nat} {A : AHp} {s0 : Sg} {n : Nat} {l name p was : Int} {B W : Nat → Sg} {Q : Option AV → AHp → Prop} : ∀ (m : Nat) (i : Nat) (s : Sg) (c v : Int), 10 - i = m → 6 * n + 6 ≤ d → MLAY A → (∀ (d : Nat) (A : AHp) (a b : Int) (Q : Option AV → AHp → Prop), Q (some (vi (min a b))) A → CALL d mJ9_min_7cf53 [vi a, vi b] A Q) → i ≤ 10 → v = (i : Int) → (0 ≤ l ∧ l < 8) → (0 ≤ name ∧ name ≤ 4) → FAM n l name (fun i => (i : Int)) 10 s0 B W → (∀ i' : Nat, i' < 10 → i' = i → sset s 320 name v = B i') → (i = 10 → s = W 9) → c = cntB (fun i => decide (W i 307 37 = 0)) i → Q (some (vl ((if p = 0 then cntB (fun i => decide (W i 307 37 = 0)) 10 else 10).tdiv (Int.gcd (cntB (fun i => decide (W i 307 37 = 0)) 10) 10)))) (lift A (sset (W 9) 320 name was)) → AW d mX13_odds 43 [some (vr 307), some (vi l), some (vi name), some (vi p), some (vi was), some (vl c), none, some (vi v)] [] (lift A s) Q := by
  intro m
  induction m using Nat.strongRecOn with
  | _ m ih =>
    intro i s c v hm hd hM hMin hi ev hl hnm hF hB h20 ec hQ
    have hcb := cntB_b (b := fun i => decide (W i 307 37 = 0)) i
    rw [← ec] at hcb
    refine aw_iload (pc' := 45) rfl dX13_odds_43 rfl ?_
    refine aw_bipush (pc' := 47) (by decide +kernel) dX13_odds_45 rfl ?_
    refine aw_icmp_ge (pt := 86) (pf := 50) dX13_odds_47 (by decide) rfl (fun c_47 => ?_) (fun c_47 => ?_)
    · refine aw_aload_n (pc' := 87) rfl dX13_odds_86 rfl ?_
      refine aw_getp (pc' := 90) (k9 := 13) (p := 320) dX13_odds_87 rfl fX13_79 rfl rfl rfl (MO (A := (lift A s)) hM) (M_values (A := (lift A s)) hM) ?_
      refine aw_iload_n (pc' := 91) rfl dX13_odds_90 rfl ?_
      refine aw_iload (pc' := 93) rfl dX13_odds_91 rfl ?_
      refine aw_iast (pc' := 94) dX13_odds_93 rfl (MA_values (A := (lift A s)) hM) (by omega) (by omega) ?_
      refine aw_lload (pc' := 96) rfl dX13_odds_94 rfl ?_
      refine aw_ldc2 (x := (10)) (pc' := 99) qX13_349 (by decide) dX13_odds_96 rfl ?_
      refine aw_iload_n (pc' := 100) rfl dX13_odds_99 rfl ?_
      refine aw_callS (d' := d - 1) (as := [_, _, _]) (pc' := 103) kX13_lowest tX13_lowest lX13_379 dX13_odds_100 rfl rfl (Nat.le_of_ble_eq_true rfl) (by omega) ?_
      rw [show i = 10 by omega] at ec
      rw [← ec] at hQ
      have e20 := h20 (by omega)
      subst e20
      try simp (disch := omega) only [hv_in, lift_set, sset_e, sset_1, sset_2, workS_o, stagesS_o, beginsS_o, scpy_o, lift_cpy]
      refine c_lowest (by omega) (by omega) (by omega) (by omega) (by omega) ?_
      refine AW.ret (some (vl _)) dX13_odds_103 trivial ?_
      exact hQ
    · refine aw_aload_n (pc' := 51) rfl dX13_odds_50 rfl ?_
      refine aw_getp (pc' := 54) (k9 := 13) (p := 320) dX13_odds_51 rfl fX13_79 rfl rfl rfl (MO (A := (lift A s)) hM) (M_values (A := (lift A s)) hM) ?_
      refine aw_iload_n (pc' := 55) rfl dX13_odds_54 rfl ?_
      refine aw_iload (pc' := 57) rfl dX13_odds_55 rfl ?_
      refine aw_iast (pc' := 58) dX13_odds_57 rfl (MA_values (A := (lift A s)) hM) (by omega) (by omega) ?_
      refine aw_aload_n (pc' := 59) rfl dX13_odds_58 rfl ?_
      refine aw_iload_n (pc' := 60) rfl dX13_odds_59 rfl ?_
      refine aw_callV (ci := 11) (d' := d - 1) (as := [_]) (pc' := 63) (by decide) rfl kX13_thinks iX13_thinks sX13_thinks lX13_364 (MO (A := (lift A s)) hM) dX13_odds_60 rfl rfl (Nat.le_of_ble_eq_true rfl) (by omega) ?_
      have hBi := hB i (by omega) rfl
      try simp (disch := omega) only [hv_in, lift_set, sset_e, sset_1, sset_2, workS_o, stagesS_o, beginsS_o, scpy_o, lift_cpy]
      rw [hBi]
      refine c_thinks (by omega) hM hMin hl (hF.2.1 i (by omega)) ?_
      refine aw_lload (pc' := 65) rfl dX13_odds_63 rfl ?_
      refine aw_aload_n (pc' := 66) rfl dX13_odds_65 rfl ?_
      refine aw_geti (pc' := 69) (k9 := 37) dX13_odds_66 rfl fX13_329 rfl (by decide) rfl (MO (A := (lift A s)) hM) ?_
      try simp (disch := omega) only [hv_in, lift_set, sset_e, sset_1, sset_2, workS_o, stagesS_o, beginsS_o, scpy_o, lift_cpy]
      refine aw_if_ne (pt := 76) (pf := 72) dX13_odds_69 (by decide) rfl (fun c_69 => ?_) (fun c_69 => ?_)
      · refine aw_lconst (x := 0) (pc' := 77) (by decide +kernel) dX13_odds_76 rfl ?_
        refine aw_ladd (pc' := 78) (by first | exact w64_id (by omega) (by omega) | rfl) dX13_odds_77 rfl ?_
        refine aw_lstore (pc' := 80) (lv' := [_, _, _, _, _, _, _, _]) dX13_odds_78 rfl (by decide) rfl ?_
        refine aw_iinc (pc' := 83) (lv' := [_, _, _, _, _, _, _, _]) dX13_odds_80 rfl rfl (by decide) (by first | exact w32_id (by omega) (by omega) | rfl) rfl ?_
        refine aw_goto (pc' := 43) dX13_odds_83 (by decide) ?_
        first
        | refine ih _ (by omega) (i + 1) (W i) _ (v + 1) rfl hd hM hMin (by omega) (by omega) hl hnm hF (fun i' q1 q2 => ?_) (fun q => ?_) ?_ hQ
        · rw [q2, hF.2.2 i (by omega), show v + 1 = ((i + 1 : Nat) : Int) by omega]
        · rw [show i = 9 by omega]
        · rw [ec]
          conv => rhs; unfold cntB
          first | rw [if_pos (decide_eq_true (by omega))] | rw [if_neg (by simp only [decide_eq_true_eq]; omega)]
      · replace c_69 := Classical.not_not.mp c_69
        refine aw_lconst (x := 1) (pc' := 73) (by decide +kernel) dX13_odds_72 rfl ?_
        refine aw_goto (pc' := 77) dX13_odds_73 (by decide) ?_
        refine aw_ladd (pc' := 78) (by first | exact w64_id (by omega) (by omega) | rfl) dX13_odds_77 rfl ?_
        refine aw_lstore (pc' := 80) (lv' := [_, _, _, _, _, _, _, _]) dX13_odds_78 rfl (by decide) rfl ?_
        refine aw_iinc (pc' := 83) (lv' := [_, _, _, _, _, _, _, _]) dX13_odds_80 rfl rfl (by decide) (by first | exact w32_id (by omega) (by omega) | rfl) rfl ?_
        refine aw_goto (pc' := 43) dX13_odds_83 (by decide) ?_
        first
        | refine ih _ (by omega) (i + 1) (W i) _ (v + 1) rfl hd hM hMin (by omega) (by omega) hl hnm hF (fun i' q1 q2 => ?_) (fun q => ?_) ?_ hQ
        · rw [q2, hF.2.2 i (by omega), show v + 1 = ((i + 1 : Nat) : Int) by omega]
        · rw [show i = 9 by omega]
        · rw [ec]
          conv => rhs; unfold cntB
          first | rw [if_pos (decide_eq_true (by omega))] | rw [if_neg (by simp only [decide_eq_true_eq]; omega)]

set_option maxRecDepth 20000 in
theorem c_odds {d : Nat} {n : Nat} {l name p : Int} {A : AHp} {s : Sg} {Q : Option AV → AHp → Prop} (hd : 6 * n + 6 ≤ d) (hM : MLAY A) (hMin : ∀ (d : Nat) (A : AHp) (a b : Int) (Q : Option AV → AHp → Prop), Q (some (vi (min a b))) A → CALL d mJ9_min_7cf53 [vi a, vi b] A Q) (hln : 0 ≤ s 307 12 ∧ s 307 12 ≤ 8)
  (hN : ¬ (0 ≤ l ∧ l < s 307 12 ∧ 0 ≤ name ∧ name ≤ 4 ∧ 0 ≤ p ∧ p ≤ 1) → Q (some (vl (-9223372036854775808))) (lift A s))
  (hO : 0 ≤ l → l < s 307 12 → 0 ≤ name → name ≤ 4 → 0 ≤ p → p ≤ 1 → ∃ B W, FAM n l name (fun i => (i : Int)) 10 s B W ∧ Q (some (vl ((if p = 0 then cntB (fun i => decide (W i 307 37 = 0)) 10 else 10).tdiv (Int.gcd (cntB (fun i => decide (W i 307 37 = 0)) 10) 10)))) (lift A (sset (W 9) 320 name (s 320 name)))) : CALL d mX13_odds [vr 307, vi l, vi name, vi p] (lift A s) Q := by
  refine CALL.of (by decide) (Nat.le_of_ble_eq_true rfl) ?_
  change AW d mX13_odds 0 [some (vr 307), some (vi l), some (vi name), some (vi p), none, none, none, none] [] (lift A s) Q
  refine aw_aload_n (pc' := 1) rfl dX13_odds_0 rfl ?_
  refine aw_iload_n (pc' := 2) rfl dX13_odds_1 rfl ?_
  refine aw_callV (ci := 11) (d' := d - 1) (as := [_]) (pc' := 5) (by decide) rfl kX13_isLine iX13_isLine sX13_isLine lX13_260 (MO (A := (lift A s)) hM) dX13_odds_2 rfl rfl (Nat.le_of_ble_eq_true rfl) (by omega) ?_
  refine c_isLine (by omega) hM (by rw [hv_in (by decide)]; exact hln) (fun e1_2 e2_2 => ?_) (fun e0_2 => ?_)
  · rw [hv_in (by decide)] at e2_2
    refine aw_if_eq (pt := 25) (pf := 8) dX13_odds_5 (by decide) rfl (fun c_5 => absurd c_5 (by decide)) (fun _ => ?_)
    refine aw_iload_n (pc' := 9) rfl dX13_odds_8 rfl ?_
    refine aw_callS (d' := d - 1) (as := [_]) (pc' := 12) kX13_isName tX13_isName lX13_372 dX13_odds_9 rfl rfl (Nat.le_of_ble_eq_true rfl) (by omega) ?_
    refine c_isName (by omega) (fun n1_9 n2_9 => ?_) (fun n0_9 => ?_)
    · refine aw_if_eq (pt := 25) (pf := 15) dX13_odds_12 (by decide) rfl (fun c_12 => absurd c_12 (by decide)) (fun _ => ?_)
      refine aw_iload_n (pc' := 16) rfl dX13_odds_15 rfl ?_
      refine aw_i2l (pc' := 17) dX13_odds_16 rfl ?_
      refine aw_lconst (x := 0) (pc' := 18) (by decide +kernel) dX13_odds_17 rfl ?_
      refine aw_lconst (x := 1) (pc' := 19) (by decide +kernel) dX13_odds_18 rfl ?_
      refine aw_callS (d' := d - 1) (as := [_, _, _]) (pc' := 22) kX13_in tX13_in lX13_177 dX13_odds_19 rfl rfl (Nat.le_of_ble_eq_true rfl) (by omega) ?_
      refine c_in (by omega) (fun g1_19 g2_19 => ?_) (fun g0_19 => ?_)
      · refine aw_if_ne (pt := 29) (pf := 25) dX13_odds_22 (by decide) rfl (fun _ => ?_) (fun c_22 => absurd (by decide) c_22)
        refine aw_aload_n (pc' := 30) rfl dX13_odds_29 rfl ?_
        refine aw_getp (pc' := 33) (k9 := 13) (p := 320) dX13_odds_30 rfl fX13_79 rfl rfl rfl (MO (A := (lift A s)) hM) (M_values (A := (lift A s)) hM) ?_
        refine aw_iload_n (pc' := 34) rfl dX13_odds_33 rfl ?_
        refine aw_iald (pc' := 35) dX13_odds_34 rfl (MA_values (A := (lift A s)) hM) (by omega) (by omega) ?_
        try simp (disch := omega) only [hv_in, lift_set, sset_e, sset_1, sset_2, workS_o, stagesS_o, beginsS_o, scpy_o, lift_cpy]
        refine aw_istore (pc' := 37) (lv' := [_, _, _, _, _, _, _, _]) dX13_odds_35 rfl (by decide) rfl ?_
        refine aw_lconst (x := 0) (pc' := 38) (by decide +kernel) dX13_odds_37 rfl ?_
        refine aw_lstore (pc' := 40) (lv' := [_, _, _, _, _, _, _, _]) dX13_odds_38 rfl (by decide) rfl ?_
        refine aw_iconst (pc' := 41) (by decide) dX13_odds_40 rfl ?_
        refine aw_istore (pc' := 43) (lv' := [_, _, _, _, _, _, _, _]) dX13_odds_41 rfl (by decide) rfl ?_
        try simp (disch := omega) only [hv_in, lift_set, sset_e, sset_1, sset_2, workS_o, stagesS_o, beginsS_o, scpy_o, lift_cpy]
        obtain ⟨B, W, hF, hQ⟩ := hO (by omega) (by omega) (by omega) (by omega) (by omega) (by omega)
        exact l_odds (s0 := s) _ 0 s 0 0 rfl hd hM hMin (by omega) (by omega) (by omega) (by omega) hF (fun i' q1 q2 => by rw [q2]; exact hF.1.symm) (fun q => by omega) rfl hQ
      · refine aw_if_ne (pt := 29) (pf := 25) dX13_odds_22 (by decide) rfl (fun c_22 => absurd c_22 (by decide)) (fun _ => ?_)
        refine aw_ldc2 (x := (-9223372036854775808)) (pc' := 28) qX13_267 (by decide) dX13_odds_25 rfl ?_
        refine AW.ret (some (vl _)) dX13_odds_28 trivial ?_
        exact hN (by omega)
    · refine aw_if_eq (pt := 25) (pf := 15) dX13_odds_12 (by decide) rfl (fun _ => ?_) (fun c_12 => absurd (by decide) c_12)
      refine aw_ldc2 (x := (-9223372036854775808)) (pc' := 28) qX13_267 (by decide) dX13_odds_25 rfl ?_
      refine AW.ret (some (vl _)) dX13_odds_28 trivial ?_
      exact hN (by omega)
  · rw [hv_in (by decide)] at e0_2
    refine aw_if_eq (pt := 25) (pf := 8) dX13_odds_5 (by decide) rfl (fun _ => ?_) (fun c_5 => absurd (by decide) c_5)
    refine aw_ldc2 (x := (-9223372036854775808)) (pc' := 28) qX13_267 (by decide) dX13_odds_25 rfl ?_
    refine AW.ret (some (vl _)) dX13_odds_28 trivial ?_
    exact hN (by omega)
