/-! ===== the class: judging, sums, likeness, fractions ===== -/
set_option maxRecDepth 20000 in
theorem x_seenAll {d : Nat} {a : Int} {A : AHp} {Q : Option AV → AHp → Prop} (hd : 1 ≤ d) (hX : XLAY A) (hN : NumsAt A a) (h60 : hv A a 1 ≤ 60) (h5 : 0 ≤ hv A 212 2 ∧ hv A 212 2 ≤ 5) (hb : (∀ j, 0 ≤ j → j < hv A 212 2 → 0 ≤ hv A 213 j ∧ hv A 213 j ≤ 59)) (hr : ∀ j, 0 ≤ j → j < hv A 212 2 → in32 (hv A 214 j))
  (hK : ∀ k, 0 ≤ k → k < hv A 212 2 → ¬ (0 ≤ hv A 213 k ∧ hv A 213 k < hv A a 1 ∧ hv A (a + 1) (hv A 213 k) = hv A 214 k) → Q (some (vi 0)) A) (hE : (∀ j, 0 ≤ j → j < hv A 212 2 → (0 ≤ hv A 213 j ∧ hv A 213 j < hv A a 1 ∧ hv A (a + 1) (hv A 213 j) = hv A 214 j)) → Q (some (vi 1)) A) : CALL d mX12_hasAllSeen [vr 60, vr a] A Q := by
  refine CALL.of (by decide) (Nat.le_of_ble_eq_true rfl) ?_
  change AW d mX12_hasAllSeen 0 [some (vr 60), some (vr a), none] [] A Q
  refine aw_iconst (pc' := 1) (by decide) dX12_hasAllSeen_0 rfl ?_
  refine aw_istore_n (pc' := 2) (lv' := [_, _, _]) dX12_hasAllSeen_1 rfl (by decide) rfl ?_
  exact l_seen _ 0 rfl (by omega) h5.1 hd hX hN h60 h5.2 hb hr (fun j g1 g2 => by omega) hK hE

set_option maxRecDepth 20000 in
theorem lx_judge {d : Nat} {A : AHp} {t i : Int} {Q : Option AV → AHp → Prop} : ∀ (m : Nat) (k : Int), (hv A 210 1 - k).toNat = m → 0 ≤ k → k ≤ hv A 210 1 → 1 ≤ d → XLAY A → hv A 210 1 ≤ 60 → 0 ≤ t → t ≤ 5 → 0 ≤ hv A (295 + 2 * t) 1 ∧ hv A (295 + 2 * t) 1 ≤ 60 → (∀ j, 0 ≤ j → j < k → (0 ≤ i ∧ i < hv A (295 + 2 * t) 1 - j ∧ hv A (295 + 2 * t + 1) (i + j) = hv A 211 j)) → (∀ k, 0 ≤ k → k < hv A 210 1 → (∀ j, 0 ≤ j → j < k → (0 ≤ i ∧ i < hv A (295 + 2 * t) 1 - j ∧ hv A (295 + 2 * t + 1) (i + j) = hv A 211 j)) → (i < 0 ∨ hv A (295 + 2 * t) 1 - k ≤ i) → Q (some (vi (100 + k))) A) → (∀ k, 0 ≤ k → k < hv A 210 1 → (∀ j, 0 ≤ j → j < k → (0 ≤ i ∧ i < hv A (295 + 2 * t) 1 - j ∧ hv A (295 + 2 * t + 1) (i + j) = hv A 211 j)) → 0 ≤ i → i < hv A (295 + 2 * t) 1 - k → hv A (295 + 2 * t + 1) (i + k) ≠ hv A 211 k → Q (some (vi k)) A) → ((∀ j, 0 ≤ j → j < hv A 210 1 → (0 ≤ i ∧ i < hv A (295 + 2 * t) 1 - j ∧ hv A (295 + 2 * t + 1) (i + j) = hv A 211 j)) → Q (some (vi (-5))) A) → AW d mX12_judge 53 [some (vr 60), some (vi t), some (vi i), some (vr (295 + 2 * t)), some (vi k)] [] A Q := by
  intro m
  induction m using Nat.strongRecOn with
  | _ m ih =>
    intro k hm hk0 hkn hd1 hX h8 ht0 ht5 hz hall hA hB hE
    refine aw_iload (pc' := 55) rfl dX12_judge_53 rfl ?_
    refine aw_aload_n (pc' := 56) rfl dX12_judge_55 rfl ?_
    refine aw_getp (pc' := 59) (k9 := 2) (p := 207) dX12_judge_56 rfl fX12_28 rfl rfl rfl (XO (A := A) hX) (X_now (A := A) hX) ?_
    refine aw_getp (pc' := 62) (k9 := 3) (p := 210) dX12_judge_59 rfl fX12_125 rfl rfl rfl (XK_now (A := A) hX).1 (XK_now (A := A) hX).2.2.2.1.1 ?_
    refine aw_geti (pc' := 65) (k9 := 1) dX12_judge_62 rfl fX12_129 rfl (by decide) rfl (XK_now (A := A) hX).2.2.2.1.2.1 ?_
    refine aw_icmp_ge (pt := 123) (pf := 68) dX12_judge_65 (by decide) rfl (fun c_65 => ?_) (fun c_65 => ?_)
    · refine aw_bipush (pc' := 125) (by decide +kernel) dX12_judge_123 rfl ?_
      refine AW.ret (some (vi _)) dX12_judge_125 trivial ?_
      exact hE (fun j g1 g2 => hall j g1 (by omega))
    · refine aw_iload_n (pc' := 69) rfl dX12_judge_68 rfl ?_
      refine aw_if_lt (pt := 83) (pf := 72) dX12_judge_69 (by decide) rfl (fun c_69 => ?_) (fun c_69 => ?_)
      · refine aw_bipush (pc' := 85) (by decide +kernel) dX12_judge_83 rfl ?_
        refine aw_iload (pc' := 87) rfl dX12_judge_85 rfl ?_
        refine aw_iadd (pc' := 88) (by first | exact w32_id (by omega) (by omega) | rfl) dX12_judge_87 rfl ?_
        refine AW.ret (some (vi _)) dX12_judge_88 trivial ?_
        exact hA k (by omega) (by omega) hall (by omega)
      · refine aw_iload_n (pc' := 73) rfl dX12_judge_72 rfl ?_
        refine aw_aload_n (pc' := 74) rfl dX12_judge_73 rfl ?_
        refine aw_geti (pc' := 77) (k9 := 1) dX12_judge_74 rfl fX12_235 rfl (by decide) rfl (XT_tape (A := A) hX t (by omega) (by omega)).1 ?_
        refine aw_iload (pc' := 79) rfl dX12_judge_77 rfl ?_
        refine aw_isub (pc' := 80) (by first | exact w32_id (by omega) (by omega) | rfl) dX12_judge_79 rfl ?_
        refine aw_icmp_lt (pt := 89) (pf := 83) dX12_judge_80 (by decide) rfl (fun c_80 => ?_) (fun c_80 => ?_)
        · refine aw_aload_n (pc' := 90) rfl dX12_judge_89 rfl ?_
          refine aw_getp (pc' := 93) (k9 := 2) (p := ((295 + 2 * t) + 1)) dX12_judge_90 rfl fX12_236 rfl rfl rfl (XT_tape (A := A) hX t (by omega) (by omega)).1 (XT_tape (A := A) hX t (by omega) (by omega)).2.1 ?_
          refine aw_iload_n (pc' := 94) rfl dX12_judge_93 rfl ?_
          refine aw_iload (pc' := 96) rfl dX12_judge_94 rfl ?_
          refine aw_iadd (pc' := 97) (by first | exact w32_id (by omega) (by omega) | rfl) dX12_judge_96 rfl ?_
          refine aw_lald (pc' := 98) dX12_judge_97 rfl (XT_tape (A := A) hX t (by omega) (by omega)).2.2 (by omega) (by omega) ?_
          refine aw_aload_n (pc' := 99) rfl dX12_judge_98 rfl ?_
          refine aw_getp (pc' := 102) (k9 := 2) (p := 207) dX12_judge_99 rfl fX12_28 rfl rfl rfl (XO (A := A) hX) (X_now (A := A) hX) ?_
          refine aw_getp (pc' := 105) (k9 := 3) (p := 210) dX12_judge_102 rfl fX12_125 rfl rfl rfl (XK_now (A := A) hX).1 (XK_now (A := A) hX).2.2.2.1.1 ?_
          refine aw_iload (pc' := 107) rfl dX12_judge_105 rfl ?_
          refine aw_callV (ci := 4) (d' := d - 1) (as := [_]) (pc' := 110) (by decide) rfl kX5_at iX5_at sX5_at lX12_144 (XK_now (A := A) hX).2.2.2.1.2.1 dX12_judge_107 rfl rfl (Nat.le_of_ble_eq_true rfl) (by omega) ?_
          refine x_at (a := 210) (by omega) (XK_now (A := A) hX).2.2.2.1.2 (by omega) (fun q0 => absurd (And.intro hk0 (by omega)) q0) (fun q1 q2 => ?_)
          · simp only [Int.reduceAdd]
            refine aw_lcmp (pc' := 111) dX12_judge_110 rfl ?_
            refine aw_if_eq (pt := 117) (pf := 114) dX12_judge_111 (by decide) rfl (fun c_111 => ?_) (fun c_111 => ?_)
            · replace c_111 := (cmp_eq).mp c_111
              refine aw_iinc (pc' := 120) (lv' := [_, _, _, _, _]) dX12_judge_117 rfl rfl (by decide) (by first | exact w32_id (by omega) (by omega) | rfl) rfl ?_
              refine aw_goto (pc' := 53) dX12_judge_120 (by decide) ?_
              first | (exfalso; omega) | exact ih _ (by omega) (k + 1) rfl (by omega) (by omega) hd1 hX h8 ht0 ht5 hz (fun j g1 g2 => by by_cases e : j = k; subst e; exact ⟨by omega, by omega, c_111⟩; exact hall j g1 (by omega)) hA hB hE
            · replace c_111 := (not_congr cmp_eq).mp c_111
              refine aw_iload (pc' := 116) rfl dX12_judge_114 rfl ?_
              refine AW.ret (some (vi _)) dX12_judge_116 trivial ?_
              exact hB k (by omega) (by omega) hall (by omega) (by omega) c_111
        · refine aw_bipush (pc' := 85) (by decide +kernel) dX12_judge_83 rfl ?_
          refine aw_iload (pc' := 87) rfl dX12_judge_85 rfl ?_
          refine aw_iadd (pc' := 88) (by first | exact w32_id (by omega) (by omega) | rfl) dX12_judge_87 rfl ?_
          refine AW.ret (some (vi _)) dX12_judge_88 trivial ?_
          exact hA k (by omega) (by omega) hall (by omega)

set_option maxRecDepth 20000 in
theorem x_judge {d : Nat} {t i : Int} {A : AHp} {Q : Option AV → AHp → Prop} (hd : 1 ≤ d) (hX : XLAY A) (hTP : TPS A) (h8 : 0 ≤ hv A 210 1 ∧ hv A 210 1 ≤ 60) (hsz : ∀ t, 0 ≤ t → t ≤ 5 → 0 ≤ hv A (295 + 2 * t) 1 ∧ hv A (295 + 2 * t) 1 ≤ 60)
  (hN : ¬ (0 ≤ t ∧ t ≤ 5) → Q (some (vi (-1))) A) (hC : 0 ≤ t → t ≤ 5 → 0 ≤ hv A (295 + 2 * t) 0 → hv A (295 + 2 * t) 0 ≠ 2 → Q (some (vi (-12))) A)
  (h0 : 0 ≤ t → t ≤ 5 → (hv A (295 + 2 * t) 0 < 0 ∨ hv A (295 + 2 * t) 0 = 2) → hv A 210 1 = 0 → Q (some (vi (-5))) A)
  (hA : 0 ≤ t → t ≤ 5 → (hv A (295 + 2 * t) 0 < 0 ∨ hv A (295 + 2 * t) 0 = 2) → (∀ k, 0 ≤ k → k < hv A 210 1 → (∀ j, 0 ≤ j → j < k → (0 ≤ i ∧ i < hv A (295 + 2 * t) 1 - j ∧ hv A (295 + 2 * t + 1) (i + j) = hv A 211 j)) → (i < 0 ∨ hv A (295 + 2 * t) 1 - k ≤ i) → Q (some (vi (100 + k))) A)) (hB : 0 ≤ t → t ≤ 5 → (hv A (295 + 2 * t) 0 < 0 ∨ hv A (295 + 2 * t) 0 = 2) → (∀ k, 0 ≤ k → k < hv A 210 1 → (∀ j, 0 ≤ j → j < k → (0 ≤ i ∧ i < hv A (295 + 2 * t) 1 - j ∧ hv A (295 + 2 * t + 1) (i + j) = hv A 211 j)) → 0 ≤ i → i < hv A (295 + 2 * t) 1 - k → hv A (295 + 2 * t + 1) (i + k) ≠ hv A 211 k → Q (some (vi k)) A)) (hE : 0 ≤ t → t ≤ 5 → (hv A (295 + 2 * t) 0 < 0 ∨ hv A (295 + 2 * t) 0 = 2) → ((∀ j, 0 ≤ j → j < hv A 210 1 → (0 ≤ i ∧ i < hv A (295 + 2 * t) 1 - j ∧ hv A (295 + 2 * t + 1) (i + j) = hv A 211 j)) → Q (some (vi (-5))) A)) : CALL d mX12_judge [vr 60, vi t, vi i] A Q := by
  refine CALL.of (by decide) (Nat.le_of_ble_eq_true rfl) ?_
  change AW d mX12_judge 0 [some (vr 60), some (vi t), some (vi i), none, none] [] A Q
  refine aw_iload_n (pc' := 1) rfl dX12_judge_0 rfl ?_
  refine aw_callS (d' := d - 1) (as := [_]) (pc' := 4) kX12_isTape tX12_isTape lX12_229 dX12_judge_1 rfl rfl (Nat.le_of_ble_eq_true rfl) (by omega) ?_
  refine x_isTape (by omega) (fun e1_1 => ?_) (fun e0_1 => ?_)
  · have hz_t := hsz t (by omega) (by omega)
    refine aw_if_ne (pt := 9) (pf := 7) dX12_judge_4 (by decide) rfl (fun _ => ?_) (fun c_4 => absurd (by decide) c_4)
    refine aw_aload_n (pc' := 10) rfl dX12_judge_9 rfl ?_
    refine aw_getp (pc' := 13) (k9 := 10) (p := 266) dX12_judge_10 rfl fX12_56 rfl rfl rfl (XO (A := A) hX) (X_tapes (A := A) hX) ?_
    refine aw_iload_n (pc' := 14) rfl dX12_judge_13 rfl ?_
    refine aw_aald (pc' := 15) (t0 := 7) (fun _ => rfl) (by decide) dX12_judge_14 rfl (XA_tapes (A := A) hX) (by omega) (by omega) ?_
    rw [hTP t (by omega) (by omega)]
    refine aw_astore_n (pc' := 16) (lv' := [_, _, _, _, _]) dX12_judge_15 rfl (by decide) rfl ?_
    refine aw_aload_n (pc' := 17) rfl dX12_judge_16 rfl ?_
    refine aw_geti (pc' := 20) (k9 := 0) dX12_judge_17 rfl fX12_232 rfl (by decide) rfl (XT_tape (A := A) hX t (by omega) (by omega)).1 ?_
    refine aw_if_lt (pt := 34) (pf := 23) dX12_judge_20 (by decide) rfl (fun c_20 => ?_) (fun c_20 => ?_)
    · refine aw_aload_n (pc' := 35) rfl dX12_judge_34 rfl ?_
      refine aw_getp (pc' := 38) (k9 := 2) (p := 207) dX12_judge_35 rfl fX12_28 rfl rfl rfl (XO (A := A) hX) (X_now (A := A) hX) ?_
      refine aw_getp (pc' := 41) (k9 := 3) (p := 210) dX12_judge_38 rfl fX12_125 rfl rfl rfl (XK_now (A := A) hX).1 (XK_now (A := A) hX).2.2.2.1.1 ?_
      refine aw_geti (pc' := 44) (k9 := 1) dX12_judge_41 rfl fX12_129 rfl (by decide) rfl (XK_now (A := A) hX).2.2.2.1.2.1 ?_
      refine aw_if_ne (pt := 50) (pf := 47) dX12_judge_44 (by decide) rfl (fun c_44 => ?_) (fun c_44 => ?_)
      · refine aw_iconst (pc' := 51) (by decide) dX12_judge_50 rfl ?_
        refine aw_istore (pc' := 53) (lv' := [_, _, _, _, _]) dX12_judge_51 rfl (by decide) rfl ?_
        exact lx_judge _ 0 rfl (by omega) h8.1 hd hX h8.2 (by omega) (by omega) hz_t (fun j g1 g2 => by omega) (hA (by omega) (by omega) (by omega)) (hB (by omega) (by omega) (by omega)) (hE (by omega) (by omega) (by omega))
      · replace c_44 := Classical.not_not.mp c_44
        refine aw_bipush (pc' := 49) (by decide +kernel) dX12_judge_47 rfl ?_
        refine AW.ret (some (vi _)) dX12_judge_49 trivial ?_
        first | exact hN (by omega) | exact hC (by omega) (by omega) (by omega) (by omega) | exact h0 (by omega) (by omega) (by omega) (by omega)
    · refine aw_aload_n (pc' := 24) rfl dX12_judge_23 rfl ?_
      refine aw_geti (pc' := 27) (k9 := 0) dX12_judge_24 rfl fX12_232 rfl (by decide) rfl (XT_tape (A := A) hX t (by omega) (by omega)).1 ?_
      refine aw_iconst (pc' := 28) (by decide) dX12_judge_27 rfl ?_
      refine aw_icmp_eq (pt := 34) (pf := 31) dX12_judge_28 (by decide) rfl (fun c_28 => ?_) (fun c_28 => ?_)
      · refine aw_aload_n (pc' := 35) rfl dX12_judge_34 rfl ?_
        refine aw_getp (pc' := 38) (k9 := 2) (p := 207) dX12_judge_35 rfl fX12_28 rfl rfl rfl (XO (A := A) hX) (X_now (A := A) hX) ?_
        refine aw_getp (pc' := 41) (k9 := 3) (p := 210) dX12_judge_38 rfl fX12_125 rfl rfl rfl (XK_now (A := A) hX).1 (XK_now (A := A) hX).2.2.2.1.1 ?_
        refine aw_geti (pc' := 44) (k9 := 1) dX12_judge_41 rfl fX12_129 rfl (by decide) rfl (XK_now (A := A) hX).2.2.2.1.2.1 ?_
        refine aw_if_ne (pt := 50) (pf := 47) dX12_judge_44 (by decide) rfl (fun c_44 => ?_) (fun c_44 => ?_)
        · refine aw_iconst (pc' := 51) (by decide) dX12_judge_50 rfl ?_
          refine aw_istore (pc' := 53) (lv' := [_, _, _, _, _]) dX12_judge_51 rfl (by decide) rfl ?_
          exact lx_judge _ 0 rfl (by omega) h8.1 hd hX h8.2 (by omega) (by omega) hz_t (fun j g1 g2 => by omega) (hA (by omega) (by omega) (by omega)) (hB (by omega) (by omega) (by omega)) (hE (by omega) (by omega) (by omega))
        · replace c_44 := Classical.not_not.mp c_44
          refine aw_bipush (pc' := 49) (by decide +kernel) dX12_judge_47 rfl ?_
          refine AW.ret (some (vi _)) dX12_judge_49 trivial ?_
          first | exact hN (by omega) | exact hC (by omega) (by omega) (by omega) (by omega) | exact h0 (by omega) (by omega) (by omega) (by omega)
      · refine aw_bipush (pc' := 33) (by decide +kernel) dX12_judge_31 rfl ?_
        refine AW.ret (some (vi _)) dX12_judge_33 trivial ?_
        first | exact hN (by omega) | exact hC (by omega) (by omega) (by omega) (by omega) | exact h0 (by omega) (by omega) (by omega) (by omega)
  · refine aw_if_ne (pt := 9) (pf := 7) dX12_judge_4 (by decide) rfl (fun c_4 => absurd c_4 (by decide)) (fun _ => ?_)
    refine aw_iconst (pc' := 8) (by decide) dX12_judge_7 rfl ?_
    refine AW.ret (some (vi _)) dX12_judge_8 trivial ?_
    first | exact hN (by omega) | exact hC (by omega) (by omega) (by omega) (by omega) | exact h0 (by omega) (by omega) (by omega) (by omega)

/-- the first n places of o, together -/
def sumI (A : AHp) (o : Int) : Nat → Int
  | 0 => 0
  | n + 1 => sumI A o n + hv A o n
theorem sumI_b {A : AHp} {o : Int} : ∀ n : Nat, (∀ k : Int, 0 ≤ k → k < n → in32 (hv A o k)) → -2147483648 * (n : Int) ≤ sumI A o n ∧ sumI A o n ≤ 2147483648 * (n : Int)
  | 0, _ => by simp [sumI]
  | n + 1, h => by
    have h1 := sumI_b n (fun k g1 g2 => h k g1 (by omega))
    obtain ⟨h2, h3⟩ := h n (by omega) (by omega)
    unfold sumI
    omega
set_option maxRecDepth 20000 in
theorem lx_sum {d : Nat} {A : AHp} {a : Int} {Q : Option AV → AHp → Prop} : ∀ (m : Nat) (k x : Int) (n : Nat), (hv A a 1 - k).toNat = m → 0 ≤ k → k ≤ hv A a 1 → k = n → x = sumI A (a + 1) n → NumsAt A a → hv A a 1 ≤ 60 → (∀ k, 0 ≤ k → k < hv A a 1 → in32 (hv A (a + 1) k)) → Q (some (vl (sumI A (a + 1) (hv A a 1).toNat))) A → AW d mX5_sum 4 [some (vr a), some (vl x), none, some (vi k)] [] A Q := by
  intro m
  induction m using Nat.strongRecOn with
  | _ m ih =>
    intro k x n hm hk0 hkn ek ex hN h60 hr hQ
    have hb9 := sumI_b (A := A) (o := a + 1) n (fun j g1 g2 => hr j g1 (by omega))
    rw [← ex] at hb9
    refine aw_iload_n (pc' := 5) rfl dX5_sum_4 rfl ?_
    refine aw_aload_n (pc' := 6) rfl dX5_sum_5 rfl ?_
    refine aw_geti (pc' := 9) (k9 := 1) dX5_sum_6 rfl fX5_15 rfl (by decide) rfl hN.1 ?_
    refine aw_icmp_ge (pt := 28) (pf := 12) dX5_sum_9 (by decide) rfl (fun c_9 => ?_) (fun c_9 => ?_)
    · refine aw_lload_n (pc' := 29) rfl dX5_sum_28 rfl ?_
      refine AW.ret (some (vl _)) dX5_sum_29 trivial ?_
      rw [show (hv A a 1).toNat = n by omega, ← ex] at hQ
      exact hQ
    · obtain ⟨hr1, hr2⟩ := hr k (by omega) (by omega)
      refine aw_lload_n (pc' := 13) rfl dX5_sum_12 rfl ?_
      refine aw_aload_n (pc' := 14) rfl dX5_sum_13 rfl ?_
      refine aw_getp (pc' := 17) (k9 := 0) (p := (a + 1)) dX5_sum_14 rfl fX5_9 rfl rfl rfl hN.1 hN.2.1 ?_
      refine aw_iload_n (pc' := 18) rfl dX5_sum_17 rfl ?_
      refine aw_iald (pc' := 19) dX5_sum_18 rfl hN.2.2 (by omega) (by omega) ?_
      refine aw_i2l (pc' := 20) dX5_sum_19 rfl ?_
      refine aw_ladd (pc' := 21) (by first | exact w64_id (by omega) (by omega) | rfl) dX5_sum_20 rfl ?_
      refine aw_lstore_n (pc' := 22) (lv' := [_, _, _, _]) dX5_sum_21 rfl (by decide) rfl ?_
      refine aw_iinc (pc' := 25) (lv' := [_, _, _, _]) dX5_sum_22 rfl rfl (by decide) (by first | exact w32_id (by omega) (by omega) | rfl) rfl ?_
      refine aw_goto (pc' := 4) dX5_sum_25 (by decide) ?_
      exact ih _ (by omega) (k + 1) _ (n + 1) rfl (by omega) (by omega) (by omega) (by rw [ex, ek]; rfl) hN h60 hr hQ

set_option maxRecDepth 20000 in
theorem x_sum {d : Nat} {a : Int} {A : AHp} {Q : Option AV → AHp → Prop} (hd : 0 ≤ d) (hN : NumsAt A a) (h60 : 0 ≤ hv A a 1 ∧ hv A a 1 ≤ 60) (hr : ∀ k, 0 ≤ k → k < hv A a 1 → in32 (hv A (a + 1) k)) (hQ : Q (some (vl (sumI A (a + 1) (hv A a 1).toNat))) A) : CALL d mX5_sum [vr a] A Q := by
  refine CALL.of (by decide) (Nat.le_of_ble_eq_true rfl) ?_
  change AW d mX5_sum 0 [some (vr a), none, none, none] [] A Q
  refine aw_lconst (x := 0) (pc' := 1) (by decide +kernel) dX5_sum_0 rfl ?_
  refine aw_lstore_n (pc' := 2) (lv' := [_, _, _, _]) dX5_sum_1 rfl (by decide) rfl ?_
  refine aw_iconst (pc' := 3) (by decide) dX5_sum_2 rfl ?_
  refine aw_istore_n (pc' := 4) (lv' := [_, _, _, _]) dX5_sum_3 rfl (by decide) rfl ?_
  exact lx_sum _ 0 0 0 rfl (by omega) h60.1 rfl rfl hN h60.2 hr hQ

set_option maxRecDepth 20000 in
theorem l_like {d : Nat} {A : AHp} {a b : Int} {Q : Option AV → AHp → Prop} : ∀ (m : Nat) (k : Int), (hv A a 1 - k).toNat = m → 0 ≤ k → k ≤ hv A a 1 → hv A a 1 = hv A b 1 → (∀ j, 0 ≤ j → j < k → hv A (a + 1) j = hv A (b + 1) j) → NumsAt A a → NumsAt A b → hv A a 1 ≤ 60 → ((hv A a 1 = hv A b 1 ∧ ∀ j, 0 ≤ j → j < hv A a 1 → hv A (a + 1) j = hv A (b + 1) j) → Q (some (vi 1)) A) → (¬ (hv A a 1 = hv A b 1 ∧ ∀ j, 0 ≤ j → j < hv A a 1 → hv A (a + 1) j = hv A (b + 1) j) → Q (some (vi 0)) A) → AW d mX5_isLike 19 [some (vr a), some (vr b), some (vi 1), some (vi k)] [] A Q := by
  intro m
  induction m using Nat.strongRecOn with
  | _ m ih =>
    intro k hm hk0 hk he hall hN hN2 h60 h1 h0
    refine aw_iload_n (pc' := 20) rfl dX5_isLike_19 rfl ?_
    refine aw_if_eq (pt := 58) (pf := 23) dX5_isLike_20 (by decide) rfl (fun c_20 => absurd c_20 (by decide)) (fun _ => ?_)
    refine aw_iload_n (pc' := 24) rfl dX5_isLike_23 rfl ?_
    refine aw_aload_n (pc' := 25) rfl dX5_isLike_24 rfl ?_
    refine aw_geti (pc' := 28) (k9 := 1) dX5_isLike_25 rfl fX5_15 rfl (by decide) rfl hN.1 ?_
    refine aw_icmp_ge (pt := 58) (pf := 31) dX5_isLike_28 (by decide) rfl (fun c_28 => ?_) (fun c_28 => ?_)
    · refine aw_iload_n (pc' := 59) rfl dX5_isLike_58 rfl ?_
      refine AW.ret (some (vi _)) dX5_isLike_59 (Or.inr rfl) ?_
      exact h1 ⟨he, fun j g1 g2 => hall j g1 (by omega)⟩
    · refine aw_aload_n (pc' := 32) rfl dX5_isLike_31 rfl ?_
      refine aw_getp (pc' := 35) (k9 := 0) (p := (a + 1)) dX5_isLike_32 rfl fX5_9 rfl rfl rfl hN.1 hN.2.1 ?_
      refine aw_iload_n (pc' := 36) rfl dX5_isLike_35 rfl ?_
      refine aw_iald (pc' := 37) dX5_isLike_36 rfl hN.2.2 (by omega) (by omega) ?_
      refine aw_aload_n (pc' := 38) rfl dX5_isLike_37 rfl ?_
      refine aw_getp (pc' := 41) (k9 := 0) (p := (b + 1)) dX5_isLike_38 rfl fX5_9 rfl rfl rfl hN2.1 hN2.2.1 ?_
      refine aw_iload_n (pc' := 42) rfl dX5_isLike_41 rfl ?_
      refine aw_iald (pc' := 43) dX5_isLike_42 rfl hN2.2.2 (by omega) (by omega) ?_
      refine aw_icmp_ne (pt := 50) (pf := 46) dX5_isLike_43 (by decide) rfl (fun c_43 => ?_) (fun c_43 => ?_)
      · refine aw_iconst (pc' := 51) (by decide) dX5_isLike_50 rfl ?_
        refine aw_istore_n (pc' := 52) (lv' := [_, _, _, _]) dX5_isLike_51 rfl (by decide) rfl ?_
        refine aw_iinc (pc' := 55) (lv' := [_, _, _, _]) dX5_isLike_52 rfl rfl (by decide) (by first | exact w32_id (by omega) (by omega) | rfl) rfl ?_
        refine aw_goto (pc' := 19) dX5_isLike_55 (by decide) ?_
        refine aw_iload_n (pc' := 20) rfl dX5_isLike_19 rfl ?_
        refine aw_if_eq (pt := 58) (pf := 23) dX5_isLike_20 (by decide) rfl (fun _ => ?_) (fun c_20 => absurd (by decide) c_20)
        refine aw_iload_n (pc' := 59) rfl dX5_isLike_58 rfl ?_
        refine AW.ret (some (vi _)) dX5_isLike_59 (Or.inl rfl) ?_
        exact h0 (fun z => c_43 (z.2 k hk0 (by omega)))
      · replace c_43 := Classical.not_not.mp c_43
        refine aw_iconst (pc' := 47) (by decide) dX5_isLike_46 rfl ?_
        refine aw_goto (pc' := 51) dX5_isLike_47 (by decide) ?_
        refine aw_istore_n (pc' := 52) (lv' := [_, _, _, _]) dX5_isLike_51 rfl (by decide) rfl ?_
        refine aw_iinc (pc' := 55) (lv' := [_, _, _, _]) dX5_isLike_52 rfl rfl (by decide) (by first | exact w32_id (by omega) (by omega) | rfl) rfl ?_
        refine aw_goto (pc' := 19) dX5_isLike_55 (by decide) ?_
        exact ih _ (by omega) (k + 1) rfl (by omega) (by omega) he (fun j g1 g2 => by by_cases e : j = k; subst e; exact c_43; exact hall j g1 (by omega)) hN hN2 h60 h1 h0

set_option maxRecDepth 20000 in
theorem x_isLike {d : Nat} {a b : Int} {A : AHp} {Q : Option AV → AHp → Prop} (hd : 0 ≤ d) (hN : NumsAt A a) (hN2 : NumsAt A b) (h60 : 0 ≤ hv A a 1 ∧ hv A a 1 ≤ 60) (h1 : (hv A a 1 = hv A b 1 ∧ ∀ j, 0 ≤ j → j < hv A a 1 → hv A (a + 1) j = hv A (b + 1) j) → Q (some (vi 1)) A) (h0 : ¬ (hv A a 1 = hv A b 1 ∧ ∀ j, 0 ≤ j → j < hv A a 1 → hv A (a + 1) j = hv A (b + 1) j) → Q (some (vi 0)) A) : CALL d mX5_isLike [vr a, vr b] A Q := by
  refine CALL.of (by decide) (Nat.le_of_ble_eq_true rfl) ?_
  change AW d mX5_isLike 0 [some (vr a), some (vr b), none, none] [] A Q
  refine aw_aload_n (pc' := 1) rfl dX5_isLike_0 rfl ?_
  refine aw_geti (pc' := 4) (k9 := 1) dX5_isLike_1 rfl fX5_15 rfl (by decide) rfl hN.1 ?_
  refine aw_aload_n (pc' := 5) rfl dX5_isLike_4 rfl ?_
  refine aw_geti (pc' := 8) (k9 := 1) dX5_isLike_5 rfl fX5_15 rfl (by decide) rfl hN2.1 ?_
  refine aw_icmp_ne (pt := 15) (pf := 11) dX5_isLike_8 (by decide) rfl (fun c_8 => ?_) (fun c_8 => ?_)
  · refine aw_iconst (pc' := 16) (by decide) dX5_isLike_15 rfl ?_
    refine aw_istore_n (pc' := 17) (lv' := [_, _, _, _]) dX5_isLike_16 rfl (by decide) rfl ?_
    refine aw_iconst (pc' := 18) (by decide) dX5_isLike_17 rfl ?_
    refine aw_istore_n (pc' := 19) (lv' := [_, _, _, _]) dX5_isLike_18 rfl (by decide) rfl ?_
    refine aw_iload_n (pc' := 20) rfl dX5_isLike_19 rfl ?_
    refine aw_if_eq (pt := 58) (pf := 23) dX5_isLike_20 (by decide) rfl (fun _ => ?_) (fun c_20 => absurd (by decide) c_20)
    refine aw_iload_n (pc' := 59) rfl dX5_isLike_58 rfl ?_
    refine AW.ret (some (vi _)) dX5_isLike_59 (Or.inl rfl) ?_
    exact h0 (fun z => c_8 z.1)
  · replace c_8 := Classical.not_not.mp c_8
    refine aw_iconst (pc' := 12) (by decide) dX5_isLike_11 rfl ?_
    refine aw_goto (pc' := 16) dX5_isLike_12 (by decide) ?_
    refine aw_istore_n (pc' := 17) (lv' := [_, _, _, _]) dX5_isLike_16 rfl (by decide) rfl ?_
    refine aw_iconst (pc' := 18) (by decide) dX5_isLike_17 rfl ?_
    refine aw_istore_n (pc' := 19) (lv' := [_, _, _, _]) dX5_isLike_18 rfl (by decide) rfl ?_
    exact l_like _ 0 rfl (by omega) h60.1 c_8 (fun j g1 g2 => by omega) hN hN2 h60.2 h1 h0

theorem gcd_top {u w e : Int} (hw : 0 < w) (he : 0 < e) (h1 : u.tmod e = 0) (h2 : w.tmod e = 0) (hall : ∀ f, e < f → f ≤ w → ¬ (u.tmod f = 0 ∧ w.tmod f = 0)) : (Int.gcd u w : Int) = e := by
  have d1 : e ∣ u := Int.dvd_of_tmod_eq_zero h1
  have d2 : e ∣ w := Int.dvd_of_tmod_eq_zero h2
  have d3 : e ∣ (Int.gcd u w : Int) := Int.dvd_coe_gcd d1 d2
  have g0 : 0 < (Int.gcd u w : Int) := by
    have := Int.gcd_pos_of_ne_zero_right u (b := w) (by omega)
    omega
  have le1 : e ≤ (Int.gcd u w : Int) := Int.le_of_dvd g0 d3
  have le2 : (Int.gcd u w : Int) ≤ w := Int.le_of_dvd hw (Int.gcd_dvd_right u w)
  rcases Int.lt_or_eq_of_le le1 with h | h
  · exact absurd ⟨Int.tmod_eq_zero_of_dvd (Int.gcd_dvd_left u w), Int.tmod_eq_zero_of_dvd (Int.gcd_dvd_right u w)⟩ (hall _ h le2)
  · exact h.symm

set_option maxRecDepth 20000 in
theorem lx_lowE {d : Nat} {A : AHp} {u w p v e : Int} {Q : Option AV → AHp → Prop} (hv0 : 0 < v) (hu1 : -1000000000000 < u) (hu2 : u < 1000000000000) (hw1 : 0 < w) (hw2 : w < 1000000) (hQ : Q (some (vl ((if p = 0 then u else w).tdiv v))) A) : AW d mX12_lowest 47 [some (vl u), none, some (vi w), some (vi p), some (vl v), none, some (vi e)] [] A Q := by
  refine aw_iload_n (pc' := 48) rfl dX12_lowest_47 rfl ?_
  refine aw_if_ne (pt := 58) (pf := 51) dX12_lowest_48 (by decide) rfl (fun c_48 => ?_) (fun c_48 => ?_)
  · refine aw_iload_n (pc' := 59) rfl dX12_lowest_58 rfl ?_
    refine aw_i2l (pc' := 60) dX12_lowest_59 rfl ?_
    refine aw_lload (pc' := 62) rfl dX12_lowest_60 rfl ?_
    refine aw_ldiv (pc' := 63) (by omega) rfl dX12_lowest_62 rfl ?_
    refine AW.ret (some (vl _)) dX12_lowest_63 trivial ?_
    rw [td_b hv0 (by omega) (by omega)]
    rw [if_neg c_48] at hQ
    exact hQ
  · replace c_48 := Classical.not_not.mp c_48
    refine aw_lload_n (pc' := 52) rfl dX12_lowest_51 rfl ?_
    refine aw_lload (pc' := 54) rfl dX12_lowest_52 rfl ?_
    refine aw_ldiv (pc' := 55) (by omega) rfl dX12_lowest_54 rfl ?_
    refine aw_goto (pc' := 63) dX12_lowest_55 (by decide) ?_
    refine AW.ret (some (vl _)) dX12_lowest_63 trivial ?_
    rw [td_b hv0 (by omega) (by omega)]
    rw [if_pos c_48] at hQ
    exact hQ

theorem gcd_one {u w : Int} (hw : 0 < w) (hall : ∀ f, 1 < f → f ≤ w → ¬ (u.tmod f = 0 ∧ w.tmod f = 0)) : (Int.gcd u w : Int) = 1 :=
  gcd_top hw (by omega) (Int.tmod_one u) (Int.tmod_one w) hall
theorem low_yes {u w e v : Int} (hw : 0 < w) (he : 1 ≤ e) (h0 : (v = 1 ∧ (∀ f, e < f → 1 < f → f ≤ w → ¬ (u.tmod f = 0 ∧ w.tmod f = 0)) ∨ v ≠ 1 ∧ v = Int.gcd u w)) (hv1 : v = 1) (h1 : u.tmod e = 0) (h2 : w.tmod e = 0) :
    (e = 1 ∧ (∀ f, e - 1 < f → 1 < f → f ≤ w → ¬ (u.tmod f = 0 ∧ w.tmod f = 0)) ∨ e ≠ 1 ∧ e = Int.gcd u w) := by
  rcases h0 with ⟨_, h0⟩ | ⟨h0, _⟩
  · by_cases e1 : e = 1
    · exact Or.inl ⟨e1, fun f _ g2 g3 => h0 f (by omega) g2 g3⟩
    · exact Or.inr ⟨e1, (gcd_top hw (by omega) h1 h2 (fun f g1 g2 => h0 f g1 (by omega) g2)).symm⟩
  · exact absurd hv1 h0
theorem low_no {u w e v : Int} (h0 : (v = 1 ∧ (∀ f, e < f → 1 < f → f ≤ w → ¬ (u.tmod f = 0 ∧ w.tmod f = 0)) ∨ v ≠ 1 ∧ v = Int.gcd u w)) (hv1 : v = 1) (h1 : ¬ (u.tmod e = 0 ∧ w.tmod e = 0)) :
    (v = 1 ∧ (∀ f, e - 1 < f → 1 < f → f ≤ w → ¬ (u.tmod f = 0 ∧ w.tmod f = 0)) ∨ v ≠ 1 ∧ v = Int.gcd u w) := by
  rcases h0 with ⟨_, h0⟩ | ⟨h0, _⟩
  · refine Or.inl ⟨hv1, fun f g1 g2 g3 => ?_⟩
    by_cases e1 : f = e
    · subst e1; exact h1
    · exact h0 f (by omega) g2 g3
  · exact absurd hv1 h0
theorem low_end {u w e v : Int} (hw : 0 < w) (h0 : (v = 1 ∧ (∀ f, e < f → 1 < f → f ≤ w → ¬ (u.tmod f = 0 ∧ w.tmod f = 0)) ∨ v ≠ 1 ∧ v = Int.gcd u w)) (h : e ≤ 1 ∨ v ≠ 1) : v = Int.gcd u w := by
  rcases h0 with ⟨h1, h0⟩ | ⟨_, h0⟩
  · rw [gcd_one hw (fun f g1 g2 => h0 f (by omega) g1 g2)]; exact h1
  · exact h0

set_option maxRecDepth 20000 in
theorem lx_lowest {d : Nat} {A : AHp} {u w p : Int} {Q : Option AV → AHp → Prop} : ∀ (m : Nat) (v e : Int), e.toNat = m → 0 ≤ e → e ≤ w → 0 < v → v < 1000000 → (v = 1 ∧ (∀ f, e < f → 1 < f → f ≤ w → ¬ (u.tmod f = 0 ∧ w.tmod f = 0)) ∨ v ≠ 1 ∧ v = Int.gcd u w) → 0 < w → -1000000000000 < u → u < 1000000000000 → w < 1000000 → Q (some (vl ((if p = 0 then u else w).tdiv (Int.gcd u w)))) A → AW d mX12_lowest 6 [some (vl u), none, some (vi w), some (vi p), some (vl v), none, some (vi e)] [] A Q := by
  intro m
  induction m using Nat.strongRecOn with
  | _ m ih =>
    intro v e hm he0 hew hv0 hv9 hI hw1 hu1 hu2 hw2 hQ
    refine aw_iload (pc' := 8) rfl dX12_lowest_6 rfl ?_
    refine aw_iconst (pc' := 9) (by decide) dX12_lowest_8 rfl ?_
    refine aw_icmp_le (pt := 47) (pf := 12) dX12_lowest_9 (by decide) rfl (fun c_9 => ?_) (fun c_9 => ?_)
    · have hg9 := low_end hw1 hI (by omega)
      exact lx_lowE hv0 hu1 hu2 hw1 hw2 (by rw [hg9]; exact hQ)
    · refine aw_lload (pc' := 14) rfl dX12_lowest_12 rfl ?_
      refine aw_lconst (x := 1) (pc' := 15) (by decide +kernel) dX12_lowest_14 rfl ?_
      refine aw_lcmp (pc' := 16) dX12_lowest_15 rfl ?_
      refine aw_if_ne (pt := 47) (pf := 19) dX12_lowest_16 (by decide) rfl (fun c_16 => ?_) (fun c_16 => ?_)
      · replace c_16 := (not_congr cmp_eq).mp c_16
        have hg9 := low_end hw1 hI (by omega)
        exact lx_lowE hv0 hu1 hu2 hw1 hw2 (by rw [hg9]; exact hQ)
      · replace c_16 := Classical.not_not.mp c_16
        replace c_16 := (cmp_eq).mp c_16
        refine aw_lload_n (pc' := 20) rfl dX12_lowest_19 rfl ?_
        refine aw_iload (pc' := 22) rfl dX12_lowest_20 rfl ?_
        refine aw_i2l (pc' := 23) dX12_lowest_22 rfl ?_
        refine aw_lrem (pc' := 24) (by omega) rfl dX12_lowest_23 rfl ?_
        refine aw_lconst (x := 0) (pc' := 25) (by decide +kernel) dX12_lowest_24 rfl ?_
        refine aw_lcmp (pc' := 26) dX12_lowest_25 rfl ?_
        refine aw_if_ne (pt := 41) (pf := 29) dX12_lowest_26 (by decide) rfl (fun c_26 => ?_) (fun c_26 => ?_)
        · replace c_26 := (not_congr cmp_eq).mp c_26
          refine aw_iinc (pc' := 44) (lv' := [_, _, _, _, _, _, _]) dX12_lowest_41 rfl rfl (by decide) (by first | exact w32_id (by omega) (by omega) | rfl) rfl ?_
          refine aw_goto (pc' := 6) dX12_lowest_44 (by decide) ?_
          first
          | exact ih _ (by omega) e (e - 1) rfl (by omega) (by omega) (by omega) (by omega) (low_yes hw1 (by omega) hI (by omega) (by omega) (by omega)) hw1 hu1 hu2 hw2 hQ
          | exact ih _ (by omega) v (e - 1) rfl (by omega) (by omega) (by omega) (by omega) (low_no hI (by omega) (by omega)) hw1 hu1 hu2 hw2 hQ
        · replace c_26 := Classical.not_not.mp c_26
          replace c_26 := (cmp_eq).mp c_26
          refine aw_iload_n (pc' := 30) rfl dX12_lowest_29 rfl ?_
          refine aw_iload (pc' := 32) rfl dX12_lowest_30 rfl ?_
          refine aw_irem (pc' := 33) (by omega) rfl dX12_lowest_32 rfl ?_
          refine aw_if_ne (pt := 41) (pf := 36) dX12_lowest_33 (by decide) rfl (fun c_33 => ?_) (fun c_33 => ?_)
          · refine aw_iinc (pc' := 44) (lv' := [_, _, _, _, _, _, _]) dX12_lowest_41 rfl rfl (by decide) (by first | exact w32_id (by omega) (by omega) | rfl) rfl ?_
            refine aw_goto (pc' := 6) dX12_lowest_44 (by decide) ?_
            first
            | exact ih _ (by omega) e (e - 1) rfl (by omega) (by omega) (by omega) (by omega) (low_yes hw1 (by omega) hI (by omega) (by omega) (by omega)) hw1 hu1 hu2 hw2 hQ
            | exact ih _ (by omega) v (e - 1) rfl (by omega) (by omega) (by omega) (by omega) (low_no hI (by omega) (by omega)) hw1 hu1 hu2 hw2 hQ
          · replace c_33 := Classical.not_not.mp c_33
            refine aw_iload (pc' := 38) rfl dX12_lowest_36 rfl ?_
            refine aw_i2l (pc' := 39) dX12_lowest_38 rfl ?_
            refine aw_lstore (pc' := 41) (lv' := [_, _, _, _, _, _, _]) dX12_lowest_39 rfl (by decide) rfl ?_
            refine aw_iinc (pc' := 44) (lv' := [_, _, _, _, _, _, _]) dX12_lowest_41 rfl rfl (by decide) (by first | exact w32_id (by omega) (by omega) | rfl) rfl ?_
            refine aw_goto (pc' := 6) dX12_lowest_44 (by decide) ?_
            first
            | exact ih _ (by omega) e (e - 1) rfl (by omega) (by omega) (by omega) (by omega) (low_yes hw1 (by omega) hI (by omega) (by omega) (by omega)) hw1 hu1 hu2 hw2 hQ
            | exact ih _ (by omega) v (e - 1) rfl (by omega) (by omega) (by omega) (by omega) (low_no hI (by omega) (by omega)) hw1 hu1 hu2 hw2 hQ

set_option maxRecDepth 20000 in
theorem x_lowest {d : Nat} {u w p : Int} {A : AHp} {Q : Option AV → AHp → Prop} (hd : 0 ≤ d) (hu1 : -1000000000000 < u) (hu2 : u < 1000000000000) (hw1 : 0 < w) (hw2 : w < 1000000) (hQ : Q (some (vl ((if p = 0 then u else w).tdiv (Int.gcd u w)))) A) : CALL d mX12_lowest [vl u, vi w, vi p] A Q := by
  refine CALL.of (by decide) (Nat.le_of_ble_eq_true rfl) ?_
  change AW d mX12_lowest 0 [some (vl u), none, some (vi w), some (vi p), none, none, none] [] A Q
  refine aw_lconst (x := 1) (pc' := 1) (by decide +kernel) dX12_lowest_0 rfl ?_
  refine aw_lstore (pc' := 3) (lv' := [_, _, _, _, _, _, _]) dX12_lowest_1 rfl (by decide) rfl ?_
  refine aw_iload_n (pc' := 4) rfl dX12_lowest_3 rfl ?_
  refine aw_istore (pc' := 6) (lv' := [_, _, _, _, _, _, _]) dX12_lowest_4 rfl (by decide) rfl ?_
  exact lx_lowest _ 1 w rfl (by omega) (by omega) (by omega) (by omega) (Or.inl ⟨rfl, fun f g1 g2 g3 => by omega⟩) hw1 hu1 hu2 hw2 hQ
