/-! ===== the reference's reader: bytes, words, numbers ===== -/
def btS (s : Sg) (k : Int) : Int := if k < s 307 17 then s 322 k else -1
def stopS (s : Sg) (p : Int) : Sg := sset s 307 19 p
def advS (s : Sg) : Sg := sset s 307 18 (s 307 18 + 1)
/-- the reader's numbers within their bounds -/
def RDB (s : Sg) : Prop := (0 ≤ s 307 17 ∧ s 307 17 ≤ 100) ∧ (0 ≤ s 307 18 ∧ s 307 18 ≤ 110) ∧ (0 ≤ s 307 12 ∧ s 307 12 < 8) ∧ (0 ≤ s 307 20 ∧ s 307 20 < 60) ∧ (0 ≤ s 307 21 ∧ s 307 21 < 60) ∧ (0 ≤ s 307 22 ∧ s 307 22 < 60) ∧ (∀ k, 0 ≤ k → k < s 307 17 → 0 ≤ s 322 k ∧ s 322 k ≤ 127)
theorem bt_b {s : Sg} {k : Int} (h : RDB s) (hk : 0 ≤ k) : -1 ≤ btS s k ∧ btS s k ≤ 127 := by
  unfold btS
  split
  · next e =>
    have := h.2.2.2.2.2.2 k hk e
    omega
  · omega
def newS (s : Sg) (w : Int) : Sg := sset (sset (sset (sset s 307 22 (s 307 22 + 1)) 314 (60 * s 307 12 + s 307 22) w) 316 (60 * s 307 12 + s 307 22) 0) 315 (60 * s 307 12 + s 307 22) 0
noncomputable def mtS (s : Sg) (f t : Int) (w : Nat) : Bool := @decide ((sLen w : Int) = t - f ∧ ∀ k, 0 ≤ k → k < t - f → sChr w k = s 322 (f + k)) (Classical.propDecidable _)
def fst1 (b : Nat → Bool) : Nat → Int
  | 0 => -1
  | n + 1 => if fst1 b n = -1 then (if b n then (n : Int) else -1) else fst1 b n
theorem fst1_no {b : Nat → Bool} : ∀ {n : Nat}, (∀ w, w < n → b w = false) → fst1 b n = -1
  | 0, _ => rfl
  | n + 1, h => by
    unfold fst1
    rw [if_pos (fst1_no (fun w hw => h w (by omega))), h n (by omega)]
    rfl
theorem fst1_yes {b : Nat → Bool} : ∀ {n w : Nat}, w < n → b w = true → (∀ w', w' < w → b w' = false) → fst1 b n = w
  | 0, w, h, _, _ => by omega
  | n + 1, w, h, h1, h2 => by
    unfold fst1
    by_cases e : w = n
    · subst e
      rw [if_pos (fst1_no h2), if_pos h1]
    · have := fst1_yes (n := n) (by omega) h1 h2
      rw [if_neg (by omega), this]
noncomputable def wofS (s : Sg) (f t : Int) : Int := fst1 (mtS s f t) 14
set_option maxRecDepth 20000 in
theorem c_byteAt {d : Nat} {k : Int} {A : AHp} {s : Sg} {Q : Option AV → AHp → Prop} (hd : 0 ≤ d) (hM : MLAY A) (h1 : 0 ≤ s 307 17 ∧ s 307 17 ≤ 100) (hk : 0 ≤ k) (hQ : Q (some (vi (btS s k))) (lift A s)) : CALL d mX13_byteAt [vr 307, vi k] (lift A s) Q := by
  refine CALL.of (by decide) (Nat.le_of_ble_eq_true rfl) ?_
  change AW d mX13_byteAt 0 [some (vr 307), some (vi k)] [] (lift A s) Q
  refine aw_iload_n (pc' := 1) rfl dX13_byteAt_0 rfl ?_
  refine aw_aload_n (pc' := 2) rfl dX13_byteAt_1 rfl ?_
  refine aw_geti (pc' := 5) (k9 := 17) dX13_byteAt_2 rfl fX13_181 rfl (by decide) rfl (MO (A := (lift A s)) hM) ?_
  try simp (disch := omega) only [hv_in, lift_set, sset_e, sset_1, sset_2, workS_o, stagesS_o, beginsS_o, scpy_o, lift_cpy]
  refine aw_icmp_ge (pt := 17) (pf := 8) dX13_byteAt_5 (by decide) rfl (fun c_5 => ?_) (fun c_5 => ?_)
  · refine aw_iconst (pc' := 18) (by decide) dX13_byteAt_17 rfl ?_
    refine AW.ret (some (vi _)) dX13_byteAt_18 trivial ?_
    try simp (disch := omega) only [hv_in, lift_set, sset_e, sset_1, sset_2, workS_o, stagesS_o, beginsS_o, scpy_o, lift_cpy]
    unfold btS at hQ
    simp (disch := omega) only [if_pos, if_neg] at hQ
    exact hQ
  · refine aw_aload_n (pc' := 9) rfl dX13_byteAt_8 rfl ?_
    refine aw_getp (pc' := 12) (k9 := 16) (p := 322) dX13_byteAt_9 rfl fX13_89 rfl rfl rfl (MO (A := (lift A s)) hM) (M_text (A := (lift A s)) hM) ?_
    refine aw_iload_n (pc' := 13) rfl dX13_byteAt_12 rfl ?_
    refine aw_iald (pc' := 14) dX13_byteAt_13 rfl (MA_text (A := (lift A s)) hM) (by omega) (by omega) ?_
    try simp (disch := omega) only [hv_in, lift_set, sset_e, sset_1, sset_2, workS_o, stagesS_o, beginsS_o, scpy_o, lift_cpy]
    refine aw_goto (pc' := 18) dX13_byteAt_14 (by decide) ?_
    refine AW.ret (some (vi _)) dX13_byteAt_18 trivial ?_
    try simp (disch := omega) only [hv_in, lift_set, sset_e, sset_1, sset_2, workS_o, stagesS_o, beginsS_o, scpy_o, lift_cpy]
    unfold btS at hQ
    simp (disch := omega) only [if_pos, if_neg] at hQ
    exact hQ

set_option maxRecDepth 20000 in
theorem c_stops {d : Nat} {p : Int} {A : AHp} {s : Sg} {Q : Option AV → AHp → Prop} (hd : 0 ≤ d) (hM : MLAY A) (hQ : Q (some (vi 0)) (lift A (stopS s p))) : CALL d mX13_stops [vr 307, vi p] (lift A s) Q := by
  refine CALL.of (by decide) (Nat.le_of_ble_eq_true rfl) ?_
  change AW d mX13_stops 0 [some (vr 307), some (vi p)] [] (lift A s) Q
  refine aw_aload_n (pc' := 1) rfl dX13_stops_0 rfl ?_
  refine aw_iload_n (pc' := 2) rfl dX13_stops_1 rfl ?_
  refine aw_puti (pc' := 5) (k9 := 19) dX13_stops_2 rfl fX13_184 rfl rfl rfl (MO (A := (lift A s)) hM) ?_
  refine aw_iconst (pc' := 6) (by decide) dX13_stops_5 rfl ?_
  refine AW.ret (some (vi _)) dX13_stops_6 (Or.inl rfl) ?_
  try simp (disch := omega) only [hv_in, lift_set, sset_e, sset_1, sset_2, workS_o, stagesS_o, beginsS_o, scpy_o, lift_cpy]
  exact hQ

set_option maxRecDepth 20000 in
theorem c_newStage {d : Nat} {w : Int} {A : AHp} {s : Sg} {Q : Option AV → AHp → Prop} (hd : 0 ≤ d) (hM : MLAY A) (h1 : 0 ≤ s 307 12 ∧ s 307 12 < 8) (h2 : 0 ≤ s 307 22 ∧ s 307 22 < 60) (hQ : Q (some (vi (60 * s 307 12 + s 307 22))) (lift A (newS s w))) : CALL d mX13_newStage [vr 307, vi w] (lift A s) Q := by
  refine CALL.of (by decide) (Nat.le_of_ble_eq_true rfl) ?_
  change AW d mX13_newStage 0 [some (vr 307), some (vi w), none] [] (lift A s) Q
  refine aw_bipush (pc' := 2) (by decide +kernel) dX13_newStage_0 rfl ?_
  refine aw_aload_n (pc' := 3) rfl dX13_newStage_2 rfl ?_
  refine aw_geti (pc' := 6) (k9 := 12) dX13_newStage_3 rfl fX13_196 rfl (by decide) rfl (MO (A := (lift A s)) hM) ?_
  try simp (disch := omega) only [hv_in, lift_set, sset_e, sset_1, sset_2, workS_o, stagesS_o, beginsS_o, scpy_o, lift_cpy]
  refine aw_imul (pc' := 7) (by first | exact w32_id (by omega) (by omega) | rfl) dX13_newStage_6 rfl ?_
  refine aw_aload_n (pc' := 8) rfl dX13_newStage_7 rfl ?_
  refine aw_geti (pc' := 11) (k9 := 22) dX13_newStage_8 rfl fX13_240 rfl (by decide) rfl (MO (A := (lift A s)) hM) ?_
  try simp (disch := omega) only [hv_in, lift_set, sset_e, sset_1, sset_2, workS_o, stagesS_o, beginsS_o, scpy_o, lift_cpy]
  refine aw_iadd (pc' := 12) (by first | exact w32_id (by omega) (by omega) | rfl) dX13_newStage_11 rfl ?_
  refine aw_istore_n (pc' := 13) (lv' := [_, _, _]) dX13_newStage_12 rfl (by decide) rfl ?_
  refine aw_aload_n (pc' := 14) rfl dX13_newStage_13 rfl ?_
  refine aw_dup (pc' := 15) rfl dX13_newStage_14 rfl ?_
  refine aw_geti (pc' := 18) (k9 := 22) dX13_newStage_15 rfl fX13_240 rfl (by decide) rfl (MO (A := (lift A s)) hM) ?_
  try simp (disch := omega) only [hv_in, lift_set, sset_e, sset_1, sset_2, workS_o, stagesS_o, beginsS_o, scpy_o, lift_cpy]
  refine aw_iconst (pc' := 19) (by decide) dX13_newStage_18 rfl ?_
  refine aw_iadd (pc' := 20) (by first | exact w32_id (by omega) (by omega) | rfl) dX13_newStage_19 rfl ?_
  refine aw_puti (pc' := 23) (k9 := 22) dX13_newStage_20 rfl fX13_240 rfl rfl rfl (MO (A := (lift A s)) hM) ?_
  refine aw_aload_n (pc' := 24) rfl dX13_newStage_23 rfl ?_
  refine aw_getp (pc' := 27) (k9 := 6) (p := 314) dX13_newStage_24 rfl fX13_61 rfl rfl rfl (MO (A := (lift A s)) hM) (M_word (A := (lift A s)) hM) ?_
  refine aw_iload_n (pc' := 28) rfl dX13_newStage_27 rfl ?_
  refine aw_iload_n (pc' := 29) rfl dX13_newStage_28 rfl ?_
  refine aw_iast (pc' := 30) dX13_newStage_29 rfl (MA_word (A := (lift A s)) hM) (by omega) (by omega) ?_
  refine aw_aload_n (pc' := 31) rfl dX13_newStage_30 rfl ?_
  refine aw_getp (pc' := 34) (k9 := 8) (p := 316) dX13_newStage_31 rfl fX13_67 rfl rfl rfl (MO (A := (lift A s)) hM) (M_many (A := (lift A s)) hM) ?_
  refine aw_iload_n (pc' := 35) rfl dX13_newStage_34 rfl ?_
  refine aw_iconst (pc' := 36) (by decide) dX13_newStage_35 rfl ?_
  refine aw_iast (pc' := 37) dX13_newStage_36 rfl (MA_many (A := (lift A s)) hM) (by omega) (by omega) ?_
  refine aw_aload_n (pc' := 38) rfl dX13_newStage_37 rfl ?_
  refine aw_getp (pc' := 41) (k9 := 7) (p := 315) dX13_newStage_38 rfl fX13_64 rfl rfl rfl (MO (A := (lift A s)) hM) (M_inner (A := (lift A s)) hM) ?_
  refine aw_iload_n (pc' := 42) rfl dX13_newStage_41 rfl ?_
  refine aw_iconst (pc' := 43) (by decide) dX13_newStage_42 rfl ?_
  refine aw_iast (pc' := 44) dX13_newStage_43 rfl (MA_inner (A := (lift A s)) hM) (by omega) (by omega) ?_
  refine aw_iload_n (pc' := 45) rfl dX13_newStage_44 rfl ?_
  refine AW.ret (some (vi _)) dX13_newStage_45 trivial ?_
  try simp (disch := omega) only [hv_in, lift_set, sset_e, sset_1, sset_2, workS_o, stagesS_o, beginsS_o, scpy_o, lift_cpy]
  exact hQ

set_option maxRecDepth 20000 in
theorem l_wofI {d : Nat} {A : AHp} {s : Sg} {f t w : Int} {Q : Option AV → AHp → Prop} : ∀ (m : Nat) (k z : Int), (t - f - k).toNat = m → 4 ≤ d → MLAY A → (∀ j, 0 ≤ j → j < 14 → s 308 j = 16 + j) → (0 ≤ f ∧ t ≤ 100) → (0 ≤ w ∧ w < 14) → (sLen w.toNat : Int) = t - f → 0 ≤ k → (k ≤ t - f) → (z = 0 ∨ z = 1) → (z = 1 → ∀ j, 0 ≤ j → j < k → sChr w.toNat j = s 322 (f + j)) → (z = 0 → ¬ ∀ j, 0 ≤ j → j < t - f → sChr w.toNat j = s 322 (f + j)) → (∀ z L5, (z = 0 ∨ z = 1) → (z = 1 ↔ ∀ j, 0 ≤ j → j < t - f → sChr w.toNat j = s 322 (f + j)) → AW d mX13_wordOf 82 [some (vr 307), some (vi f), some (vi t), some (vi w), some (vi z), L5] [] (lift A s) Q) → AW d mX13_wordOf 33 [some (vr 307), some (vi f), some (vi t), some (vi w), some (vi z), some (vi k)] [] (lift A s) Q := by
  intro m
  induction m using Nat.strongRecOn with
  | _ m ih =>
    intro k z hm hd hM hwr hft hw hlen hk0 hkn hz h1 h0 hE
    refine aw_iload (pc' := 35) rfl dX13_wordOf_33 rfl ?_
    refine aw_if_eq (pt := 82) (pf := 38) dX13_wordOf_35 (by decide) rfl (fun c_35 => ?_) (fun c_35 => ?_)
    · refine hE z _ hz ⟨fun q j g1 g2 => h1 q j g1 (by omega), fun q => ?_⟩
      rcases hz with hz | hz
      · exact absurd q (h0 hz)
      · exact hz
    · refine aw_iload (pc' := 40) rfl dX13_wordOf_38 rfl ?_
      refine aw_iload_n (pc' := 41) rfl dX13_wordOf_40 rfl ?_
      refine aw_iload_n (pc' := 42) rfl dX13_wordOf_41 rfl ?_
      refine aw_isub (pc' := 43) (by first | exact w32_id (by omega) (by omega) | rfl) dX13_wordOf_42 rfl ?_
      refine aw_icmp_ge (pt := 82) (pf := 46) dX13_wordOf_43 (by decide) rfl (fun c_43 => ?_) (fun c_43 => ?_)
      · refine hE z _ hz ⟨fun q j g1 g2 => h1 q j g1 (by omega), fun q => ?_⟩
        rcases hz with hz | hz
        · exact absurd q (h0 hz)
        · exact hz
      · refine aw_aload_n (pc' := 47) rfl dX13_wordOf_46 rfl ?_
        refine aw_getp (pc' := 50) (k9 := 0) (p := 308) dX13_wordOf_47 rfl fX13_39 rfl rfl rfl (MO (A := (lift A s)) hM) (M_words (A := (lift A s)) hM) ?_
        refine aw_iload_n (pc' := 51) rfl dX13_wordOf_50 rfl ?_
        refine aw_aald (pc' := 52) (t0 := 9) (fun _ => rfl) (by decide) dX13_wordOf_51 rfl (MA_words (A := (lift A s)) hM) (by omega) (by omega) ?_
        try simp (disch := omega) only [hv_in, lift_set, sset_e, sset_1, sset_2, workS_o, stagesS_o, beginsS_o, scpy_o, lift_cpy]
        rw [hwr w (by omega) (by omega)]
        try simp (disch := omega) only [hv_in, lift_set, sset_e, sset_1, sset_2, workS_o, stagesS_o, beginsS_o, scpy_o, lift_cpy]
        refine aw_iload (pc' := 54) rfl dX13_wordOf_52 rfl ?_
        refine aw_callStr (d' := d - 1) (as := [_]) (pc' := 57) rfl kJ0_charAt_5068e iJ0_charAt_5068e sJ0_charAt_5068e lX13_247 (by omega) (by omega) dX13_wordOf_54 rfl rfl (Nat.le_of_ble_eq_true rfl) (by omega) ?_
        refine c_charAt (by omega) (by omega) (by omega) (by omega) (by rw [show 16 + w - 16 = w by omega]; omega) ?_
        refine aw_aload_n (pc' := 58) rfl dX13_wordOf_57 rfl ?_
        refine aw_getp (pc' := 61) (k9 := 16) (p := 322) dX13_wordOf_58 rfl fX13_89 rfl rfl rfl (MO (A := (lift A s)) hM) (M_text (A := (lift A s)) hM) ?_
        refine aw_iload_n (pc' := 62) rfl dX13_wordOf_61 rfl ?_
        refine aw_iload (pc' := 64) rfl dX13_wordOf_62 rfl ?_
        refine aw_iadd (pc' := 65) (by first | exact w32_id (by omega) (by omega) | rfl) dX13_wordOf_64 rfl ?_
        refine aw_iald (pc' := 66) dX13_wordOf_65 rfl (MA_text (A := (lift A s)) hM) (by omega) (by omega) ?_
        try simp (disch := omega) only [hv_in, lift_set, sset_e, sset_1, sset_2, workS_o, stagesS_o, beginsS_o, scpy_o, lift_cpy]
        refine aw_icmp_ne (pt := 73) (pf := 69) dX13_wordOf_66 (by decide) rfl (fun c_66 => ?_) (fun c_66 => ?_)
        · refine aw_iconst (pc' := 74) (by decide) dX13_wordOf_73 rfl ?_
          refine aw_istore (pc' := 76) (lv' := [_, _, _, _, _, _]) dX13_wordOf_74 rfl (by decide) rfl ?_
          refine aw_iinc (pc' := 79) (lv' := [_, _, _, _, _, _]) dX13_wordOf_76 rfl rfl (by decide) (by first | exact w32_id (by omega) (by omega) | rfl) rfl ?_
          refine aw_goto (pc' := 33) dX13_wordOf_79 (by decide) ?_
          first
          | exact ih _ (by omega) (k + 1) 1 rfl hd hM hwr hft hw hlen (by omega) (by omega) (Or.inr rfl) (fun _ j g1 g2 => by by_cases e : j = k; subst e; rw [show w = 16 + w - 16 by omega]; exact c_66; exact h1 (by omega) j g1 (by omega)) (fun q => by omega) hE
          | exact ih _ (by omega) (k + 1) 0 rfl hd hM hwr hft hw hlen (by omega) (by omega) (Or.inl rfl) (fun q => by omega) (fun _ q => c_66 (by have := q k (by omega) (by omega); rw [show w = 16 + w - 16 by omega] at this; exact this)) hE
        · replace c_66 := Classical.not_not.mp c_66
          refine aw_iconst (pc' := 70) (by decide) dX13_wordOf_69 rfl ?_
          refine aw_goto (pc' := 74) dX13_wordOf_70 (by decide) ?_
          refine aw_istore (pc' := 76) (lv' := [_, _, _, _, _, _]) dX13_wordOf_74 rfl (by decide) rfl ?_
          refine aw_iinc (pc' := 79) (lv' := [_, _, _, _, _, _]) dX13_wordOf_76 rfl rfl (by decide) (by first | exact w32_id (by omega) (by omega) | rfl) rfl ?_
          refine aw_goto (pc' := 33) dX13_wordOf_79 (by decide) ?_
          first
          | exact ih _ (by omega) (k + 1) 1 rfl hd hM hwr hft hw hlen (by omega) (by omega) (Or.inr rfl) (fun _ j g1 g2 => by by_cases e : j = k; subst e; rw [show w = 16 + w - 16 by omega]; exact c_66; exact h1 (by omega) j g1 (by omega)) (fun q => by omega) hE
          | exact ih _ (by omega) (k + 1) 0 rfl hd hM hwr hft hw hlen (by omega) (by omega) (Or.inl rfl) (fun q => by omega) (fun _ q => c_66 (by have := q k (by omega) (by omega); rw [show w = 16 + w - 16 by omega] at this; exact this)) hE

set_option maxRecDepth 20000 in
theorem l_wofY {d : Nat} {A : AHp} {s : Sg} {f t w : Int} {n : Nat} {L5 : Option AV} {Q : Option AV → AHp → Prop} (hQ : Q (some (vi (wofS s f t))) (lift A s)) (hmy : mtS s f t n = true) (hno : ∀ w1, w1 < n → mtS s f t w1 = false) (hn : n < 14) (ew : w = (n : Int)) : AW d mX13_wordOf 82 [some (vr 307), some (vi f), some (vi t), some (vi w), some (vi 1), L5] [] (lift A s) Q := by
  refine aw_iload (pc' := 84) rfl dX13_wordOf_82 rfl ?_
  refine aw_if_eq (pt := 89) (pf := 87) dX13_wordOf_84 (by decide) rfl (fun c_84 => absurd c_84 (by decide)) (fun _ => ?_)
  refine aw_iload_n (pc' := 88) rfl dX13_wordOf_87 rfl ?_
  refine AW.ret (some (vi _)) dX13_wordOf_88 trivial ?_
  have e9 : wofS s f t = w := by
    unfold wofS
    rw [fst1_yes (w := n) hn hmy hno]
    omega
  rw [e9] at hQ
  exact hQ

set_option maxRecDepth 20000 in
theorem l_wofN {d : Nat} {A : AHp} {s : Sg} {f t w : Int} {L5 : Option AV} {Q : Option AV → AHp → Prop} (h0 : 0 ≤ w) (h1 : w < 14) (hE : ∀ L4 L5, AW d mX13_wordOf 2 [some (vr 307), some (vi f), some (vi t), some (vi (w + 1)), L4, L5] [] (lift A s) Q) : AW d mX13_wordOf 82 [some (vr 307), some (vi f), some (vi t), some (vi w), some (vi 0), L5] [] (lift A s) Q := by
  refine aw_iload (pc' := 84) rfl dX13_wordOf_82 rfl ?_
  refine aw_if_eq (pt := 89) (pf := 87) dX13_wordOf_84 (by decide) rfl (fun _ => ?_) (fun c_84 => absurd (by decide) c_84)
  refine aw_iinc (pc' := 92) (lv' := [_, _, _, _, _, _]) dX13_wordOf_89 rfl rfl (by decide) (by first | exact w32_id (by omega) (by omega) | rfl) rfl ?_
  refine aw_goto (pc' := 2) dX13_wordOf_92 (by decide) ?_
  exact hE _ _

set_option maxRecDepth 20000 in
theorem l_wofZ {d : Nat} {A : AHp} {s : Sg} {f t w : Int} {Q : Option AV → AHp → Prop} (h0 : 0 ≤ w) (h1 : w < 14) (hE : ∀ L4 L5, AW d mX13_wordOf 2 [some (vr 307), some (vi f), some (vi t), some (vi (w + 1)), L4, L5] [] (lift A s) Q) : AW d mX13_wordOf 33 [some (vr 307), some (vi f), some (vi t), some (vi w), some (vi 0), some (vi 0)] [] (lift A s) Q := by
  refine aw_iload (pc' := 35) rfl dX13_wordOf_33 rfl ?_
  refine aw_if_eq (pt := 82) (pf := 38) dX13_wordOf_35 (by decide) rfl (fun _ => ?_) (fun c_35 => absurd (by decide) c_35)
  refine aw_iload (pc' := 84) rfl dX13_wordOf_82 rfl ?_
  refine aw_if_eq (pt := 89) (pf := 87) dX13_wordOf_84 (by decide) rfl (fun _ => ?_) (fun c_84 => absurd (by decide) c_84)
  refine aw_iinc (pc' := 92) (lv' := [_, _, _, _, _, _]) dX13_wordOf_89 rfl rfl (by decide) (by first | exact w32_id (by omega) (by omega) | rfl) rfl ?_
  refine aw_goto (pc' := 2) dX13_wordOf_92 (by decide) ?_
  exact hE _ _

set_option maxRecDepth 20000 in
theorem l_wof {d : Nat} {A : AHp} {s : Sg} {f t : Int} {Q : Option AV → AHp → Prop} : ∀ (m : Nat) (n : Nat) (w : Int), 14 - n = m → 5 ≤ d → MLAY A → (∀ j, 0 ≤ j → j < 14 → s 308 j = 16 + j) → (0 ≤ f ∧ t ≤ 100 ∧ f ≤ t) → n ≤ 14 → w = (n : Int) → (∀ w', w' < n → mtS s f t w' = false) → Q (some (vi (wofS s f t))) (lift A s) → ∀ (L4 L5 : Option AV), AW d mX13_wordOf 2 [some (vr 307), some (vi f), some (vi t), some (vi w), L4, L5] [] (lift A s) Q := by
  intro m
  induction m using Nat.strongRecOn with
  | _ m ih =>
    intro n w hm hd hM hwr hft hn ew hno hQ L4 L5
    have hwn : w.toNat = n := by omega
    refine aw_iload_n (pc' := 3) rfl dX13_wordOf_2 rfl ?_
    refine aw_bipush (pc' := 5) (by decide +kernel) dX13_wordOf_3 rfl ?_
    refine aw_icmp_ge (pt := 95) (pf := 8) dX13_wordOf_5 (by decide) rfl (fun c_5 => ?_) (fun c_5 => ?_)
    · refine aw_iconst (pc' := 96) (by decide) dX13_wordOf_95 rfl ?_
      refine AW.ret (some (vi _)) dX13_wordOf_96 trivial ?_
      have e9 : wofS s f t = -1 := fst1_no (fun w1 hw1 => hno w1 (by omega))
      rw [e9] at hQ
      exact hQ
    · refine aw_aload_n (pc' := 9) rfl dX13_wordOf_8 rfl ?_
      refine aw_getp (pc' := 12) (k9 := 0) (p := 308) dX13_wordOf_9 rfl fX13_39 rfl rfl rfl (MO (A := (lift A s)) hM) (M_words (A := (lift A s)) hM) ?_
      refine aw_iload_n (pc' := 13) rfl dX13_wordOf_12 rfl ?_
      refine aw_aald (pc' := 14) (t0 := 9) (fun _ => rfl) (by decide) dX13_wordOf_13 rfl (MA_words (A := (lift A s)) hM) (by omega) (by omega) ?_
      try simp (disch := omega) only [hv_in, lift_set, sset_e, sset_1, sset_2, workS_o, stagesS_o, beginsS_o, scpy_o, lift_cpy]
      rw [hwr w (by omega) (by omega)]
      try simp (disch := omega) only [hv_in, lift_set, sset_e, sset_1, sset_2, workS_o, stagesS_o, beginsS_o, scpy_o, lift_cpy]
      refine aw_callStr (d' := d - 1) (as := []) (pc' := 17) rfl kJ0_length_8abf5 iJ0_length_8abf5 sJ0_length_8abf5 lX13_243 (by omega) (by omega) dX13_wordOf_14 rfl rfl (Nat.le_of_ble_eq_true rfl) (by omega) ?_
      refine c_strlen (by omega) (by omega) (by omega) ?_
      rw [show 16 + w - 16 = w by omega]
      refine aw_iload_n (pc' := 18) rfl dX13_wordOf_17 rfl ?_
      refine aw_iload_n (pc' := 19) rfl dX13_wordOf_18 rfl ?_
      refine aw_isub (pc' := 20) (by first | exact w32_id (by omega) (by omega) | rfl) dX13_wordOf_19 rfl ?_
      refine aw_icmp_ne (pt := 27) (pf := 23) dX13_wordOf_20 (by decide) rfl (fun c_20 => ?_) (fun c_20 => ?_)
      · refine aw_iconst (pc' := 28) (by decide) dX13_wordOf_27 rfl ?_
        refine aw_istore (pc' := 30) (lv' := [_, _, _, _, _, _]) dX13_wordOf_28 rfl (by decide) rfl ?_
        refine aw_iconst (pc' := 31) (by decide) dX13_wordOf_30 rfl ?_
        refine aw_istore (pc' := 33) (lv' := [_, _, _, _, _, _]) dX13_wordOf_31 rfl (by decide) rfl ?_
        have hmn : mtS s f t n = false := by
          unfold mtS
          simp only [decide_eq_false_iff_not]
          rw [← hwn]
          exact fun q => c_20 q.1
        exact l_wofZ (by omega) (by omega) (fun L4 L5 => ih _ (by omega) (n + 1) (w + 1) rfl hd hM hwr hft (by omega) (by omega) (fun w1 hw1 => by by_cases e : w1 = n; subst e; exact hmn; exact hno w1 (by omega)) hQ _ _)
      · replace c_20 := Classical.not_not.mp c_20
        refine aw_iconst (pc' := 24) (by decide) dX13_wordOf_23 rfl ?_
        refine aw_goto (pc' := 28) dX13_wordOf_24 (by decide) ?_
        refine aw_istore (pc' := 30) (lv' := [_, _, _, _, _, _]) dX13_wordOf_28 rfl (by decide) rfl ?_
        refine aw_iconst (pc' := 31) (by decide) dX13_wordOf_30 rfl ?_
        refine aw_istore (pc' := 33) (lv' := [_, _, _, _, _, _]) dX13_wordOf_31 rfl (by decide) rfl ?_
        refine l_wofI _ 0 1 rfl (by omega) hM hwr (by omega) (by omega) (by omega) (by omega) (by omega) (Or.inr rfl) (fun _ j g1 g2 => by omega) (fun q => by omega) (fun z L5 hz hzi => ?_)
        by_cases cz : z = 1
        · have hmy : mtS s f t n = true := by
            unfold mtS
            simp only [decide_eq_true_eq]
            rw [← hwn]
            exact ⟨by omega, hzi.mp cz⟩
          subst cz
          exact l_wofY hQ hmy hno (by omega) (by omega)
        · have hmn : mtS s f t n = false := by
            unfold mtS
            simp only [decide_eq_false_iff_not]
            rw [← hwn]
            exact fun q => cz (hzi.mpr q.2)
          have hz0 : z = 0 := by omega
          subst hz0
          exact l_wofN (by omega) (by omega) (fun L4 L5 => ih _ (by omega) (n + 1) (w + 1) rfl hd hM hwr hft (by omega) (by omega) (fun w1 hw1 => by by_cases e : w1 = n; subst e; exact hmn; exact hno w1 (by omega)) hQ _ _)

set_option maxRecDepth 20000 in
theorem c_wordOf {d : Nat} {f t : Int} {A : AHp} {s : Sg} {Q : Option AV → AHp → Prop} (hd : 5 ≤ d) (hM : MLAY A) (hwr : (∀ j, 0 ≤ j → j < 14 → s 308 j = 16 + j)) (hft : 0 ≤ f ∧ t ≤ 100 ∧ f ≤ t) (hQ : Q (some (vi (wofS s f t))) (lift A s)) : CALL d mX13_wordOf [vr 307, vi f, vi t] (lift A s) Q := by
  refine CALL.of (by decide) (Nat.le_of_ble_eq_true rfl) ?_
  change AW d mX13_wordOf 0 [some (vr 307), some (vi f), some (vi t), none, none, none] [] (lift A s) Q
  refine aw_iconst (pc' := 1) (by decide) dX13_wordOf_0 rfl ?_
  refine aw_istore_n (pc' := 2) (lv' := [_, _, _, _, _, _]) dX13_wordOf_1 rfl (by decide) rfl ?_
  exact l_wof _ 0 0 rfl hd hM hwr hft (by omega) rfl (fun w1 h => by omega) hQ _ _
