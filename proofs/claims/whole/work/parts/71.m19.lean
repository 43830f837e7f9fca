/-! ===== the reference's reader: stages ===== -/
/-- where the letters end that stand at a -/
def letN (s : Sg) : Nat → Int → Int
  | 0, a => a
  | m + 1, a => if 97 ≤ btS s a ∧ btS s a ≤ 122 then letN s m (a + 1) else a
def RB (s : Sg) : Prop := ((0 ≤ s 307 17 ∧ s 307 17 ≤ 100) ∧ (0 ≤ s 307 18 ∧ s 307 18 ≤ s 307 17) ∧ (0 ≤ s 307 12 ∧ s 307 12 < 8)) ∧ ((0 ≤ s 307 20 ∧ s 307 20 < 60) ∧ (0 ≤ s 307 21 ∧ s 307 21 < 60) ∧ (0 ≤ s 307 22 ∧ s 307 22 < 60)) ∧ (∀ k, 0 ≤ k → k < s 307 17 → 0 ≤ s 322 k ∧ s 322 k ≤ 127) ∧ ∀ j, 0 ≤ j → j < 14 → s 308 j = 16 + j
noncomputable def stageR (lr : Int → Sg → Option (Int × Sg)) (s : Sg) (fst deep : Int) : Option (Int × Sg) :=
  grd (RB s) <| if btS s (s 307 18) = 123 ∧ fst ≠ 0 ∧ deep < 3 then
    (lr (deep + 1) (sset s 307 18 (s 307 18 + 1))).bind fun r => if r.1 < 0 then some (-1, r.2) else grd (RB r.2) <|
      if btS r.2 (r.2 307 18) ≠ 125 then some (-1, sset r.2 307 19 (r.2 307 18)) else
      some (60 * r.2 307 12 + r.2 307 22, sset (newS (sset r.2 307 18 (r.2 307 18 + 1)) 14) 315 (60 * r.2 307 12 + r.2 307 22) r.1)
  else
    if wofS s (s 307 18) (letN s 101 (s 307 18)) < 0 ∨ (11 ≤ wofS s (s 307 18) (letN s 101 (s 307 18)) ∧ fst = 0) then some (-1, sset (sset s 307 18 (letN s 101 (s 307 18))) 307 19 (s 307 18)) else
    some (if (wholeS (newS (sset s 307 18 (letN s 101 (s 307 18))) (wofS s (s 307 18) (letN s 101 (s 307 18)))) (60 * s 307 12 + s 307 22) (wofS s (s 307 18) (letN s 101 (s 307 18)))).1 = true then 60 * s 307 12 + s 307 22 else -1,
      (wholeS (newS (sset s 307 18 (letN s 101 (s 307 18))) (wofS s (s 307 18) (letN s 101 (s 307 18)))) (60 * s 307 12 + s 307 22) (wofS s (s 307 18) (letN s 101 (s 307 18)))).2)
theorem letN_b {s : Sg} (h17 : s 307 17 ≤ 100) : ∀ (m : Nat) (a : Int), a ≤ s 307 17 → a ≤ letN s m a ∧ letN s m a ≤ s 307 17
  | 0, a, h => ⟨Int.le_refl _, h⟩
  | m + 1, a, h => by
    unfold letN
    split
    · next e =>
      have ha : a < s 307 17 := by
        unfold btS at e
        split at e
        · assumption
        · omega
      have := letN_b h17 m (a + 1) (by omega)
      omega
    · omega
theorem wof_18 {s : Sg} {x f t : Int} : wofS (sset s 307 18 x) f t = wofS s f t := by
  unfold wofS
  congr 1
theorem wof_b {s : Sg} {f t : Int} : -1 ≤ wofS s f t ∧ wofS s f t ≤ 13 := by
  unfold wofS
  have h : ∀ (b : Nat → Bool) (n : Nat), -1 ≤ fst1 b n ∧ fst1 b n ≤ (n : Int) - 1 ∨ n = 0 ∧ fst1 b n = -1 := by
    intro b n
    induction n with
    | zero => exact Or.inr ⟨rfl, rfl⟩
    | succ n ih =>
      left
      unfold fst1
      split
      · split <;> omega
      · omega
  rcases h (mtS s f t) 14 with q | q <;> omega
def LRC (lr : Int → Sg → Option (Int × Sg)) (K : Nat) : Prop := ∀ (d : Nat) (A : AHp) (s : Sg) (deep l : Int) (t : Sg) (Q : Option AV → AHp → Prop), K ≤ d → MLAY A → (0 ≤ deep ∧ deep ≤ 3) → lr deep s = some (l, t) → Q (some (vi l)) (lift A t) → CALL d mX13_listRead [vr 307, vi deep] (lift A s) Q
set_option maxRecDepth 20000 in
theorem l_let {d : Nat} {A : AHp} {s : Sg} {f dp c a0 : Int} {Q : Option AV → AHp → Prop} : ∀ (m : Nat) (a : Int), 1 ≤ d → MLAY A → (0 ≤ s 307 17 ∧ s 307 17 ≤ 100) → (∀ k, 0 ≤ k → k < s 307 17 → 0 ≤ s 322 k ∧ s 322 k ≤ 127) → 0 ≤ a → a ≤ s 307 17 → s 307 17 - a < m → (∀ L5 L6, AW d mX13_stageRead 144 [some (vr 307), some (vi f), some (vi dp), some (vi c), some (vi a0), L5, L6] [] (lift A (sset s 307 18 (letN s m a))) Q) → ∀ (L5 L6 : Option AV), AW d mX13_stageRead 110 [some (vr 307), some (vi f), some (vi dp), some (vi c), some (vi a0), L5, L6] [] (lift A (sset s 307 18 a)) Q := by
  intro m
  induction m using Nat.strongRecOn with
  | _ m ih =>
    intro a hd hM h17 h322 ha0 ha hm hE L5 L6
    have hb := bt_r h322 (k := a) ha0
    have hlt : 97 ≤ btS s a → a < s 307 17 := fun q => by
      unfold btS at q
      split at q
      · assumption
      · omega
    cases m with
    | zero => omega
    | succ m =>
    unfold letN at hE
    refine aw_aload_n (pc' := 111) rfl dX13_stageRead_110 rfl ?_
    refine aw_aload_n (pc' := 112) rfl dX13_stageRead_111 rfl ?_
    refine aw_geti (pc' := 115) (k9 := 18) dX13_stageRead_112 rfl fX13_206 rfl (by decide) rfl (MO (A := (lift A (sset s 307 18 a))) hM) ?_
    try simp (disch := omega) only [hv_in, lift_set, sset_e, sset_1, sset_2, workS_o, stagesS_o, beginsS_o, scpy_o, lift_cpy, sset_ss, bt_18, bt_315, wof_18]
    refine aw_callV (ci := 11) (d' := d - 1) (as := [_]) (pc' := 118) (by decide) rfl kX13_byteAt iX13_byteAt sX13_byteAt lX13_209 (MO (A := (lift A (sset s 307 18 a))) hM) dX13_stageRead_115 rfl rfl (Nat.le_of_ble_eq_true rfl) (by omega) ?_
    try simp (disch := omega) only [hv_in, lift_set, sset_e, sset_1, sset_2, workS_o, stagesS_o, beginsS_o, scpy_o, lift_cpy, sset_ss, bt_18, bt_315]
    refine c_byteAt (by omega) hM (by first | exact h17 | (simp (disch := omega) only [sset_1, sset_2]; exact h17)) (by omega) ?_
    try simp only [bt_18, bt_315]
    refine aw_i2l (pc' := 119) dX13_stageRead_118 rfl ?_
    refine aw_ldc2 (x := (97)) (pc' := 122) qX13_229 (by decide) dX13_stageRead_119 rfl ?_
    refine aw_ldc2 (x := (122)) (pc' := 125) qX13_231 (by decide) dX13_stageRead_122 rfl ?_
    refine aw_callS (d' := d - 1) (as := [_, _, _]) (pc' := 128) kX13_in tX13_in lX13_177 dX13_stageRead_125 rfl rfl (Nat.le_of_ble_eq_true rfl) (by omega) ?_
    refine c_in (by omega) (fun g1_125 g2_125 => ?_) (fun g0_125 => ?_)
    · refine aw_if_eq (pt := 144) (pf := 131) dX13_stageRead_128 (by decide) rfl (fun c_128 => absurd c_128 (by decide)) (fun _ => ?_)
      refine aw_aload_n (pc' := 132) rfl dX13_stageRead_131 rfl ?_
      refine aw_dup (pc' := 133) rfl dX13_stageRead_132 rfl ?_
      refine aw_geti (pc' := 136) (k9 := 18) dX13_stageRead_133 rfl fX13_206 rfl (by decide) rfl (MO (A := (lift A (sset s 307 18 a))) hM) ?_
      try simp (disch := omega) only [hv_in, lift_set, sset_e, sset_1, sset_2, workS_o, stagesS_o, beginsS_o, scpy_o, lift_cpy, sset_ss, bt_18, bt_315, wof_18]
      refine aw_iconst (pc' := 137) (by decide) dX13_stageRead_136 rfl ?_
      refine aw_iadd (pc' := 138) (by first | exact w32_id (by omega) (by omega) | rfl) dX13_stageRead_137 rfl ?_
      refine aw_puti (pc' := 141) (k9 := 18) dX13_stageRead_138 rfl fX13_206 rfl rfl rfl (MO (A := (lift A (sset s 307 18 a))) hM) ?_
      refine aw_goto (pc' := 110) dX13_stageRead_141 (by decide) ?_
      try simp (disch := omega) only [hv_in, lift_set, sset_e, sset_1, sset_2, workS_o, stagesS_o, beginsS_o, scpy_o, lift_cpy, sset_ss, bt_18, bt_315, wof_18]
      rw [if_pos (by omega)] at hE
      exact ih m (by omega) (a + 1) hd hM h17 h322 (by omega) (by have := hlt (by omega); omega) (by omega) hE _ _
    · refine aw_if_eq (pt := 144) (pf := 131) dX13_stageRead_128 (by decide) rfl (fun _ => ?_) (fun c_128 => absurd (by decide) c_128)
      rw [if_neg (by omega)] at hE
      exact hE _ _

set_option maxRecDepth 20000 in
theorem l_stT {d : Nat} {K : Nat} {A : AHp} {s : Sg} {f dp c x : Int} {t : Sg} {L5 L6 : Option AV} {Q : Option AV → AHp → Prop} (hM : MLAY A) (hd : K + 1 ≤ d) (hK : 6 ≤ K) (hdp : 0 ≤ dp ∧ dp ≤ 3) (h17 : 0 ≤ s 307 17 ∧ s 307 17 ≤ 100) (h18 : 0 ≤ s 307 18 ∧ s 307 18 ≤ s 307 17) (h12 : 0 ≤ s 307 12 ∧ s 307 12 < 8) (h22 : 0 ≤ s 307 22 ∧ s 307 22 < 60) (h322 : ∀ k, 0 ≤ k → k < s 307 17 → 0 ≤ s 322 k ∧ s 322 k ≤ 127) (hwr : ∀ j, 0 ≤ j → j < 14 → s 308 j = 16 + j)
  (hle : s 307 18 ≤ letN s 101 (s 307 18) ∧ letN s 101 (s 307 18) ≤ s 307 17)
  (h : (if wofS s (s 307 18) (letN s 101 (s 307 18)) < 0 ∨ (11 ≤ wofS s (s 307 18) (letN s 101 (s 307 18)) ∧ f = 0) then some (-1, sset (sset s 307 18 (letN s 101 (s 307 18))) 307 19 (s 307 18)) else
    some (if (wholeS (newS (sset s 307 18 (letN s 101 (s 307 18))) (wofS s (s 307 18) (letN s 101 (s 307 18)))) (60 * s 307 12 + s 307 22) (wofS s (s 307 18) (letN s 101 (s 307 18)))).1 = true then 60 * s 307 12 + s 307 22 else -1,
      (wholeS (newS (sset s 307 18 (letN s 101 (s 307 18))) (wofS s (s 307 18) (letN s 101 (s 307 18)))) (60 * s 307 12 + s 307 22) (wofS s (s 307 18) (letN s 101 (s 307 18)))).2)) = some (x, t)) (hQ : Q (some (vi x)) (lift A t)) : AW d mX13_stageRead 144 [some (vr 307), some (vi f), some (vi dp), some (vi c), some (vi (s 307 18)), L5, L6] [] (lift A (sset s 307 18 (letN s 101 (s 307 18)))) Q := by
  refine aw_aload_n (pc' := 145) rfl dX13_stageRead_144 rfl ?_
  refine aw_iload (pc' := 147) rfl dX13_stageRead_145 rfl ?_
  refine aw_aload_n (pc' := 148) rfl dX13_stageRead_147 rfl ?_
  refine aw_geti (pc' := 151) (k9 := 18) dX13_stageRead_148 rfl fX13_206 rfl (by decide) rfl (MO (A := (lift A (sset s 307 18 (letN s 101 (s 307 18))))) hM) ?_
  try simp (disch := omega) only [hv_in, lift_set, sset_e, sset_1, sset_2, workS_o, stagesS_o, beginsS_o, scpy_o, lift_cpy, sset_ss, bt_18, bt_315, wof_18]
  refine aw_callV (ci := 11) (d' := d - 1) (as := [_, _]) (pc' := 154) (by decide) rfl kX13_wordOf iX13_wordOf sX13_wordOf lX13_233 (MO (A := (lift A (sset s 307 18 (letN s 101 (s 307 18))))) hM) dX13_stageRead_151 rfl rfl (Nat.le_of_ble_eq_true rfl) (by omega) ?_
  try simp (disch := omega) only [hv_in, lift_set, sset_e, sset_1, sset_2, workS_o, stagesS_o, beginsS_o, scpy_o, lift_cpy, sset_ss, bt_18, bt_315, wof_18]
  refine c_wordOf (by omega) hM (by simp (disch := omega) only [sset_1]; exact hwr) (by omega) ?_
  rw [wof_18]
  have hwb := wof_b (s := s) (f := s 307 18) (t := letN s 101 (s 307 18))
  refine aw_istore (pc' := 156) (lv' := [_, _, _, _, _, _, _]) dX13_stageRead_154 rfl (by decide) rfl ?_
  refine aw_iload (pc' := 158) rfl dX13_stageRead_156 rfl ?_
  refine aw_if_lt (pt := 172) (pf := 161) dX13_stageRead_158 (by decide) rfl (fun c_158 => ?_) (fun c_158 => ?_)
  · refine aw_aload_n (pc' := 173) rfl dX13_stageRead_172 rfl ?_
    refine aw_iload (pc' := 175) rfl dX13_stageRead_173 rfl ?_
    refine aw_callV (ci := 11) (d' := d - 1) (as := [_]) (pc' := 178) (by decide) rfl kX13_stops iX13_stops sX13_stops lX13_216 (MO (A := (lift A (sset s 307 18 (letN s 101 (s 307 18))))) hM) dX13_stageRead_175 rfl rfl (Nat.le_of_ble_eq_true rfl) (by omega) ?_
    try simp (disch := omega) only [hv_in, lift_set, sset_e, sset_1, sset_2, workS_o, stagesS_o, beginsS_o, scpy_o, lift_cpy, sset_ss, bt_18, bt_315]
    refine c_stops (by omega) hM ?_
    unfold stopS
    refine aw_pop (pc' := 179) rfl dX13_stageRead_178 rfl ?_
    refine aw_iconst (pc' := 180) (by decide) dX13_stageRead_179 rfl ?_
    refine AW.ret (some (vi _)) dX13_stageRead_180 trivial ?_
    try simp (disch := omega) only [hv_in, lift_set, sset_e, sset_1, sset_2, workS_o, stagesS_o, beginsS_o, scpy_o, lift_cpy, sset_ss, bt_18, bt_315, wof_18]
    rw [if_pos (by omega), Option.some.injEq, Prod.mk.injEq] at h
    obtain ⟨q1, q2⟩ := h
    subst q1 q2
    exact hQ
  · refine aw_iload (pc' := 163) rfl dX13_stageRead_161 rfl ?_
    refine aw_bipush (pc' := 165) (by decide +kernel) dX13_stageRead_163 rfl ?_
    refine aw_icmp_lt (pt := 181) (pf := 168) dX13_stageRead_165 (by decide) rfl (fun c_165 => ?_) (fun c_165 => ?_)
    · refine aw_aload_n (pc' := 182) rfl dX13_stageRead_181 rfl ?_
      refine aw_iload (pc' := 184) rfl dX13_stageRead_182 rfl ?_
      refine aw_callV (ci := 11) (d' := d - 1) (as := [_]) (pc' := 187) (by decide) rfl kX13_newStage iX13_newStage sX13_newStage lX13_226 (MO (A := (lift A (sset s 307 18 (letN s 101 (s 307 18))))) hM) dX13_stageRead_184 rfl rfl (Nat.le_of_ble_eq_true rfl) (by omega) ?_
      try simp (disch := omega) only [hv_in, lift_set, sset_e, sset_1, sset_2, workS_o, stagesS_o, beginsS_o, scpy_o, lift_cpy, sset_ss, bt_18, bt_315, wof_18]
      have e12 : (sset s 307 18 (letN s 101 (s 307 18))) 307 12 = s 307 12 := sset_2 (by omega)
      have e22 : (sset s 307 18 (letN s 101 (s 307 18))) 307 22 = s 307 22 := sset_2 (by omega)
      refine c_newStage (by omega) hM (by omega) (by omega) ?_
      rw [e12, e22]
      refine aw_istore (pc' := 189) (lv' := [_, _, _, _, _, _, _]) dX13_stageRead_187 rfl (by decide) rfl ?_
      refine aw_aload_n (pc' := 190) rfl dX13_stageRead_189 rfl ?_
      refine aw_iload (pc' := 192) rfl dX13_stageRead_190 rfl ?_
      refine aw_iload (pc' := 194) rfl dX13_stageRead_192 rfl ?_
      refine aw_callV (ci := 11) (d' := d - 1) (as := [_, _]) (pc' := 197) (by decide) rfl kX13_isWhole iX13_isWhole sX13_isWhole lX13_236 (MO (A := (lift A (sset s 307 18 (letN s 101 (s 307 18))))) hM) dX13_stageRead_194 rfl rfl (Nat.le_of_ble_eq_true rfl) (by omega) ?_
      try simp (disch := omega) only [hv_in, lift_set, sset_e, sset_1, sset_2, workS_o, stagesS_o, beginsS_o, scpy_o, lift_cpy, sset_ss, bt_18, bt_315, wof_18]
      have hb9 := wof_b (s := s) (f := s 307 18) (t := letN s 101 (s 307 18))
      refine c_isWhole (by omega) hM ?_ ?_ ?_ (by omega) ?_ ?_
      · unfold newS; simp (disch := omega) only [sset_1, sset_2]; omega
      · unfold newS; simp (disch := omega) only [sset_1, sset_2, sset_e]; omega
      · unfold newS; simp (disch := omega) only [sset_1, sset_2, sset_e]; exact h322
      · unfold newS; simp (disch := omega) only [sset_1, sset_2, sset_e]
      rw [if_neg (by omega), Option.some.injEq, Prod.mk.injEq] at h
      obtain ⟨q1, q2⟩ := h
      subst q2
      by_cases cw : (wholeS (newS (sset s 307 18 (letN s 101 (s 307 18))) (wofS s (s 307 18) (letN s 101 (s 307 18)))) (60 * s 307 12 + s 307 22) (wofS s (s 307 18) (letN s 101 (s 307 18)))).1 = true
      · rw [if_pos cw] at q1 ⊢
        subst q1
        refine aw_if_eq (pt := 205) (pf := 200) dX13_stageRead_197 (by decide) rfl (fun c_197 => absurd c_197 (by decide)) (fun _ => ?_)
        refine aw_iload (pc' := 202) rfl dX13_stageRead_200 rfl ?_
        refine aw_goto (pc' := 206) dX13_stageRead_202 (by decide) ?_
        refine AW.ret (some (vi _)) dX13_stageRead_206 trivial ?_
        exact hQ
      · rw [if_neg cw] at q1 ⊢
        subst q1
        refine aw_if_eq (pt := 205) (pf := 200) dX13_stageRead_197 (by decide) rfl (fun _ => ?_) (fun c_197 => absurd (by decide) c_197)
        refine aw_iconst (pc' := 206) (by decide) dX13_stageRead_205 rfl ?_
        refine AW.ret (some (vi _)) dX13_stageRead_206 trivial ?_
        exact hQ
    · refine aw_iload_n (pc' := 169) rfl dX13_stageRead_168 rfl ?_
      refine aw_if_ne (pt := 181) (pf := 172) dX13_stageRead_169 (by decide) rfl (fun c_169 => ?_) (fun c_169 => ?_)
      · refine aw_aload_n (pc' := 182) rfl dX13_stageRead_181 rfl ?_
        refine aw_iload (pc' := 184) rfl dX13_stageRead_182 rfl ?_
        refine aw_callV (ci := 11) (d' := d - 1) (as := [_]) (pc' := 187) (by decide) rfl kX13_newStage iX13_newStage sX13_newStage lX13_226 (MO (A := (lift A (sset s 307 18 (letN s 101 (s 307 18))))) hM) dX13_stageRead_184 rfl rfl (Nat.le_of_ble_eq_true rfl) (by omega) ?_
        try simp (disch := omega) only [hv_in, lift_set, sset_e, sset_1, sset_2, workS_o, stagesS_o, beginsS_o, scpy_o, lift_cpy, sset_ss, bt_18, bt_315, wof_18]
        have e12 : (sset s 307 18 (letN s 101 (s 307 18))) 307 12 = s 307 12 := sset_2 (by omega)
        have e22 : (sset s 307 18 (letN s 101 (s 307 18))) 307 22 = s 307 22 := sset_2 (by omega)
        refine c_newStage (by omega) hM (by omega) (by omega) ?_
        rw [e12, e22]
        refine aw_istore (pc' := 189) (lv' := [_, _, _, _, _, _, _]) dX13_stageRead_187 rfl (by decide) rfl ?_
        refine aw_aload_n (pc' := 190) rfl dX13_stageRead_189 rfl ?_
        refine aw_iload (pc' := 192) rfl dX13_stageRead_190 rfl ?_
        refine aw_iload (pc' := 194) rfl dX13_stageRead_192 rfl ?_
        refine aw_callV (ci := 11) (d' := d - 1) (as := [_, _]) (pc' := 197) (by decide) rfl kX13_isWhole iX13_isWhole sX13_isWhole lX13_236 (MO (A := (lift A (sset s 307 18 (letN s 101 (s 307 18))))) hM) dX13_stageRead_194 rfl rfl (Nat.le_of_ble_eq_true rfl) (by omega) ?_
        try simp (disch := omega) only [hv_in, lift_set, sset_e, sset_1, sset_2, workS_o, stagesS_o, beginsS_o, scpy_o, lift_cpy, sset_ss, bt_18, bt_315, wof_18]
        have hb9 := wof_b (s := s) (f := s 307 18) (t := letN s 101 (s 307 18))
        refine c_isWhole (by omega) hM ?_ ?_ ?_ (by omega) ?_ ?_
        · unfold newS; simp (disch := omega) only [sset_1, sset_2]; omega
        · unfold newS; simp (disch := omega) only [sset_1, sset_2, sset_e]; omega
        · unfold newS; simp (disch := omega) only [sset_1, sset_2, sset_e]; exact h322
        · unfold newS; simp (disch := omega) only [sset_1, sset_2, sset_e]
        rw [if_neg (by omega), Option.some.injEq, Prod.mk.injEq] at h
        obtain ⟨q1, q2⟩ := h
        subst q2
        by_cases cw : (wholeS (newS (sset s 307 18 (letN s 101 (s 307 18))) (wofS s (s 307 18) (letN s 101 (s 307 18)))) (60 * s 307 12 + s 307 22) (wofS s (s 307 18) (letN s 101 (s 307 18)))).1 = true
        · rw [if_pos cw] at q1 ⊢
          subst q1
          refine aw_if_eq (pt := 205) (pf := 200) dX13_stageRead_197 (by decide) rfl (fun c_197 => absurd c_197 (by decide)) (fun _ => ?_)
          refine aw_iload (pc' := 202) rfl dX13_stageRead_200 rfl ?_
          refine aw_goto (pc' := 206) dX13_stageRead_202 (by decide) ?_
          refine AW.ret (some (vi _)) dX13_stageRead_206 trivial ?_
          exact hQ
        · rw [if_neg cw] at q1 ⊢
          subst q1
          refine aw_if_eq (pt := 205) (pf := 200) dX13_stageRead_197 (by decide) rfl (fun _ => ?_) (fun c_197 => absurd (by decide) c_197)
          refine aw_iconst (pc' := 206) (by decide) dX13_stageRead_205 rfl ?_
          refine AW.ret (some (vi _)) dX13_stageRead_206 trivial ?_
          exact hQ
      · replace c_169 := Classical.not_not.mp c_169
        refine aw_aload_n (pc' := 173) rfl dX13_stageRead_172 rfl ?_
        refine aw_iload (pc' := 175) rfl dX13_stageRead_173 rfl ?_
        refine aw_callV (ci := 11) (d' := d - 1) (as := [_]) (pc' := 178) (by decide) rfl kX13_stops iX13_stops sX13_stops lX13_216 (MO (A := (lift A (sset s 307 18 (letN s 101 (s 307 18))))) hM) dX13_stageRead_175 rfl rfl (Nat.le_of_ble_eq_true rfl) (by omega) ?_
        try simp (disch := omega) only [hv_in, lift_set, sset_e, sset_1, sset_2, workS_o, stagesS_o, beginsS_o, scpy_o, lift_cpy, sset_ss, bt_18, bt_315]
        refine c_stops (by omega) hM ?_
        unfold stopS
        refine aw_pop (pc' := 179) rfl dX13_stageRead_178 rfl ?_
        refine aw_iconst (pc' := 180) (by decide) dX13_stageRead_179 rfl ?_
        refine AW.ret (some (vi _)) dX13_stageRead_180 trivial ?_
        try simp (disch := omega) only [hv_in, lift_set, sset_e, sset_1, sset_2, workS_o, stagesS_o, beginsS_o, scpy_o, lift_cpy, sset_ss, bt_18, bt_315, wof_18]
        rw [if_pos (by omega), Option.some.injEq, Prod.mk.injEq] at h
        obtain ⟨q1, q2⟩ := h
        subst q1 q2
        exact hQ

set_option maxRecDepth 20000 in
theorem c_stageRead {d : Nat} {lr : Int → Sg → Option (Int × Sg)} {K : Nat} {f dp x : Int} {t : Sg} {A : AHp} {s : Sg} {Q : Option AV → AHp → Prop} (hd : K + 1 ≤ d) (hM : MLAY A) (hL : LRC lr K) (hK : 6 ≤ K) (hdp : 0 ≤ dp ∧ dp ≤ 3) (h : stageR lr s f dp = some (x, t)) (hQ : Q (some (vi x)) (lift A t)) : CALL d mX13_stageRead [vr 307, vi f, vi dp] (lift A s) Q := by
  refine CALL.of (by decide) (Nat.le_of_ble_eq_true rfl) ?_
  change AW d mX13_stageRead 0 [some (vr 307), some (vi f), some (vi dp), none, none, none, none] [] (lift A s) Q
  unfold stageR at h
  obtain ⟨⟨⟨h17, h18, h12⟩, ⟨h20, h21, h22⟩, h322, hwr⟩, h⟩ := grd_some h
  have hb0 := bt_r h322 (k := s 307 18) (by omega)
  have hle := letN_b h17.2 101 (s 307 18) h18.2
  refine aw_aload_n (pc' := 1) rfl dX13_stageRead_0 rfl ?_
  refine aw_aload_n (pc' := 2) rfl dX13_stageRead_1 rfl ?_
  refine aw_geti (pc' := 5) (k9 := 18) dX13_stageRead_2 rfl fX13_206 rfl (by decide) rfl (MO (A := (lift A s)) hM) ?_
  try simp (disch := omega) only [hv_in, lift_set, sset_e, sset_1, sset_2, workS_o, stagesS_o, beginsS_o, scpy_o, lift_cpy, sset_ss, bt_18, bt_315, wof_18]
  refine aw_callV (ci := 11) (d' := d - 1) (as := [_]) (pc' := 8) (by decide) rfl kX13_byteAt iX13_byteAt sX13_byteAt lX13_209 (MO (A := (lift A s)) hM) dX13_stageRead_5 rfl rfl (Nat.le_of_ble_eq_true rfl) (by omega) ?_
  try simp (disch := omega) only [hv_in, lift_set, sset_e, sset_1, sset_2, workS_o, stagesS_o, beginsS_o, scpy_o, lift_cpy, sset_ss, bt_18, bt_315]
  refine c_byteAt (by omega) hM (by first | exact h17 | (simp (disch := omega) only [sset_1, sset_2]; exact h17)) (by omega) ?_
  try simp only [bt_18, bt_315]
  refine aw_istore_n (pc' := 9) (lv' := [_, _, _, _, _, _, _]) dX13_stageRead_8 rfl (by decide) rfl ?_
  refine aw_iload_n (pc' := 10) rfl dX13_stageRead_9 rfl ?_
  refine aw_bipush (pc' := 12) (by decide +kernel) dX13_stageRead_10 rfl ?_
  refine aw_icmp_ne (pt := 104) (pf := 15) dX13_stageRead_12 (by decide) rfl (fun c_12 => ?_) (fun c_12 => ?_)
  · refine aw_aload_n (pc' := 105) rfl dX13_stageRead_104 rfl ?_
    refine aw_geti (pc' := 108) (k9 := 18) dX13_stageRead_105 rfl fX13_206 rfl (by decide) rfl (MO (A := (lift A s)) hM) ?_
    try simp (disch := omega) only [hv_in, lift_set, sset_e, sset_1, sset_2, workS_o, stagesS_o, beginsS_o, scpy_o, lift_cpy, sset_ss, bt_18, bt_315, wof_18]
    refine aw_istore (pc' := 110) (lv' := [_, _, _, _, _, _, _]) dX13_stageRead_108 rfl (by decide) rfl ?_
    try simp (disch := omega) only [hv_in, lift_set, sset_e, sset_1, sset_2, workS_o, stagesS_o, beginsS_o, scpy_o, lift_cpy, sset_ss, bt_18, bt_315, wof_18]
    rw [if_neg (by omega)] at h
    have e18 : s = sset s 307 18 (s 307 18) := by
      funext a b
      unfold sset
      split
      · next z => rw [z.1, z.2]
      · rfl
    have hgo : AW d mX13_stageRead 110 [some (vr 307), some (vi f), some (vi dp), some (vi (btS s (s 307 18))), some (vi (s 307 18)), none, none] [] (lift A (sset s 307 18 (s 307 18))) Q := by
      refine l_let 101 (s 307 18) (by omega) hM h17 h322 h18.1 h18.2 (by omega) (fun L5 L6 => ?_) _ _
      exact l_stT hM hd hK hdp h17 h18 h12 h22 h322 hwr hle h hQ
    rw [← e18] at hgo
    exact hgo
  · replace c_12 := Classical.not_not.mp c_12
    refine aw_iload_n (pc' := 16) rfl dX13_stageRead_15 rfl ?_
    refine aw_if_eq (pt := 104) (pf := 19) dX13_stageRead_16 (by decide) rfl (fun c_16 => ?_) (fun c_16 => ?_)
    · refine aw_aload_n (pc' := 105) rfl dX13_stageRead_104 rfl ?_
      refine aw_geti (pc' := 108) (k9 := 18) dX13_stageRead_105 rfl fX13_206 rfl (by decide) rfl (MO (A := (lift A s)) hM) ?_
      try simp (disch := omega) only [hv_in, lift_set, sset_e, sset_1, sset_2, workS_o, stagesS_o, beginsS_o, scpy_o, lift_cpy, sset_ss, bt_18, bt_315, wof_18]
      refine aw_istore (pc' := 110) (lv' := [_, _, _, _, _, _, _]) dX13_stageRead_108 rfl (by decide) rfl ?_
      try simp (disch := omega) only [hv_in, lift_set, sset_e, sset_1, sset_2, workS_o, stagesS_o, beginsS_o, scpy_o, lift_cpy, sset_ss, bt_18, bt_315, wof_18]
      rw [if_neg (by omega)] at h
      have e18 : s = sset s 307 18 (s 307 18) := by
        funext a b
        unfold sset
        split
        · next z => rw [z.1, z.2]
        · rfl
      have hgo : AW d mX13_stageRead 110 [some (vr 307), some (vi f), some (vi dp), some (vi (btS s (s 307 18))), some (vi (s 307 18)), none, none] [] (lift A (sset s 307 18 (s 307 18))) Q := by
        refine l_let 101 (s 307 18) (by omega) hM h17 h322 h18.1 h18.2 (by omega) (fun L5 L6 => ?_) _ _
        exact l_stT hM hd hK hdp h17 h18 h12 h22 h322 hwr hle h hQ
      rw [← e18] at hgo
      exact hgo
    · refine aw_iload_n (pc' := 20) rfl dX13_stageRead_19 rfl ?_
      refine aw_iconst (pc' := 21) (by decide) dX13_stageRead_20 rfl ?_
      refine aw_icmp_ge (pt := 104) (pf := 24) dX13_stageRead_21 (by decide) rfl (fun c_21 => ?_) (fun c_21 => ?_)
      · refine aw_aload_n (pc' := 105) rfl dX13_stageRead_104 rfl ?_
        refine aw_geti (pc' := 108) (k9 := 18) dX13_stageRead_105 rfl fX13_206 rfl (by decide) rfl (MO (A := (lift A s)) hM) ?_
        try simp (disch := omega) only [hv_in, lift_set, sset_e, sset_1, sset_2, workS_o, stagesS_o, beginsS_o, scpy_o, lift_cpy, sset_ss, bt_18, bt_315, wof_18]
        refine aw_istore (pc' := 110) (lv' := [_, _, _, _, _, _, _]) dX13_stageRead_108 rfl (by decide) rfl ?_
        try simp (disch := omega) only [hv_in, lift_set, sset_e, sset_1, sset_2, workS_o, stagesS_o, beginsS_o, scpy_o, lift_cpy, sset_ss, bt_18, bt_315, wof_18]
        rw [if_neg (by omega)] at h
        have e18 : s = sset s 307 18 (s 307 18) := by
          funext a b
          unfold sset
          split
          · next z => rw [z.1, z.2]
          · rfl
        have hgo : AW d mX13_stageRead 110 [some (vr 307), some (vi f), some (vi dp), some (vi (btS s (s 307 18))), some (vi (s 307 18)), none, none] [] (lift A (sset s 307 18 (s 307 18))) Q := by
          refine l_let 101 (s 307 18) (by omega) hM h17 h322 h18.1 h18.2 (by omega) (fun L5 L6 => ?_) _ _
          exact l_stT hM hd hK hdp h17 h18 h12 h22 h322 hwr hle h hQ
        rw [← e18] at hgo
        exact hgo
      · refine aw_aload_n (pc' := 25) rfl dX13_stageRead_24 rfl ?_
        refine aw_dup (pc' := 26) rfl dX13_stageRead_25 rfl ?_
        refine aw_geti (pc' := 29) (k9 := 18) dX13_stageRead_26 rfl fX13_206 rfl (by decide) rfl (MO (A := (lift A s)) hM) ?_
        try simp (disch := omega) only [hv_in, lift_set, sset_e, sset_1, sset_2, workS_o, stagesS_o, beginsS_o, scpy_o, lift_cpy, sset_ss, bt_18, bt_315, wof_18]
        refine aw_iconst (pc' := 30) (by decide) dX13_stageRead_29 rfl ?_
        refine aw_iadd (pc' := 31) (by first | exact w32_id (by omega) (by omega) | rfl) dX13_stageRead_30 rfl ?_
        refine aw_puti (pc' := 34) (k9 := 18) dX13_stageRead_31 rfl fX13_206 rfl rfl rfl (MO (A := (lift A s)) hM) ?_
        refine aw_aload_n (pc' := 35) rfl dX13_stageRead_34 rfl ?_
        refine aw_iload_n (pc' := 36) rfl dX13_stageRead_35 rfl ?_
        refine aw_iconst (pc' := 37) (by decide) dX13_stageRead_36 rfl ?_
        refine aw_iadd (pc' := 38) (by first | exact w32_id (by omega) (by omega) | rfl) dX13_stageRead_37 rfl ?_
        refine aw_callV (ci := 11) (d' := d - 1) (as := [_]) (pc' := 41) (by decide) rfl kX13_listRead iX13_listRead sX13_listRead lX13_223 (MO (A := (lift A s)) hM) dX13_stageRead_38 rfl rfl (Nat.le_of_ble_eq_true rfl) (by omega) ?_
        try simp (disch := omega) only [hv_in, lift_set, sset_e, sset_1, sset_2, workS_o, stagesS_o, beginsS_o, scpy_o, lift_cpy, sset_ss, bt_18, bt_315, wof_18]
        rw [if_pos (by omega)] at h
        obtain ⟨⟨l1, r1⟩, g1, g2⟩ := Option.bind_eq_some_iff.mp h
        dsimp only at g2
        refine hL _ A _ _ _ _ _ (by omega) hM (by omega) g1 ?_
        refine aw_istore (pc' := 43) (lv' := [_, _, _, _, _, _, _]) dX13_stageRead_41 rfl (by decide) rfl ?_
        refine aw_iload (pc' := 45) rfl dX13_stageRead_43 rfl ?_
        refine aw_if_ge (pt := 50) (pf := 48) dX13_stageRead_45 (by decide) rfl (fun c_45 => ?_) (fun c_45 => ?_)
        · rw [if_neg (by omega)] at g2
          obtain ⟨⟨⟨k17, k18, k12⟩, ⟨k20, k21, k22⟩, k322, kwr⟩, g2⟩ := grd_some g2
          have hb1 := bt_r k322 (k := r1 307 18) (by omega)
          refine aw_aload_n (pc' := 51) rfl dX13_stageRead_50 rfl ?_
          refine aw_aload_n (pc' := 52) rfl dX13_stageRead_51 rfl ?_
          refine aw_geti (pc' := 55) (k9 := 18) dX13_stageRead_52 rfl fX13_206 rfl (by decide) rfl (MO (A := (lift A s)) hM) ?_
          try simp (disch := omega) only [hv_in, lift_set, sset_e, sset_1, sset_2, workS_o, stagesS_o, beginsS_o, scpy_o, lift_cpy, sset_ss, bt_18, bt_315, wof_18]
          refine aw_callV (ci := 11) (d' := d - 1) (as := [_]) (pc' := 58) (by decide) rfl kX13_byteAt iX13_byteAt sX13_byteAt lX13_209 (MO (A := (lift A s)) hM) dX13_stageRead_55 rfl rfl (Nat.le_of_ble_eq_true rfl) (by omega) ?_
          try simp (disch := omega) only [hv_in, lift_set, sset_e, sset_1, sset_2, workS_o, stagesS_o, beginsS_o, scpy_o, lift_cpy, sset_ss, bt_18, bt_315, wof_18]
          refine c_byteAt (by omega) hM k17 (by omega) ?_
          refine aw_bipush (pc' := 60) (by decide +kernel) dX13_stageRead_58 rfl ?_
          refine aw_icmp_eq (pt := 74) (pf := 63) dX13_stageRead_60 (by decide) rfl (fun c_60 => ?_) (fun c_60 => ?_)
          · refine aw_aload_n (pc' := 75) rfl dX13_stageRead_74 rfl ?_
            refine aw_dup (pc' := 76) rfl dX13_stageRead_75 rfl ?_
            refine aw_geti (pc' := 79) (k9 := 18) dX13_stageRead_76 rfl fX13_206 rfl (by decide) rfl (MO (A := (lift A s)) hM) ?_
            try simp (disch := omega) only [hv_in, lift_set, sset_e, sset_1, sset_2, workS_o, stagesS_o, beginsS_o, scpy_o, lift_cpy, sset_ss, bt_18, bt_315, wof_18]
            refine aw_iconst (pc' := 80) (by decide) dX13_stageRead_79 rfl ?_
            refine aw_iadd (pc' := 81) (by first | exact w32_id (by omega) (by omega) | rfl) dX13_stageRead_80 rfl ?_
            refine aw_puti (pc' := 84) (k9 := 18) dX13_stageRead_81 rfl fX13_206 rfl rfl rfl (MO (A := (lift A s)) hM) ?_
            refine aw_aload_n (pc' := 85) rfl dX13_stageRead_84 rfl ?_
            refine aw_bipush (pc' := 87) (by decide +kernel) dX13_stageRead_85 rfl ?_
            refine aw_callV (ci := 11) (d' := d - 1) (as := [_]) (pc' := 90) (by decide) rfl kX13_newStage iX13_newStage sX13_newStage lX13_226 (MO (A := (lift A s)) hM) dX13_stageRead_87 rfl rfl (Nat.le_of_ble_eq_true rfl) (by omega) ?_
            try simp (disch := omega) only [hv_in, lift_set, sset_e, sset_1, sset_2, workS_o, stagesS_o, beginsS_o, scpy_o, lift_cpy, sset_ss, bt_18, bt_315, wof_18]
            have e12 : (sset r1 307 18 (r1 307 18 + 1)) 307 12 = r1 307 12 := sset_2 (by omega)
            have e22 : (sset r1 307 18 (r1 307 18 + 1)) 307 22 = r1 307 22 := sset_2 (by omega)
            refine c_newStage (by omega) hM (by omega) (by omega) ?_
            rw [e12, e22]
            refine aw_istore (pc' := 92) (lv' := [_, _, _, _, _, _, _]) dX13_stageRead_90 rfl (by decide) rfl ?_
            refine aw_aload_n (pc' := 93) rfl dX13_stageRead_92 rfl ?_
            refine aw_getp (pc' := 96) (k9 := 7) (p := 315) dX13_stageRead_93 rfl fX13_64 rfl rfl rfl (MO (A := (lift A s)) hM) (M_inner (A := (lift A s)) hM) ?_
            refine aw_iload (pc' := 98) rfl dX13_stageRead_96 rfl ?_
            refine aw_iload (pc' := 100) rfl dX13_stageRead_98 rfl ?_
            refine aw_iast (pc' := 101) dX13_stageRead_100 rfl (MA_inner (A := (lift A s)) hM) (by omega) (by omega) ?_
            refine aw_iload (pc' := 103) rfl dX13_stageRead_101 rfl ?_
            refine AW.ret (some (vi _)) dX13_stageRead_103 trivial ?_
            try simp (disch := omega) only [hv_in, lift_set, sset_e, sset_1, sset_2, workS_o, stagesS_o, beginsS_o, scpy_o, lift_cpy, sset_ss, bt_18, bt_315, wof_18]
            rw [if_neg (by omega), Option.some.injEq, Prod.mk.injEq] at g2
            obtain ⟨q1, q2⟩ := g2
            subst q1 q2
            exact hQ
          · refine aw_aload_n (pc' := 64) rfl dX13_stageRead_63 rfl ?_
            refine aw_aload_n (pc' := 65) rfl dX13_stageRead_64 rfl ?_
            refine aw_geti (pc' := 68) (k9 := 18) dX13_stageRead_65 rfl fX13_206 rfl (by decide) rfl (MO (A := (lift A s)) hM) ?_
            try simp (disch := omega) only [hv_in, lift_set, sset_e, sset_1, sset_2, workS_o, stagesS_o, beginsS_o, scpy_o, lift_cpy, sset_ss, bt_18, bt_315, wof_18]
            refine aw_callV (ci := 11) (d' := d - 1) (as := [_]) (pc' := 71) (by decide) rfl kX13_stops iX13_stops sX13_stops lX13_216 (MO (A := (lift A s)) hM) dX13_stageRead_68 rfl rfl (Nat.le_of_ble_eq_true rfl) (by omega) ?_
            try simp (disch := omega) only [hv_in, lift_set, sset_e, sset_1, sset_2, workS_o, stagesS_o, beginsS_o, scpy_o, lift_cpy, sset_ss, bt_18, bt_315]
            refine c_stops (by omega) hM ?_
            unfold stopS
            refine aw_pop (pc' := 72) rfl dX13_stageRead_71 rfl ?_
            refine aw_iconst (pc' := 73) (by decide) dX13_stageRead_72 rfl ?_
            refine AW.ret (some (vi _)) dX13_stageRead_73 trivial ?_
            try simp (disch := omega) only [hv_in, lift_set, sset_e, sset_1, sset_2, workS_o, stagesS_o, beginsS_o, scpy_o, lift_cpy, sset_ss, bt_18, bt_315, wof_18]
            rw [if_pos (by omega), Option.some.injEq, Prod.mk.injEq] at g2
            obtain ⟨q1, q2⟩ := g2
            subst q1 q2
            exact hQ
        · rw [if_pos (by omega)] at g2
          refine aw_iconst (pc' := 49) (by decide) dX13_stageRead_48 rfl ?_
          refine AW.ret (some (vi _)) dX13_stageRead_49 trivial ?_
          rw [Option.some.injEq, Prod.mk.injEq] at g2
          obtain ⟨q1, q2⟩ := g2
          subst q1 q2
          exact hQ
