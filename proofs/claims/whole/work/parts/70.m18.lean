/-! ===== the reference's reader: a word's numbers, stages ===== -/
/-- echo's further numbers -/
def echS (st w : Int) : Nat → Bool → Sg → Bool × Sg
  | 0, g, s => (g, s)
  | m + 1, g, s => if g = true ∧ w = 0 ∧ btS s (s 307 18) = 32 ∧ s 316 st < 4 then echS st w m (numR s (s 307 18 + 1)).1 (numS s st) else (g, s)
def wholeS (s : Sg) (st w : Int) : Bool × Sg :=
  if w = 7 ∨ w = 9 then (true, s) else if btS s (s 307 18) ≠ 32 then (false, sset s 307 19 (s 307 18)) else
  if w = 8 then (if ¬ (97 ≤ btS s (s 307 18 + 1) ∧ btS s (s 307 18 + 1) ≤ 101) then (false, sset (sset (sset s 307 18 (s 307 18 + 1)) 315 st (btS s (s 307 18 + 1) - 97)) 307 19 (s 307 18 + 1)) else (true, sset (sset (sset s 307 18 (s 307 18 + 1)) 315 st (btS s (s 307 18 + 1) - 97)) 307 18 (s 307 18 + 1 + 1)))
  else echS st w 4 (numR s (s 307 18 + 1)).1 (numS s st)
theorem numS_o {s : Sg} {st o k : Int} (h1 : o ≠ 307 ∨ (k ≠ 18 ∧ k ≠ 19)) (h2 : o ≠ 316) (h3 : o ≠ 317) : numS s st o k = s o k := by
  unfold numS putN
  split
  · rw [sset_1 h2, sset_1 h3]
    unfold sset
    rw [if_neg (by omega)]
  · unfold sset
    rw [if_neg (by omega), if_neg (by omega)]
theorem digN_b {s : Sg} {a : Int} : 0 ≤ digN s a ∧ digN s a ≤ 3 := by
  unfold digN
  (repeat' split) <;> omega
theorem numR_b {s : Sg} {a : Int} : a ≤ (numR s a).2.1 ∧ (numR s a).2.1 ≤ a + 3 := by
  have := digN_b (s := s) (a := a)
  unfold numR
  (repeat' split) <;> (dsimp only; omega)
theorem numS_at {s : Sg} {st : Int} : numS s st 307 18 = (numR s (s 307 18 + 1)).2.1 := by
  unfold numS putN
  split
  · rw [sset_1 (by omega), sset_1 (by omega), sset_e]
  · rw [sset_2 (by omega), sset_e]
theorem numS_many {s : Sg} {st : Int} : numS s st 316 st = if (numR s (s 307 18 + 1)).1 = true then s 316 st + 1 else s 316 st := by
  unfold numS putN
  split
  · rw [sset_e, sset_1 (by omega)]
  · rw [sset_1 (by omega), sset_1 (by omega)]
set_option maxRecDepth 20000 in
theorem l_ech {d : Nat} {A : AHp} {st w : Int} {Q : Option AV → AHp → Prop} : ∀ (m : Nat) (s : Sg) (g : Bool) (z : Int), (g = true ∧ z = 1 ∨ g = false ∧ z = 0) → 2 ≤ d → MLAY A → (0 ≤ s 307 17 ∧ s 307 17 ≤ 100) → (∀ k, 0 ≤ k → k < s 307 17 → 0 ≤ s 322 k ∧ s 322 k ≤ 127) → (0 ≤ st ∧ st < 480) → 0 ≤ s 316 st → (g = true → 4 ≤ s 316 st + m) → (0 ≤ s 307 18) → (s 307 18 ≤ s 307 17 + 10) → Q (some (vi (if (echS st w m g s).1 = true then 1 else 0))) (lift A (echS st w m g s).2) → AW d mX13_isWhole 117 [some (vr 307), some (vi st), some (vi w), some (vi z)] [] (lift A s) Q := by
  intro m
  induction m using Nat.strongRecOn with
  | _ m ih =>
    intro s g z hz hd hM h17 h322 hst hmm hmm2 hat hat2 hQ
    have hz2 : z = 0 ∨ z = 1 := by
      rcases hz with hz | hz
      · exact Or.inr hz.2
      · exact Or.inl hz.2
    have hend : ¬ (g = true ∧ w = 0 ∧ btS s (s 307 18) = 32 ∧ s 316 st < 4) → Q (some (vi z)) (lift A s) := fun q => by
      have e1 : echS st w m g s = (g, s) := by
        cases m with
        | zero => rfl
        | succ m =>
          unfold echS
          exact if_neg q
      rw [e1] at hQ
      dsimp only at hQ
      rcases hz with hz | hz
      · rw [if_pos hz.1] at hQ
        rw [hz.2]
        exact hQ
      · rw [hz.1, if_neg (by decide)] at hQ
        rw [hz.2]
        exact hQ
    have hbb : btS s (s 307 18) = 32 → s 307 18 < s 307 17 := fun q => by
      unfold btS at q
      split at q
      · assumption
      · omega
    refine aw_iload_n (pc' := 118) rfl dX13_isWhole_117 rfl ?_
    refine aw_if_eq (pt := 157) (pf := 121) dX13_isWhole_118 (by decide) rfl (fun c_118 => ?_) (fun c_118 => ?_)
    · refine aw_iload_n (pc' := 158) rfl dX13_isWhole_157 rfl ?_
      refine AW.ret (some (vi _)) dX13_isWhole_158 hz2 ?_
      refine hend (fun q => ?_)
      obtain ⟨q1, q2, q3, q4⟩ := q
      first
      | omega
      | (rcases hz with hz | hz; (have := hz.2; omega); (rw [q1] at hz; exact absurd hz.1 (by decide)))
    · refine aw_iload_n (pc' := 122) rfl dX13_isWhole_121 rfl ?_
      refine aw_if_ne (pt := 157) (pf := 125) dX13_isWhole_122 (by decide) rfl (fun c_122 => ?_) (fun c_122 => ?_)
      · refine aw_iload_n (pc' := 158) rfl dX13_isWhole_157 rfl ?_
        refine AW.ret (some (vi _)) dX13_isWhole_158 hz2 ?_
        refine hend (fun q => ?_)
        obtain ⟨q1, q2, q3, q4⟩ := q
        first
        | omega
        | (rcases hz with hz | hz; (have := hz.2; omega); (rw [q1] at hz; exact absurd hz.1 (by decide)))
      · replace c_122 := Classical.not_not.mp c_122
        refine aw_aload_n (pc' := 126) rfl dX13_isWhole_125 rfl ?_
        refine aw_aload_n (pc' := 127) rfl dX13_isWhole_126 rfl ?_
        refine aw_geti (pc' := 130) (k9 := 18) dX13_isWhole_127 rfl fX13_206 rfl (by decide) rfl (MO (A := (lift A s)) hM) ?_
        try simp (disch := omega) only [hv_in, lift_set, sset_e, sset_1, sset_2, workS_o, stagesS_o, beginsS_o, scpy_o, lift_cpy, sset_ss, bt_18, bt_315]
        refine aw_callV (ci := 11) (d' := d - 1) (as := [_]) (pc' := 133) (by decide) rfl kX13_byteAt iX13_byteAt sX13_byteAt lX13_209 (MO (A := (lift A s)) hM) dX13_isWhole_130 rfl rfl (Nat.le_of_ble_eq_true rfl) (by omega) ?_
        try simp (disch := omega) only [hv_in, lift_set, sset_e, sset_1, sset_2, workS_o, stagesS_o, beginsS_o, scpy_o, lift_cpy, sset_ss, bt_18, bt_315]
        refine c_byteAt (by omega) hM (by first | exact h17 | (simp (disch := omega) only [sset_1, sset_2]; exact h17)) (by omega) ?_
        try simp only [bt_18, bt_315]
        refine aw_bipush (pc' := 135) (by decide +kernel) dX13_isWhole_133 rfl ?_
        refine aw_icmp_ne (pt := 157) (pf := 138) dX13_isWhole_135 (by decide) rfl (fun c_135 => ?_) (fun c_135 => ?_)
        · refine aw_iload_n (pc' := 158) rfl dX13_isWhole_157 rfl ?_
          refine AW.ret (some (vi _)) dX13_isWhole_158 hz2 ?_
          refine hend (fun q => ?_)
          obtain ⟨q1, q2, q3, q4⟩ := q
          first
          | omega
          | (rcases hz with hz | hz; (have := hz.2; omega); (rw [q1] at hz; exact absurd hz.1 (by decide)))
        · replace c_135 := Classical.not_not.mp c_135
          refine aw_aload_n (pc' := 139) rfl dX13_isWhole_138 rfl ?_
          refine aw_getp (pc' := 142) (k9 := 8) (p := 316) dX13_isWhole_139 rfl fX13_67 rfl rfl rfl (MO (A := (lift A s)) hM) (M_many (A := (lift A s)) hM) ?_
          refine aw_iload_n (pc' := 143) rfl dX13_isWhole_142 rfl ?_
          refine aw_iald (pc' := 144) dX13_isWhole_143 rfl (MA_many (A := (lift A s)) hM) (by omega) (by omega) ?_
          try simp (disch := omega) only [hv_in, lift_set, sset_e, sset_1, sset_2, workS_o, stagesS_o, beginsS_o, scpy_o, lift_cpy, sset_ss, bt_18, bt_315]
          refine aw_iconst (pc' := 145) (by decide) dX13_isWhole_144 rfl ?_
          refine aw_icmp_ge (pt := 157) (pf := 148) dX13_isWhole_145 (by decide) rfl (fun c_145 => ?_) (fun c_145 => ?_)
          · refine aw_iload_n (pc' := 158) rfl dX13_isWhole_157 rfl ?_
            refine AW.ret (some (vi _)) dX13_isWhole_158 hz2 ?_
            refine hend (fun q => ?_)
            obtain ⟨q1, q2, q3, q4⟩ := q
            first
            | omega
            | (rcases hz with hz | hz; (have := hz.2; omega); (rw [q1] at hz; exact absurd hz.1 (by decide)))
          · refine aw_aload_n (pc' := 149) rfl dX13_isWhole_148 rfl ?_
            refine aw_iload_n (pc' := 150) rfl dX13_isWhole_149 rfl ?_
            refine aw_callV (ci := 11) (d' := d - 1) (as := [_]) (pc' := 153) (by decide) rfl kX13_isNumber iX13_isNumber sX13_isNumber lX13_253 (MO (A := (lift A s)) hM) dX13_isWhole_150 rfl rfl (Nat.le_of_ble_eq_true rfl) (by omega) ?_
            have hb8 := hbb (by omega)
            try simp (disch := omega) only [hv_in, lift_set, sset_e, sset_1, sset_2, workS_o, stagesS_o, beginsS_o, scpy_o, lift_cpy, sset_ss, bt_18, bt_315]
            have hN9 := numR_b (s := s) (a := s 307 18 + 1)
            have hA9 := numS_at (s := s) (st := st)
            have hM9 := numS_many (s := s) (st := st)
            refine c_isNumber (by omega) hM (by omega) (by omega) h322 hst (by omega) (fun hn1 => ?_) (fun hn0 => ?_)
            · rw [if_pos hn1] at hM9
              refine aw_istore_n (pc' := 154) (lv' := [_, _, _, _]) dX13_isWhole_153 rfl (by decide) rfl ?_
              refine aw_goto (pc' := 117) dX13_isWhole_154 (by decide) ?_
              have h17' : numS s st 307 17 = s 307 17 := numS_o (by omega) (by omega) (by omega)
              have hg1 : g = true := by
                rcases hz with hz | hz
                · exact hz.1
                · have := hz.2
                  omega
              have hc9 : g = true ∧ w = 0 ∧ btS s (s 307 18) = 32 ∧ s 316 st < 4 := ⟨hg1, by omega, by omega, by omega⟩
              have hmm1 := hmm2 hg1
              have hb9 := hbb (by omega)
              cases m with
              | zero => omega
              | succ m =>
                unfold echS at hQ
                rw [if_pos hc9, hn1] at hQ
                exact ih m (by omega) (numS s st) true 1 (Or.inl ⟨rfl, rfl⟩) hd hM (by rw [h17']; exact h17) (fun k g1 g2 => by rw [numS_o (by omega) (by omega) (by omega)]; rw [h17'] at g2; exact h322 k g1 g2) hst (by omega) (fun q => by first | omega | exact absurd q (by decide)) (by omega) (by rw [h17']; omega) hQ
            · rw [if_neg (by rw [hn0]; decide)] at hM9
              refine aw_istore_n (pc' := 154) (lv' := [_, _, _, _]) dX13_isWhole_153 rfl (by decide) rfl ?_
              refine aw_goto (pc' := 117) dX13_isWhole_154 (by decide) ?_
              have h17' : numS s st 307 17 = s 307 17 := numS_o (by omega) (by omega) (by omega)
              have hg1 : g = true := by
                rcases hz with hz | hz
                · exact hz.1
                · have := hz.2
                  omega
              have hc9 : g = true ∧ w = 0 ∧ btS s (s 307 18) = 32 ∧ s 316 st < 4 := ⟨hg1, by omega, by omega, by omega⟩
              have hmm1 := hmm2 hg1
              have hb9 := hbb (by omega)
              cases m with
              | zero => omega
              | succ m =>
                unfold echS at hQ
                rw [if_pos hc9, hn0] at hQ
                exact ih m (by omega) (numS s st) false 0 (Or.inr ⟨rfl, rfl⟩) hd hM (by rw [h17']; exact h17) (fun k g1 g2 => by rw [numS_o (by omega) (by omega) (by omega)]; rw [h17'] at g2; exact h322 k g1 g2) hst (by omega) (fun q => by first | omega | exact absurd q (by decide)) (by omega) (by rw [h17']; omega) hQ

set_option maxRecDepth 20000 in
theorem c_isWhole {d : Nat} {st w : Int} {A : AHp} {s : Sg} {Q : Option AV → AHp → Prop} (hd : 3 ≤ d) (hM : MLAY A) (h17 : 0 ≤ s 307 17 ∧ s 307 17 ≤ 100) (h18 : 0 ≤ s 307 18 ∧ s 307 18 ≤ 100) (h322 : ∀ k, 0 ≤ k → k < s 307 17 → 0 ≤ s 322 k ∧ s 322 k ≤ 127) (hst : 0 ≤ st ∧ st < 480) (hm : s 316 st = 0) (hQ : Q (some (vi (if (wholeS s st w).1 = true then 1 else 0))) (lift A (wholeS s st w).2)) : CALL d mX13_isWhole [vr 307, vi st, vi w] (lift A s) Q := by
  refine CALL.of (by decide) (Nat.le_of_ble_eq_true rfl) ?_
  change AW d mX13_isWhole 0 [some (vr 307), some (vi st), some (vi w), none] [] (lift A s) Q
  unfold wholeS at hQ
  have hb0 := bt_r h322 (k := s 307 18) (by omega)
  have hb1 := bt_r h322 (k := s 307 18 + 1) (by omega)
  have hbb : btS s (s 307 18) = 32 → s 307 18 < s 307 17 := fun q => by
    unfold btS at q
    split at q
    · assumption
    · omega
  refine aw_iload_n (pc' := 1) rfl dX13_isWhole_0 rfl ?_
  refine aw_bipush (pc' := 3) (by decide +kernel) dX13_isWhole_1 rfl ?_
  refine aw_icmp_eq (pt := 12) (pf := 6) dX13_isWhole_3 (by decide) rfl (fun c_3 => ?_) (fun c_3 => ?_)
  · refine aw_iconst (pc' := 13) (by decide) dX13_isWhole_12 rfl ?_
    refine AW.ret (some (vi _)) dX13_isWhole_13 (Or.inr rfl) ?_
    try simp (disch := omega) only [hv_in, lift_set, sset_e, sset_1, sset_2, workS_o, stagesS_o, beginsS_o, scpy_o, lift_cpy, sset_ss, bt_18, bt_315]
    simp (disch := omega) only [if_pos, if_neg] at hQ
    first | exact hQ | (rw [if_pos rfl] at hQ; exact hQ) | (rw [if_neg (by decide)] at hQ; exact hQ)
  · refine aw_iload_n (pc' := 7) rfl dX13_isWhole_6 rfl ?_
    refine aw_bipush (pc' := 9) (by decide +kernel) dX13_isWhole_7 rfl ?_
    refine aw_icmp_ne (pt := 14) (pf := 12) dX13_isWhole_9 (by decide) rfl (fun c_9 => ?_) (fun c_9 => ?_)
    · refine aw_aload_n (pc' := 15) rfl dX13_isWhole_14 rfl ?_
      refine aw_aload_n (pc' := 16) rfl dX13_isWhole_15 rfl ?_
      refine aw_geti (pc' := 19) (k9 := 18) dX13_isWhole_16 rfl fX13_206 rfl (by decide) rfl (MO (A := (lift A s)) hM) ?_
      try simp (disch := omega) only [hv_in, lift_set, sset_e, sset_1, sset_2, workS_o, stagesS_o, beginsS_o, scpy_o, lift_cpy, sset_ss, bt_18, bt_315]
      refine aw_callV (ci := 11) (d' := d - 1) (as := [_]) (pc' := 22) (by decide) rfl kX13_byteAt iX13_byteAt sX13_byteAt lX13_209 (MO (A := (lift A s)) hM) dX13_isWhole_19 rfl rfl (Nat.le_of_ble_eq_true rfl) (by omega) ?_
      try simp (disch := omega) only [hv_in, lift_set, sset_e, sset_1, sset_2, workS_o, stagesS_o, beginsS_o, scpy_o, lift_cpy, sset_ss, bt_18, bt_315]
      refine c_byteAt (by omega) hM (by first | exact h17 | (simp (disch := omega) only [sset_1, sset_2]; exact h17)) (by omega) ?_
      try simp only [bt_18, bt_315]
      refine aw_bipush (pc' := 24) (by decide +kernel) dX13_isWhole_22 rfl ?_
      refine aw_icmp_eq (pt := 36) (pf := 27) dX13_isWhole_24 (by decide) rfl (fun c_24 => ?_) (fun c_24 => ?_)
      · refine aw_iload_n (pc' := 37) rfl dX13_isWhole_36 rfl ?_
        refine aw_bipush (pc' := 39) (by decide +kernel) dX13_isWhole_37 rfl ?_
        refine aw_icmp_ne (pt := 111) (pf := 42) dX13_isWhole_39 (by decide) rfl (fun c_39 => ?_) (fun c_39 => ?_)
        · refine aw_aload_n (pc' := 112) rfl dX13_isWhole_111 rfl ?_
          refine aw_iload_n (pc' := 113) rfl dX13_isWhole_112 rfl ?_
          refine aw_callV (ci := 11) (d' := d - 1) (as := [_]) (pc' := 116) (by decide) rfl kX13_isNumber iX13_isNumber sX13_isNumber lX13_253 (MO (A := (lift A s)) hM) dX13_isWhole_113 rfl rfl (Nat.le_of_ble_eq_true rfl) (by omega) ?_
          try simp (disch := omega) only [hv_in, lift_set, sset_e, sset_1, sset_2, workS_o, stagesS_o, beginsS_o, scpy_o, lift_cpy, sset_ss, bt_18, bt_315]
          have hN9 := numR_b (s := s) (a := s 307 18 + 1)
          have hA9 := numS_at (s := s) (st := st)
          have hM9 := numS_many (s := s) (st := st)
          refine c_isNumber (by omega) hM (by omega) (by omega) h322 hst (by omega) (fun hn1 => ?_) (fun hn0 => ?_)
          · rw [if_pos hn1] at hM9
            refine aw_istore_n (pc' := 117) (lv' := [_, _, _, _]) dX13_isWhole_116 rfl (by decide) rfl ?_
            have h17' : numS s st 307 17 = s 307 17 := numS_o (by omega) (by omega) (by omega)
            simp (disch := omega) only [if_pos, if_neg] at hQ
            rw [hn1] at hQ
            exact l_ech 4 (numS s st) true 1 (Or.inl ⟨rfl, rfl⟩) (by omega) hM (by rw [h17']; exact h17) (fun k g1 g2 => by rw [numS_o (by omega) (by omega) (by omega)]; rw [h17'] at g2; exact h322 k g1 g2) hst (by omega) (fun q => by first | omega | exact absurd q (by decide)) (by omega) (by rw [h17']; have := hbb (by omega); omega) hQ
          · rw [if_neg (by rw [hn0]; decide)] at hM9
            refine aw_istore_n (pc' := 117) (lv' := [_, _, _, _]) dX13_isWhole_116 rfl (by decide) rfl ?_
            have h17' : numS s st 307 17 = s 307 17 := numS_o (by omega) (by omega) (by omega)
            simp (disch := omega) only [if_pos, if_neg] at hQ
            rw [hn0] at hQ
            exact l_ech 4 (numS s st) false 0 (Or.inr ⟨rfl, rfl⟩) (by omega) hM (by rw [h17']; exact h17) (fun k g1 g2 => by rw [numS_o (by omega) (by omega) (by omega)]; rw [h17'] at g2; exact h322 k g1 g2) hst (by omega) (fun q => by first | omega | exact absurd q (by decide)) (by omega) (by rw [h17']; have := hbb (by omega); omega) hQ
        · replace c_39 := Classical.not_not.mp c_39
          refine aw_aload_n (pc' := 43) rfl dX13_isWhole_42 rfl ?_
          refine aw_dup (pc' := 44) rfl dX13_isWhole_43 rfl ?_
          refine aw_geti (pc' := 47) (k9 := 18) dX13_isWhole_44 rfl fX13_206 rfl (by decide) rfl (MO (A := (lift A s)) hM) ?_
          try simp (disch := omega) only [hv_in, lift_set, sset_e, sset_1, sset_2, workS_o, stagesS_o, beginsS_o, scpy_o, lift_cpy, sset_ss, bt_18, bt_315]
          refine aw_iconst (pc' := 48) (by decide) dX13_isWhole_47 rfl ?_
          refine aw_iadd (pc' := 49) (by first | exact w32_id (by omega) (by omega) | rfl) dX13_isWhole_48 rfl ?_
          refine aw_puti (pc' := 52) (k9 := 18) dX13_isWhole_49 rfl fX13_206 rfl rfl rfl (MO (A := (lift A s)) hM) ?_
          refine aw_aload_n (pc' := 53) rfl dX13_isWhole_52 rfl ?_
          refine aw_getp (pc' := 56) (k9 := 7) (p := 315) dX13_isWhole_53 rfl fX13_64 rfl rfl rfl (MO (A := (lift A s)) hM) (M_inner (A := (lift A s)) hM) ?_
          refine aw_iload_n (pc' := 57) rfl dX13_isWhole_56 rfl ?_
          refine aw_aload_n (pc' := 58) rfl dX13_isWhole_57 rfl ?_
          refine aw_aload_n (pc' := 59) rfl dX13_isWhole_58 rfl ?_
          refine aw_geti (pc' := 62) (k9 := 18) dX13_isWhole_59 rfl fX13_206 rfl (by decide) rfl (MO (A := (lift A s)) hM) ?_
          try simp (disch := omega) only [hv_in, lift_set, sset_e, sset_1, sset_2, workS_o, stagesS_o, beginsS_o, scpy_o, lift_cpy, sset_ss, bt_18, bt_315]
          refine aw_callV (ci := 11) (d' := d - 1) (as := [_]) (pc' := 65) (by decide) rfl kX13_byteAt iX13_byteAt sX13_byteAt lX13_209 (MO (A := (lift A s)) hM) dX13_isWhole_62 rfl rfl (Nat.le_of_ble_eq_true rfl) (by omega) ?_
          try simp (disch := omega) only [hv_in, lift_set, sset_e, sset_1, sset_2, workS_o, stagesS_o, beginsS_o, scpy_o, lift_cpy, sset_ss, bt_18, bt_315]
          refine c_byteAt (by omega) hM (by first | exact h17 | (simp (disch := omega) only [sset_1, sset_2]; exact h17)) (by omega) ?_
          try simp only [bt_18, bt_315]
          refine aw_bipush (pc' := 67) (by decide +kernel) dX13_isWhole_65 rfl ?_
          refine aw_isub (pc' := 68) (by first | exact w32_id (by omega) (by omega) | rfl) dX13_isWhole_67 rfl ?_
          refine aw_iast (pc' := 69) dX13_isWhole_68 rfl (MA_inner (A := (lift A s)) hM) (by omega) (by omega) ?_
          refine aw_aload_n (pc' := 70) rfl dX13_isWhole_69 rfl ?_
          refine aw_aload_n (pc' := 71) rfl dX13_isWhole_70 rfl ?_
          refine aw_geti (pc' := 74) (k9 := 18) dX13_isWhole_71 rfl fX13_206 rfl (by decide) rfl (MO (A := (lift A s)) hM) ?_
          try simp (disch := omega) only [hv_in, lift_set, sset_e, sset_1, sset_2, workS_o, stagesS_o, beginsS_o, scpy_o, lift_cpy, sset_ss, bt_18, bt_315]
          refine aw_callV (ci := 11) (d' := d - 1) (as := [_]) (pc' := 77) (by decide) rfl kX13_byteAt iX13_byteAt sX13_byteAt lX13_209 (MO (A := (lift A s)) hM) dX13_isWhole_74 rfl rfl (Nat.le_of_ble_eq_true rfl) (by omega) ?_
          try simp (disch := omega) only [hv_in, lift_set, sset_e, sset_1, sset_2, workS_o, stagesS_o, beginsS_o, scpy_o, lift_cpy, sset_ss, bt_18, bt_315]
          refine c_byteAt (by omega) hM (by first | exact h17 | (simp (disch := omega) only [sset_1, sset_2]; exact h17)) (by omega) ?_
          try simp only [bt_18, bt_315]
          refine aw_i2l (pc' := 78) dX13_isWhole_77 rfl ?_
          refine aw_ldc2 (x := (97)) (pc' := 81) qX13_229 (by decide) dX13_isWhole_78 rfl ?_
          refine aw_ldc2 (x := (101)) (pc' := 84) qX13_251 (by decide) dX13_isWhole_81 rfl ?_
          refine aw_callS (d' := d - 1) (as := [_, _, _]) (pc' := 87) kX13_in tX13_in lX13_177 dX13_isWhole_84 rfl rfl (Nat.le_of_ble_eq_true rfl) (by omega) ?_
          refine c_in (by omega) (fun g1_84 g2_84 => ?_) (fun g0_84 => ?_)
          · refine aw_if_ne (pt := 99) (pf := 90) dX13_isWhole_87 (by decide) rfl (fun _ => ?_) (fun c_87 => absurd (by decide) c_87)
            refine aw_aload_n (pc' := 100) rfl dX13_isWhole_99 rfl ?_
            refine aw_dup (pc' := 101) rfl dX13_isWhole_100 rfl ?_
            refine aw_geti (pc' := 104) (k9 := 18) dX13_isWhole_101 rfl fX13_206 rfl (by decide) rfl (MO (A := (lift A s)) hM) ?_
            try simp (disch := omega) only [hv_in, lift_set, sset_e, sset_1, sset_2, workS_o, stagesS_o, beginsS_o, scpy_o, lift_cpy, sset_ss, bt_18, bt_315]
            refine aw_iconst (pc' := 105) (by decide) dX13_isWhole_104 rfl ?_
            refine aw_iadd (pc' := 106) (by first | exact w32_id (by omega) (by omega) | rfl) dX13_isWhole_105 rfl ?_
            refine aw_puti (pc' := 109) (k9 := 18) dX13_isWhole_106 rfl fX13_206 rfl rfl rfl (MO (A := (lift A s)) hM) ?_
            refine aw_iconst (pc' := 110) (by decide) dX13_isWhole_109 rfl ?_
            refine AW.ret (some (vi _)) dX13_isWhole_110 (Or.inr rfl) ?_
            try simp (disch := omega) only [hv_in, lift_set, sset_e, sset_1, sset_2, workS_o, stagesS_o, beginsS_o, scpy_o, lift_cpy, sset_ss, bt_18, bt_315]
            simp (disch := omega) only [if_pos, if_neg] at hQ
            first | exact hQ | (rw [if_pos rfl] at hQ; exact hQ) | (rw [if_neg (by decide)] at hQ; exact hQ)
          · refine aw_if_ne (pt := 99) (pf := 90) dX13_isWhole_87 (by decide) rfl (fun c_87 => absurd c_87 (by decide)) (fun _ => ?_)
            refine aw_aload_n (pc' := 91) rfl dX13_isWhole_90 rfl ?_
            refine aw_aload_n (pc' := 92) rfl dX13_isWhole_91 rfl ?_
            refine aw_geti (pc' := 95) (k9 := 18) dX13_isWhole_92 rfl fX13_206 rfl (by decide) rfl (MO (A := (lift A s)) hM) ?_
            try simp (disch := omega) only [hv_in, lift_set, sset_e, sset_1, sset_2, workS_o, stagesS_o, beginsS_o, scpy_o, lift_cpy, sset_ss, bt_18, bt_315]
            refine aw_callV (ci := 11) (d' := d - 1) (as := [_]) (pc' := 98) (by decide) rfl kX13_stops iX13_stops sX13_stops lX13_216 (MO (A := (lift A s)) hM) dX13_isWhole_95 rfl rfl (Nat.le_of_ble_eq_true rfl) (by omega) ?_
            try simp (disch := omega) only [hv_in, lift_set, sset_e, sset_1, sset_2, workS_o, stagesS_o, beginsS_o, scpy_o, lift_cpy, sset_ss, bt_18, bt_315]
            refine c_stops (by omega) hM ?_
            unfold stopS
            refine AW.ret (some (vi _)) dX13_isWhole_98 (Or.inl rfl) ?_
            try simp (disch := omega) only [hv_in, lift_set, sset_e, sset_1, sset_2, workS_o, stagesS_o, beginsS_o, scpy_o, lift_cpy, sset_ss, bt_18, bt_315]
            simp (disch := omega) only [if_pos, if_neg] at hQ
            first | exact hQ | (rw [if_pos rfl] at hQ; exact hQ) | (rw [if_neg (by decide)] at hQ; exact hQ)
      · refine aw_aload_n (pc' := 28) rfl dX13_isWhole_27 rfl ?_
        refine aw_aload_n (pc' := 29) rfl dX13_isWhole_28 rfl ?_
        refine aw_geti (pc' := 32) (k9 := 18) dX13_isWhole_29 rfl fX13_206 rfl (by decide) rfl (MO (A := (lift A s)) hM) ?_
        try simp (disch := omega) only [hv_in, lift_set, sset_e, sset_1, sset_2, workS_o, stagesS_o, beginsS_o, scpy_o, lift_cpy, sset_ss, bt_18, bt_315]
        refine aw_callV (ci := 11) (d' := d - 1) (as := [_]) (pc' := 35) (by decide) rfl kX13_stops iX13_stops sX13_stops lX13_216 (MO (A := (lift A s)) hM) dX13_isWhole_32 rfl rfl (Nat.le_of_ble_eq_true rfl) (by omega) ?_
        try simp (disch := omega) only [hv_in, lift_set, sset_e, sset_1, sset_2, workS_o, stagesS_o, beginsS_o, scpy_o, lift_cpy, sset_ss, bt_18, bt_315]
        refine c_stops (by omega) hM ?_
        unfold stopS
        refine AW.ret (some (vi _)) dX13_isWhole_35 (Or.inl rfl) ?_
        try simp (disch := omega) only [hv_in, lift_set, sset_e, sset_1, sset_2, workS_o, stagesS_o, beginsS_o, scpy_o, lift_cpy, sset_ss, bt_18, bt_315]
        simp (disch := omega) only [if_pos, if_neg] at hQ
        first | exact hQ | (rw [if_pos rfl] at hQ; exact hQ) | (rw [if_neg (by decide)] at hQ; exact hQ)
    · replace c_9 := Classical.not_not.mp c_9
      refine aw_iconst (pc' := 13) (by decide) dX13_isWhole_12 rfl ?_
      refine AW.ret (some (vi _)) dX13_isWhole_13 (Or.inr rfl) ?_
      try simp (disch := omega) only [hv_in, lift_set, sset_e, sset_1, sset_2, workS_o, stagesS_o, beginsS_o, scpy_o, lift_cpy, sset_ss, bt_18, bt_315]
      simp (disch := omega) only [if_pos, if_neg] at hQ
      first | exact hQ | (rw [if_pos rfl] at hQ; exact hQ) | (rw [if_neg (by decide)] at hQ; exact hQ)
