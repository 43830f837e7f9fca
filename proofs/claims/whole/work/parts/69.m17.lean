/-! ===== the reference's reader: numbers, what a word takes ===== -/
def isDig (s : Sg) (k : Int) : Prop := 48 ≤ btS s k ∧ btS s k ≤ 57
/-- how many digits stand at a, 3 at most; their number -/
def digN (s : Sg) (a : Int) : Int := if ¬ (48 ≤ btS s a ∧ btS s a ≤ 57) then 0 else if ¬ (48 ≤ btS s (a + 1) ∧ btS s (a + 1) ≤ 57) then 1 else if ¬ (48 ≤ btS s (a + 2) ∧ btS s (a + 2) ≤ 57) then 2 else 3
def digV (s : Sg) (a : Int) : Nat → Int
  | 0 => 0
  | n + 1 => 10 * digV s a n + btS s (a + n) - 48
def putN (s : Sg) (st v : Int) : Sg := sset (sset s 317 (4 * st + s 316 st) v) 316 st (s 316 st + 1)
/-- behind the blank of a number: whether there is one, where the reader stands then (or the fault), the number -/
def numR (s : Sg) (a : Int) : Bool × Int × Int :=
  if btS s a = 36 then (if ¬ (97 ≤ btS s (a + 1) ∧ btS s (a + 1) ≤ 101) ∧ btS s (a + 1) ≠ 112 then (false, a + 1, 0) else (true, a + 1 + 1, if btS s (a + 1) = 112 then -6 else -1 - (btS s (a + 1) - 97)))
  else if digN s a = 0 then (false, a, 0) else (true, a + digN s a, digV s a (digN s a).toNat)
def numS (s : Sg) (st : Int) : Sg := if (numR s (s 307 18 + 1)).1 = true then putN (sset s 307 18 (numR s (s 307 18 + 1)).2.1) st (numR s (s 307 18 + 1)).2.2 else sset (sset s 307 18 (numR s (s 307 18 + 1)).2.1) 307 19 (numR s (s 307 18 + 1)).2.1
theorem sset_ss {s : Sg} {o k x y : Int} : sset (sset s o k x) o k y = sset s o k y := by
  funext a b
  unfold sset
  split <;> rfl
theorem bt_18 {s : Sg} {x k : Int} : btS (sset s 307 18 x) k = btS s k := by
  unfold btS
  rw [sset_2 (by omega), sset_1 (by omega)]
theorem bt_315 {s : Sg} {a x k : Int} : btS (sset s 315 a x) k = btS s k := by
  unfold btS
  rw [sset_1 (by omega), sset_1 (by omega)]
theorem bt_r {s : Sg} {k : Int} (h : ∀ k, 0 ≤ k → k < s 307 17 → 0 ≤ s 322 k ∧ s 322 k ≤ 127) (hk : 0 ≤ k) : -1 ≤ btS s k ∧ btS s k ≤ 127 := by
  unfold btS
  split
  · next e =>
    have := h k hk e
    omega
  · omega
theorem digV_b {s : Sg} {a : Int} : ∀ n : Nat, n ≤ 3 → (∀ j : Nat, j < n → 48 ≤ btS s (a + j) ∧ btS s (a + j) ≤ 57) → 0 ≤ digV s a n ∧ digV s a n ≤ 999 ∧ (n ≤ 2 → digV s a n ≤ 99) ∧ (n ≤ 1 → digV s a n ≤ 9) ∧ (n = 0 → digV s a n = 0)
  | 0, _, _ => by simp [digV]
  | n + 1, h, hd => by
    obtain ⟨h1, h2, h3, h4, h5⟩ := digV_b n (by omega) (fun j hj => hd j (by omega))
    have := hd n (by omega)
    unfold digV
    refine ⟨?_, ?_, fun q => ?_, fun q => ?_, fun q => ?_⟩ <;> omega
set_option maxRecDepth 20000 in
theorem l_dig {d : Nat} {A : AHp} {s : Sg} {st a : Int} {Q : Option AV → AHp → Prop} : ∀ (m : Nat) (n : Nat) (v : Int), 3 - n = m → 1 ≤ d → MLAY A → (0 ≤ s 307 17 ∧ s 307 17 ≤ 100) → (∀ k, 0 ≤ k → k < s 307 17 → 0 ≤ s 322 k ∧ s 322 k ≤ 127) → (0 ≤ a ∧ a ≤ 101) → n ≤ 3 → (∀ j : Nat, j < n → 48 ≤ btS s (a + j) ∧ btS s (a + j) ≤ 57) → v = digV s a n → (∀ n : Nat, n ≤ 3 → (∀ j : Nat, j < n → 48 ≤ btS s (a + j) ∧ btS s (a + j) ≤ 57) → (n < 3 → ¬ (48 ≤ btS s (a + n) ∧ btS s (a + n) ≤ 57)) → AW d mX13_isNumber 170 [some (vr 307), some (vi st), some (vi (digV s a n)), some (vi a)] [] (lift A (sset s 307 18 (a + n))) Q) → AW d mX13_isNumber 109 [some (vr 307), some (vi st), some (vi v), some (vi a)] [] (lift A (sset s 307 18 (a + n))) Q := by
  intro m
  induction m using Nat.strongRecOn with
  | _ m ih =>
    intro n v hm hd hM h17 h322 ha hn hds ev hE
    have hb := bt_r h322 (k := a + n) (by omega)
    have hvb := digV_b (s := s) (a := a) n hn hds
    rw [← ev] at hvb
    refine aw_aload_n (pc' := 110) rfl dX13_isNumber_109 rfl ?_
    refine aw_geti (pc' := 113) (k9 := 18) dX13_isNumber_110 rfl fX13_206 rfl (by decide) rfl (MO (A := (lift A (sset s 307 18 (a + n)))) hM) ?_
    try simp (disch := omega) only [hv_in, lift_set, sset_e, sset_1, sset_2, workS_o, stagesS_o, beginsS_o, scpy_o, lift_cpy, sset_ss, bt_18, bt_315]
    refine aw_iload_n (pc' := 114) rfl dX13_isNumber_113 rfl ?_
    refine aw_isub (pc' := 115) (by first | exact w32_id (by omega) (by omega) | rfl) dX13_isNumber_114 rfl ?_
    refine aw_iconst (pc' := 116) (by decide) dX13_isNumber_115 rfl ?_
    refine aw_icmp_ge (pt := 170) (pf := 119) dX13_isNumber_116 (by decide) rfl (fun c_116 => ?_) (fun c_116 => ?_)
    · rw [ev]
      exact hE n hn hds (fun q => by omega)
    · refine aw_aload_n (pc' := 120) rfl dX13_isNumber_119 rfl ?_
      refine aw_aload_n (pc' := 121) rfl dX13_isNumber_120 rfl ?_
      refine aw_geti (pc' := 124) (k9 := 18) dX13_isNumber_121 rfl fX13_206 rfl (by decide) rfl (MO (A := (lift A (sset s 307 18 (a + n)))) hM) ?_
      try simp (disch := omega) only [hv_in, lift_set, sset_e, sset_1, sset_2, workS_o, stagesS_o, beginsS_o, scpy_o, lift_cpy, sset_ss, bt_18, bt_315]
      refine aw_callV (ci := 11) (d' := d - 1) (as := [_]) (pc' := 127) (by decide) rfl kX13_byteAt iX13_byteAt sX13_byteAt lX13_209 (MO (A := (lift A (sset s 307 18 (a + n)))) hM) dX13_isNumber_124 rfl rfl (Nat.le_of_ble_eq_true rfl) (by omega) ?_
      try simp (disch := omega) only [hv_in, lift_set, sset_e, sset_1, sset_2, workS_o, stagesS_o, beginsS_o, scpy_o, lift_cpy, sset_ss, bt_18, bt_315]
      refine c_byteAt (by omega) hM (by first | exact h17 | (simp (disch := omega) only [sset_1, sset_2]; exact h17)) (by omega) ?_
      try simp only [bt_18, bt_315]
      refine aw_i2l (pc' := 128) dX13_isNumber_127 rfl ?_
      refine aw_ldc2 (x := (48)) (pc' := 131) qX13_256 (by decide) dX13_isNumber_128 rfl ?_
      refine aw_ldc2 (x := (57)) (pc' := 134) qX13_258 (by decide) dX13_isNumber_131 rfl ?_
      refine aw_callS (d' := d - 1) (as := [_, _, _]) (pc' := 137) kX13_in tX13_in lX13_177 dX13_isNumber_134 rfl rfl (Nat.le_of_ble_eq_true rfl) (by omega) ?_
      refine c_in (by omega) (fun g1_134 g2_134 => ?_) (fun g0_134 => ?_)
      · refine aw_if_eq (pt := 170) (pf := 140) dX13_isNumber_137 (by decide) rfl (fun c_137 => absurd c_137 (by decide)) (fun _ => ?_)
        refine aw_bipush (pc' := 142) (by decide +kernel) dX13_isNumber_140 rfl ?_
        refine aw_iload_n (pc' := 143) rfl dX13_isNumber_142 rfl ?_
        refine aw_imul (pc' := 144) (by first | exact w32_id (by omega) (by omega) | rfl) dX13_isNumber_143 rfl ?_
        refine aw_aload_n (pc' := 145) rfl dX13_isNumber_144 rfl ?_
        refine aw_aload_n (pc' := 146) rfl dX13_isNumber_145 rfl ?_
        refine aw_geti (pc' := 149) (k9 := 18) dX13_isNumber_146 rfl fX13_206 rfl (by decide) rfl (MO (A := (lift A (sset s 307 18 (a + n)))) hM) ?_
        try simp (disch := omega) only [hv_in, lift_set, sset_e, sset_1, sset_2, workS_o, stagesS_o, beginsS_o, scpy_o, lift_cpy, sset_ss, bt_18, bt_315]
        refine aw_callV (ci := 11) (d' := d - 1) (as := [_]) (pc' := 152) (by decide) rfl kX13_byteAt iX13_byteAt sX13_byteAt lX13_209 (MO (A := (lift A (sset s 307 18 (a + n)))) hM) dX13_isNumber_149 rfl rfl (Nat.le_of_ble_eq_true rfl) (by omega) ?_
        try simp (disch := omega) only [hv_in, lift_set, sset_e, sset_1, sset_2, workS_o, stagesS_o, beginsS_o, scpy_o, lift_cpy, sset_ss, bt_18, bt_315]
        refine c_byteAt (by omega) hM (by first | exact h17 | (simp (disch := omega) only [sset_1, sset_2]; exact h17)) (by omega) ?_
        try simp only [bt_18, bt_315]
        refine aw_iadd (pc' := 153) (by first | exact w32_id (by omega) (by omega) | rfl) dX13_isNumber_152 rfl ?_
        refine aw_bipush (pc' := 155) (by decide +kernel) dX13_isNumber_153 rfl ?_
        refine aw_isub (pc' := 156) (by first | exact w32_id (by omega) (by omega) | rfl) dX13_isNumber_155 rfl ?_
        refine aw_istore_n (pc' := 157) (lv' := [_, _, _, _]) dX13_isNumber_156 rfl (by decide) rfl ?_
        refine aw_aload_n (pc' := 158) rfl dX13_isNumber_157 rfl ?_
        refine aw_dup (pc' := 159) rfl dX13_isNumber_158 rfl ?_
        refine aw_geti (pc' := 162) (k9 := 18) dX13_isNumber_159 rfl fX13_206 rfl (by decide) rfl (MO (A := (lift A (sset s 307 18 (a + n)))) hM) ?_
        try simp (disch := omega) only [hv_in, lift_set, sset_e, sset_1, sset_2, workS_o, stagesS_o, beginsS_o, scpy_o, lift_cpy, sset_ss, bt_18, bt_315]
        refine aw_iconst (pc' := 163) (by decide) dX13_isNumber_162 rfl ?_
        refine aw_iadd (pc' := 164) (by first | exact w32_id (by omega) (by omega) | rfl) dX13_isNumber_163 rfl ?_
        refine aw_puti (pc' := 167) (k9 := 18) dX13_isNumber_164 rfl fX13_206 rfl rfl rfl (MO (A := (lift A (sset s 307 18 (a + n)))) hM) ?_
        refine aw_goto (pc' := 109) dX13_isNumber_167 (by decide) ?_
        try simp (disch := omega) only [hv_in, lift_set, sset_e, sset_1, sset_2, workS_o, stagesS_o, beginsS_o, scpy_o, lift_cpy, sset_ss, bt_18, bt_315]
        rw [show a + (n : Int) + 1 = a + ((n + 1 : Nat) : Int) by omega]
        exact ih _ (by omega) (n + 1) _ rfl hd hM h17 h322 ha (by omega) (fun j hj => by by_cases e : j = n; subst e; omega; exact hds j (by omega)) (by rw [ev]; rfl) hE
      · refine aw_if_eq (pt := 170) (pf := 140) dX13_isNumber_137 (by decide) rfl (fun _ => ?_) (fun c_137 => absurd (by decide) c_137)
        rw [ev]
        exact hE n hn hds (fun q => by omega)

set_option maxRecDepth 20000 in
theorem l_numE {d : Nat} {A : AHp} {s : Sg} {st v x : Int} {L3 : Option AV} {Q : Option AV → AHp → Prop} (hM : MLAY A) (hst : 0 ≤ st ∧ st < 480) (hm : 0 ≤ s 316 st ∧ s 316 st ≤ 3) (hQ : Q (some (vi 1)) (lift A (putN (sset s 307 18 x) st v))) : AW d mX13_isNumber 187 [some (vr 307), some (vi st), some (vi v), L3] [] (lift A (sset s 307 18 x)) Q := by
  refine aw_aload_n (pc' := 188) rfl dX13_isNumber_187 rfl ?_
  refine aw_getp (pc' := 191) (k9 := 9) (p := 317) dX13_isNumber_188 rfl fX13_70 rfl rfl rfl (MO (A := (lift A (sset s 307 18 x))) hM) (M_number (A := (lift A (sset s 307 18 x))) hM) ?_
  refine aw_iconst (pc' := 192) (by decide) dX13_isNumber_191 rfl ?_
  refine aw_iload_n (pc' := 193) rfl dX13_isNumber_192 rfl ?_
  refine aw_imul (pc' := 194) (by first | exact w32_id (by omega) (by omega) | rfl) dX13_isNumber_193 rfl ?_
  refine aw_aload_n (pc' := 195) rfl dX13_isNumber_194 rfl ?_
  refine aw_getp (pc' := 198) (k9 := 8) (p := 316) dX13_isNumber_195 rfl fX13_67 rfl rfl rfl (MO (A := (lift A (sset s 307 18 x))) hM) (M_many (A := (lift A (sset s 307 18 x))) hM) ?_
  refine aw_iload_n (pc' := 199) rfl dX13_isNumber_198 rfl ?_
  refine aw_iald (pc' := 200) dX13_isNumber_199 rfl (MA_many (A := (lift A (sset s 307 18 x))) hM) (by omega) (by omega) ?_
  try simp (disch := omega) only [hv_in, lift_set, sset_e, sset_1, sset_2, workS_o, stagesS_o, beginsS_o, scpy_o, lift_cpy, sset_ss, bt_18, bt_315]
  refine aw_iadd (pc' := 201) (by first | exact w32_id (by omega) (by omega) | rfl) dX13_isNumber_200 rfl ?_
  refine aw_iload_n (pc' := 202) rfl dX13_isNumber_201 rfl ?_
  refine aw_iast (pc' := 203) dX13_isNumber_202 rfl (MA_number (A := (lift A (sset s 307 18 x))) hM) (by omega) (by omega) ?_
  refine aw_aload_n (pc' := 204) rfl dX13_isNumber_203 rfl ?_
  refine aw_getp (pc' := 207) (k9 := 8) (p := 316) dX13_isNumber_204 rfl fX13_67 rfl rfl rfl (MO (A := (lift A (sset s 307 18 x))) hM) (M_many (A := (lift A (sset s 307 18 x))) hM) ?_
  refine aw_iload_n (pc' := 208) rfl dX13_isNumber_207 rfl ?_
  refine aw_dup2 (pc' := 209) rfl rfl dX13_isNumber_208 rfl ?_
  refine aw_iald (pc' := 210) dX13_isNumber_209 rfl (MA_many (A := (lift A (sset s 307 18 x))) hM) (by omega) (by omega) ?_
  try simp (disch := omega) only [hv_in, lift_set, sset_e, sset_1, sset_2, workS_o, stagesS_o, beginsS_o, scpy_o, lift_cpy, sset_ss, bt_18, bt_315]
  refine aw_iconst (pc' := 211) (by decide) dX13_isNumber_210 rfl ?_
  refine aw_iadd (pc' := 212) (by first | exact w32_id (by omega) (by omega) | rfl) dX13_isNumber_211 rfl ?_
  refine aw_iast (pc' := 213) dX13_isNumber_212 rfl (MA_many (A := (lift A (sset s 307 18 x))) hM) (by omega) (by omega) ?_
  refine aw_iconst (pc' := 214) (by decide) dX13_isNumber_213 rfl ?_
  refine AW.ret (some (vi _)) dX13_isNumber_214 (Or.inr rfl) ?_
  try simp (disch := omega) only [hv_in, lift_set, sset_e, sset_1, sset_2, workS_o, stagesS_o, beginsS_o, scpy_o, lift_cpy, sset_ss, bt_18, bt_315]
  unfold putN at hQ
  simp (disch := omega) only [hv_in, lift_set, sset_e, sset_1, sset_2, workS_o, stagesS_o, beginsS_o, scpy_o, lift_cpy, sset_ss, bt_18, bt_315] at hQ
  exact hQ

set_option maxRecDepth 20000 in
theorem l_numD {d : Nat} {A : AHp} {s : Sg} {st : Int} {n : Nat} {Q : Option AV → AHp → Prop} (hM : MLAY A) (h17 : 0 ≤ s 307 17 ∧ s 307 17 ≤ 100) (h18 : 0 ≤ s 307 18 ∧ s 307 18 ≤ 100) (hst : 0 ≤ st ∧ st < 480) (hm : 0 ≤ s 316 st ∧ s 316 st ≤ 3) (hdn : digN s (s 307 18 + 1) = n) (hd : 1 ≤ d) (h0 : digN s (s 307 18 + 1) = 0 → Q (some (vi 0)) (lift A (sset (sset s 307 18 (s 307 18 + 1)) 307 19 (s 307 18 + 1)))) (h1 : ¬ digN s (s 307 18 + 1) = 0 → Q (some (vi 1)) (lift A (putN (sset s 307 18 (s 307 18 + 1 + digN s (s 307 18 + 1))) st (digV s (s 307 18 + 1) (digN s (s 307 18 + 1)).toNat)))) : AW d mX13_isNumber 170 [some (vr 307), some (vi st), some (vi (digV s (s 307 18 + 1) n)), some (vi (s 307 18 + 1))] [] (lift A (sset s 307 18 (s 307 18 + 1 + n))) Q := by
  refine aw_aload_n (pc' := 171) rfl dX13_isNumber_170 rfl ?_
  refine aw_geti (pc' := 174) (k9 := 18) dX13_isNumber_171 rfl fX13_206 rfl (by decide) rfl (MO (A := (lift A (sset s 307 18 (s 307 18 + 1 + n)))) hM) ?_
  try simp (disch := omega) only [hv_in, lift_set, sset_e, sset_1, sset_2, workS_o, stagesS_o, beginsS_o, scpy_o, lift_cpy, sset_ss, bt_18, bt_315]
  refine aw_iload_n (pc' := 175) rfl dX13_isNumber_174 rfl ?_
  refine aw_icmp_ne (pt := 187) (pf := 178) dX13_isNumber_175 (by decide) rfl (fun c_175 => ?_) (fun c_175 => ?_)
  · try simp (disch := omega) only [hv_in, lift_set, sset_e, sset_1, sset_2, workS_o, stagesS_o, beginsS_o, scpy_o, lift_cpy, sset_ss, bt_18, bt_315]
    rw [hdn, show ((n : Int)).toNat = n by omega] at h1
    exact l_numE hM hst hm (h1 (by omega))
  · replace c_175 := Classical.not_not.mp c_175
    refine aw_aload_n (pc' := 179) rfl dX13_isNumber_178 rfl ?_
    refine aw_aload_n (pc' := 180) rfl dX13_isNumber_179 rfl ?_
    refine aw_geti (pc' := 183) (k9 := 18) dX13_isNumber_180 rfl fX13_206 rfl (by decide) rfl (MO (A := (lift A (sset s 307 18 (s 307 18 + 1 + n)))) hM) ?_
    try simp (disch := omega) only [hv_in, lift_set, sset_e, sset_1, sset_2, workS_o, stagesS_o, beginsS_o, scpy_o, lift_cpy, sset_ss, bt_18, bt_315]
    refine aw_callV (ci := 11) (d' := d - 1) (as := [_]) (pc' := 186) (by decide) rfl kX13_stops iX13_stops sX13_stops lX13_216 (MO (A := (lift A (sset s 307 18 (s 307 18 + 1 + n)))) hM) dX13_isNumber_183 rfl rfl (Nat.le_of_ble_eq_true rfl) (by omega) ?_
    try simp (disch := omega) only [hv_in, lift_set, sset_e, sset_1, sset_2, workS_o, stagesS_o, beginsS_o, scpy_o, lift_cpy, sset_ss, bt_18, bt_315]
    refine c_stops (by omega) hM ?_
    unfold stopS
    refine AW.ret (some (vi _)) dX13_isNumber_186 (Or.inl rfl) ?_
    have e9 : (s 307 18 + 1 + (n : Int)) = s 307 18 + 1 := by omega
    rw [e9]
    exact h0 (by omega)

set_option maxRecDepth 20000 in
theorem c_isNumber {d : Nat} {st : Int} {A : AHp} {s : Sg} {Q : Option AV → AHp → Prop} (hd : 1 ≤ d) (hM : MLAY A) (h17 : 0 ≤ s 307 17 ∧ s 307 17 ≤ 100) (h18 : 0 ≤ s 307 18 ∧ s 307 18 ≤ 100) (h322 : ∀ k, 0 ≤ k → k < s 307 17 → 0 ≤ s 322 k ∧ s 322 k ≤ 127) (hst : 0 ≤ st ∧ st < 480) (hm : 0 ≤ s 316 st ∧ s 316 st ≤ 3) (h1 : (numR s (s 307 18 + 1)).1 = true → Q (some (vi 1)) (lift A (numS s st))) (h0 : (numR s (s 307 18 + 1)).1 = false → Q (some (vi 0)) (lift A (numS s st))) : CALL d mX13_isNumber [vr 307, vi st] (lift A s) Q := by
  refine CALL.of (by decide) (Nat.le_of_ble_eq_true rfl) ?_
  change AW d mX13_isNumber 0 [some (vr 307), some (vi st), none, none] [] (lift A s) Q
  have hb1 := bt_r h322 (k := s 307 18 + 1) (by omega)
  have hb2 := bt_r h322 (k := s 307 18 + 1 + 1) (by omega)
  unfold numS numR at h1 h0
  refine aw_aload_n (pc' := 1) rfl dX13_isNumber_0 rfl ?_
  refine aw_dup (pc' := 2) rfl dX13_isNumber_1 rfl ?_
  refine aw_geti (pc' := 5) (k9 := 18) dX13_isNumber_2 rfl fX13_206 rfl (by decide) rfl (MO (A := (lift A s)) hM) ?_
  try simp (disch := omega) only [hv_in, lift_set, sset_e, sset_1, sset_2, workS_o, stagesS_o, beginsS_o, scpy_o, lift_cpy, sset_ss, bt_18, bt_315]
  refine aw_iconst (pc' := 6) (by decide) dX13_isNumber_5 rfl ?_
  refine aw_iadd (pc' := 7) (by first | exact w32_id (by omega) (by omega) | rfl) dX13_isNumber_6 rfl ?_
  refine aw_puti (pc' := 10) (k9 := 18) dX13_isNumber_7 rfl fX13_206 rfl rfl rfl (MO (A := (lift A s)) hM) ?_
  refine aw_iconst (pc' := 11) (by decide) dX13_isNumber_10 rfl ?_
  refine aw_istore_n (pc' := 12) (lv' := [_, _, _, _]) dX13_isNumber_11 rfl (by decide) rfl ?_
  refine aw_aload_n (pc' := 13) rfl dX13_isNumber_12 rfl ?_
  refine aw_aload_n (pc' := 14) rfl dX13_isNumber_13 rfl ?_
  refine aw_geti (pc' := 17) (k9 := 18) dX13_isNumber_14 rfl fX13_206 rfl (by decide) rfl (MO (A := (lift A s)) hM) ?_
  try simp (disch := omega) only [hv_in, lift_set, sset_e, sset_1, sset_2, workS_o, stagesS_o, beginsS_o, scpy_o, lift_cpy, sset_ss, bt_18, bt_315]
  refine aw_callV (ci := 11) (d' := d - 1) (as := [_]) (pc' := 20) (by decide) rfl kX13_byteAt iX13_byteAt sX13_byteAt lX13_209 (MO (A := (lift A s)) hM) dX13_isNumber_17 rfl rfl (Nat.le_of_ble_eq_true rfl) (by omega) ?_
  try simp (disch := omega) only [hv_in, lift_set, sset_e, sset_1, sset_2, workS_o, stagesS_o, beginsS_o, scpy_o, lift_cpy, sset_ss, bt_18, bt_315]
  refine c_byteAt (by omega) hM (by first | exact h17 | (simp (disch := omega) only [sset_1, sset_2]; exact h17)) (by omega) ?_
  try simp only [bt_18, bt_315]
  refine aw_bipush (pc' := 22) (by decide +kernel) dX13_isNumber_20 rfl ?_
  refine aw_icmp_ne (pt := 104) (pf := 25) dX13_isNumber_22 (by decide) rfl (fun c_22 => ?_) (fun c_22 => ?_)
  · refine aw_aload_n (pc' := 105) rfl dX13_isNumber_104 rfl ?_
    refine aw_geti (pc' := 108) (k9 := 18) dX13_isNumber_105 rfl fX13_206 rfl (by decide) rfl (MO (A := (lift A s)) hM) ?_
    try simp (disch := omega) only [hv_in, lift_set, sset_e, sset_1, sset_2, workS_o, stagesS_o, beginsS_o, scpy_o, lift_cpy, sset_ss, bt_18, bt_315]
    refine aw_istore_n (pc' := 109) (lv' := [_, _, _, _]) dX13_isNumber_108 rfl (by decide) rfl ?_
    try simp (disch := omega) only [hv_in, lift_set, sset_e, sset_1, sset_2, workS_o, stagesS_o, beginsS_o, scpy_o, lift_cpy, sset_ss, bt_18, bt_315]
    have e0 : sset s 307 18 (s 307 18 + 1) = sset s 307 18 (s 307 18 + 1 + ((0 : Nat) : Int)) := by rw [show (s 307 18 + 1 + ((0 : Nat) : Int)) = s 307 18 + 1 by omega]
    rw [e0]
    refine l_dig 3 0 0 rfl hd hM h17 h322 (by omega) (by omega) (fun j hj => by omega) rfl (fun n hn hds hnd => ?_)
    have hdn : digN s (s 307 18 + 1) = n := by
      unfold digN
      have d0 := hds 0
      have d1 := hds 1
      have d2 := hds 2
      have e0 : s 307 18 + 1 + ((0 : Nat) : Int) = s 307 18 + 1 := by omega
      have e1 : s 307 18 + 1 + ((1 : Nat) : Int) = s 307 18 + 1 + 1 := by omega
      have e2 : s 307 18 + 1 + ((2 : Nat) : Int) = s 307 18 + 1 + 2 := by omega
      rw [e0] at d0
      rw [e1] at d1
      rw [e2] at d2
      rcases (show n = 0 ∨ n = 1 ∨ n = 2 ∨ n = 3 by omega) with q | q | q | q
      · subst q
        rw [if_pos (by have := hnd (by omega); rw [e0] at this; exact this)]
        rfl
      · subst q
        rw [if_neg (Classical.not_not.mpr (d0 (by omega))), if_pos (by have := hnd (by omega); rw [e1] at this; exact this)]
        rfl
      · subst q
        rw [if_neg (Classical.not_not.mpr (d0 (by omega))), if_neg (Classical.not_not.mpr (d1 (by omega))), if_pos (by have := hnd (by omega); rw [e2] at this; exact this)]
        rfl
      · subst q
        rw [if_neg (Classical.not_not.mpr (d0 (by omega))), if_neg (Classical.not_not.mpr (d1 (by omega))), if_neg (Classical.not_not.mpr (d2 (by omega)))]
        rfl
    exact l_numD hM h17 h18 hst hm hdn (by omega) (fun q => by simp (disch := omega) only [if_pos, if_neg] at h0; first | exact h0 rfl | exact h0 trivial) (fun q => by simp (disch := omega) only [if_pos, if_neg] at h1; first | exact h1 rfl | exact h1 trivial)
  · replace c_22 := Classical.not_not.mp c_22
    refine aw_aload_n (pc' := 26) rfl dX13_isNumber_25 rfl ?_
    refine aw_dup (pc' := 27) rfl dX13_isNumber_26 rfl ?_
    refine aw_geti (pc' := 30) (k9 := 18) dX13_isNumber_27 rfl fX13_206 rfl (by decide) rfl (MO (A := (lift A s)) hM) ?_
    try simp (disch := omega) only [hv_in, lift_set, sset_e, sset_1, sset_2, workS_o, stagesS_o, beginsS_o, scpy_o, lift_cpy, sset_ss, bt_18, bt_315]
    refine aw_iconst (pc' := 31) (by decide) dX13_isNumber_30 rfl ?_
    refine aw_iadd (pc' := 32) (by first | exact w32_id (by omega) (by omega) | rfl) dX13_isNumber_31 rfl ?_
    refine aw_puti (pc' := 35) (k9 := 18) dX13_isNumber_32 rfl fX13_206 rfl rfl rfl (MO (A := (lift A s)) hM) ?_
    refine aw_aload_n (pc' := 36) rfl dX13_isNumber_35 rfl ?_
    refine aw_aload_n (pc' := 37) rfl dX13_isNumber_36 rfl ?_
    refine aw_geti (pc' := 40) (k9 := 18) dX13_isNumber_37 rfl fX13_206 rfl (by decide) rfl (MO (A := (lift A s)) hM) ?_
    try simp (disch := omega) only [hv_in, lift_set, sset_e, sset_1, sset_2, workS_o, stagesS_o, beginsS_o, scpy_o, lift_cpy, sset_ss, bt_18, bt_315]
    refine aw_callV (ci := 11) (d' := d - 1) (as := [_]) (pc' := 43) (by decide) rfl kX13_byteAt iX13_byteAt sX13_byteAt lX13_209 (MO (A := (lift A s)) hM) dX13_isNumber_40 rfl rfl (Nat.le_of_ble_eq_true rfl) (by omega) ?_
    try simp (disch := omega) only [hv_in, lift_set, sset_e, sset_1, sset_2, workS_o, stagesS_o, beginsS_o, scpy_o, lift_cpy, sset_ss, bt_18, bt_315]
    refine c_byteAt (by omega) hM (by first | exact h17 | (simp (disch := omega) only [sset_1, sset_2]; exact h17)) (by omega) ?_
    try simp only [bt_18, bt_315]
    refine aw_istore_n (pc' := 44) (lv' := [_, _, _, _]) dX13_isNumber_43 rfl (by decide) rfl ?_
    refine aw_iload_n (pc' := 45) rfl dX13_isNumber_44 rfl ?_
    refine aw_i2l (pc' := 46) dX13_isNumber_45 rfl ?_
    refine aw_ldc2 (x := (97)) (pc' := 49) qX13_229 (by decide) dX13_isNumber_46 rfl ?_
    refine aw_ldc2 (x := (101)) (pc' := 52) qX13_251 (by decide) dX13_isNumber_49 rfl ?_
    refine aw_callS (d' := d - 1) (as := [_, _, _]) (pc' := 55) kX13_in tX13_in lX13_177 dX13_isNumber_52 rfl rfl (Nat.le_of_ble_eq_true rfl) (by omega) ?_
    refine c_in (by omega) (fun g1_52 g2_52 => ?_) (fun g0_52 => ?_)
    · refine aw_if_ne (pt := 73) (pf := 58) dX13_isNumber_55 (by decide) rfl (fun _ => ?_) (fun c_55 => absurd (by decide) c_55)
      refine aw_iload_n (pc' := 74) rfl dX13_isNumber_73 rfl ?_
      refine aw_bipush (pc' := 76) (by decide +kernel) dX13_isNumber_74 rfl ?_
      refine aw_icmp_ne (pt := 84) (pf := 79) dX13_isNumber_76 (by decide) rfl (fun c_76 => ?_) (fun c_76 => ?_)
      · refine aw_iconst (pc' := 85) (by decide) dX13_isNumber_84 rfl ?_
        refine aw_iload_n (pc' := 86) rfl dX13_isNumber_85 rfl ?_
        refine aw_bipush (pc' := 88) (by decide +kernel) dX13_isNumber_86 rfl ?_
        refine aw_isub (pc' := 89) (by first | exact w32_id (by omega) (by omega) | rfl) dX13_isNumber_88 rfl ?_
        refine aw_isub (pc' := 90) (by first | exact w32_id (by omega) (by omega) | rfl) dX13_isNumber_89 rfl ?_
        refine aw_istore_n (pc' := 91) (lv' := [_, _, _, _]) dX13_isNumber_90 rfl (by decide) rfl ?_
        refine aw_aload_n (pc' := 92) rfl dX13_isNumber_91 rfl ?_
        refine aw_dup (pc' := 93) rfl dX13_isNumber_92 rfl ?_
        refine aw_geti (pc' := 96) (k9 := 18) dX13_isNumber_93 rfl fX13_206 rfl (by decide) rfl (MO (A := (lift A s)) hM) ?_
        try simp (disch := omega) only [hv_in, lift_set, sset_e, sset_1, sset_2, workS_o, stagesS_o, beginsS_o, scpy_o, lift_cpy, sset_ss, bt_18, bt_315]
        refine aw_iconst (pc' := 97) (by decide) dX13_isNumber_96 rfl ?_
        refine aw_iadd (pc' := 98) (by first | exact w32_id (by omega) (by omega) | rfl) dX13_isNumber_97 rfl ?_
        refine aw_puti (pc' := 101) (k9 := 18) dX13_isNumber_98 rfl fX13_206 rfl rfl rfl (MO (A := (lift A s)) hM) ?_
        refine aw_goto (pc' := 187) dX13_isNumber_101 (by decide) ?_
        try simp (disch := omega) only [hv_in, lift_set, sset_e, sset_1, sset_2, workS_o, stagesS_o, beginsS_o, scpy_o, lift_cpy, sset_ss, bt_18, bt_315]
        first
        | (exfalso; omega)
        | (simp (disch := omega) only [if_pos, if_neg, if_true, true_imp_iff] at h1; first | exact l_numE hM hst hm (h1 rfl) | exact l_numE hM hst hm h1)
      · replace c_76 := Classical.not_not.mp c_76
        refine aw_bipush (pc' := 81) (by decide +kernel) dX13_isNumber_79 rfl ?_
        refine aw_goto (pc' := 90) dX13_isNumber_81 (by decide) ?_
        refine aw_istore_n (pc' := 91) (lv' := [_, _, _, _]) dX13_isNumber_90 rfl (by decide) rfl ?_
        refine aw_aload_n (pc' := 92) rfl dX13_isNumber_91 rfl ?_
        refine aw_dup (pc' := 93) rfl dX13_isNumber_92 rfl ?_
        refine aw_geti (pc' := 96) (k9 := 18) dX13_isNumber_93 rfl fX13_206 rfl (by decide) rfl (MO (A := (lift A s)) hM) ?_
        try simp (disch := omega) only [hv_in, lift_set, sset_e, sset_1, sset_2, workS_o, stagesS_o, beginsS_o, scpy_o, lift_cpy, sset_ss, bt_18, bt_315]
        refine aw_iconst (pc' := 97) (by decide) dX13_isNumber_96 rfl ?_
        refine aw_iadd (pc' := 98) (by first | exact w32_id (by omega) (by omega) | rfl) dX13_isNumber_97 rfl ?_
        refine aw_puti (pc' := 101) (k9 := 18) dX13_isNumber_98 rfl fX13_206 rfl rfl rfl (MO (A := (lift A s)) hM) ?_
        refine aw_goto (pc' := 187) dX13_isNumber_101 (by decide) ?_
        try simp (disch := omega) only [hv_in, lift_set, sset_e, sset_1, sset_2, workS_o, stagesS_o, beginsS_o, scpy_o, lift_cpy, sset_ss, bt_18, bt_315]
        first
        | (exfalso; omega)
        | (simp (disch := omega) only [if_pos, if_neg, if_true, true_imp_iff] at h1; first | exact l_numE hM hst hm (h1 rfl) | exact l_numE hM hst hm h1)
    · refine aw_if_ne (pt := 73) (pf := 58) dX13_isNumber_55 (by decide) rfl (fun c_55 => absurd c_55 (by decide)) (fun _ => ?_)
      refine aw_iload_n (pc' := 59) rfl dX13_isNumber_58 rfl ?_
      refine aw_bipush (pc' := 61) (by decide +kernel) dX13_isNumber_59 rfl ?_
      refine aw_icmp_eq (pt := 73) (pf := 64) dX13_isNumber_61 (by decide) rfl (fun c_61 => ?_) (fun c_61 => ?_)
      · refine aw_iload_n (pc' := 74) rfl dX13_isNumber_73 rfl ?_
        refine aw_bipush (pc' := 76) (by decide +kernel) dX13_isNumber_74 rfl ?_
        refine aw_icmp_ne (pt := 84) (pf := 79) dX13_isNumber_76 (by decide) rfl (fun c_76 => ?_) (fun c_76 => ?_)
        · refine aw_iconst (pc' := 85) (by decide) dX13_isNumber_84 rfl ?_
          refine aw_iload_n (pc' := 86) rfl dX13_isNumber_85 rfl ?_
          refine aw_bipush (pc' := 88) (by decide +kernel) dX13_isNumber_86 rfl ?_
          refine aw_isub (pc' := 89) (by first | exact w32_id (by omega) (by omega) | rfl) dX13_isNumber_88 rfl ?_
          refine aw_isub (pc' := 90) (by first | exact w32_id (by omega) (by omega) | rfl) dX13_isNumber_89 rfl ?_
          refine aw_istore_n (pc' := 91) (lv' := [_, _, _, _]) dX13_isNumber_90 rfl (by decide) rfl ?_
          refine aw_aload_n (pc' := 92) rfl dX13_isNumber_91 rfl ?_
          refine aw_dup (pc' := 93) rfl dX13_isNumber_92 rfl ?_
          refine aw_geti (pc' := 96) (k9 := 18) dX13_isNumber_93 rfl fX13_206 rfl (by decide) rfl (MO (A := (lift A s)) hM) ?_
          try simp (disch := omega) only [hv_in, lift_set, sset_e, sset_1, sset_2, workS_o, stagesS_o, beginsS_o, scpy_o, lift_cpy, sset_ss, bt_18, bt_315]
          refine aw_iconst (pc' := 97) (by decide) dX13_isNumber_96 rfl ?_
          refine aw_iadd (pc' := 98) (by first | exact w32_id (by omega) (by omega) | rfl) dX13_isNumber_97 rfl ?_
          refine aw_puti (pc' := 101) (k9 := 18) dX13_isNumber_98 rfl fX13_206 rfl rfl rfl (MO (A := (lift A s)) hM) ?_
          refine aw_goto (pc' := 187) dX13_isNumber_101 (by decide) ?_
          try simp (disch := omega) only [hv_in, lift_set, sset_e, sset_1, sset_2, workS_o, stagesS_o, beginsS_o, scpy_o, lift_cpy, sset_ss, bt_18, bt_315]
          first
          | (exfalso; omega)
          | (simp (disch := omega) only [if_pos, if_neg, if_true, true_imp_iff] at h1; first | exact l_numE hM hst hm (h1 rfl) | exact l_numE hM hst hm h1)
        · replace c_76 := Classical.not_not.mp c_76
          refine aw_bipush (pc' := 81) (by decide +kernel) dX13_isNumber_79 rfl ?_
          refine aw_goto (pc' := 90) dX13_isNumber_81 (by decide) ?_
          refine aw_istore_n (pc' := 91) (lv' := [_, _, _, _]) dX13_isNumber_90 rfl (by decide) rfl ?_
          refine aw_aload_n (pc' := 92) rfl dX13_isNumber_91 rfl ?_
          refine aw_dup (pc' := 93) rfl dX13_isNumber_92 rfl ?_
          refine aw_geti (pc' := 96) (k9 := 18) dX13_isNumber_93 rfl fX13_206 rfl (by decide) rfl (MO (A := (lift A s)) hM) ?_
          try simp (disch := omega) only [hv_in, lift_set, sset_e, sset_1, sset_2, workS_o, stagesS_o, beginsS_o, scpy_o, lift_cpy, sset_ss, bt_18, bt_315]
          refine aw_iconst (pc' := 97) (by decide) dX13_isNumber_96 rfl ?_
          refine aw_iadd (pc' := 98) (by first | exact w32_id (by omega) (by omega) | rfl) dX13_isNumber_97 rfl ?_
          refine aw_puti (pc' := 101) (k9 := 18) dX13_isNumber_98 rfl fX13_206 rfl rfl rfl (MO (A := (lift A s)) hM) ?_
          refine aw_goto (pc' := 187) dX13_isNumber_101 (by decide) ?_
          try simp (disch := omega) only [hv_in, lift_set, sset_e, sset_1, sset_2, workS_o, stagesS_o, beginsS_o, scpy_o, lift_cpy, sset_ss, bt_18, bt_315]
          first
          | (exfalso; omega)
          | (simp (disch := omega) only [if_pos, if_neg, if_true, true_imp_iff] at h1; first | exact l_numE hM hst hm (h1 rfl) | exact l_numE hM hst hm h1)
      · refine aw_aload_n (pc' := 65) rfl dX13_isNumber_64 rfl ?_
        refine aw_aload_n (pc' := 66) rfl dX13_isNumber_65 rfl ?_
        refine aw_geti (pc' := 69) (k9 := 18) dX13_isNumber_66 rfl fX13_206 rfl (by decide) rfl (MO (A := (lift A s)) hM) ?_
        try simp (disch := omega) only [hv_in, lift_set, sset_e, sset_1, sset_2, workS_o, stagesS_o, beginsS_o, scpy_o, lift_cpy, sset_ss, bt_18, bt_315]
        refine aw_callV (ci := 11) (d' := d - 1) (as := [_]) (pc' := 72) (by decide) rfl kX13_stops iX13_stops sX13_stops lX13_216 (MO (A := (lift A s)) hM) dX13_isNumber_69 rfl rfl (Nat.le_of_ble_eq_true rfl) (by omega) ?_
        try simp (disch := omega) only [hv_in, lift_set, sset_e, sset_1, sset_2, workS_o, stagesS_o, beginsS_o, scpy_o, lift_cpy, sset_ss, bt_18, bt_315]
        refine c_stops (by omega) hM ?_
        unfold stopS
        refine AW.ret (some (vi _)) dX13_isNumber_72 (Or.inl rfl) ?_
        first
        | (exfalso; omega)
        | (simp (disch := omega) only [if_pos, if_neg] at h0; first | exact h0 rfl | exact h0 trivial)
