/-! ===== the reference: methods with loops ===== -/
theorem hx_eq {A B : AHp} (h2 : A.2 = B.2) (h : ∀ o k, hv A o k = hv B o k) : A = B := by
  have h1 : A.1 = B.1 := by funext o k; exact h o k
  exact Prod.ext h1 h2
theorem hcpy_0 (A : AHp) (f a t b : Int) : hcpy A f a t b 0 = A := by
  refine hx_eq rfl (fun o k => ?_)
  rw [hv_cpy, if_neg (by omega)]
theorem hcpy_s (A : AHp) {f t n : Int} (h0 : 0 ≤ n) : hset (hcpy A f 0 t 0 n) t n (hv A f n) = hcpy A f 0 t 0 (n + 1) := by
  refine hx_eq rfl (fun o k => ?_)
  rw [hv_set, hv_cpy, hv_cpy]
  by_cases e : o = t ∧ k = n
  · rw [if_pos e, if_pos (by omega)]
    congr 1
    omega
  · rw [if_neg e]
    by_cases e2 : o = t ∧ 0 ≤ k ∧ k < 0 + n
    · rw [if_pos e2, if_pos (by omega)]
    · rw [if_neg e2, if_neg (by omega)]
/-- forward: one more place at the end -/
theorem hcpy_f (A : AHp) {f a t b n : Int} (h0 : 0 ≤ n) : hset (hcpy A f a t b n) t (b + n) (hv A f (a + n)) = hcpy A f a t b (n + 1) := by
  refine hx_eq rfl (fun o k => ?_)
  rw [hv_set, hv_cpy, hv_cpy]
  by_cases e : o = t ∧ k = b + n
  · rw [if_pos e, if_pos (by omega)]
    congr 1
    omega
  · rw [if_neg e]
    by_cases e2 : o = t ∧ b ≤ k ∧ k < b + n
    · rw [if_pos e2, if_pos (by omega)]
    · rw [if_neg e2, if_neg (by omega)]
/-- backward: one more place ahead -/
theorem hcpy_b (A : AHp) {f a t b n : Int} (h0 : 0 ≤ n) : hset (hcpy A f a t b n) t (b - 1) (hv A f (a - 1)) = hcpy A f (a - 1) t (b - 1) (n + 1) := by
  refine hx_eq rfl (fun o k => ?_)
  rw [hv_set, hv_cpy, hv_cpy]
  by_cases e : o = t ∧ k = b - 1
  · rw [if_pos e, if_pos (by omega)]
    congr 1
    omega
  · rw [if_neg e]
    by_cases e2 : o = t ∧ b ≤ k ∧ k < b + n
    · rw [if_pos e2, if_pos (by omega)]
      congr 1
      omega
    · rw [if_neg e2, if_neg (by omega)]
/-- places lo .. lo + n - 1 of o become x -/
def hfill (A : AHp) (o lo n x : Int) : AHp := (fun o' k' => if o' = o ∧ lo ≤ k' ∧ k' < lo + n then x else hv A o' k', A.2)
theorem hv_fill (A : AHp) (o lo n x o' k' : Int) : hv (hfill A o lo n x) o' k' = if o' = o ∧ lo ≤ k' ∧ k' < lo + n then x else hv A o' k' := rfl
theorem hfill_0 (A : AHp) (o lo x : Int) : hfill A o lo 0 x = A := by
  refine hx_eq rfl (fun o k => ?_)
  rw [hv_fill, if_neg (by omega)]
theorem hfill_s (A : AHp) {o lo n x : Int} (h0 : 0 ≤ n) : hset (hfill A o lo n x) o (lo + n) x = hfill A o lo (n + 1) x := by
  refine hx_eq rfl (fun o' k => ?_)
  rw [hv_set, hv_fill, hv_fill]
  by_cases e : o' = o ∧ k = lo + n
  · rw [if_pos e, if_pos (by omega)]
  · rw [if_neg e]
    by_cases e2 : o' = o ∧ lo ≤ k ∧ k < lo + n
    · rw [if_pos e2, if_pos (by omega)]
    · rw [if_neg e2, if_neg (by omega)]

set_option maxRecDepth 20000 in
theorem l_copies {d : Nat} {A : AHp} {f t n : Int} {Q : Option AV → AHp → Prop} : ∀ (m : Nat) (k : Int), (n - k).toNat = m → 0 ≤ k → k ≤ n → isA A f 20 n → isA A t 20 n → f ≠ t → n ≤ 100000 → Q none (hcpy A f 0 t 0 n) → AW d mX13_copies 2 [some (vr f), some (vr t), some (vi k)] [] (hcpy A f 0 t 0 k) Q := by
  intro m
  induction m using Nat.strongRecOn with
  | _ m ih =>
    intro k hm hk0 hkn hf ht hne hn9 hQ
    refine aw_iload_n (pc' := 3) rfl dX13_copies_2 rfl ?_
    refine aw_aload_n (pc' := 4) rfl dX13_copies_3 rfl ?_
    refine aw_alen (pc' := 5) dX13_copies_4 rfl hf ?_
    refine aw_icmp_ge (pt := 20) (pf := 8) dX13_copies_5 (by decide) rfl (fun c_5 => ?_) (fun c_5 => ?_)
    · refine AW.ret none dX13_copies_20 trivial ?_
      rw [show k = n by omega]
      exact hQ
    · refine aw_aload_n (pc' := 9) rfl dX13_copies_8 rfl ?_
      refine aw_iload_n (pc' := 10) rfl dX13_copies_9 rfl ?_
      refine aw_aload_n (pc' := 11) rfl dX13_copies_10 rfl ?_
      refine aw_iload_n (pc' := 12) rfl dX13_copies_11 rfl ?_
      refine aw_iald (pc' := 13) dX13_copies_12 rfl hf (by omega) (by omega) ?_
      rw [hv_cpy, if_neg (fun q => hne q.1)]
      refine aw_iast (pc' := 14) dX13_copies_13 rfl ht (by omega) (by omega) ?_
      refine aw_iinc (pc' := 17) (lv' := [_, _, _]) dX13_copies_14 rfl rfl (by decide) (by first | exact w32_id (by omega) (by omega) | rfl) rfl ?_
      refine aw_goto (pc' := 2) dX13_copies_17 (by decide) ?_
      rw [hcpy_s A hk0]
      exact ih _ (by omega) (k + 1) rfl (by omega) (by omega) hf ht hne hn9 hQ

set_option maxRecDepth 20000 in
theorem c_copies {d : Nat} {f t n : Int} {A : AHp} {Q : Option AV → AHp → Prop} (hd : 0 ≤ d) (hf : isA A f 20 n) (ht : isA A t 20 n) (hne : f ≠ t) (hn0 : 0 ≤ n) (hn9 : n ≤ 100000) (hQ : Q none (hcpy A f 0 t 0 n)) : CALL d mX13_copies [vr f, vr t] A Q := by
  refine CALL.of (by decide) (Nat.le_of_ble_eq_true rfl) ?_
  change AW d mX13_copies 0 [some (vr f), some (vr t), none] [] A Q
  refine aw_iconst (pc' := 1) (by decide) dX13_copies_0 rfl ?_
  refine aw_istore_n (pc' := 2) (lv' := [_, _, _]) dX13_copies_1 rfl (by decide) rfl ?_
  rw [← hcpy_0 A f 0 t 0]
  exact l_copies _ 0 rfl (by omega) hn0 hf ht hne hn9 hQ

set_option maxRecDepth 20000 in
theorem l_looked {d : Nat} {A : AHp} {Q : Option AV → AHp → Prop} : ∀ (m : Nat) (k : Int), (hv A 307 54 - k).toNat = m → 0 ≤ k → k ≤ hv A 307 54 → MLAY A → hv A 307 54 ≤ 8 → (∀ j, 0 ≤ j → j < hv A 307 54 → 0 ≤ hv A 342 (2 * j) ∧ hv A 342 (2 * j) ≤ 4) → (∀ j, 0 ≤ j → j < k → hv A 320 (hv A 342 (2 * j)) = hv A 342 (2 * j + 1)) → (∀ k, 0 ≤ k → k < hv A 307 54 → (∀ j, 0 ≤ j → j < k → hv A 320 (hv A 342 (2 * j)) = hv A 342 (2 * j + 1)) → hv A 320 (hv A 342 (2 * k)) ≠ hv A 342 (2 * k + 1) → Q (some (vi k)) A) → ((∀ j, 0 ≤ j → j < hv A 307 54 → hv A 320 (hv A 342 (2 * j)) = hv A 342 (2 * j + 1)) → Q (some (vi (-5))) A) → AW d mX13_looked 2 [some (vr 307), some (vi k)] [] A Q := by
  intro m
  induction m using Nat.strongRecOn with
  | _ m ih =>
    intro k hm hk0 hkn hM h8 hb hall hK hE
    refine aw_iload_n (pc' := 3) rfl dX13_looked_2 rfl ?_
    refine aw_aload_n (pc' := 4) rfl dX13_looked_3 rfl ?_
    refine aw_geti (pc' := 7) (k9 := 54) dX13_looked_4 rfl fX13_386 rfl (by decide) rfl (MO (A := A) hM) ?_
    refine aw_icmp_ge (pt := 44) (pf := 10) dX13_looked_7 (by decide) rfl (fun c_7 => ?_) (fun c_7 => ?_)
    · refine aw_bipush (pc' := 46) (by decide +kernel) dX13_looked_44 rfl ?_
      refine AW.ret (some (vi _)) dX13_looked_46 trivial ?_
      exact hE (fun j g1 g2 => hall j g1 (by omega))
    · have hbk := hb k (by omega) (by omega)
      refine aw_aload_n (pc' := 11) rfl dX13_looked_10 rfl ?_
      refine aw_getp (pc' := 14) (k9 := 13) (p := 320) dX13_looked_11 rfl fX13_79 rfl rfl rfl (MO (A := A) hM) (M_values (A := A) hM) ?_
      refine aw_aload_n (pc' := 15) rfl dX13_looked_14 rfl ?_
      refine aw_getp (pc' := 18) (k9 := 53) (p := 342) dX13_looked_15 rfl fX13_150 rfl rfl rfl (MO (A := A) hM) (M_books (A := A) hM) ?_
      refine aw_iconst (pc' := 19) (by decide) dX13_looked_18 rfl ?_
      refine aw_iload_n (pc' := 20) rfl dX13_looked_19 rfl ?_
      refine aw_imul (pc' := 21) (by first | exact w32_id (by omega) (by omega) | rfl) dX13_looked_20 rfl ?_
      refine aw_iald (pc' := 22) dX13_looked_21 rfl (MA_books (A := A) hM) (by omega) (by omega) ?_
      refine aw_iald (pc' := 23) dX13_looked_22 rfl (MA_values (A := A) hM) (by omega) (by omega) ?_
      refine aw_aload_n (pc' := 24) rfl dX13_looked_23 rfl ?_
      refine aw_getp (pc' := 27) (k9 := 53) (p := 342) dX13_looked_24 rfl fX13_150 rfl rfl rfl (MO (A := A) hM) (M_books (A := A) hM) ?_
      refine aw_iconst (pc' := 28) (by decide) dX13_looked_27 rfl ?_
      refine aw_iload_n (pc' := 29) rfl dX13_looked_28 rfl ?_
      refine aw_imul (pc' := 30) (by first | exact w32_id (by omega) (by omega) | rfl) dX13_looked_29 rfl ?_
      refine aw_iconst (pc' := 31) (by decide) dX13_looked_30 rfl ?_
      refine aw_iadd (pc' := 32) (by first | exact w32_id (by omega) (by omega) | rfl) dX13_looked_31 rfl ?_
      refine aw_iald (pc' := 33) dX13_looked_32 rfl (MA_books (A := A) hM) (by omega) (by omega) ?_
      refine aw_icmp_eq (pt := 38) (pf := 36) dX13_looked_33 (by decide) rfl (fun c_33 => ?_) (fun c_33 => ?_)
      · refine aw_iinc (pc' := 41) (lv' := [_, _]) dX13_looked_38 rfl rfl (by decide) (by first | exact w32_id (by omega) (by omega) | rfl) rfl ?_
        refine aw_goto (pc' := 2) dX13_looked_41 (by decide) ?_
        exact ih _ (by omega) (k + 1) rfl (by omega) (by omega) hM h8 hb (fun j g1 g2 => by by_cases e : j = k; subst e; exact c_33; exact hall j g1 (by omega)) hK hE
      · refine aw_iload_n (pc' := 37) rfl dX13_looked_36 rfl ?_
        refine AW.ret (some (vi _)) dX13_looked_37 trivial ?_
        exact hK k (by omega) (by omega) hall c_33

set_option maxRecDepth 20000 in
theorem c_looked {d : Nat}  {A : AHp} {Q : Option AV → AHp → Prop} (hd : 0 ≤ d) (hM : MLAY A) (h8 : 0 ≤ hv A 307 54 ∧ hv A 307 54 ≤ 8) (hb : ∀ j, 0 ≤ j → j < hv A 307 54 → 0 ≤ hv A 342 (2 * j) ∧ hv A 342 (2 * j) ≤ 4)
  (hK : ∀ k, 0 ≤ k → k < hv A 307 54 → (∀ j, 0 ≤ j → j < k → hv A 320 (hv A 342 (2 * j)) = hv A 342 (2 * j + 1)) → hv A 320 (hv A 342 (2 * k)) ≠ hv A 342 (2 * k + 1) → Q (some (vi k)) A) (hE : (∀ j, 0 ≤ j → j < hv A 307 54 → hv A 320 (hv A 342 (2 * j)) = hv A 342 (2 * j + 1)) → Q (some (vi (-5))) A) : CALL d mX13_looked [vr 307] A Q := by
  refine CALL.of (by decide) (Nat.le_of_ble_eq_true rfl) ?_
  change AW d mX13_looked 0 [some (vr 307), none] [] A Q
  refine aw_iconst (pc' := 1) (by decide) dX13_looked_0 rfl ?_
  refine aw_istore_n (pc' := 2) (lv' := [_, _]) dX13_looked_1 rfl (by decide) rfl ?_
  exact l_looked _ 0 rfl (by omega) h8.1 hM h8.2 hb (fun j g1 g2 => by omega) hK hE

set_option maxRecDepth 20000 in
theorem l_isSeen {d : Nat} {A : AHp} {Q : Option AV → AHp → Prop} : ∀ (m : Nat) (k : Int), (hv A 307 49 - k).toNat = m → 0 ≤ k → k ≤ hv A 307 49 → MLAY A → hv A 307 49 ≤ 5 → hv A 307 36 ≤ 60 → (∀ j, 0 ≤ j → j < hv A 307 49 → 0 ≤ hv A 339 (2 * j) ∧ hv A 339 (2 * j) ≤ 59) → (∀ j, 0 ≤ j → j < k → hv A 339 (2 * j) < hv A 307 36 ∧ hv A 331 (hv A 339 (2 * j)) = hv A 339 (2 * j + 1)) → (∀ k, 0 ≤ k → k < hv A 307 49 → ¬ (hv A 339 (2 * k) < hv A 307 36 ∧ hv A 331 (hv A 339 (2 * k)) = hv A 339 (2 * k + 1)) → Q (some (vi 0)) A) → ((∀ j, 0 ≤ j → j < hv A 307 49 → hv A 339 (2 * j) < hv A 307 36 ∧ hv A 331 (hv A 339 (2 * j)) = hv A 339 (2 * j + 1)) → Q (some (vi 1)) A) → AW d mX13_isSeen 2 [some (vr 307), some (vi k)] [] A Q := by
  intro m
  induction m using Nat.strongRecOn with
  | _ m ih =>
    intro k hm hk0 hkn hM h8 ho60 hb hall hK hE
    refine aw_iload_n (pc' := 3) rfl dX13_isSeen_2 rfl ?_
    refine aw_aload_n (pc' := 4) rfl dX13_isSeen_3 rfl ?_
    refine aw_geti (pc' := 7) (k9 := 49) dX13_isSeen_4 rfl fX13_367 rfl (by decide) rfl (MO (A := A) hM) ?_
    refine aw_icmp_ge (pt := 59) (pf := 10) dX13_isSeen_7 (by decide) rfl (fun c_7 => ?_) (fun c_7 => ?_)
    · refine aw_iconst (pc' := 60) (by decide) dX13_isSeen_59 rfl ?_
      refine AW.ret (some (vi _)) dX13_isSeen_60 (Or.inr rfl) ?_
      exact hE (fun j g1 g2 => hall j g1 (by omega))
    · have hbk := hb k (by omega) (by omega)
      refine aw_aload_n (pc' := 11) rfl dX13_isSeen_10 rfl ?_
      refine aw_getp (pc' := 14) (k9 := 48) (p := 339) dX13_isSeen_11 rfl fX13_141 rfl rfl rfl (MO (A := A) hM) (M_seen (A := A) hM) ?_
      refine aw_iconst (pc' := 15) (by decide) dX13_isSeen_14 rfl ?_
      refine aw_iload_n (pc' := 16) rfl dX13_isSeen_15 rfl ?_
      refine aw_imul (pc' := 17) (by first | exact w32_id (by omega) (by omega) | rfl) dX13_isSeen_16 rfl ?_
      refine aw_iald (pc' := 18) dX13_isSeen_17 rfl (MA_seen (A := A) hM) (by omega) (by omega) ?_
      refine aw_aload_n (pc' := 19) rfl dX13_isSeen_18 rfl ?_
      refine aw_geti (pc' := 22) (k9 := 36) dX13_isSeen_19 rfl fX13_269 rfl (by decide) rfl (MO (A := A) hM) ?_
      refine aw_icmp_ge (pt := 51) (pf := 25) dX13_isSeen_22 (by decide) rfl (fun c_22 => ?_) (fun c_22 => ?_)
      · refine aw_iconst (pc' := 52) (by decide) dX13_isSeen_51 rfl ?_
        refine AW.ret (some (vi _)) dX13_isSeen_52 (Or.inl rfl) ?_
        exact hK k (by omega) (by omega) (fun q => by first | exact c_48 q.2 | exact absurd q.1 (by omega))
      · refine aw_aload_n (pc' := 26) rfl dX13_isSeen_25 rfl ?_
        refine aw_getp (pc' := 29) (k9 := 35) (p := 331) dX13_isSeen_26 rfl fX13_117 rfl rfl rfl (MO (A := A) hM) (M_out (A := A) hM) ?_
        refine aw_aload_n (pc' := 30) rfl dX13_isSeen_29 rfl ?_
        refine aw_getp (pc' := 33) (k9 := 48) (p := 339) dX13_isSeen_30 rfl fX13_141 rfl rfl rfl (MO (A := A) hM) (M_seen (A := A) hM) ?_
        refine aw_iconst (pc' := 34) (by decide) dX13_isSeen_33 rfl ?_
        refine aw_iload_n (pc' := 35) rfl dX13_isSeen_34 rfl ?_
        refine aw_imul (pc' := 36) (by first | exact w32_id (by omega) (by omega) | rfl) dX13_isSeen_35 rfl ?_
        refine aw_iald (pc' := 37) dX13_isSeen_36 rfl (MA_seen (A := A) hM) (by omega) (by omega) ?_
        refine aw_iald (pc' := 38) dX13_isSeen_37 rfl (MA_out (A := A) hM) (by omega) (by omega) ?_
        refine aw_aload_n (pc' := 39) rfl dX13_isSeen_38 rfl ?_
        refine aw_getp (pc' := 42) (k9 := 48) (p := 339) dX13_isSeen_39 rfl fX13_141 rfl rfl rfl (MO (A := A) hM) (M_seen (A := A) hM) ?_
        refine aw_iconst (pc' := 43) (by decide) dX13_isSeen_42 rfl ?_
        refine aw_iload_n (pc' := 44) rfl dX13_isSeen_43 rfl ?_
        refine aw_imul (pc' := 45) (by first | exact w32_id (by omega) (by omega) | rfl) dX13_isSeen_44 rfl ?_
        refine aw_iconst (pc' := 46) (by decide) dX13_isSeen_45 rfl ?_
        refine aw_iadd (pc' := 47) (by first | exact w32_id (by omega) (by omega) | rfl) dX13_isSeen_46 rfl ?_
        refine aw_iald (pc' := 48) dX13_isSeen_47 rfl (MA_seen (A := A) hM) (by omega) (by omega) ?_
        refine aw_icmp_eq (pt := 53) (pf := 51) dX13_isSeen_48 (by decide) rfl (fun c_48 => ?_) (fun c_48 => ?_)
        · refine aw_iinc (pc' := 56) (lv' := [_, _]) dX13_isSeen_53 rfl rfl (by decide) (by first | exact w32_id (by omega) (by omega) | rfl) rfl ?_
          refine aw_goto (pc' := 2) dX13_isSeen_56 (by decide) ?_
          exact ih _ (by omega) (k + 1) rfl (by omega) (by omega) hM h8 ho60 hb (fun j g1 g2 => by by_cases e : j = k; subst e; exact ⟨by omega, c_48⟩; exact hall j g1 (by omega)) hK hE
        · refine aw_iconst (pc' := 52) (by decide) dX13_isSeen_51 rfl ?_
          refine AW.ret (some (vi _)) dX13_isSeen_52 (Or.inl rfl) ?_
          exact hK k (by omega) (by omega) (fun q => by first | exact c_48 q.2 | exact absurd q.1 (by omega))

set_option maxRecDepth 20000 in
theorem c_isSeen {d : Nat}  {A : AHp} {Q : Option AV → AHp → Prop} (hd : 0 ≤ d) (hM : MLAY A) (h8 : 0 ≤ hv A 307 49 ∧ hv A 307 49 ≤ 5) (ho60 : hv A 307 36 ≤ 60) (hb : ∀ j, 0 ≤ j → j < hv A 307 49 → 0 ≤ hv A 339 (2 * j) ∧ hv A 339 (2 * j) ≤ 59)
  (hK : ∀ k, 0 ≤ k → k < hv A 307 49 → ¬ (hv A 339 (2 * k) < hv A 307 36 ∧ hv A 331 (hv A 339 (2 * k)) = hv A 339 (2 * k + 1)) → Q (some (vi 0)) A) (hE : (∀ j, 0 ≤ j → j < hv A 307 49 → hv A 339 (2 * j) < hv A 307 36 ∧ hv A 331 (hv A 339 (2 * j)) = hv A 339 (2 * j + 1)) → Q (some (vi 1)) A) : CALL d mX13_isSeen [vr 307] A Q := by
  refine CALL.of (by decide) (Nat.le_of_ble_eq_true rfl) ?_
  change AW d mX13_isSeen 0 [some (vr 307), none] [] A Q
  refine aw_iconst (pc' := 1) (by decide) dX13_isSeen_0 rfl ?_
  refine aw_istore_n (pc' := 2) (lv' := [_, _]) dX13_isSeen_1 rfl (by decide) rfl ?_
  exact l_isSeen _ 0 rfl (by omega) h8.1 hM h8.2 ho60 hb (fun j g1 g2 => by omega) hK hE

set_option maxRecDepth 20000 in
theorem l_judge {d : Nat} {A : AHp} {t i : Int} {Q : Option AV → AHp → Prop} : ∀ (m : Nat) (k : Int), (hv A 307 39 - k).toNat = m → 0 ≤ k → k ≤ hv A 307 39 → MLAY A → hv A 307 39 ≤ 60 → 0 ≤ t → t ≤ 5 → 0 ≤ hv A 348 t ∧ hv A 348 t ≤ 60 → in32 i → (∀ j, 0 ≤ j → j < k → hv A 347 t ≠ -1 ∧ 0 ≤ i ∧ j < hv A 348 t - i ∧ hv A 349 (60 * t + i + j) = hv A 332 j) → (∀ k, 0 ≤ k → k < hv A 307 39 → (∀ j, 0 ≤ j → j < k → hv A 347 t ≠ -1 ∧ 0 ≤ i ∧ j < hv A 348 t - i ∧ hv A 349 (60 * t + i + j) = hv A 332 j) → (hv A 347 t = -1 ∨ i < 0 ∨ hv A 348 t - i ≤ k) → Q (some (vi (100 + k))) A) → (∀ k, 0 ≤ k → k < hv A 307 39 → (∀ j, 0 ≤ j → j < k → hv A 347 t ≠ -1 ∧ 0 ≤ i ∧ j < hv A 348 t - i ∧ hv A 349 (60 * t + i + j) = hv A 332 j) → hv A 347 t ≠ -1 → 0 ≤ i → k < hv A 348 t - i → hv A 349 (60 * t + i + k) ≠ hv A 332 k → Q (some (vi k)) A) → ((∀ j, 0 ≤ j → j < hv A 307 39 → hv A 347 t ≠ -1 ∧ 0 ≤ i ∧ j < hv A 348 t - i ∧ hv A 349 (60 * t + i + j) = hv A 332 j) → Q (some (vi (-5))) A) → AW d mX13_judge 39 [some (vr 307), some (vi t), some (vi i), some (vi k)] [] A Q := by
  intro m
  induction m using Nat.strongRecOn with
  | _ m ih =>
    intro k hm hk0 hkn hM h8 ht0 ht5 hz hi hall hA hB hE
    refine aw_iload_n (pc' := 40) rfl dX13_judge_39 rfl ?_
    refine aw_aload_n (pc' := 41) rfl dX13_judge_40 rfl ?_
    refine aw_geti (pc' := 44) (k9 := 39) dX13_judge_41 rfl fX13_340 rfl (by decide) rfl (MO (A := A) hM) ?_
    refine aw_icmp_ge (pt := 110) (pf := 47) dX13_judge_44 (by decide) rfl (fun c_44 => ?_) (fun c_44 => ?_)
    · refine aw_bipush (pc' := 112) (by decide +kernel) dX13_judge_110 rfl ?_
      refine AW.ret (some (vi _)) dX13_judge_112 trivial ?_
      exact hE (fun j g1 g2 => hall j g1 (by omega))
    · refine aw_aload_n (pc' := 48) rfl dX13_judge_47 rfl ?_
      refine aw_getp (pc' := 51) (k9 := 60) (p := 347) dX13_judge_48 rfl fX13_165 rfl rfl rfl (MO (A := A) hM) (M_sorts (A := A) hM) ?_
      refine aw_iload_n (pc' := 52) rfl dX13_judge_51 rfl ?_
      refine aw_iald (pc' := 53) dX13_judge_52 rfl (MA_sorts (A := A) hM) (by omega) (by omega) ?_
      refine aw_iconst (pc' := 54) (by decide) dX13_judge_53 rfl ?_
      refine aw_icmp_eq (pt := 73) (pf := 57) dX13_judge_54 (by decide) rfl (fun c_54 => ?_) (fun c_54 => ?_)
      · refine aw_bipush (pc' := 75) (by decide +kernel) dX13_judge_73 rfl ?_
        refine aw_iload_n (pc' := 76) rfl dX13_judge_75 rfl ?_
        refine aw_iadd (pc' := 77) (by first | exact w32_id (by omega) (by omega) | rfl) dX13_judge_76 rfl ?_
        refine AW.ret (some (vi _)) dX13_judge_77 trivial ?_
        exact hA k (by omega) (by omega) hall (by omega)
      · refine aw_iload_n (pc' := 58) rfl dX13_judge_57 rfl ?_
        refine aw_if_lt (pt := 73) (pf := 61) dX13_judge_58 (by decide) rfl (fun c_58 => ?_) (fun c_58 => ?_)
        · refine aw_bipush (pc' := 75) (by decide +kernel) dX13_judge_73 rfl ?_
          refine aw_iload_n (pc' := 76) rfl dX13_judge_75 rfl ?_
          refine aw_iadd (pc' := 77) (by first | exact w32_id (by omega) (by omega) | rfl) dX13_judge_76 rfl ?_
          refine AW.ret (some (vi _)) dX13_judge_77 trivial ?_
          exact hA k (by omega) (by omega) hall (by omega)
        · refine aw_iload_n (pc' := 62) rfl dX13_judge_61 rfl ?_
          refine aw_aload_n (pc' := 63) rfl dX13_judge_62 rfl ?_
          refine aw_getp (pc' := 66) (k9 := 61) (p := 348) dX13_judge_63 rfl fX13_168 rfl rfl rfl (MO (A := A) hM) (M_sizes (A := A) hM) ?_
          refine aw_iload_n (pc' := 67) rfl dX13_judge_66 rfl ?_
          refine aw_iald (pc' := 68) dX13_judge_67 rfl (MA_sizes (A := A) hM) (by omega) (by omega) ?_
          refine aw_iload_n (pc' := 69) rfl dX13_judge_68 rfl ?_
          refine aw_isub (pc' := 70) (by first | exact w32_id (by omega) (by omega) | rfl) dX13_judge_69 rfl ?_
          refine aw_icmp_lt (pt := 78) (pf := 73) dX13_judge_70 (by decide) rfl (fun c_70 => ?_) (fun c_70 => ?_)
          · refine aw_aload_n (pc' := 79) rfl dX13_judge_78 rfl ?_
            refine aw_getp (pc' := 82) (k9 := 62) (p := 349) dX13_judge_79 rfl fX13_171 rfl rfl rfl (MO (A := A) hM) (M_items (A := A) hM) ?_
            refine aw_bipush (pc' := 84) (by decide +kernel) dX13_judge_82 rfl ?_
            refine aw_iload_n (pc' := 85) rfl dX13_judge_84 rfl ?_
            refine aw_imul (pc' := 86) (by first | exact w32_id (by omega) (by omega) | rfl) dX13_judge_85 rfl ?_
            refine aw_iload_n (pc' := 87) rfl dX13_judge_86 rfl ?_
            refine aw_iadd (pc' := 88) (by first | exact w32_id (by omega) (by omega) | rfl) dX13_judge_87 rfl ?_
            refine aw_iload_n (pc' := 89) rfl dX13_judge_88 rfl ?_
            refine aw_iadd (pc' := 90) (by first | exact w32_id (by omega) (by omega) | rfl) dX13_judge_89 rfl ?_
            refine aw_lald (pc' := 91) dX13_judge_90 rfl (MA_items (A := A) hM) (by omega) (by omega) ?_
            refine aw_aload_n (pc' := 92) rfl dX13_judge_91 rfl ?_
            refine aw_getp (pc' := 95) (k9 := 38) (p := 332) dX13_judge_92 rfl fX13_120 rfl rfl rfl (MO (A := A) hM) (M_lastOut (A := A) hM) ?_
            refine aw_iload_n (pc' := 96) rfl dX13_judge_95 rfl ?_
            refine aw_iald (pc' := 97) dX13_judge_96 rfl (MA_lastOut (A := A) hM) (by omega) (by omega) ?_
            refine aw_i2l (pc' := 98) dX13_judge_97 rfl ?_
            refine aw_lcmp (pc' := 99) dX13_judge_98 rfl ?_
            refine aw_if_eq (pt := 104) (pf := 102) dX13_judge_99 (by decide) rfl (fun c_99 => ?_) (fun c_99 => ?_)
            · replace c_99 := (cmp_eq).mp c_99
              refine aw_iinc (pc' := 107) (lv' := [_, _, _, _]) dX13_judge_104 rfl rfl (by decide) (by first | exact w32_id (by omega) (by omega) | rfl) rfl ?_
              refine aw_goto (pc' := 39) dX13_judge_107 (by decide) ?_
              exact ih _ (by omega) (k + 1) rfl (by omega) (by omega) hM h8 ht0 ht5 hz hi (fun j g1 g2 => by by_cases e : j = k; subst e; exact ⟨c_54, by omega, by omega, c_99⟩; exact hall j g1 (by omega)) hA hB hE
            · replace c_99 := (not_congr cmp_eq).mp c_99
              refine aw_iload_n (pc' := 103) rfl dX13_judge_102 rfl ?_
              refine AW.ret (some (vi _)) dX13_judge_103 trivial ?_
              exact hB k (by omega) (by omega) hall c_54 (by omega) (by omega) c_99
          · refine aw_bipush (pc' := 75) (by decide +kernel) dX13_judge_73 rfl ?_
            refine aw_iload_n (pc' := 76) rfl dX13_judge_75 rfl ?_
            refine aw_iadd (pc' := 77) (by first | exact w32_id (by omega) (by omega) | rfl) dX13_judge_76 rfl ?_
            refine AW.ret (some (vi _)) dX13_judge_77 trivial ?_
            exact hA k (by omega) (by omega) hall (by omega)

set_option maxRecDepth 20000 in
theorem c_judge {d : Nat} {t i : Int} {A : AHp} {Q : Option AV → AHp → Prop} (hd : 1 ≤ d) (hM : MLAY A) (h8 : 0 ≤ hv A 307 39 ∧ hv A 307 39 ≤ 60) (hsz : ∀ t, 0 ≤ t → t ≤ 5 → 0 ≤ hv A 348 t ∧ hv A 348 t ≤ 60) (hi : in32 i)
  (hN : ¬ (0 ≤ t ∧ t ≤ 5) → Q (some (vi (-1))) A) (hC : 0 ≤ t → t ≤ 5 → hv A 347 t ≠ -1 → hv A 347 t ≠ 2 → Q (some (vi (-12))) A)
  (hA : 0 ≤ t → t ≤ 5 → hv A 347 t = -1 ∨ hv A 347 t = 2 → (∀ k, 0 ≤ k → k < hv A 307 39 → (∀ j, 0 ≤ j → j < k → hv A 347 t ≠ -1 ∧ 0 ≤ i ∧ j < hv A 348 t - i ∧ hv A 349 (60 * t + i + j) = hv A 332 j) → (hv A 347 t = -1 ∨ i < 0 ∨ hv A 348 t - i ≤ k) → Q (some (vi (100 + k))) A)) (hB : 0 ≤ t → t ≤ 5 → hv A 347 t = -1 ∨ hv A 347 t = 2 → (∀ k, 0 ≤ k → k < hv A 307 39 → (∀ j, 0 ≤ j → j < k → hv A 347 t ≠ -1 ∧ 0 ≤ i ∧ j < hv A 348 t - i ∧ hv A 349 (60 * t + i + j) = hv A 332 j) → hv A 347 t ≠ -1 → 0 ≤ i → k < hv A 348 t - i → hv A 349 (60 * t + i + k) ≠ hv A 332 k → Q (some (vi k)) A)) (hE : 0 ≤ t → t ≤ 5 → hv A 347 t = -1 ∨ hv A 347 t = 2 → ((∀ j, 0 ≤ j → j < hv A 307 39 → hv A 347 t ≠ -1 ∧ 0 ≤ i ∧ j < hv A 348 t - i ∧ hv A 349 (60 * t + i + j) = hv A 332 j) → Q (some (vi (-5))) A)) : CALL d mX13_judge [vr 307, vi t, vi i] A Q := by
  refine CALL.of (by decide) (Nat.le_of_ble_eq_true rfl) ?_
  change AW d mX13_judge 0 [some (vr 307), some (vi t), some (vi i), none] [] A Q
  refine aw_iload_n (pc' := 1) rfl dX13_judge_0 rfl ?_
  refine aw_i2l (pc' := 2) dX13_judge_1 rfl ?_
  refine aw_lconst (x := 0) (pc' := 3) (by decide +kernel) dX13_judge_2 rfl ?_
  refine aw_ldc2 (x := (5)) (pc' := 6) qX13_404 (by decide) dX13_judge_3 rfl ?_
  refine aw_callS (d' := d - 1) (as := [_, _, _]) (pc' := 9) kX13_in tX13_in lX13_177 dX13_judge_6 rfl rfl (Nat.le_of_ble_eq_true rfl) (by omega) ?_
  refine c_in (by omega) (fun g1_6 g2_6 => ?_) (fun g0_6 => ?_)
  · have hz := hsz t (by omega) (by omega)
    refine aw_if_ne (pt := 14) (pf := 12) dX13_judge_9 (by decide) rfl (fun _ => ?_) (fun c_9 => absurd (by decide) c_9)
    refine aw_aload_n (pc' := 15) rfl dX13_judge_14 rfl ?_
    refine aw_getp (pc' := 18) (k9 := 60) (p := 347) dX13_judge_15 rfl fX13_165 rfl rfl rfl (MO (A := A) hM) (M_sorts (A := A) hM) ?_
    refine aw_iload_n (pc' := 19) rfl dX13_judge_18 rfl ?_
    refine aw_iald (pc' := 20) dX13_judge_19 rfl (MA_sorts (A := A) hM) (by omega) (by omega) ?_
    refine aw_iconst (pc' := 21) (by decide) dX13_judge_20 rfl ?_
    refine aw_icmp_eq (pt := 37) (pf := 24) dX13_judge_21 (by decide) rfl (fun c_21 => ?_) (fun c_21 => ?_)
    · refine aw_iconst (pc' := 38) (by decide) dX13_judge_37 rfl ?_
      refine aw_istore_n (pc' := 39) (lv' := [_, _, _, _]) dX13_judge_38 rfl (by decide) rfl ?_
      exact l_judge _ 0 rfl (by omega) h8.1 hM h8.2 (by omega) (by omega) hz hi (fun j g1 g2 => by omega) (hA (by omega) (by omega) (by omega)) (hB (by omega) (by omega) (by omega)) (hE (by omega) (by omega) (by omega))
    · refine aw_aload_n (pc' := 25) rfl dX13_judge_24 rfl ?_
      refine aw_getp (pc' := 28) (k9 := 60) (p := 347) dX13_judge_25 rfl fX13_165 rfl rfl rfl (MO (A := A) hM) (M_sorts (A := A) hM) ?_
      refine aw_iload_n (pc' := 29) rfl dX13_judge_28 rfl ?_
      refine aw_iald (pc' := 30) dX13_judge_29 rfl (MA_sorts (A := A) hM) (by omega) (by omega) ?_
      refine aw_iconst (pc' := 31) (by decide) dX13_judge_30 rfl ?_
      refine aw_icmp_eq (pt := 37) (pf := 34) dX13_judge_31 (by decide) rfl (fun c_31 => ?_) (fun c_31 => ?_)
      · refine aw_iconst (pc' := 38) (by decide) dX13_judge_37 rfl ?_
        refine aw_istore_n (pc' := 39) (lv' := [_, _, _, _]) dX13_judge_38 rfl (by decide) rfl ?_
        exact l_judge _ 0 rfl (by omega) h8.1 hM h8.2 (by omega) (by omega) hz hi (fun j g1 g2 => by omega) (hA (by omega) (by omega) (by omega)) (hB (by omega) (by omega) (by omega)) (hE (by omega) (by omega) (by omega))
      · refine aw_bipush (pc' := 36) (by decide +kernel) dX13_judge_34 rfl ?_
        refine AW.ret (some (vi _)) dX13_judge_36 trivial ?_
        first | exact hN (by omega) | exact hC (by omega) (by omega) (by omega) (by omega)
  · refine aw_if_ne (pt := 14) (pf := 12) dX13_judge_9 (by decide) rfl (fun c_9 => absurd c_9 (by decide)) (fun _ => ?_)
    refine aw_iconst (pc' := 13) (by decide) dX13_judge_12 rfl ?_
    refine AW.ret (some (vi _)) dX13_judge_13 trivial ?_
    first | exact hN (by omega) | exact hC (by omega) (by omega) (by omega) (by omega)

set_option maxRecDepth 20000 in
theorem l_tape {d : Nat} {A : AHp} {t s n : Int} {Q : Option AV → AHp → Prop} : ∀ (m : Nat) (k : Int), (60 - k).toNat = m → 0 ≤ k → k ≤ 60 → MLAY A → 0 ≤ t → t ≤ 5 → Q (some (vi 1)) (hfill A 349 (60 * t) 60 0) → AW d mX13_tape 80 [some (vr 307), some (vi t), some (vi s), some (vi n), some (vi k)] [] (hfill A 349 (60 * t) k 0) Q := by
  intro m
  induction m using Nat.strongRecOn with
  | _ m ih =>
    intro k hm hk0 hkn hM ht0 ht5 hQ
    refine aw_iload (pc' := 82) rfl dX13_tape_80 rfl ?_
    refine aw_bipush (pc' := 84) (by decide +kernel) dX13_tape_82 rfl ?_
    refine aw_icmp_ge (pt := 106) (pf := 87) dX13_tape_84 (by decide) rfl (fun c_84 => ?_) (fun c_84 => ?_)
    · refine aw_iconst (pc' := 107) (by decide) dX13_tape_106 rfl ?_
      refine AW.ret (some (vi _)) dX13_tape_107 trivial ?_
      rw [show k = 60 by omega]
      exact hQ
    · refine aw_aload_n (pc' := 88) rfl dX13_tape_87 rfl ?_
      refine aw_getp (pc' := 91) (k9 := 62) (p := 349) dX13_tape_88 rfl fX13_171 rfl rfl rfl (MO (A := A) hM) (M_items (A := A) hM) ?_
      refine aw_bipush (pc' := 93) (by decide +kernel) dX13_tape_91 rfl ?_
      refine aw_iload_n (pc' := 94) rfl dX13_tape_93 rfl ?_
      refine aw_imul (pc' := 95) (by first | exact w32_id (by omega) (by omega) | rfl) dX13_tape_94 rfl ?_
      refine aw_iload (pc' := 97) rfl dX13_tape_95 rfl ?_
      refine aw_iadd (pc' := 98) (by first | exact w32_id (by omega) (by omega) | rfl) dX13_tape_97 rfl ?_
      refine aw_lconst (x := 0) (pc' := 99) (by decide +kernel) dX13_tape_98 rfl ?_
      refine aw_last (pc' := 100) dX13_tape_99 rfl (MA_items (A := A) hM) (by omega) (by omega) ?_
      refine aw_iinc (pc' := 103) (lv' := [_, _, _, _, _]) dX13_tape_100 rfl rfl (by decide) (by first | exact w32_id (by omega) (by omega) | rfl) rfl ?_
      refine aw_goto (pc' := 80) dX13_tape_103 (by decide) ?_
      rw [hfill_s A hk0]
      exact ih _ (by omega) (k + 1) rfl (by omega) (by omega) hM ht0 ht5 hQ

set_option maxRecDepth 20000 in
theorem c_tape {d : Nat} {t s n : Int} {A : AHp} {Q : Option AV → AHp → Prop} (hd : 1 ≤ d) (hM : MLAY A)
  (hN : ¬ (0 ≤ t ∧ t ≤ 5) → Q (some (vi (-1))) A) (hB : 0 ≤ t → t ≤ 5 → (¬ (-1 ≤ s ∧ s ≤ 4) ∨ s ≠ -1 ∧ 60 < n) → Q (some (vi (-2))) A) (hS : 0 ≤ t → t ≤ 5 → -1 ≤ s → s ≤ 4 → s ≠ -1 → n < 0 → Q (some (vi (-14))) A)
  (hO1 : 0 ≤ t → t ≤ 5 → s = -1 → Q (some (vi 1)) (hfill (hset (hset A 347 t s) 348 t 0) 349 (60 * t) 60 0)) (hO2 : 0 ≤ t → t ≤ 5 → 0 ≤ s → s ≤ 4 → 0 ≤ n → n ≤ 60 → Q (some (vi 1)) (hfill (hset (hset A 347 t s) 348 t n) 349 (60 * t) 60 0)) : CALL d mX13_tape [vr 307, vi t, vi s, vi n] A Q := by
  refine CALL.of (by decide) (Nat.le_of_ble_eq_true rfl) ?_
  change AW d mX13_tape 0 [some (vr 307), some (vi t), some (vi s), some (vi n), none] [] A Q
  refine aw_iload_n (pc' := 1) rfl dX13_tape_0 rfl ?_
  refine aw_i2l (pc' := 2) dX13_tape_1 rfl ?_
  refine aw_lconst (x := 0) (pc' := 3) (by decide +kernel) dX13_tape_2 rfl ?_
  refine aw_ldc2 (x := (5)) (pc' := 6) qX13_404 (by decide) dX13_tape_3 rfl ?_
  refine aw_callS (d' := d - 1) (as := [_, _, _]) (pc' := 9) kX13_in tX13_in lX13_177 dX13_tape_6 rfl rfl (Nat.le_of_ble_eq_true rfl) (by omega) ?_
  refine c_in (by omega) (fun g1_6 g2_6 => ?_) (fun g0_6 => ?_)
  · refine aw_if_ne (pt := 14) (pf := 12) dX13_tape_9 (by decide) rfl (fun _ => ?_) (fun c_9 => absurd (by decide) c_9)
    refine aw_iload_n (pc' := 15) rfl dX13_tape_14 rfl ?_
    refine aw_i2l (pc' := 16) dX13_tape_15 rfl ?_
    refine aw_ldc2 (x := (-1)) (pc' := 19) qX13_406 (by decide) dX13_tape_16 rfl ?_
    refine aw_ldc2 (x := (4)) (pc' := 22) qX13_265 (by decide) dX13_tape_19 rfl ?_
    refine aw_callS (d' := d - 1) (as := [_, _, _]) (pc' := 25) kX13_in tX13_in lX13_177 dX13_tape_22 rfl rfl (Nat.le_of_ble_eq_true rfl) (by omega) ?_
    refine c_in (by omega) (fun g1_22 g2_22 => ?_) (fun g0_22 => ?_)
    · refine aw_if_eq (pt := 39) (pf := 28) dX13_tape_25 (by decide) rfl (fun c_25 => absurd c_25 (by decide)) (fun _ => ?_)
      refine aw_iload_n (pc' := 29) rfl dX13_tape_28 rfl ?_
      refine aw_iconst (pc' := 30) (by decide) dX13_tape_29 rfl ?_
      refine aw_icmp_eq (pt := 42) (pf := 33) dX13_tape_30 (by decide) rfl (fun c_30 => ?_) (fun c_30 => ?_)
      · refine aw_iload_n (pc' := 43) rfl dX13_tape_42 rfl ?_
        refine aw_iconst (pc' := 44) (by decide) dX13_tape_43 rfl ?_
        refine aw_icmp_eq (pt := 54) (pf := 47) dX13_tape_44 (by decide) rfl (fun c_44 => ?_) (fun c_44 => ?_)
        · refine aw_aload_n (pc' := 55) rfl dX13_tape_54 rfl ?_
          refine aw_getp (pc' := 58) (k9 := 60) (p := 347) dX13_tape_55 rfl fX13_165 rfl rfl rfl (MO (A := A) hM) (M_sorts (A := A) hM) ?_
          refine aw_iload_n (pc' := 59) rfl dX13_tape_58 rfl ?_
          refine aw_iload_n (pc' := 60) rfl dX13_tape_59 rfl ?_
          refine aw_iast (pc' := 61) dX13_tape_60 rfl (MA_sorts (A := A) hM) (by omega) (by omega) ?_
          refine aw_aload_n (pc' := 62) rfl dX13_tape_61 rfl ?_
          refine aw_getp (pc' := 65) (k9 := 61) (p := 348) dX13_tape_62 rfl fX13_168 rfl rfl rfl (MO (A := A) hM) (M_sizes (A := A) hM) ?_
          refine aw_iload_n (pc' := 66) rfl dX13_tape_65 rfl ?_
          refine aw_iload_n (pc' := 67) rfl dX13_tape_66 rfl ?_
          refine aw_iconst (pc' := 68) (by decide) dX13_tape_67 rfl ?_
          refine aw_icmp_ne (pt := 75) (pf := 71) dX13_tape_68 (by decide) rfl (fun c_68 => ?_) (fun c_68 => ?_)
          · refine aw_iload_n (pc' := 76) rfl dX13_tape_75 rfl ?_
            refine aw_iast (pc' := 77) dX13_tape_76 rfl (MA_sizes (A := A) hM) (by omega) (by omega) ?_
            refine aw_iconst (pc' := 78) (by decide) dX13_tape_77 rfl ?_
            refine aw_istore (pc' := 80) (lv' := [_, _, _, _, _]) dX13_tape_78 rfl (by decide) rfl ?_
            rw [← hfill_0 (hset (hset A 347 t s) 348 t _) 349 (60 * t) 0]
            exact l_tape _ 0 rfl (by omega) (by omega) hM (by omega) (by omega) (by first | exact hO1 (by omega) (by omega) (by omega) | exact hO2 (by omega) (by omega) (by omega) (by omega) (by omega) (by omega))
          · replace c_68 := Classical.not_not.mp c_68
            refine aw_iconst (pc' := 72) (by decide) dX13_tape_71 rfl ?_
            refine aw_goto (pc' := 76) dX13_tape_72 (by decide) ?_
            refine aw_iast (pc' := 77) dX13_tape_76 rfl (MA_sizes (A := A) hM) (by omega) (by omega) ?_
            refine aw_iconst (pc' := 78) (by decide) dX13_tape_77 rfl ?_
            refine aw_istore (pc' := 80) (lv' := [_, _, _, _, _]) dX13_tape_78 rfl (by decide) rfl ?_
            rw [← hfill_0 (hset (hset A 347 t s) 348 t _) 349 (60 * t) 0]
            exact l_tape _ 0 rfl (by omega) (by omega) hM (by omega) (by omega) (by first | exact hO1 (by omega) (by omega) (by omega) | exact hO2 (by omega) (by omega) (by omega) (by omega) (by omega) (by omega))
        · refine aw_iload_n (pc' := 48) rfl dX13_tape_47 rfl ?_
          refine aw_if_ge (pt := 54) (pf := 51) dX13_tape_48 (by decide) rfl (fun c_48 => ?_) (fun c_48 => ?_)
          · refine aw_aload_n (pc' := 55) rfl dX13_tape_54 rfl ?_
            refine aw_getp (pc' := 58) (k9 := 60) (p := 347) dX13_tape_55 rfl fX13_165 rfl rfl rfl (MO (A := A) hM) (M_sorts (A := A) hM) ?_
            refine aw_iload_n (pc' := 59) rfl dX13_tape_58 rfl ?_
            refine aw_iload_n (pc' := 60) rfl dX13_tape_59 rfl ?_
            refine aw_iast (pc' := 61) dX13_tape_60 rfl (MA_sorts (A := A) hM) (by omega) (by omega) ?_
            refine aw_aload_n (pc' := 62) rfl dX13_tape_61 rfl ?_
            refine aw_getp (pc' := 65) (k9 := 61) (p := 348) dX13_tape_62 rfl fX13_168 rfl rfl rfl (MO (A := A) hM) (M_sizes (A := A) hM) ?_
            refine aw_iload_n (pc' := 66) rfl dX13_tape_65 rfl ?_
            refine aw_iload_n (pc' := 67) rfl dX13_tape_66 rfl ?_
            refine aw_iconst (pc' := 68) (by decide) dX13_tape_67 rfl ?_
            refine aw_icmp_ne (pt := 75) (pf := 71) dX13_tape_68 (by decide) rfl (fun c_68 => ?_) (fun c_68 => ?_)
            · refine aw_iload_n (pc' := 76) rfl dX13_tape_75 rfl ?_
              refine aw_iast (pc' := 77) dX13_tape_76 rfl (MA_sizes (A := A) hM) (by omega) (by omega) ?_
              refine aw_iconst (pc' := 78) (by decide) dX13_tape_77 rfl ?_
              refine aw_istore (pc' := 80) (lv' := [_, _, _, _, _]) dX13_tape_78 rfl (by decide) rfl ?_
              rw [← hfill_0 (hset (hset A 347 t s) 348 t _) 349 (60 * t) 0]
              exact l_tape _ 0 rfl (by omega) (by omega) hM (by omega) (by omega) (by first | exact hO1 (by omega) (by omega) (by omega) | exact hO2 (by omega) (by omega) (by omega) (by omega) (by omega) (by omega))
            · replace c_68 := Classical.not_not.mp c_68
              refine aw_iconst (pc' := 72) (by decide) dX13_tape_71 rfl ?_
              refine aw_goto (pc' := 76) dX13_tape_72 (by decide) ?_
              refine aw_iast (pc' := 77) dX13_tape_76 rfl (MA_sizes (A := A) hM) (by omega) (by omega) ?_
              refine aw_iconst (pc' := 78) (by decide) dX13_tape_77 rfl ?_
              refine aw_istore (pc' := 80) (lv' := [_, _, _, _, _]) dX13_tape_78 rfl (by decide) rfl ?_
              rw [← hfill_0 (hset (hset A 347 t s) 348 t _) 349 (60 * t) 0]
              exact l_tape _ 0 rfl (by omega) (by omega) hM (by omega) (by omega) (by first | exact hO1 (by omega) (by omega) (by omega) | exact hO2 (by omega) (by omega) (by omega) (by omega) (by omega) (by omega))
          · refine aw_bipush (pc' := 53) (by decide +kernel) dX13_tape_51 rfl ?_
            refine AW.ret (some (vi _)) dX13_tape_53 trivial ?_
            first | exact hN (by omega) | exact hB (by omega) (by omega) (by omega) | exact hS (by omega) (by omega) (by omega) (by omega) (by omega) (by omega)
      · refine aw_iload_n (pc' := 34) rfl dX13_tape_33 rfl ?_
        refine aw_bipush (pc' := 36) (by decide +kernel) dX13_tape_34 rfl ?_
        refine aw_icmp_le (pt := 42) (pf := 39) dX13_tape_36 (by decide) rfl (fun c_36 => ?_) (fun c_36 => ?_)
        · refine aw_iload_n (pc' := 43) rfl dX13_tape_42 rfl ?_
          refine aw_iconst (pc' := 44) (by decide) dX13_tape_43 rfl ?_
          refine aw_icmp_eq (pt := 54) (pf := 47) dX13_tape_44 (by decide) rfl (fun c_44 => ?_) (fun c_44 => ?_)
          · refine aw_aload_n (pc' := 55) rfl dX13_tape_54 rfl ?_
            refine aw_getp (pc' := 58) (k9 := 60) (p := 347) dX13_tape_55 rfl fX13_165 rfl rfl rfl (MO (A := A) hM) (M_sorts (A := A) hM) ?_
            refine aw_iload_n (pc' := 59) rfl dX13_tape_58 rfl ?_
            refine aw_iload_n (pc' := 60) rfl dX13_tape_59 rfl ?_
            refine aw_iast (pc' := 61) dX13_tape_60 rfl (MA_sorts (A := A) hM) (by omega) (by omega) ?_
            refine aw_aload_n (pc' := 62) rfl dX13_tape_61 rfl ?_
            refine aw_getp (pc' := 65) (k9 := 61) (p := 348) dX13_tape_62 rfl fX13_168 rfl rfl rfl (MO (A := A) hM) (M_sizes (A := A) hM) ?_
            refine aw_iload_n (pc' := 66) rfl dX13_tape_65 rfl ?_
            refine aw_iload_n (pc' := 67) rfl dX13_tape_66 rfl ?_
            refine aw_iconst (pc' := 68) (by decide) dX13_tape_67 rfl ?_
            refine aw_icmp_ne (pt := 75) (pf := 71) dX13_tape_68 (by decide) rfl (fun c_68 => ?_) (fun c_68 => ?_)
            · refine aw_iload_n (pc' := 76) rfl dX13_tape_75 rfl ?_
              refine aw_iast (pc' := 77) dX13_tape_76 rfl (MA_sizes (A := A) hM) (by omega) (by omega) ?_
              refine aw_iconst (pc' := 78) (by decide) dX13_tape_77 rfl ?_
              refine aw_istore (pc' := 80) (lv' := [_, _, _, _, _]) dX13_tape_78 rfl (by decide) rfl ?_
              rw [← hfill_0 (hset (hset A 347 t s) 348 t _) 349 (60 * t) 0]
              exact l_tape _ 0 rfl (by omega) (by omega) hM (by omega) (by omega) (by first | exact hO1 (by omega) (by omega) (by omega) | exact hO2 (by omega) (by omega) (by omega) (by omega) (by omega) (by omega))
            · replace c_68 := Classical.not_not.mp c_68
              refine aw_iconst (pc' := 72) (by decide) dX13_tape_71 rfl ?_
              refine aw_goto (pc' := 76) dX13_tape_72 (by decide) ?_
              refine aw_iast (pc' := 77) dX13_tape_76 rfl (MA_sizes (A := A) hM) (by omega) (by omega) ?_
              refine aw_iconst (pc' := 78) (by decide) dX13_tape_77 rfl ?_
              refine aw_istore (pc' := 80) (lv' := [_, _, _, _, _]) dX13_tape_78 rfl (by decide) rfl ?_
              rw [← hfill_0 (hset (hset A 347 t s) 348 t _) 349 (60 * t) 0]
              exact l_tape _ 0 rfl (by omega) (by omega) hM (by omega) (by omega) (by first | exact hO1 (by omega) (by omega) (by omega) | exact hO2 (by omega) (by omega) (by omega) (by omega) (by omega) (by omega))
          · refine aw_iload_n (pc' := 48) rfl dX13_tape_47 rfl ?_
            refine aw_if_ge (pt := 54) (pf := 51) dX13_tape_48 (by decide) rfl (fun c_48 => ?_) (fun c_48 => ?_)
            · refine aw_aload_n (pc' := 55) rfl dX13_tape_54 rfl ?_
              refine aw_getp (pc' := 58) (k9 := 60) (p := 347) dX13_tape_55 rfl fX13_165 rfl rfl rfl (MO (A := A) hM) (M_sorts (A := A) hM) ?_
              refine aw_iload_n (pc' := 59) rfl dX13_tape_58 rfl ?_
              refine aw_iload_n (pc' := 60) rfl dX13_tape_59 rfl ?_
              refine aw_iast (pc' := 61) dX13_tape_60 rfl (MA_sorts (A := A) hM) (by omega) (by omega) ?_
              refine aw_aload_n (pc' := 62) rfl dX13_tape_61 rfl ?_
              refine aw_getp (pc' := 65) (k9 := 61) (p := 348) dX13_tape_62 rfl fX13_168 rfl rfl rfl (MO (A := A) hM) (M_sizes (A := A) hM) ?_
              refine aw_iload_n (pc' := 66) rfl dX13_tape_65 rfl ?_
              refine aw_iload_n (pc' := 67) rfl dX13_tape_66 rfl ?_
              refine aw_iconst (pc' := 68) (by decide) dX13_tape_67 rfl ?_
              refine aw_icmp_ne (pt := 75) (pf := 71) dX13_tape_68 (by decide) rfl (fun c_68 => ?_) (fun c_68 => ?_)
              · refine aw_iload_n (pc' := 76) rfl dX13_tape_75 rfl ?_
                refine aw_iast (pc' := 77) dX13_tape_76 rfl (MA_sizes (A := A) hM) (by omega) (by omega) ?_
                refine aw_iconst (pc' := 78) (by decide) dX13_tape_77 rfl ?_
                refine aw_istore (pc' := 80) (lv' := [_, _, _, _, _]) dX13_tape_78 rfl (by decide) rfl ?_
                rw [← hfill_0 (hset (hset A 347 t s) 348 t _) 349 (60 * t) 0]
                exact l_tape _ 0 rfl (by omega) (by omega) hM (by omega) (by omega) (by first | exact hO1 (by omega) (by omega) (by omega) | exact hO2 (by omega) (by omega) (by omega) (by omega) (by omega) (by omega))
              · replace c_68 := Classical.not_not.mp c_68
                refine aw_iconst (pc' := 72) (by decide) dX13_tape_71 rfl ?_
                refine aw_goto (pc' := 76) dX13_tape_72 (by decide) ?_
                refine aw_iast (pc' := 77) dX13_tape_76 rfl (MA_sizes (A := A) hM) (by omega) (by omega) ?_
                refine aw_iconst (pc' := 78) (by decide) dX13_tape_77 rfl ?_
                refine aw_istore (pc' := 80) (lv' := [_, _, _, _, _]) dX13_tape_78 rfl (by decide) rfl ?_
                rw [← hfill_0 (hset (hset A 347 t s) 348 t _) 349 (60 * t) 0]
                exact l_tape _ 0 rfl (by omega) (by omega) hM (by omega) (by omega) (by first | exact hO1 (by omega) (by omega) (by omega) | exact hO2 (by omega) (by omega) (by omega) (by omega) (by omega) (by omega))
            · refine aw_bipush (pc' := 53) (by decide +kernel) dX13_tape_51 rfl ?_
              refine AW.ret (some (vi _)) dX13_tape_53 trivial ?_
              first | exact hN (by omega) | exact hB (by omega) (by omega) (by omega) | exact hS (by omega) (by omega) (by omega) (by omega) (by omega) (by omega)
        · refine aw_bipush (pc' := 41) (by decide +kernel) dX13_tape_39 rfl ?_
          refine AW.ret (some (vi _)) dX13_tape_41 trivial ?_
          first | exact hN (by omega) | exact hB (by omega) (by omega) (by omega) | exact hS (by omega) (by omega) (by omega) (by omega) (by omega) (by omega)
    · refine aw_if_eq (pt := 39) (pf := 28) dX13_tape_25 (by decide) rfl (fun _ => ?_) (fun c_25 => absurd (by decide) c_25)
      refine aw_bipush (pc' := 41) (by decide +kernel) dX13_tape_39 rfl ?_
      refine AW.ret (some (vi _)) dX13_tape_41 trivial ?_
      first | exact hN (by omega) | exact hB (by omega) (by omega) (by omega) | exact hS (by omega) (by omega) (by omega) (by omega) (by omega) (by omega)
  · refine aw_if_ne (pt := 14) (pf := 12) dX13_tape_9 (by decide) rfl (fun c_9 => absurd c_9 (by decide)) (fun _ => ?_)
    refine aw_iconst (pc' := 13) (by decide) dX13_tape_12 rfl ?_
    refine AW.ret (some (vi _)) dX13_tape_13 trivial ?_
    first | exact hN (by omega) | exact hB (by omega) (by omega) (by omega) | exact hS (by omega) (by omega) (by omega) (by omega) (by omega) (by omega)

set_option maxRecDepth 20000 in
theorem l_row0 {d : Nat} {A : AHp} {f n t : Int} {Q : Option AV → AHp → Prop} : ∀ (m : Nat) (k : Int), (n - k).toNat = m → 0 ≤ k → k ≤ n → MLAY A → isA A f 20 n → 0 ≤ t → t + n ≤ 160 → 345 ≠ f → Q (some (vi (t + n))) (hcpy A f 0 345 t n) → AW d mX13_row 3 [some (vr 307), some (vr f), some (vi n), some (vi t), some (vi 0), some (vi k)] [] (hcpy A f 0 345 t k) Q := by
  intro m
  induction m using Nat.strongRecOn with
  | _ m ih =>
    intro k hm hk0 hkn hM hf ht0 htn hne hQ
    refine aw_iload (pc' := 5) rfl dX13_row_3 rfl ?_
    refine aw_iload_n (pc' := 6) rfl dX13_row_5 rfl ?_
    refine aw_icmp_ge (pt := 49) (pf := 9) dX13_row_6 (by decide) rfl (fun c_6 => ?_) (fun c_6 => ?_)
    · refine aw_iload_n (pc' := 50) rfl dX13_row_49 rfl ?_
      refine aw_iload_n (pc' := 51) rfl dX13_row_50 rfl ?_
      refine aw_iadd (pc' := 52) (by first | exact w32_id (by omega) (by omega) | rfl) dX13_row_51 rfl ?_
      refine AW.ret (some (vi _)) dX13_row_52 trivial ?_
      rw [show k = n by omega]
      exact hQ
    · refine aw_iload (pc' := 11) rfl dX13_row_9 rfl ?_
      refine aw_if_eq (pt := 30) (pf := 14) dX13_row_11 (by decide) rfl (fun _ => ?_) (fun c_11 => absurd (by decide) c_11)
      refine aw_aload_n (pc' := 31) rfl dX13_row_30 rfl ?_
      refine aw_getp (pc' := 34) (k9 := 57) (p := 345) dX13_row_31 rfl fX13_159 rfl rfl rfl (MO (A := A) hM) (M_kept (A := A) hM) ?_
      refine aw_iload_n (pc' := 35) rfl dX13_row_34 rfl ?_
      refine aw_iload (pc' := 37) rfl dX13_row_35 rfl ?_
      refine aw_iadd (pc' := 38) (by first | exact w32_id (by omega) (by omega) | rfl) dX13_row_37 rfl ?_
      refine aw_aload_n (pc' := 39) rfl dX13_row_38 rfl ?_
      refine aw_iload (pc' := 41) rfl dX13_row_39 rfl ?_
      refine aw_iald (pc' := 42) dX13_row_41 rfl hf (by omega) (by omega) ?_
      rw [hv_cpy, if_neg (fun q => hne q.1.symm)]
      refine aw_iast (pc' := 43) dX13_row_42 rfl (MA_kept (A := A) hM) (by omega) (by omega) ?_
      refine aw_iinc (pc' := 46) (lv' := [_, _, _, _, _, _]) dX13_row_43 rfl rfl (by decide) (by first | exact w32_id (by omega) (by omega) | rfl) rfl ?_
      refine aw_goto (pc' := 3) dX13_row_46 (by decide) ?_
      have e9 := hcpy_f A (f := f) (a := 0) (t := 345) (b := t) hk0
      rw [Int.zero_add] at e9
      rw [e9]
      exact ih _ (by omega) (k + 1) rfl (by omega) (by omega) hM hf ht0 htn hne hQ

set_option maxRecDepth 20000 in
theorem l_row1 {d : Nat} {A : AHp} {f n t : Int} {Q : Option AV → AHp → Prop} : ∀ (m : Nat) (k : Int), (n - k).toNat = m → 0 ≤ k → k ≤ n → MLAY A → isA A f 20 n → 0 ≤ t → t + n ≤ 160 → 345 ≠ f → Q (some (vi (t + n))) (hcpy A 345 t f 0 n) → AW d mX13_row 3 [some (vr 307), some (vr f), some (vi n), some (vi t), some (vi 1), some (vi k)] [] (hcpy A 345 t f 0 k) Q := by
  intro m
  induction m using Nat.strongRecOn with
  | _ m ih =>
    intro k hm hk0 hkn hM hf ht0 htn hne hQ
    refine aw_iload (pc' := 5) rfl dX13_row_3 rfl ?_
    refine aw_iload_n (pc' := 6) rfl dX13_row_5 rfl ?_
    refine aw_icmp_ge (pt := 49) (pf := 9) dX13_row_6 (by decide) rfl (fun c_6 => ?_) (fun c_6 => ?_)
    · refine aw_iload_n (pc' := 50) rfl dX13_row_49 rfl ?_
      refine aw_iload_n (pc' := 51) rfl dX13_row_50 rfl ?_
      refine aw_iadd (pc' := 52) (by first | exact w32_id (by omega) (by omega) | rfl) dX13_row_51 rfl ?_
      refine AW.ret (some (vi _)) dX13_row_52 trivial ?_
      rw [show k = n by omega]
      exact hQ
    · refine aw_iload (pc' := 11) rfl dX13_row_9 rfl ?_
      refine aw_if_eq (pt := 30) (pf := 14) dX13_row_11 (by decide) rfl (fun c_11 => absurd c_11 (by decide)) (fun _ => ?_)
      refine aw_aload_n (pc' := 15) rfl dX13_row_14 rfl ?_
      refine aw_iload (pc' := 17) rfl dX13_row_15 rfl ?_
      refine aw_aload_n (pc' := 18) rfl dX13_row_17 rfl ?_
      refine aw_getp (pc' := 21) (k9 := 57) (p := 345) dX13_row_18 rfl fX13_159 rfl rfl rfl (MO (A := A) hM) (M_kept (A := A) hM) ?_
      refine aw_iload_n (pc' := 22) rfl dX13_row_21 rfl ?_
      refine aw_iload (pc' := 24) rfl dX13_row_22 rfl ?_
      refine aw_iadd (pc' := 25) (by first | exact w32_id (by omega) (by omega) | rfl) dX13_row_24 rfl ?_
      refine aw_iald (pc' := 26) dX13_row_25 rfl (MA_kept (A := A) hM) (by omega) (by omega) ?_
      rw [hv_cpy, if_neg (fun q => hne q.1)]
      refine aw_iast (pc' := 27) dX13_row_26 rfl hf (by omega) (by omega) ?_
      refine aw_goto (pc' := 43) dX13_row_27 (by decide) ?_
      refine aw_iinc (pc' := 46) (lv' := [_, _, _, _, _, _]) dX13_row_43 rfl rfl (by decide) (by first | exact w32_id (by omega) (by omega) | rfl) rfl ?_
      refine aw_goto (pc' := 3) dX13_row_46 (by decide) ?_
      have e9 := hcpy_f A (f := 345) (a := t) (t := f) (b := 0) hk0
      rw [Int.zero_add] at e9
      rw [e9]
      exact ih _ (by omega) (k + 1) rfl (by omega) (by omega) hM hf ht0 htn hne hQ

set_option maxRecDepth 20000 in
theorem c_row0 {d : Nat} {f n t : Int} {A : AHp} {Q : Option AV → AHp → Prop} (hd : 0 ≤ d) (hM : MLAY A) (hf : isA A f 20 n) (hn0 : 0 ≤ n) (ht0 : 0 ≤ t) (htn : t + n ≤ 160) (hne : 345 ≠ f) (hQ : Q (some (vi (t + n))) (hcpy A f 0 345 t n)) : CALL d mX13_row [vr 307, vr f, vi n, vi t, vi 0] A Q := by
  refine CALL.of (by decide) (Nat.le_of_ble_eq_true rfl) ?_
  change AW d mX13_row 0 [some (vr 307), some (vr f), some (vi n), some (vi t), some (vi 0), none] [] A Q
  refine aw_iconst (pc' := 1) (by decide) dX13_row_0 rfl ?_
  refine aw_istore (pc' := 3) (lv' := [_, _, _, _, _, _]) dX13_row_1 rfl (by decide) rfl ?_
  rw [← hcpy_0 A f 0 345 t]
  exact l_row0 _ 0 rfl (by omega) hn0 hM hf ht0 htn hne hQ

set_option maxRecDepth 20000 in
theorem c_row1 {d : Nat} {f n t : Int} {A : AHp} {Q : Option AV → AHp → Prop} (hd : 0 ≤ d) (hM : MLAY A) (hf : isA A f 20 n) (hn0 : 0 ≤ n) (ht0 : 0 ≤ t) (htn : t + n ≤ 160) (hne : 345 ≠ f) (hQ : Q (some (vi (t + n))) (hcpy A 345 t f 0 n)) : CALL d mX13_row [vr 307, vr f, vi n, vi t, vi 1] A Q := by
  refine CALL.of (by decide) (Nat.le_of_ble_eq_true rfl) ?_
  change AW d mX13_row 0 [some (vr 307), some (vr f), some (vi n), some (vi t), some (vi 1), none] [] A Q
  refine aw_iconst (pc' := 1) (by decide) dX13_row_0 rfl ?_
  refine aw_istore (pc' := 3) (lv' := [_, _, _, _, _, _]) dX13_row_1 rfl (by decide) rfl ?_
  rw [← hcpy_0 A 345 t f 0]
  exact l_row1 _ 0 rfl (by omega) hn0 hM hf ht0 htn hne hQ

set_option maxRecDepth 20000 in
theorem c_job {d : Nat} {l : Int} {A : AHp} {Q : Option AV → AHp → Prop} (hd : 2 ≤ d) (hM : MLAY A) (hln : 0 ≤ hv A 307 12 ∧ hv A 307 12 ≤ 8)
  (hN : ¬ (0 ≤ l ∧ l < hv A 307 12) → Q (some (vi (-1))) A) (hF : 0 ≤ l → l < hv A 307 12 → (∀ i, 0 ≤ i → i ≤ 3 → 0 ≤ hv A 333 i) → Q (some (vi (-4))) A)
  (hO : 0 ≤ l → l < hv A 307 12 → ∀ j, 0 ≤ j → j ≤ 3 → (∀ i, 0 ≤ i → i < j → 0 ≤ hv A 333 i) → hv A 333 j < 0 → Q (some (vi j)) (hset (hset (hset (hset (hset A 333 j l) 334 j 60) 335 j (hv A 309 (60 * l))) 336 j 0) 337 j 0)) : CALL d mX13_job [vr 307, vi l] A Q := by
  refine CALL.of (by decide) (Nat.le_of_ble_eq_true rfl) ?_
  change AW d mX13_job 0 [some (vr 307), some (vi l), none] [] A Q
  refine aw_aload_n (pc' := 1) rfl dX13_job_0 rfl ?_
  refine aw_iload_n (pc' := 2) rfl dX13_job_1 rfl ?_
  refine aw_callV (ci := 11) (d' := d - 1) (as := [_]) (pc' := 5) (by decide) rfl kX13_isLine iX13_isLine sX13_isLine lX13_260 (MO (A := A) hM) dX13_job_2 rfl rfl (Nat.le_of_ble_eq_true rfl) (by omega) ?_
  refine c_isLine (by omega) hM hln (fun e1_2 e2_2 => ?_) (fun e0_2 => ?_)
  · refine aw_if_ne (pt := 10) (pf := 8) dX13_job_5 (by decide) rfl (fun _ => ?_) (fun c_5 => absurd (by decide) c_5)
    refine aw_iconst (pc' := 11) (by decide) dX13_job_10 rfl ?_
    refine aw_istore_n (pc' := 12) (lv' := [_, _, _]) dX13_job_11 rfl (by decide) rfl ?_
    refine aw_iload_n (pc' := 13) rfl dX13_job_12 rfl ?_
    refine aw_iconst (pc' := 14) (by decide) dX13_job_13 rfl ?_
    refine aw_icmp_ge (pt := 32) (pf := 17) dX13_job_14 (by decide) rfl (fun c_14 => absurd c_14 (by decide)) (fun _ => ?_)
    refine aw_aload_n (pc' := 18) rfl dX13_job_17 rfl ?_
    refine aw_getp (pc' := 21) (k9 := 42) (p := 333) dX13_job_18 rfl fX13_123 rfl rfl rfl (MO (A := A) hM) (M_jobLine (A := A) hM) ?_
    refine aw_iload_n (pc' := 22) rfl dX13_job_21 rfl ?_
    refine aw_iald (pc' := 23) dX13_job_22 rfl (MA_jobLine (A := A) hM) (by omega) (by omega) ?_
    refine aw_if_lt (pt := 32) (pf := 26) dX13_job_23 (by decide) rfl (fun c_23 => ?_) (fun c_23 => ?_)
    · refine aw_iload_n (pc' := 33) rfl dX13_job_32 rfl ?_
      refine aw_iconst (pc' := 34) (by decide) dX13_job_33 rfl ?_
      refine aw_icmp_ne (pt := 40) (pf := 37) dX13_job_34 (by decide) rfl (fun _ => ?_) (fun c_34 => absurd (by decide) c_34)
      refine aw_aload_n (pc' := 41) rfl dX13_job_40 rfl ?_
      refine aw_getp (pc' := 44) (k9 := 42) (p := 333) dX13_job_41 rfl fX13_123 rfl rfl rfl (MO (A := A) hM) (M_jobLine (A := A) hM) ?_
      refine aw_iload_n (pc' := 45) rfl dX13_job_44 rfl ?_
      refine aw_iload_n (pc' := 46) rfl dX13_job_45 rfl ?_
      refine aw_iast (pc' := 47) dX13_job_46 rfl (MA_jobLine (A := A) hM) (by omega) (by omega) ?_
      refine aw_aload_n (pc' := 48) rfl dX13_job_47 rfl ?_
      refine aw_getp (pc' := 51) (k9 := 43) (p := 334) dX13_job_48 rfl fX13_126 rfl rfl rfl (MO (A := A) hM) (M_jobFuel (A := A) hM) ?_
      refine aw_iload_n (pc' := 52) rfl dX13_job_51 rfl ?_
      refine aw_bipush (pc' := 54) (by decide +kernel) dX13_job_52 rfl ?_
      refine aw_iast (pc' := 55) dX13_job_54 rfl (MA_jobFuel (A := A) hM) (by omega) (by omega) ?_
      refine aw_aload_n (pc' := 56) rfl dX13_job_55 rfl ?_
      refine aw_getp (pc' := 59) (k9 := 44) (p := 335) dX13_job_56 rfl fX13_129 rfl rfl rfl (MO (A := A) hM) (M_jobPipe (A := A) hM) ?_
      refine aw_iload_n (pc' := 60) rfl dX13_job_59 rfl ?_
      refine aw_aload_n (pc' := 61) rfl dX13_job_60 rfl ?_
      refine aw_getp (pc' := 64) (k9 := 1) (p := 309) dX13_job_61 rfl fX13_45 rfl rfl rfl (MO (A := A) hM) (M_listFirst (A := A) hM) ?_
      refine aw_bipush (pc' := 66) (by decide +kernel) dX13_job_64 rfl ?_
      refine aw_iload_n (pc' := 67) rfl dX13_job_66 rfl ?_
      refine aw_imul (pc' := 68) (by first | exact w32_id (by omega) (by omega) | rfl) dX13_job_67 rfl ?_
      refine aw_iald (pc' := 69) dX13_job_68 rfl (MA_listFirst (A := A) hM) (by omega) (by omega) ?_
      try simp only [hv_set, hv_cpy, hv_pset, hp_set, hp_cpy, Int.reduceEq, false_and, and_false, true_and, and_true, if_false, if_true, reduceIte]
      refine aw_iast (pc' := 70) dX13_job_69 rfl (MA_jobPipe (A := A) hM) (by omega) (by omega) ?_
      refine aw_aload_n (pc' := 71) rfl dX13_job_70 rfl ?_
      refine aw_getp (pc' := 74) (k9 := 45) (p := 336) dX13_job_71 rfl fX13_132 rfl rfl rfl (MO (A := A) hM) (M_jobGoes (A := A) hM) ?_
      refine aw_iload_n (pc' := 75) rfl dX13_job_74 rfl ?_
      refine aw_iconst (pc' := 76) (by decide) dX13_job_75 rfl ?_
      refine aw_zast (pc' := 77) dX13_job_76 rfl (MA_jobGoes (A := A) hM) (by omega) (by omega) (by omega) ?_
      refine aw_aload_n (pc' := 78) rfl dX13_job_77 rfl ?_
      refine aw_getp (pc' := 81) (k9 := 46) (p := 337) dX13_job_78 rfl fX13_135 rfl rfl rfl (MO (A := A) hM) (M_jobStatus (A := A) hM) ?_
      refine aw_iload_n (pc' := 82) rfl dX13_job_81 rfl ?_
      refine aw_iconst (pc' := 83) (by decide) dX13_job_82 rfl ?_
      refine aw_iast (pc' := 84) dX13_job_83 rfl (MA_jobStatus (A := A) hM) (by omega) (by omega) ?_
      refine aw_iload_n (pc' := 85) rfl dX13_job_84 rfl ?_
      refine AW.ret (some (vi _)) dX13_job_85 trivial ?_
      exact hO (by omega) (by omega) 0 (by omega) (by omega) (fun i g1 g2 => by first | omega | (rcases (by omega : i = 0 ∨ i = 1 ∨ i = 2) with rfl | rfl | rfl <;> omega)) (by omega)
    · refine aw_iinc (y := 1) (pc' := 29) (lv' := [_, _, _]) dX13_job_26 rfl rfl (by decide) (by decide) rfl ?_
      refine aw_goto (pc' := 12) dX13_job_29 (by decide) ?_
      refine aw_iload_n (pc' := 13) rfl dX13_job_12 rfl ?_
      refine aw_iconst (pc' := 14) (by decide) dX13_job_13 rfl ?_
      refine aw_icmp_ge (pt := 32) (pf := 17) dX13_job_14 (by decide) rfl (fun c_14 => absurd c_14 (by decide)) (fun _ => ?_)
      refine aw_aload_n (pc' := 18) rfl dX13_job_17 rfl ?_
      refine aw_getp (pc' := 21) (k9 := 42) (p := 333) dX13_job_18 rfl fX13_123 rfl rfl rfl (MO (A := A) hM) (M_jobLine (A := A) hM) ?_
      refine aw_iload_n (pc' := 22) rfl dX13_job_21 rfl ?_
      refine aw_iald (pc' := 23) dX13_job_22 rfl (MA_jobLine (A := A) hM) (by omega) (by omega) ?_
      refine aw_if_lt (pt := 32) (pf := 26) dX13_job_23 (by decide) rfl (fun c_23 => ?_) (fun c_23 => ?_)
      · refine aw_iload_n (pc' := 33) rfl dX13_job_32 rfl ?_
        refine aw_iconst (pc' := 34) (by decide) dX13_job_33 rfl ?_
        refine aw_icmp_ne (pt := 40) (pf := 37) dX13_job_34 (by decide) rfl (fun _ => ?_) (fun c_34 => absurd (by decide) c_34)
        refine aw_aload_n (pc' := 41) rfl dX13_job_40 rfl ?_
        refine aw_getp (pc' := 44) (k9 := 42) (p := 333) dX13_job_41 rfl fX13_123 rfl rfl rfl (MO (A := A) hM) (M_jobLine (A := A) hM) ?_
        refine aw_iload_n (pc' := 45) rfl dX13_job_44 rfl ?_
        refine aw_iload_n (pc' := 46) rfl dX13_job_45 rfl ?_
        refine aw_iast (pc' := 47) dX13_job_46 rfl (MA_jobLine (A := A) hM) (by omega) (by omega) ?_
        refine aw_aload_n (pc' := 48) rfl dX13_job_47 rfl ?_
        refine aw_getp (pc' := 51) (k9 := 43) (p := 334) dX13_job_48 rfl fX13_126 rfl rfl rfl (MO (A := A) hM) (M_jobFuel (A := A) hM) ?_
        refine aw_iload_n (pc' := 52) rfl dX13_job_51 rfl ?_
        refine aw_bipush (pc' := 54) (by decide +kernel) dX13_job_52 rfl ?_
        refine aw_iast (pc' := 55) dX13_job_54 rfl (MA_jobFuel (A := A) hM) (by omega) (by omega) ?_
        refine aw_aload_n (pc' := 56) rfl dX13_job_55 rfl ?_
        refine aw_getp (pc' := 59) (k9 := 44) (p := 335) dX13_job_56 rfl fX13_129 rfl rfl rfl (MO (A := A) hM) (M_jobPipe (A := A) hM) ?_
        refine aw_iload_n (pc' := 60) rfl dX13_job_59 rfl ?_
        refine aw_aload_n (pc' := 61) rfl dX13_job_60 rfl ?_
        refine aw_getp (pc' := 64) (k9 := 1) (p := 309) dX13_job_61 rfl fX13_45 rfl rfl rfl (MO (A := A) hM) (M_listFirst (A := A) hM) ?_
        refine aw_bipush (pc' := 66) (by decide +kernel) dX13_job_64 rfl ?_
        refine aw_iload_n (pc' := 67) rfl dX13_job_66 rfl ?_
        refine aw_imul (pc' := 68) (by first | exact w32_id (by omega) (by omega) | rfl) dX13_job_67 rfl ?_
        refine aw_iald (pc' := 69) dX13_job_68 rfl (MA_listFirst (A := A) hM) (by omega) (by omega) ?_
        try simp only [hv_set, hv_cpy, hv_pset, hp_set, hp_cpy, Int.reduceEq, false_and, and_false, true_and, and_true, if_false, if_true, reduceIte]
        refine aw_iast (pc' := 70) dX13_job_69 rfl (MA_jobPipe (A := A) hM) (by omega) (by omega) ?_
        refine aw_aload_n (pc' := 71) rfl dX13_job_70 rfl ?_
        refine aw_getp (pc' := 74) (k9 := 45) (p := 336) dX13_job_71 rfl fX13_132 rfl rfl rfl (MO (A := A) hM) (M_jobGoes (A := A) hM) ?_
        refine aw_iload_n (pc' := 75) rfl dX13_job_74 rfl ?_
        refine aw_iconst (pc' := 76) (by decide) dX13_job_75 rfl ?_
        refine aw_zast (pc' := 77) dX13_job_76 rfl (MA_jobGoes (A := A) hM) (by omega) (by omega) (by omega) ?_
        refine aw_aload_n (pc' := 78) rfl dX13_job_77 rfl ?_
        refine aw_getp (pc' := 81) (k9 := 46) (p := 337) dX13_job_78 rfl fX13_135 rfl rfl rfl (MO (A := A) hM) (M_jobStatus (A := A) hM) ?_
        refine aw_iload_n (pc' := 82) rfl dX13_job_81 rfl ?_
        refine aw_iconst (pc' := 83) (by decide) dX13_job_82 rfl ?_
        refine aw_iast (pc' := 84) dX13_job_83 rfl (MA_jobStatus (A := A) hM) (by omega) (by omega) ?_
        refine aw_iload_n (pc' := 85) rfl dX13_job_84 rfl ?_
        refine AW.ret (some (vi _)) dX13_job_85 trivial ?_
        exact hO (by omega) (by omega) 1 (by omega) (by omega) (fun i g1 g2 => by first | omega | (rcases (by omega : i = 0 ∨ i = 1 ∨ i = 2) with rfl | rfl | rfl <;> omega)) (by omega)
      · refine aw_iinc (y := 2) (pc' := 29) (lv' := [_, _, _]) dX13_job_26 rfl rfl (by decide) (by decide) rfl ?_
        refine aw_goto (pc' := 12) dX13_job_29 (by decide) ?_
        refine aw_iload_n (pc' := 13) rfl dX13_job_12 rfl ?_
        refine aw_iconst (pc' := 14) (by decide) dX13_job_13 rfl ?_
        refine aw_icmp_ge (pt := 32) (pf := 17) dX13_job_14 (by decide) rfl (fun c_14 => absurd c_14 (by decide)) (fun _ => ?_)
        refine aw_aload_n (pc' := 18) rfl dX13_job_17 rfl ?_
        refine aw_getp (pc' := 21) (k9 := 42) (p := 333) dX13_job_18 rfl fX13_123 rfl rfl rfl (MO (A := A) hM) (M_jobLine (A := A) hM) ?_
        refine aw_iload_n (pc' := 22) rfl dX13_job_21 rfl ?_
        refine aw_iald (pc' := 23) dX13_job_22 rfl (MA_jobLine (A := A) hM) (by omega) (by omega) ?_
        refine aw_if_lt (pt := 32) (pf := 26) dX13_job_23 (by decide) rfl (fun c_23 => ?_) (fun c_23 => ?_)
        · refine aw_iload_n (pc' := 33) rfl dX13_job_32 rfl ?_
          refine aw_iconst (pc' := 34) (by decide) dX13_job_33 rfl ?_
          refine aw_icmp_ne (pt := 40) (pf := 37) dX13_job_34 (by decide) rfl (fun _ => ?_) (fun c_34 => absurd (by decide) c_34)
          refine aw_aload_n (pc' := 41) rfl dX13_job_40 rfl ?_
          refine aw_getp (pc' := 44) (k9 := 42) (p := 333) dX13_job_41 rfl fX13_123 rfl rfl rfl (MO (A := A) hM) (M_jobLine (A := A) hM) ?_
          refine aw_iload_n (pc' := 45) rfl dX13_job_44 rfl ?_
          refine aw_iload_n (pc' := 46) rfl dX13_job_45 rfl ?_
          refine aw_iast (pc' := 47) dX13_job_46 rfl (MA_jobLine (A := A) hM) (by omega) (by omega) ?_
          refine aw_aload_n (pc' := 48) rfl dX13_job_47 rfl ?_
          refine aw_getp (pc' := 51) (k9 := 43) (p := 334) dX13_job_48 rfl fX13_126 rfl rfl rfl (MO (A := A) hM) (M_jobFuel (A := A) hM) ?_
          refine aw_iload_n (pc' := 52) rfl dX13_job_51 rfl ?_
          refine aw_bipush (pc' := 54) (by decide +kernel) dX13_job_52 rfl ?_
          refine aw_iast (pc' := 55) dX13_job_54 rfl (MA_jobFuel (A := A) hM) (by omega) (by omega) ?_
          refine aw_aload_n (pc' := 56) rfl dX13_job_55 rfl ?_
          refine aw_getp (pc' := 59) (k9 := 44) (p := 335) dX13_job_56 rfl fX13_129 rfl rfl rfl (MO (A := A) hM) (M_jobPipe (A := A) hM) ?_
          refine aw_iload_n (pc' := 60) rfl dX13_job_59 rfl ?_
          refine aw_aload_n (pc' := 61) rfl dX13_job_60 rfl ?_
          refine aw_getp (pc' := 64) (k9 := 1) (p := 309) dX13_job_61 rfl fX13_45 rfl rfl rfl (MO (A := A) hM) (M_listFirst (A := A) hM) ?_
          refine aw_bipush (pc' := 66) (by decide +kernel) dX13_job_64 rfl ?_
          refine aw_iload_n (pc' := 67) rfl dX13_job_66 rfl ?_
          refine aw_imul (pc' := 68) (by first | exact w32_id (by omega) (by omega) | rfl) dX13_job_67 rfl ?_
          refine aw_iald (pc' := 69) dX13_job_68 rfl (MA_listFirst (A := A) hM) (by omega) (by omega) ?_
          try simp only [hv_set, hv_cpy, hv_pset, hp_set, hp_cpy, Int.reduceEq, false_and, and_false, true_and, and_true, if_false, if_true, reduceIte]
          refine aw_iast (pc' := 70) dX13_job_69 rfl (MA_jobPipe (A := A) hM) (by omega) (by omega) ?_
          refine aw_aload_n (pc' := 71) rfl dX13_job_70 rfl ?_
          refine aw_getp (pc' := 74) (k9 := 45) (p := 336) dX13_job_71 rfl fX13_132 rfl rfl rfl (MO (A := A) hM) (M_jobGoes (A := A) hM) ?_
          refine aw_iload_n (pc' := 75) rfl dX13_job_74 rfl ?_
          refine aw_iconst (pc' := 76) (by decide) dX13_job_75 rfl ?_
          refine aw_zast (pc' := 77) dX13_job_76 rfl (MA_jobGoes (A := A) hM) (by omega) (by omega) (by omega) ?_
          refine aw_aload_n (pc' := 78) rfl dX13_job_77 rfl ?_
          refine aw_getp (pc' := 81) (k9 := 46) (p := 337) dX13_job_78 rfl fX13_135 rfl rfl rfl (MO (A := A) hM) (M_jobStatus (A := A) hM) ?_
          refine aw_iload_n (pc' := 82) rfl dX13_job_81 rfl ?_
          refine aw_iconst (pc' := 83) (by decide) dX13_job_82 rfl ?_
          refine aw_iast (pc' := 84) dX13_job_83 rfl (MA_jobStatus (A := A) hM) (by omega) (by omega) ?_
          refine aw_iload_n (pc' := 85) rfl dX13_job_84 rfl ?_
          refine AW.ret (some (vi _)) dX13_job_85 trivial ?_
          exact hO (by omega) (by omega) 2 (by omega) (by omega) (fun i g1 g2 => by first | omega | (rcases (by omega : i = 0 ∨ i = 1 ∨ i = 2) with rfl | rfl | rfl <;> omega)) (by omega)
        · refine aw_iinc (y := 3) (pc' := 29) (lv' := [_, _, _]) dX13_job_26 rfl rfl (by decide) (by decide) rfl ?_
          refine aw_goto (pc' := 12) dX13_job_29 (by decide) ?_
          refine aw_iload_n (pc' := 13) rfl dX13_job_12 rfl ?_
          refine aw_iconst (pc' := 14) (by decide) dX13_job_13 rfl ?_
          refine aw_icmp_ge (pt := 32) (pf := 17) dX13_job_14 (by decide) rfl (fun c_14 => absurd c_14 (by decide)) (fun _ => ?_)
          refine aw_aload_n (pc' := 18) rfl dX13_job_17 rfl ?_
          refine aw_getp (pc' := 21) (k9 := 42) (p := 333) dX13_job_18 rfl fX13_123 rfl rfl rfl (MO (A := A) hM) (M_jobLine (A := A) hM) ?_
          refine aw_iload_n (pc' := 22) rfl dX13_job_21 rfl ?_
          refine aw_iald (pc' := 23) dX13_job_22 rfl (MA_jobLine (A := A) hM) (by omega) (by omega) ?_
          refine aw_if_lt (pt := 32) (pf := 26) dX13_job_23 (by decide) rfl (fun c_23 => ?_) (fun c_23 => ?_)
          · refine aw_iload_n (pc' := 33) rfl dX13_job_32 rfl ?_
            refine aw_iconst (pc' := 34) (by decide) dX13_job_33 rfl ?_
            refine aw_icmp_ne (pt := 40) (pf := 37) dX13_job_34 (by decide) rfl (fun _ => ?_) (fun c_34 => absurd (by decide) c_34)
            refine aw_aload_n (pc' := 41) rfl dX13_job_40 rfl ?_
            refine aw_getp (pc' := 44) (k9 := 42) (p := 333) dX13_job_41 rfl fX13_123 rfl rfl rfl (MO (A := A) hM) (M_jobLine (A := A) hM) ?_
            refine aw_iload_n (pc' := 45) rfl dX13_job_44 rfl ?_
            refine aw_iload_n (pc' := 46) rfl dX13_job_45 rfl ?_
            refine aw_iast (pc' := 47) dX13_job_46 rfl (MA_jobLine (A := A) hM) (by omega) (by omega) ?_
            refine aw_aload_n (pc' := 48) rfl dX13_job_47 rfl ?_
            refine aw_getp (pc' := 51) (k9 := 43) (p := 334) dX13_job_48 rfl fX13_126 rfl rfl rfl (MO (A := A) hM) (M_jobFuel (A := A) hM) ?_
            refine aw_iload_n (pc' := 52) rfl dX13_job_51 rfl ?_
            refine aw_bipush (pc' := 54) (by decide +kernel) dX13_job_52 rfl ?_
            refine aw_iast (pc' := 55) dX13_job_54 rfl (MA_jobFuel (A := A) hM) (by omega) (by omega) ?_
            refine aw_aload_n (pc' := 56) rfl dX13_job_55 rfl ?_
            refine aw_getp (pc' := 59) (k9 := 44) (p := 335) dX13_job_56 rfl fX13_129 rfl rfl rfl (MO (A := A) hM) (M_jobPipe (A := A) hM) ?_
            refine aw_iload_n (pc' := 60) rfl dX13_job_59 rfl ?_
            refine aw_aload_n (pc' := 61) rfl dX13_job_60 rfl ?_
            refine aw_getp (pc' := 64) (k9 := 1) (p := 309) dX13_job_61 rfl fX13_45 rfl rfl rfl (MO (A := A) hM) (M_listFirst (A := A) hM) ?_
            refine aw_bipush (pc' := 66) (by decide +kernel) dX13_job_64 rfl ?_
            refine aw_iload_n (pc' := 67) rfl dX13_job_66 rfl ?_
            refine aw_imul (pc' := 68) (by first | exact w32_id (by omega) (by omega) | rfl) dX13_job_67 rfl ?_
            refine aw_iald (pc' := 69) dX13_job_68 rfl (MA_listFirst (A := A) hM) (by omega) (by omega) ?_
            try simp only [hv_set, hv_cpy, hv_pset, hp_set, hp_cpy, Int.reduceEq, false_and, and_false, true_and, and_true, if_false, if_true, reduceIte]
            refine aw_iast (pc' := 70) dX13_job_69 rfl (MA_jobPipe (A := A) hM) (by omega) (by omega) ?_
            refine aw_aload_n (pc' := 71) rfl dX13_job_70 rfl ?_
            refine aw_getp (pc' := 74) (k9 := 45) (p := 336) dX13_job_71 rfl fX13_132 rfl rfl rfl (MO (A := A) hM) (M_jobGoes (A := A) hM) ?_
            refine aw_iload_n (pc' := 75) rfl dX13_job_74 rfl ?_
            refine aw_iconst (pc' := 76) (by decide) dX13_job_75 rfl ?_
            refine aw_zast (pc' := 77) dX13_job_76 rfl (MA_jobGoes (A := A) hM) (by omega) (by omega) (by omega) ?_
            refine aw_aload_n (pc' := 78) rfl dX13_job_77 rfl ?_
            refine aw_getp (pc' := 81) (k9 := 46) (p := 337) dX13_job_78 rfl fX13_135 rfl rfl rfl (MO (A := A) hM) (M_jobStatus (A := A) hM) ?_
            refine aw_iload_n (pc' := 82) rfl dX13_job_81 rfl ?_
            refine aw_iconst (pc' := 83) (by decide) dX13_job_82 rfl ?_
            refine aw_iast (pc' := 84) dX13_job_83 rfl (MA_jobStatus (A := A) hM) (by omega) (by omega) ?_
            refine aw_iload_n (pc' := 85) rfl dX13_job_84 rfl ?_
            refine AW.ret (some (vi _)) dX13_job_85 trivial ?_
            exact hO (by omega) (by omega) 3 (by omega) (by omega) (fun i g1 g2 => by first | omega | (rcases (by omega : i = 0 ∨ i = 1 ∨ i = 2) with rfl | rfl | rfl <;> omega)) (by omega)
          · refine aw_iinc (y := 4) (pc' := 29) (lv' := [_, _, _]) dX13_job_26 rfl rfl (by decide) (by decide) rfl ?_
            refine aw_goto (pc' := 12) dX13_job_29 (by decide) ?_
            refine aw_iload_n (pc' := 13) rfl dX13_job_12 rfl ?_
            refine aw_iconst (pc' := 14) (by decide) dX13_job_13 rfl ?_
            refine aw_icmp_ge (pt := 32) (pf := 17) dX13_job_14 (by decide) rfl (fun _ => ?_) (fun c_14 => absurd (by decide) c_14)
            refine aw_iload_n (pc' := 33) rfl dX13_job_32 rfl ?_
            refine aw_iconst (pc' := 34) (by decide) dX13_job_33 rfl ?_
            refine aw_icmp_ne (pt := 40) (pf := 37) dX13_job_34 (by decide) rfl (fun c_34 => absurd c_34 (by decide)) (fun _ => ?_)
            refine aw_bipush (pc' := 39) (by decide +kernel) dX13_job_37 rfl ?_
            refine AW.ret (some (vi _)) dX13_job_39 trivial ?_
            exact hF (by omega) (by omega) (fun i g1 g2 => by rcases (by omega : i = 0 ∨ i = 1 ∨ i = 2 ∨ i = 3) with rfl | rfl | rfl | rfl <;> omega)
  · refine aw_if_ne (pt := 10) (pf := 8) dX13_job_5 (by decide) rfl (fun c_5 => absurd c_5 (by decide)) (fun _ => ?_)
    refine aw_iconst (pc' := 9) (by decide) dX13_job_8 rfl ?_
    refine AW.ret (some (vi _)) dX13_job_9 trivial ?_
    exact hN (by omega)
