/-! ===== the reference: methods with loops ===== -/
theorem hx_eq {A B : AHp} (h2 : A.2 = B.2) (h : ∀ o k, hv A o k = hv B o k) : A = B := by
  have h1 : A.1 = B.1 := by funext o k; exact h o k
  exact Prod.ext h1 h2
theorem hcpy_0 (A : AHp) (f a t b : Int) : hcpy A f a t b 0 = A := by
  refine hx_eq rfl (fun o k => ?_)
  rw [hv_cpy, if_neg (by omega)]
theorem hcpy_s (A : AHp) {f t n : Int} (h0 : 0 ≤ n) : hset (hcpy A f 0 t 0 n) t n (hv A f n) = hcpy A f 0 t 0 (n + 1) := by
  refine hx_eq rfl (fun o k => ?_)
  rw [hv_set, hv_cpy, hv_cpy]
  by_cases e : o = t ∧ k = n
  · rw [if_pos e, if_pos (by omega)]
    congr 1
    omega
  · rw [if_neg e]
    by_cases e2 : o = t ∧ 0 ≤ k ∧ k < 0 + n
    · rw [if_pos e2, if_pos (by omega)]
    · rw [if_neg e2, if_neg (by omega)]
/-- forward: one more place at the end -/
theorem hcpy_f (A : AHp) {f a t b n : Int} (h0 : 0 ≤ n) : hset (hcpy A f a t b n) t (b + n) (hv A f (a + n)) = hcpy A f a t b (n + 1) := by
  refine hx_eq rfl (fun o k => ?_)
  rw [hv_set, hv_cpy, hv_cpy]
  by_cases e : o = t ∧ k = b + n
  · rw [if_pos e, if_pos (by omega)]
    congr 1
    omega
  · rw [if_neg e]
    by_cases e2 : o = t ∧ b ≤ k ∧ k < b + n
    · rw [if_pos e2, if_pos (by omega)]
    · rw [if_neg e2, if_neg (by omega)]
/-- backward: one more place ahead -/
theorem hcpy_b (A : AHp) {f a t b n : Int} (h0 : 0 ≤ n) : hset (hcpy A f a t b n) t (b - 1) (hv A f (a - 1)) = hcpy A f (a - 1) t (b - 1) (n + 1) := by
  refine hx_eq rfl (fun o k => ?_)
  rw [hv_set, hv_cpy, hv_cpy]
  by_cases e : o = t ∧ k = b - 1
  · rw [if_pos e, if_pos (by omega)]
    congr 1
    omega
  · rw [if_neg e]
    by_cases e2 : o = t ∧ b ≤ k ∧ k < b + n
    · rw [if_pos e2, if_pos (by omega)]
      congr 1
      omega
    · rw [if_neg e2, if_neg (by omega)]
/-- places lo .. lo + n - 1 of o become x -/
def hfill (A : AHp) (o lo n x : Int) : AHp := (fun o' k' => if o' = o ∧ lo ≤ k' ∧ k' < lo + n then x else hv A o' k', A.2)
theorem hv_fill (A : AHp) (o lo n x o' k' : Int) : hv (hfill A o lo n x) o' k' = if o' = o ∧ lo ≤ k' ∧ k' < lo + n then x else hv A o' k' := rfl
theorem hfill_0 (A : AHp) (o lo x : Int) : hfill A o lo 0 x = A := by
  refine hx_eq rfl (fun o k => ?_)
  rw [hv_fill, if_neg (by omega)]
theorem hfill_s (A : AHp) {o lo n x : Int} (h0 : 0 ≤ n) : hset (hfill A o lo n x) o (lo + n) x = hfill A o lo (n + 1) x := by
  refine hx_eq rfl (fun o' k => ?_)
  rw [hv_set, hv_fill, hv_fill]
  by_cases e : o' = o ∧ k = lo + n
  · rw [if_pos e, if_pos (by omega)]
  · rw [if_neg e]
    by_cases e2 : o' = o ∧ lo ≤ k ∧ k < lo + n
    · rw [if_pos e2, if_pos (by omega)]
    · rw [if_neg e2, if_neg (by omega)]

set_option maxRecDepth 20000 in
theorem l_copies {d : Nat} {A : AHp} {f t n : Int} {Q : Option AV → AHp → Prop} : ∀ (m : Nat) (k : Int), (n - k).toNat = m → 0 ≤ k → k ≤ n → isA A f 20 n → isA A t 20 n → f ≠ t → n ≤ 100000 → Q none (hcpy A f 0 t 0 n) → AW d mX13_copies 2 [some (vr f), some (vr t), some (vi k)] [] (hcpy A f 0 t 0 k) Q := by
  intro m
  induction m using Nat.strongRecOn with
  | _ m ih =>
    intro k hm hk0 hkn hf ht hne hn9 hQ
    refine aw_iload_n (pc' := 3) rfl dX13_copies_2 rfl ?_
    refine aw_aload_n (pc' := 4) rfl dX13_copies_3 rfl ?_
    refine aw_alen (pc' := 5) dX13_copies_4 rfl hf ?_
    refine aw_icmp_ge (pt := 20) (pf := 8) dX13_copies_5 (by decide) rfl (fun c_5 => ?_) (fun c_5 => ?_)
    · refine AW.ret none dX13_copies_20 trivial ?_
      rw [show k = n by omega]
      exact hQ
    · refine aw_aload_n (pc' := 9) rfl dX13_copies_8 rfl ?_
      refine aw_iload_n (pc' := 10) rfl dX13_copies_9 rfl ?_
      refine aw_aload_n (pc' := 11) rfl dX13_copies_10 rfl ?_
      refine aw_iload_n (pc' := 12) rfl dX13_copies_11 rfl ?_
      refine aw_iald (pc' := 13) dX13_copies_12 rfl hf (by omega) (by omega) ?_
      rw [hv_cpy, if_neg (fun q => hne q.1)]
      refine aw_iast (pc' := 14) dX13_copies_13 rfl ht (by omega) (by omega) ?_
      refine aw_iinc (pc' := 17) (lv' := [_, _, _]) dX13_copies_14 rfl rfl (by decide) (by first | exact w32_id (by omega) (by omega) | rfl) rfl ?_
      refine aw_goto (pc' := 2) dX13_copies_17 (by decide) ?_
      rw [hcpy_s A hk0]
      exact ih _ (by omega) (k + 1) rfl (by omega) (by omega) hf ht hne hn9 hQ

set_option maxRecDepth 20000 in
theorem c_copies {d : Nat} {f t n : Int} {A : AHp} {Q : Option AV → AHp → Prop} (hd : 0 ≤ d) (hf : isA A f 20 n) (ht : isA A t 20 n) (hne : f ≠ t) (hn0 : 0 ≤ n) (hn9 : n ≤ 100000) (hQ : Q none (hcpy A f 0 t 0 n)) : CALL d mX13_copies [vr f, vr t] A Q := by
  refine CALL.of (by decide) (Nat.le_of_ble_eq_true rfl) ?_
  change AW d mX13_copies 0 [some (vr f), some (vr t), none] [] A Q
  refine aw_iconst (pc' := 1) (by decide) dX13_copies_0 rfl ?_
  refine aw_istore_n (pc' := 2) (lv' := [_, _, _]) dX13_copies_1 rfl (by decide) rfl ?_
  rw [← hcpy_0 A f 0 t 0]
  exact l_copies _ 0 rfl (by omega) hn0 hf ht hne hn9 hQ

set_option maxRecDepth 20000 in
theorem l_looked {d : Nat} {A : AHp} {Q : Option AV → AHp → Prop} : ∀ (m : Nat) (k : Int), (hv A 307 54 - k).toNat = m → 0 ≤ k → k ≤ hv A 307 54 → MLAY A → hv A 307 54 ≤ 8 → (∀ j, 0 ≤ j → j < hv A 307 54 → 0 ≤ hv A 342 (2 * j) ∧ hv A 342 (2 * j) ≤ 4) → (∀ j, 0 ≤ j → j < k → hv A 320 (hv A 342 (2 * j)) = hv A 342 (2 * j + 1)) → (∀ k, 0 ≤ k → k < hv A 307 54 → (∀ j, 0 ≤ j → j < k → hv A 320 (hv A 342 (2 * j)) = hv A 342 (2 * j + 1)) → hv A 320 (hv A 342 (2 * k)) ≠ hv A 342 (2 * k + 1) → Q (some (vi k)) A) → ((∀ j, 0 ≤ j → j < hv A 307 54 → hv A 320 (hv A 342 (2 * j)) = hv A 342 (2 * j + 1)) → Q (some (vi (-5))) A) → AW d mX13_looked 2 [some (vr 307), some (vi k)] [] A Q := by
  intro m
  induction m using Nat.strongRecOn with
  | _ m ih =>
    intro k hm hk0 hkn hM h8 hb hall hK hE
    refine aw_iload_n (pc' := 3) rfl dX13_looked_2 rfl ?_
    refine aw_aload_n (pc' := 4) rfl dX13_looked_3 rfl ?_
    refine aw_geti (pc' := 7) (k9 := 54) dX13_looked_4 rfl fX13_386 rfl (by decide) rfl (MO (A := A) hM) ?_
    refine aw_icmp_ge (pt := 44) (pf := 10) dX13_looked_7 (by decide) rfl (fun c_7 => ?_) (fun c_7 => ?_)
    · refine aw_bipush (pc' := 46) (by decide +kernel) dX13_looked_44 rfl ?_
      refine AW.ret (some (vi _)) dX13_looked_46 trivial ?_
      exact hE (fun j g1 g2 => hall j g1 (by omega))
    · have hbk := hb k (by omega) (by omega)
      refine aw_aload_n (pc' := 11) rfl dX13_looked_10 rfl ?_
      refine aw_getp (pc' := 14) (k9 := 13) (p := 320) dX13_looked_11 rfl fX13_79 rfl rfl rfl (MO (A := A) hM) (M_values (A := A) hM) ?_
      refine aw_aload_n (pc' := 15) rfl dX13_looked_14 rfl ?_
      refine aw_getp (pc' := 18) (k9 := 53) (p := 342) dX13_looked_15 rfl fX13_150 rfl rfl rfl (MO (A := A) hM) (M_books (A := A) hM) ?_
      refine aw_iconst (pc' := 19) (by decide) dX13_looked_18 rfl ?_
      refine aw_iload_n (pc' := 20) rfl dX13_looked_19 rfl ?_
      refine aw_imul (pc' := 21) (by first | exact w32_id (by omega) (by omega) | rfl) dX13_looked_20 rfl ?_
      refine aw_iald (pc' := 22) dX13_looked_21 rfl (MA_books (A := A) hM) (by omega) (by omega) ?_
      refine aw_iald (pc' := 23) dX13_looked_22 rfl (MA_values (A := A) hM) (by omega) (by omega) ?_
      refine aw_aload_n (pc' := 24) rfl dX13_looked_23 rfl ?_
      refine aw_getp (pc' := 27) (k9 := 53) (p := 342) dX13_looked_24 rfl fX13_150 rfl rfl rfl (MO (A := A) hM) (M_books (A := A) hM) ?_
      refine aw_iconst (pc' := 28) (by decide) dX13_looked_27 rfl ?_
      refine aw_iload_n (pc' := 29) rfl dX13_looked_28 rfl ?_
      refine aw_imul (pc' := 30) (by first | exact w32_id (by omega) (by omega) | rfl) dX13_looked_29 rfl ?_
      refine aw_iconst (pc' := 31) (by decide) dX13_looked_30 rfl ?_
      refine aw_iadd (pc' := 32) (by first | exact w32_id (by omega) (by omega) | rfl) dX13_looked_31 rfl ?_
      refine aw_iald (pc' := 33) dX13_looked_32 rfl (MA_books (A := A) hM) (by omega) (by omega) ?_
      refine aw_icmp_eq (pt := 38) (pf := 36) dX13_looked_33 (by decide) rfl (fun c_33 => ?_) (fun c_33 => ?_)
      · refine aw_iinc (pc' := 41) (lv' := [_, _]) dX13_looked_38 rfl rfl (by decide) (by first | exact w32_id (by omega) (by omega) | rfl) rfl ?_
        refine aw_goto (pc' := 2) dX13_looked_41 (by decide) ?_
        exact ih _ (by omega) (k + 1) rfl (by omega) (by omega) hM h8 hb (fun j g1 g2 => by by_cases e : j = k; subst e; exact c_33; exact hall j g1 (by omega)) hK hE
      · refine aw_iload_n (pc' := 37) rfl dX13_looked_36 rfl ?_
        refine AW.ret (some (vi _)) dX13_looked_37 trivial ?_
        exact hK k (by omega) (by omega) hall c_33

set_option maxRecDepth 20000 in
theorem c_looked {d : Nat}  {A : AHp} {Q : Option AV → AHp → Prop} (hd : 0 ≤ d) (hM : MLAY A) (h8 : 0 ≤ hv A 307 54 ∧ hv A 307 54 ≤ 8) (hb : ∀ j, 0 ≤ j → j < hv A 307 54 → 0 ≤ hv A 342 (2 * j) ∧ hv A 342 (2 * j) ≤ 4)
  (hK : ∀ k, 0 ≤ k → k < hv A 307 54 → (∀ j, 0 ≤ j → j < k → hv A 320 (hv A 342 (2 * j)) = hv A 342 (2 * j + 1)) → hv A 320 (hv A 342 (2 * k)) ≠ hv A 342 (2 * k + 1) → Q (some (vi k)) A) (hE : (∀ j, 0 ≤ j → j < hv A 307 54 → hv A 320 (hv A 342 (2 * j)) = hv A 342 (2 * j + 1)) → Q (some (vi (-5))) A) : CALL d mX13_looked [vr 307] A Q := by
  refine CALL.of (by decide) (Nat.le_of_ble_eq_true rfl) ?_
  change AW d mX13_looked 0 [some (vr 307), none] [] A Q
  refine aw_iconst (pc' := 1) (by decide) dX13_looked_0 rfl ?_
  refine aw_istore_n (pc' := 2) (lv' := [_, _]) dX13_looked_1 rfl (by decide) rfl ?_
  exact l_looked _ 0 rfl (by omega) h8.1 hM h8.2 hb (fun j g1 g2 => by omega) hK hE
