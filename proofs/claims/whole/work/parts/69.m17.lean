/-! ===== the reference's reader: numbers, what a word takes ===== -/
/-- up to n digits -/
def digS : Nat → Sg → Int → Sg × Int
  | 0, s, v => (s, v)
  | n + 1, s, v => if 48 ≤ btS s (s 307 18) ∧ btS s (s 307 18) ≤ 57 then digS n (advS s) (10 * v + btS s (s 307 18) - 48) else (s, v)
def putN (s : Sg) (st v : Int) : Sg := sset (sset s 317 (4 * st + s 316 st) v) 316 st (s 316 st + 1)
def numS (s : Sg) (st : Int) : Bool × Sg :=
  if btS (advS s) (s 307 18 + 1) = 36 then
    (if ¬ (97 ≤ btS (advS (advS s)) (s 307 18 + 2) ∧ btS (advS (advS s)) (s 307 18 + 2) ≤ 101) ∧ btS (advS (advS s)) (s 307 18 + 2) ≠ 112 then (false, stopS (advS (advS s)) (s 307 18 + 2))
     else (true, putN (advS (advS (advS s))) st (if btS (advS (advS s)) (s 307 18 + 2) = 112 then -6 else -1 - (btS (advS (advS s)) (s 307 18 + 2) - 97))))
  else if (digS 3 (advS s) 0).1 307 18 = s 307 18 + 1 then (false, stopS (digS 3 (advS s) 0).1 (s 307 18 + 1))
  else (true, putN (digS 3 (advS s) 0).1 st (digS 3 (advS s) 0).2)
theorem adv_o {s : Sg} {o k : Int} (h : o ≠ 307 ∨ k ≠ 18) : advS s o k = s o k := by
  unfold advS sset
  rw [if_neg (by omega)]
theorem adv_at {s : Sg} : advS s 307 18 = s 307 18 + 1 := sset_e
theorem adv_bt {s : Sg} {k : Int} : btS (advS s) k = btS s k := by
  unfold btS
  rw [adv_o (by omega), adv_o (by omega)]
theorem digS_o : ∀ {n : Nat} {s : Sg} {v o k : Int}, (o ≠ 307 ∨ k ≠ 18) → (digS n s v).1 o k = s o k
  | 0, s, v, o, k, h => rfl
  | n + 1, s, v, o, k, h => by
    unfold digS
    split
    · rw [digS_o h, adv_o h]
    · rfl
theorem digS_at : ∀ {n : Nat} {s : Sg} {v : Int}, s 307 18 ≤ (digS n s v).1 307 18 ∧ (digS n s v).1 307 18 ≤ s 307 18 + n
  | 0, s, v => by simp [digS]
  | n + 1, s, v => by
    unfold digS
    split
    · have := digS_at (n := n) (s := advS s) (v := 10 * v + btS s (s 307 18) - 48)
      rw [adv_at] at this
      omega
    · dsimp only
      omega
theorem digS_bt {n : Nat} {s : Sg} {v k : Int} : btS (digS n s v).1 k = btS s k := by
  unfold btS
  rw [digS_o (by omega), digS_o (by omega)]