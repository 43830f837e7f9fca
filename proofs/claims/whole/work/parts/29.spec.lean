/-! ===== runs, told purely on the reference's slots ===== -/
def Sg : Type := Int → Int → Int
def sset (s : Sg) (o k v : Int) : Sg := fun o' k' => if o' = o ∧ k' = k then v else s o' k'
/-- heap A with s as the reference's part -/
def lift (A : AHp) (s : Sg) : AHp := (fun o k => if 307 ≤ o ∧ o < 350 then s o k else hv A o k, A.2)
theorem hv_lift (A : AHp) (s : Sg) (o k : Int) : hv (lift A s) o k = if 307 ≤ o ∧ o < 350 then s o k else hv A o k := rfl
theorem lift_hv (A : AHp) : lift A (hv A) = A := by
  refine hx_eq rfl (fun o k => ?_)
  show (if 307 ≤ o ∧ o < 350 then hv A o k else hv A o k) = hv A o k
  split <;> rfl
theorem lift_set {A : AHp} {s : Sg} {o k v : Int} (h : 307 ≤ o ∧ o < 350) : hset (lift A s) o k v = lift A (sset s o k v) := by
  refine hx_eq rfl (fun o' k' => ?_)
  rw [hv_set, hv_lift, hv_lift]
  unfold sset
  by_cases e : o' = o ∧ k' = k
  · rw [if_pos e, if_pos (by omega), if_pos e]
  · rw [if_neg e]
    split <;> rfl
theorem lift_setc {A : AHp} {s : Sg} {o k v : Int} (h : ¬ (307 ≤ o ∧ o < 350)) : hset (lift A s) o k v = lift (hset A o k v) s := by
  refine hx_eq rfl (fun o' k' => ?_)
  rw [hv_set, hv_lift, hv_lift, hv_set]
  by_cases e : o' = o ∧ k' = k
  · rw [if_pos e, if_neg (by omega), if_pos e]
  · rw [if_neg e, if_neg e]
theorem hv_in {A : AHp} {s : Sg} {o k : Int} (h : 307 ≤ o ∧ o < 350) : hv (lift A s) o k = s o k := by rw [hv_lift, if_pos h]
theorem hv_out {A : AHp} {s : Sg} {o k : Int} (h : ¬ (307 ≤ o ∧ o < 350)) : hv (lift A s) o k = hv A o k := by rw [hv_lift, if_neg h]
def stAt (s : Sg) (p k : Int) : Int := w32 (s 312 p + k)
def worthS (s : Sg) (par x : Int) : Int := if x = -6 then par else if x < 0 then s 320 (-1 - x) else x
/-- the first n numbers of a stage worked out -/
def workS (s : Sg) (fr k st par : Int) : Nat → Sg
  | 0 => s
  | n + 1 => sset (workS s fr k st par n) 325 (24 * fr + 4 * k + n) (worthS (workS s fr k st par n) par (workS s fr k st par n 317 (4 * st + n)))
def status0 (s : Sg) (fr k st : Int) : Int :=
  if s 314 st = 10 then s 325 (24 * fr + 4 * k) else if s 314 st = 4 ∧ s 325 (24 * fr + 4 * k) = 0 then 2 else if s 314 st = 8 then 1 else 0
def clearS (s : Sg) (fr k : Int) : Sg := sset (sset s 326 (6 * fr + k) 0) 327 (6 * fr + k) 0
def oneS (s : Sg) (fr k st par : Int) : Sg :=
  let t := clearS (workS s fr k st par (s 316 st).toNat) fr k
  sset t 328 (6 * fr + k) (status0 t fr k st)
def stagesS (s : Sg) (fr p par : Int) : Nat → Sg
  | 0 => s
  | n + 1 => oneS (stagesS s fr p par n) fr n (stAt (stagesS s fr p par n) p n) par
def beginsS (s : Sg) (fr p par : Int) : Sg :=
  let t := sset (sset (sset s 323 fr p) 324 fr par) 330 fr 0
  stagesS t fr p par (t 313 p).toNat
def writesS (s : Sg) (at9 v : Int) : Sg :=
  if at9 < 0 then (if s 307 36 < 60 then sset (sset s 331 (s 307 36) v) 307 36 (s 307 36 + 1) else s)
  else (if s 330 at9 < 60 then sset (sset s 329 (60 * at9 + s 330 at9) v) 330 at9 (s 330 at9 + 1) else s)
/-- what the tables say of a pipe -/
def PTB (s : Sg) (p : Int) : Prop := 0 ≤ p ∧ p < 480 ∧ 1 ≤ s 313 p ∧ s 313 p ≤ 6 ∧ 0 ≤ s 312 p ∧ s 312 p + s 313 p ≤ 480 ∧
  ∀ k, 0 ≤ k → k < s 313 p → 0 ≤ s 316 (s 312 p + k) ∧ s 316 (s 312 p + k) ≤ 4 ∧ 0 ≤ s 314 (s 312 p + k) ∧ s 314 (s 312 p + k) ≤ 14 ∧ ∀ i, 0 ≤ i → i < s 316 (s 312 p + k) → -6 ≤ s 317 (4 * (s 312 p + k) + i)
/-- only where c holds: what a machine can do is told, all else is left to the proof that it holds -/
noncomputable def grd {α : Type} (c : Prop) (x : Option α) : Option α := @ite _ c (Classical.propDecidable c) x none
theorem grd_some {α : Type} {c : Prop} {x : Option α} {y : α} (h : grd c x = some y) : c ∧ x = some y := by
  unfold grd at h
  by_cases e : c
  · rw [if_pos e] at h; exact ⟨e, h⟩
  · rw [if_neg e] at h; exact absurd h (by simp)
theorem grd_ok {α : Type} {c : Prop} {x : Option α} (h : c) : grd c x = x := if_pos h
/-- what a stage hears of the one ahead -/
noncomputable def aheadS (nx : Sg → Int → Int → Option (Int × Sg)) (s : Sg) (fr k : Int) : Option (Int × Sg) :=
  (if k = 0 then some ((-9223372036854775808), s) else nx s fr (k - 1)).bind fun r => some (r.1, sset r.2 307 34 (w32 (r.2 307 34 + if r.1 = (-9223372036854775808) then 0 else 1)))
noncomputable def keepsS (nx : Sg → Int → Int → Option (Int × Sg)) (fr k n : Int) : Nat → Sg → Option (Int × Sg)
  | 0, _ => none
  | m + 1, s => (aheadS nx s fr k).bind fun r => if r.1 = (-9223372036854775808) ∨ (if n = 0 then r.1 = 0 else r.1.tmod n = 0) then some r else keepsS nx fr k n m r.2
/-- what comes from ahead, together -/
noncomputable def sumsS (nx : Sg → Int → Int → Option (Int × Sg)) (fr k : Int) : Nat → Int → Sg → Option (Int × Sg)
  | 0, _, _ => none
  | m + 1, a, s => (aheadS nx s fr k).bind fun r => if r.1 = (-9223372036854775808) then some (a, r.2) else sumsS nx fr k m (w32 (a + w32 r.1)) r.2
/-- the last that came, if any -/
noncomputable def setsS (nx : Sg → Int → Int → Option (Int × Sg)) (fr k : Int) : Nat → Option Int → Sg → Option (Option Int × Sg)
  | 0, _, _ => none
  | m + 1, a, s => (aheadS nx s fr k).bind fun r => if r.1 = (-9223372036854775808) then some (a, r.2) else setsS nx fr k m (some (w32 r.1)) r.2
/-- what a pipe's last stage tells is written -/
noncomputable def flowS (nx : Sg → Int → Int → Option (Int × Sg)) (fr at9 k : Int) : Nat → Sg → Option Sg
  | 0, _ => none
  | m + 1, s => (nx s fr k).bind fun r => if r.1 = (-9223372036854775808) then some r.2 else grd ((0 ≤ r.2 307 36 ∧ r.2 307 36 ≤ 60) ∧ at9 < 28 ∧ (0 ≤ at9 → 0 ≤ r.2 330 at9 ∧ r.2 330 at9 ≤ 60)) (flowS nx fr at9 k m (writesS r.2 at9 (w32 r.1)))
noncomputable def pipeS (nx : Sg → Int → Int → Option (Int × Sg)) (p par fr at9 : Int) (s : Sg) : Option (Int × Sg) :=
  let t := beginsS (sset s 307 32 (w32 (s 307 32 - 1))) fr p par
  grd ((0 ≤ fr ∧ fr < 28) ∧ PTB s p) <| (flowS nx fr at9 (t 313 p - 1) 200 t).bind fun u => some (u 328 (6 * fr + (t 313 p - 1)), u)
def onS (j st : Int) : Bool := decide (j = 59 ∨ (j = 38 ↔ st = 0))
noncomputable def listS (nx : Sg → Int → Int → Option (Int × Sg)) (par fr at9 : Int) : Nat → Int → Int → Sg → Option (Int × Sg)
  | 0, _, _, _ => none
  | m + 1, p, st, s => if p < 0 then some (st, s) else
      grd (p < 480) <| (if onS (s 311 p) st then (if s 307 32 = 0 then some (8, s) else pipeS nx p par fr at9 s) else some (st, s)).bind fun r => listS nx par fr at9 m (r.2 310 p) r.1 r.2
noncomputable def goesS (nx : Sg → Int → Int → Option (Int × Sg)) (l par fr at9 : Int) (s : Sg) : Option (Int × Sg) := grd (0 ≤ l ∧ l < 480) (listS nx par fr at9 200 (s 309 l) 0 s)
def childS (fr : Int) : Int := if fr < 24 then fr + 1 else 0
/-- the list of a first stage goes, if it didn't -/
noncomputable def innerS (nx : Sg → Int → Int → Option (Int × Sg)) (fr st n : Int) (s : Sg) : Option Sg :=
  if s 326 (6 * fr) ≠ 0 then some s else
  if s 314 st = 14 then (goesS nx (s 315 st) (s 324 fr) (childS fr) fr s).bind fun r => some (sset r.2 328 (6 * fr) r.1) else
  if s 321 (s 314 st - 11) < 0 then some (sset s 328 (6 * fr) 1) else
  if s 307 33 = 4 then some (sset s 328 (6 * fr) 9) else
  (goesS nx (60 * s 321 (s 314 st - 11)) n (childS fr) fr (sset s 307 33 (w32 (s 307 33 + 1)))).bind fun r =>
    let t := sset r.2 328 (6 * fr) r.1
    some (sset t 307 33 (w32 (t 307 33 - 1)))
noncomputable def withinS (nx : Sg → Int → Int → Option (Int × Sg)) (fr st n : Int) (s : Sg) : Option (Int × Sg) :=
  (innerS nx fr st n s).bind fun t =>
    let u := sset t 326 (6 * fr) (w32 (t 326 (6 * fr) + 1))
    grd ((0 ≤ t 326 (6 * fr) ∧ t 326 (6 * fr) ≤ 60) ∧ 0 ≤ t 330 fr ∧ t 330 fr ≤ 60) <| some (if u 326 (6 * fr) ≤ u 330 fr then u 329 (60 * fr + u 326 (6 * fr) - 1) else (-9223372036854775808), u)
def putS (z : Option Int) (t : Sg) (n fr k : Int) : Sg :=
  match z with
  | none => t
  | some v => sset (sset t 320 n v) 328 (6 * fr + k) 0
noncomputable def askedS (nx : Sg → Int → Int → Option (Int × Sg)) (fr k st n : Int) (s : Sg) : Option (Int × Sg) :=
  if s 314 st = 0 then
    let u := sset s 326 (6 * fr + k) (w32 (s 326 (6 * fr + k) + 1))
    grd (0 ≤ s 326 (6 * fr + k) ∧ s 326 (6 * fr + k) ≤ 4) <| some (if u 326 (6 * fr + k) ≤ u 316 st then u 325 (24 * fr + 4 * k + u 326 (6 * fr + k) - 1) else (-9223372036854775808), u)
  else if s 314 st = 1 then
    let u := sset s 326 (6 * fr + k) (w32 (s 326 (6 * fr + k) + 1))
    some (if u 326 (6 * fr + k) ≤ min n 99 then u 326 (6 * fr + k) else (-9223372036854775808), u)
  else if s 314 st = 2 ∨ s 314 st = 3 then
    (aheadS nx s fr k).bind fun r => some (if r.1 = (-9223372036854775808) then (-9223372036854775808) else if r.2 314 st = 2 then w32 (w32 r.1 + n) else w32 (w32 r.1 * n), r.2)
  else if s 314 st = 4 then
    (if n = 0 then some ((-9223372036854775808), s) else aheadS nx s fr k).bind fun r => some (if r.1 = (-9223372036854775808) then (-9223372036854775808) else r.1.tmod n, r.2)
  else if s 314 st = 5 then keepsS nx fr k n 200 s
  else if s 314 st = 6 then
    (if s 326 (6 * fr + k) < n then aheadS nx s fr k else some ((-9223372036854775808), s)).bind fun r => some (r.1, sset r.2 326 (6 * fr + k) (w32 (r.2 326 (6 * fr + k) + if r.1 = (-9223372036854775808) then 0 else 1)))
  else if s 314 st = 7 then
    (if s 326 (6 * fr + k) = 1 then some ((-9223372036854775808), s) else sumsS nx fr k 200 0 (sset s 326 (6 * fr + k) 1))
  else if s 314 st = 8 then
    grd (0 ≤ s 315 st ∧ s 315 st < 5) <| (setsS nx fr k 200 none s).bind fun r => some ((-9223372036854775808), putS r.1 r.2 (s 315 st) fr k)
  else if s 314 st = 9 ∨ s 314 st = 10 then some ((-9223372036854775808), s)
  else withinS nx fr st n s
noncomputable def nextS : Nat → Sg → Int → Int → Option (Int × Sg)
  | 0, _, _, _ => none
  | m + 1, s, fr, k => grd ((0 ≤ fr ∧ fr < 28) ∧ (0 ≤ k ∧ k < s 313 (s 323 fr)) ∧ PTB s (s 323 fr) ∧ (s 327 (6 * fr + k) = 0 ∨ s 327 (6 * fr + k) = 1)) <| if s 327 (6 * fr + k) ≠ 0 then some ((-9223372036854775808), s) else
      (askedS (nextS m) fr k (stAt s (s 323 fr) k) (s 325 (24 * fr + 4 * k)) s).bind fun r => some (r.1, sset r.2 327 (6 * fr + k) (if r.1 = (-9223372036854775808) then 1 else 0))
/-- a run of a line -/
noncomputable def runsS (n : Nat) (l : Int) (s : Sg) : Option Sg :=
  let s0 := sset (sset (sset (sset s 307 32 60) 307 33 0) 307 34 0) 307 36 0
  (goesS (nextS n) (60 * l) 0 0 (-1) s0).bind fun r =>
    let t := sset r.2 307 37 r.1
    if t 307 37 ≠ 0 ∧ 0 ≤ t 307 15 then (goesS (nextS n) (60 * t 307 15) 0 0 (-1) t).bind fun r2 => some r2.2 else some t
theorem sset_e {s : Sg} {o k v : Int} : sset s o k v o k = v := if_pos ⟨rfl, rfl⟩
theorem sset_1 {s : Sg} {o k v o' k' : Int} (h : o' ≠ o) : sset s o k v o' k' = s o' k' := if_neg (fun q => h q.1)
theorem sset_2 {s : Sg} {o k v o' k' : Int} (h : k' ≠ k) : sset s o k v o' k' = s o' k' := if_neg (fun q => h q.2)
