/-! ===== the relation of all slots, class and reference, between calls ===== -/
/-- the part of the tables that line l has -/
def LIN (l o i : Int) : Prop := (310 ≤ o ∧ o ≤ 316 ∧ 60 * l ≤ i ∧ i < 60 * l + 60) ∨ (o = 317 ∧ 240 * l ≤ i ∧ i < 240 * l + 240) ∨ (o = 309 ∧ 60 * l ≤ i ∧ i < 60 * l + 60)
/-- a line, class and reference, whatever comes later -/
def LCL (A : AHp) (v : Sg) (l : Int) : Prop := (isO A (v 65 l) 3 ∧ 350 ≤ hp A (v 65 l) 0 ∧ hp A (v 65 l) 2 = v 318 l ∧ hp A (v 65 l) 3 = v 319 l) ∧ ∀ (C : AHp) (w u : Sg), OLD A C → (∀ o k, 350 ≤ o → o < hn A → w o k = v o k) → (∀ o i, LIN l o i → u o i = v o i) → CHR w u (GQ C w u l 3) 60 (hp A (v 65 l) 0) (u 309 (60 * l)) ∧ hp A (v 65 l) 1 = cnT u 60 (u 309 (60 * l))
theorem LCL.go {A B : AHp} {v w : Sg} {l : Int} (h : LCL A v l) (hO : OLD A B) (e : ∀ o k, ((o = 65 ∨ o = 318 ∨ o = 319) ∧ k = l) ∨ (350 ≤ o ∧ o < hn A) ∨ LIN l o k → w o k = v o k) : LCL B w l := by
  obtain ⟨⟨h1, h2, h3, h4⟩, h5⟩ := h
  have e65 : w 65 l = v 65 l := e _ _ (Or.inl ⟨Or.inl rfl, rfl⟩)
  have e18 : w 318 l = v 318 l := e _ _ (Or.inl ⟨Or.inr (Or.inl rfl), rfl⟩)
  have e19 : w 319 l = v 319 l := e _ _ (Or.inl ⟨Or.inr (Or.inr rfl), rfl⟩)
  have hl9 := isO_lt h1
  have p0 := old_hp (k := 0) hO hl9
  have p1 := old_hp (k := 1) hO hl9
  have p2 := old_hp (k := 2) hO hl9
  have p3 := old_hp (k := 3) hO hl9
  unfold LCL
  rw [e65, e18, e19, p0, p1, p2, p3]
  exact ⟨⟨old_O hO h1, h2, h3, h4⟩, fun C x u o1 o2 o3 => h5 C x u (old_tr hO o1) (fun o k a b => (o2 o k a (Int.lt_of_lt_of_le b hO.1)).trans (e o k (Or.inr (Or.inl ⟨a, b⟩)))) (fun o i q => (o3 o i q).trans (e o i (Or.inr (Or.inr q))))⟩
def G0 (A : AHp) (v : Sg) : Prop := (350 ≤ hn A ∧ XLAY A ∧ MLAY A) ∧ (∀ j, 0 ≤ j → j < 4 → v 263 j = 267 + 7 * j) ∧ (∀ j, 0 ≤ j → j < 6 → v 266 j = 295 + 2 * j) ∧ (∀ j, 0 ≤ j → j < 20 → v 66 j = 67 + 7 * j) ∧ (∀ j, 0 ≤ j → j < 15 → v 62 j = 1 + j) ∧ ∀ j, 0 ≤ j → j < 14 → v 308 j = 16 + j
def FP0 (o _k : Int) : Prop := o = 263 ∨ o = 266 ∨ o = 66 ∨ o = 62 ∨ o = 308
def G1 (A : AHp) (v : Sg) : Prop := (0 ≤ v 64 1 ∧ v 64 1 ≤ 8) ∧ v 307 12 = v 64 1 ∧ (∀ j, in32 (v 317 j)) ∧ ∀ l, 0 ≤ l → l < v 64 1 → LCL A v l
def FP1 (o k : Int) : Prop := (o = 64 ∧ k = 1) ∨ o = 65 ∨ 350 ≤ o ∨ (o = 307 ∧ k = 12) ∨ (309 ≤ o ∧ o ≤ 319)
def G2 (v : Sg) : Prop := v 61 2 = v 307 17 ∧ (0 ≤ v 307 17 ∧ v 307 17 ≤ 100) ∧ ∀ k, 0 ≤ k → k < v 307 17 → v 63 k = v 322 k ∧ 0 ≤ v 322 k ∧ v 322 k ≤ 127
def FP2 (o k : Int) : Prop := (o = 61 ∧ k = 2) ∨ o = 63 ∨ (o = 307 ∧ k = 17) ∨ o = 322
/-- a line's number, or none -/
def LNN (v : Sg) (x : Int) : Prop := x = -5 ∨ (0 ≤ x ∧ x < v 64 1)
def G3 (v : Sg) : Prop := (∀ n, 0 ≤ n → n < 5 → v 208 n = v 320 n) ∧ (∀ f, 0 ≤ f → f < 3 → v 209 f = v 321 f ∧ LNN v (v 321 f)) ∧ (v 207 2 = v 307 15 ∧ LNN v (v 307 15)) ∧ (v 210 1 = v 307 39 ∧ 0 ≤ v 307 39 ∧ v 307 39 ≤ 60) ∧ (∀ i, 0 ≤ i → i < v 307 39 → v 211 i = v 332 i) ∧ v 207 4 = v 307 40 ∧ v 207 5 = v 307 41
def FP3 (o k : Int) : Prop := (o = 64 ∧ k = 1) ∨ (o = 207 ∧ (k = 2 ∨ k = 4 ∨ k = 5)) ∨ o = 208 ∨ o = 209 ∨ (o = 210 ∧ k = 1) ∨ o = 211 ∨ (o = 307 ∧ (k = 15 ∨ k = 39 ∨ k = 40 ∨ k = 41)) ∨ o = 320 ∨ o = 321 ∨ o = 332
def G4 (v : Sg) : Prop := v 212 2 = v 307 49 ∧ (0 ≤ v 307 49 ∧ v 307 49 ≤ 5) ∧ ∀ j, 0 ≤ j → j < v 307 49 → v 213 j = v 339 (2 * j) ∧ v 214 j = v 339 (2 * j + 1) ∧ (0 ≤ v 339 (2 * j) ∧ v 339 (2 * j) ≤ 59) ∧ in32 (v 339 (2 * j + 1))
def FP4 (o k : Int) : Prop := (o = 212 ∧ k = 2) ∨ o = 213 ∨ o = 214 ∨ (o = 307 ∧ k = 49) ∨ o = 339
def PLV (v : Sg) (w n : Int) : Prop := (w = 0 ∧ 0 ≤ n ∧ n < v 64 1) ∨ (w = 1 ∧ 0 ≤ n ∧ n ≤ 4) ∨ (w = 2 ∧ 0 ≤ n ∧ n ≤ 2) ∨ w = 3
def G5 (v : Sg) : Prop := v 215 2 = v 307 52 ∧ (0 ≤ v 307 52 ∧ v 307 52 ≤ 10) ∧ ∀ j, 0 ≤ j → j < v 307 52 → v 216 j = v 341 (2 * j) ∧ v 217 j = v 341 (2 * j + 1) ∧ PLV v (v 341 (2 * j)) (v 341 (2 * j + 1))
def FP5 (o k : Int) : Prop := (o = 64 ∧ k = 1) ∨ (o = 215 ∧ k = 2) ∨ o = 216 ∨ o = 217 ∨ (o = 307 ∧ k = 52) ∨ o = 341
def G6 (v : Sg) : Prop := v 218 2 = v 307 54 ∧ (0 ≤ v 307 54 ∧ v 307 54 ≤ 8) ∧ ∀ j, 0 ≤ j → j < v 307 54 → v 219 j = v 342 (2 * j) ∧ v 220 j = v 342 (2 * j + 1) ∧ 0 ≤ v 342 (2 * j) ∧ v 342 (2 * j) ≤ 4
def FP6 (o k : Int) : Prop := (o = 218 ∧ k = 2) ∨ o = 219 ∨ o = 220 ∨ (o = 307 ∧ k = 54) ∨ o = 342
/-- the image -/
def IMG (v : Sg) : Prop := ((∀ n, 0 ≤ n → n < 5 → v 222 n = v 345 n ∧ in32 (v 345 n)) ∧ (∀ f, 0 ≤ f → f < 3 → v 223 f = v 345 (5 + f) ∧ LNN v (v 345 (5 + f))) ∧ (v 221 2 = v 345 114 ∧ LNN v (v 345 114)) ∧ (v 224 1 = v 345 115 ∧ 0 ≤ v 345 115 ∧ v 345 115 ≤ 60) ∧ (∀ i, 0 ≤ i → i < v 345 115 → v 225 i = v 345 (8 + i)) ∧ v 221 4 = v 345 116 ∧ v 221 5 = v 345 117) ∧
  (v 226 2 = v 345 118 ∧ (0 ≤ v 345 118 ∧ v 345 118 ≤ 5) ∧ ∀ j, 0 ≤ j → j < v 345 118 → v 227 j = v 345 (68 + 2 * j) ∧ v 228 j = v 345 (68 + (2 * j + 1)) ∧ (0 ≤ v 345 (68 + 2 * j) ∧ v 345 (68 + 2 * j) ≤ 59) ∧ in32 (v 345 (68 + (2 * j + 1)))) ∧
  (v 229 2 = v 345 119 ∧ (0 ≤ v 345 119 ∧ v 345 119 ≤ 10) ∧ ∀ j, 0 ≤ j → j < v 345 119 → v 230 j = v 345 (78 + 2 * j) ∧ v 231 j = v 345 (78 + (2 * j + 1)) ∧ PLV v (v 345 (78 + 2 * j)) (v 345 (78 + (2 * j + 1)))) ∧
  (v 232 2 = v 345 120 ∧ (0 ≤ v 345 120 ∧ v 345 120 ≤ 8) ∧ ∀ j, 0 ≤ j → j < v 345 120 → v 233 j = v 345 (98 + 2 * j) ∧ v 234 j = v 345 (98 + (2 * j + 1)) ∧ 0 ≤ v 345 (98 + 2 * j) ∧ v 345 (98 + 2 * j) ≤ 4)
def G7 (v : Sg) : Prop := v 60 4 = v 307 58 ∧ (v 60 4 = 0 ∨ v 60 4 = 1) ∧ (v 60 4 ≠ 0 → IMG v)
def FP7 (o k : Int) : Prop := (o = 64 ∧ k = 1) ∨ (o = 60 ∧ k = 4) ∨ (221 ≤ o ∧ o ≤ 234) ∨ (o = 307 ∧ k = 58) ∨ o = 345
/-- along the chain of a line's pipes -/
def itT (u : Sg) : Nat → Int → Int
  | 0, p => p
  | k + 1, p => if p < 0 then p else itT u k (u 310 p)
def itV (w : Sg) : Nat → Int → Int
  | 0, po => po
  | k + 1, po => if po = 0 then 0 else itV w k (w po 3)
theorem CHR.it {w u : Sg} {P : Int → Int → Prop} {m : Nat} : ∀ {k : Nat} {po p : Int}, CHR w u P (k + m) po p → CHR w u P m (itV w k po) (itT u k p)
  | 0, po, p, h => by
    rw [Nat.zero_add] at h
    exact h
  | k + 1, po, p, h => by
    rw [Nat.succ_add] at h
    rcases h with ⟨h1, h2⟩ | ⟨h1, _, h3⟩
    · have e1 : itV w (k + 1) po = 0 := if_pos h1
      have e2 : itT u (k + 1) p = p := if_pos (by omega)
      rw [e1, e2, h2]
      exact CHR.nil
    · have e1 : itV w (k + 1) po = itV w k (w po 3) := if_neg (by omega)
      have e2 : itT u (k + 1) p = itT u k (u 310 p) := if_neg (by omega)
      rw [e1, e2]
      exact CHR.it h3
theorem it_eq {A : AHp} {w u w2 u2 : Sg} {l : Int} {e m : Nat} (hw : ∀ o k, 350 ≤ o → o < hn A → w2 o k = w o k) (hu : ∀ o i, LIN l o i → u2 o i = u o i) : ∀ {k : Nat} {po p : Int}, CHR w u (GQ A w u l e) (k + m) po p → itV w2 k po = itV w k po ∧ itT u2 k p = itT u k p
  | 0, _, _, _ => ⟨rfl, rfl⟩
  | k + 1, po, p, h => by
    rw [Nat.succ_add] at h
    rcases h with ⟨h1, h2⟩ | ⟨h1, hq, h3⟩
    · exact ⟨(show (if po = 0 then (0 : Int) else itV w2 k (w2 po 3)) = (if po = 0 then (0 : Int) else itV w k (w po 3)) by rw [if_pos h1, if_pos h1]), (show (if p < 0 then p else itT u2 k (u2 310 p)) = (if p < 0 then p else itT u k (u 310 p)) by rw [if_pos (by omega), if_pos (by omega)])⟩
    · have e1 : w2 po 3 = w po 3 := hw _ _ h1.1 (isO_lt hq.1.pw.1.1.2.1)
      have e2 : u2 310 p = u 310 p := hu _ _ (Or.inl ⟨by omega, by omega, hq.2.1.1, hq.2.1.2⟩)
      have ih := it_eq (k := k) hw hu h3
      exact ⟨(show (if po = 0 then (0 : Int) else itV w2 k (w2 po 3)) = (if po = 0 then (0 : Int) else itV w k (w po 3)) by rw [if_neg (by omega), if_neg (by omega), e1]; exact ih.1), (show (if p < 0 then p else itT u2 k (u2 310 p)) = (if p < 0 then p else itT u k (u 310 p)) by rw [if_neg (by omega), if_neg (by omega), e2]; exact ih.2)⟩
/-- a job that stands at pipe p (of the class: po) -/
def JOBX (v : Sg) (j p po : Int) : Prop := (v (267 + 7 * j) 3 = 0 ∧ v (267 + 7 * j) 4 = 0) ∧ ((v 336 j = 0 ∧ v (267 + 7 * j) 1 = 0 ∧ v (267 + 7 * j) 0 = po ∧ v (267 + 7 * j) 2 = v 337 j) ∨
  (v 336 j = 1 ∧ 0 ≤ p ∧ (v (267 + 7 * j) 1 = po ∧ v (267 + 7 * j) 0 = v po 3) ∧ (v 323 (24 + j) = p ∧ v 324 (24 + j) = 0) ∧ (0 ≤ v 330 (24 + j) ∧ v 330 (24 + j) ≤ 60) ∧ ∀ i : Nat, (i : Int) < v 313 p → SO v v (24 + j) p i ∧ SR v v v (267 + 7 * j) (24 + j) p i))
def JB (A : AHp) (v : Sg) (j : Int) : Prop := (v 264 j = -5 ∧ v 333 j = -1) ∨ ((0 ≤ v 333 j ∧ v 333 j < v 64 1) ∧ v 264 j = v 333 j ∧ v 265 j = v 334 j ∧ (0 ≤ v 334 j ∧ v 334 j ≤ 60) ∧ ∃ k : Nat, k ≤ 60 ∧ v 335 j = itT v k (v 309 (60 * v 333 j)) ∧ JOBX v j (itT v k (v 309 (60 * v 333 j))) (itV v k (hp A (v 65 (v 333 j)) 0)))
def G8 (A : AHp) (v : Sg) : Prop := ∀ j, 0 ≤ j → j < 4 → JB A v j
/-- what is a job's own -/
def FJ (j o k : Int) : Prop := ((o = 264 ∨ o = 265 ∨ (333 ≤ o ∧ o ≤ 337)) ∧ k = j) ∨ (267 + 7 * j ≤ o ∧ o ≤ 267 + 7 * j + 6) ∨ ((o = 323 ∨ o = 324 ∨ o = 330) ∧ k = 24 + j) ∨ ((o = 326 ∨ o = 327 ∨ o = 328) ∧ 6 * (24 + j) ≤ k ∧ k < 6 * (24 + j) + 6) ∨ (o = 325 ∧ 24 * (24 + j) ≤ k ∧ k < 24 * (24 + j) + 24) ∨ (o = 329 ∧ 60 * (24 + j) ≤ k ∧ k < 60 * (24 + j) + 60)
def G9 (v : Sg) : Prop := ∀ t, 0 ≤ t → t ≤ 5 → v (295 + 2 * t) 0 = v 347 t ∧ v (295 + 2 * t) 1 = v 348 t ∧ (-1 ≤ v 347 t ∧ v 347 t ≤ 4) ∧ (0 ≤ v 348 t ∧ v 348 t ≤ 60) ∧ (v 347 t = -1 → v 348 t = 0) ∧ ∀ i, 0 ≤ i → i < 60 → v (295 + 2 * t + 1) i = v 349 (60 * t + i)
def FP9 (o _k : Int) : Prop := (295 ≤ o ∧ o ≤ 306) ∨ o = 347 ∨ o = 348 ∨ o = 349
def G10 (v : Sg) : Prop := ((0 ≤ v 307 32 ∧ v 307 32 ≤ 60) ∧ (0 ≤ v 307 36 ∧ v 307 36 ≤ 60)) ∧ ((∀ j, in32 (v 320 j)) ∧ (∀ j, in32 (v 324 j)) ∧ (∀ j, in32 (v 325 j)) ∧ (∀ j, in32 (v 329 j)) ∧ ∀ j, in32 (v 331 j)) ∧ in32 (v 64 4)
def FP10 (o k : Int) : Prop := (o = 307 ∧ (k = 32 ∨ k = 36)) ∨ o = 320 ∨ o = 324 ∨ o = 325 ∨ o = 329 ∨ o = 331 ∨ (o = 64 ∧ k = 4)
def RR (A : AHp) (v : Sg) : Prop := G0 A v ∧ G1 A v ∧ G2 v ∧ G3 v ∧ G4 v ∧ G5 v ∧ G6 v ∧ G7 v ∧ G8 A v ∧ G9 v ∧ G10 v
theorem G0.eq {A : AHp} {v w : Sg} (h : G0 A v) (e : ∀ o k, FP0 o k → w o k = v o k) : G0 A w := by
  have e1 : ∀ k, w 263 k = v 263 k := fun k => e _ _ (by unfold FP0; omega)
  have e2 : ∀ k, w 266 k = v 266 k := fun k => e _ _ (by unfold FP0; omega)
  have e3 : ∀ k, w 66 k = v 66 k := fun k => e _ _ (by unfold FP0; omega)
  have e4 : ∀ k, w 62 k = v 62 k := fun k => e _ _ (by unfold FP0; omega)
  have e5 : ∀ k, w 308 k = v 308 k := fun k => e _ _ (by unfold FP0; omega)
  unfold G0 at h ⊢
  simp only [e1, e2, e3, e4, e5]
  exact h
theorem G0.old {A B : AHp} {v w : Sg} (h : G0 A v) (hO : OLD A B) (hM : MLAY B) (e : ∀ o k, FP0 o k → w o k = v o k) : G0 B w := by
  have h2 := h.eq e
  exact ⟨⟨Int.le_trans h.1.1 hO.1, old_X hO h.1.2.1, hM⟩, h2.2⟩
theorem G1.old {A B : AHp} {v w : Sg} (h : G1 A v) (hO : OLD A B) (e : ∀ o k, FP1 o k → w o k = v o k) : G1 B w := by
  have e1 : w 64 1 = v 64 1 := e _ _ (by unfold FP1; omega)
  have e2 : w 307 12 = v 307 12 := e _ _ (by unfold FP1; omega)
  have e3 : ∀ j, w 317 j = v 317 j := fun j => e _ _ (by unfold FP1; omega)
  obtain ⟨a1, a2, a3, a4⟩ := h
  refine ⟨by rw [e1]; exact a1, by rw [e1, e2]; exact a2, fun j => by rw [e3]; exact a3 j, fun l l0 l1 => ?_⟩
  rw [e1] at l1
  refine (a4 l l0 l1).go hO (fun o k q => e o k ?_)
  unfold LIN at q
  unfold FP1
  omega
theorem G1.eq {A : AHp} {v w : Sg} (h : G1 A v) (e : ∀ o k, FP1 o k → w o k = v o k) : G1 A w := h.old (old_rfl A) e
theorem G2.eq {v w : Sg} (h : G2 v) (e : ∀ o k, FP2 o k → w o k = v o k) : G2 w := by
  have e1 : w 61 2 = v 61 2 := e _ _ (by unfold FP2; omega)
  have e2 : ∀ k, w 63 k = v 63 k := fun k => e _ _ (by unfold FP2; omega)
  have e3 : w 307 17 = v 307 17 := e _ _ (by unfold FP2; omega)
  have e4 : ∀ k, w 322 k = v 322 k := fun k => e _ _ (by unfold FP2; omega)
  unfold G2 at h ⊢
  simp only [e1, e2, e3, e4]
  exact h
theorem LNN.le {v w : Sg} {x : Int} (h : LNN v x) (e : v 64 1 ≤ w 64 1) : LNN w x := by
  unfold LNN at h ⊢
  omega
theorem PLV.le {v w : Sg} {x n : Int} (h : PLV v x n) (e : v 64 1 ≤ w 64 1) : PLV w x n := by
  unfold PLV at h ⊢
  omega
theorem G3.le {v w : Sg} (h : G3 v) (hl9 : v 64 1 ≤ w 64 1) (e : ∀ o k, FP3 o k → o ≠ 64 → w o k = v o k) : G3 w := by
  obtain ⟨a1, a2, a3, a4, a5, a6, a7⟩ := h
  have e1 : ∀ k, w 208 k = v 208 k := fun k => e _ _ (by unfold FP3; omega) (by omega)
  have e2 : ∀ k, w 209 k = v 209 k := fun k => e _ _ (by unfold FP3; omega) (by omega)
  have e3 : ∀ k, w 211 k = v 211 k := fun k => e _ _ (by unfold FP3; omega) (by omega)
  have e4 : ∀ k, w 320 k = v 320 k := fun k => e _ _ (by unfold FP3; omega) (by omega)
  have e5 : ∀ k, w 321 k = v 321 k := fun k => e _ _ (by unfold FP3; omega) (by omega)
  have e6 : ∀ k, w 332 k = v 332 k := fun k => e _ _ (by unfold FP3; omega) (by omega)
  have e7 : w 207 2 = v 207 2 := e _ _ (by unfold FP3; omega) (by omega)
  have e8 : w 207 4 = v 207 4 := e _ _ (by unfold FP3; omega) (by omega)
  have e9 : w 207 5 = v 207 5 := e _ _ (by unfold FP3; omega) (by omega)
  have e10 : w 210 1 = v 210 1 := e _ _ (by unfold FP3; omega) (by omega)
  have e11 : w 307 15 = v 307 15 := e _ _ (by unfold FP3; omega) (by omega)
  have e12 : w 307 39 = v 307 39 := e _ _ (by unfold FP3; omega) (by omega)
  have e13 : w 307 40 = v 307 40 := e _ _ (by unfold FP3; omega) (by omega)
  have e14 : w 307 41 = v 307 41 := e _ _ (by unfold FP3; omega) (by omega)
  unfold G3
  simp only [e1, e2, e3, e4, e5, e6, e7, e8, e9, e10, e11, e12, e13, e14]
  exact ⟨a1, fun f f0 f1 => ⟨(a2 f f0 f1).1, (a2 f f0 f1).2.le hl9⟩, ⟨a3.1, a3.2.le hl9⟩, a4, a5, a6, a7⟩
theorem G3.eq {v w : Sg} (h : G3 v) (e : ∀ o k, FP3 o k → w o k = v o k) : G3 w := h.le (by rw [e 64 1 (by unfold FP3; omega)]; omega) (fun o k q _ => e o k q)
theorem G4.eq {v w : Sg} (h : G4 v) (e : ∀ o k, FP4 o k → w o k = v o k) : G4 w := by
  have e1 : w 212 2 = v 212 2 := e _ _ (by unfold FP4; omega)
  have e2 : ∀ k, w 213 k = v 213 k := fun k => e _ _ (by unfold FP4; omega)
  have e3 : ∀ k, w 214 k = v 214 k := fun k => e _ _ (by unfold FP4; omega)
  have e4 : w 307 49 = v 307 49 := e _ _ (by unfold FP4; omega)
  have e5 : ∀ k, w 339 k = v 339 k := fun k => e _ _ (by unfold FP4; omega)
  unfold G4 at h ⊢
  simp only [e1, e2, e3, e4, e5]
  exact h
theorem G5.le {v w : Sg} (h : G5 v) (hl9 : v 64 1 ≤ w 64 1) (e : ∀ o k, FP5 o k → o ≠ 64 → w o k = v o k) : G5 w := by
  obtain ⟨a1, a2, a3⟩ := h
  have e1 : w 215 2 = v 215 2 := e _ _ (by unfold FP5; omega) (by omega)
  have e2 : ∀ k, w 216 k = v 216 k := fun k => e _ _ (by unfold FP5; omega) (by omega)
  have e3 : ∀ k, w 217 k = v 217 k := fun k => e _ _ (by unfold FP5; omega) (by omega)
  have e4 : w 307 52 = v 307 52 := e _ _ (by unfold FP5; omega) (by omega)
  have e5 : ∀ k, w 341 k = v 341 k := fun k => e _ _ (by unfold FP5; omega) (by omega)
  unfold G5
  simp only [e1, e2, e3, e4, e5]
  exact ⟨a1, a2, fun j j0 j1 => ⟨(a3 j j0 j1).1, (a3 j j0 j1).2.1, (a3 j j0 j1).2.2.le hl9⟩⟩
theorem G5.eq {v w : Sg} (h : G5 v) (e : ∀ o k, FP5 o k → w o k = v o k) : G5 w := h.le (by rw [e 64 1 (by unfold FP5; omega)]; omega) (fun o k q _ => e o k q)
theorem G6.eq {v w : Sg} (h : G6 v) (e : ∀ o k, FP6 o k → w o k = v o k) : G6 w := by
  have e1 : w 218 2 = v 218 2 := e _ _ (by unfold FP6; omega)
  have e2 : ∀ k, w 219 k = v 219 k := fun k => e _ _ (by unfold FP6; omega)
  have e3 : ∀ k, w 220 k = v 220 k := fun k => e _ _ (by unfold FP6; omega)
  have e4 : w 307 54 = v 307 54 := e _ _ (by unfold FP6; omega)
  have e5 : ∀ k, w 342 k = v 342 k := fun k => e _ _ (by unfold FP6; omega)
  unfold G6 at h ⊢
  simp only [e1, e2, e3, e4, e5]
  exact h
theorem G7.le {v w : Sg} (h : G7 v) (hl9 : v 64 1 ≤ w 64 1) (e : ∀ o k, FP7 o k → o ≠ 64 → w o k = v o k) : G7 w := by
  have ei : ∀ o k, 221 ≤ o → o ≤ 234 → w o k = v o k := fun o k a b => e _ _ (Or.inr (Or.inr (Or.inl ⟨a, b⟩))) (by omega)
  have e1 : w 60 4 = v 60 4 := e _ _ (by unfold FP7; omega) (by omega)
  have e2 : w 307 58 = v 307 58 := e _ _ (by unfold FP7; omega) (by omega)
  have e3 : ∀ k, w 345 k = v 345 k := fun k => e _ _ (by unfold FP7; omega) (by omega)
  obtain ⟨a1, a2, a3⟩ := h
  refine ⟨by rw [e1, e2]; exact a1, by rw [e1]; exact a2, fun z => ?_⟩
  rw [e1] at z
  obtain ⟨⟨b1, b2, b3, b4, b5, b6, b7⟩, b8, ⟨b9, b10, b11⟩, b12⟩ := a3 z
  have i1 : ∀ k, w 221 k = v 221 k := fun k => ei _ _ (by omega) (by omega)
  have i2 : ∀ k, w 222 k = v 222 k := fun k => ei _ _ (by omega) (by omega)
  have i3 : ∀ k, w 223 k = v 223 k := fun k => ei _ _ (by omega) (by omega)
  have i4 : ∀ k, w 224 k = v 224 k := fun k => ei _ _ (by omega) (by omega)
  have i5 : ∀ k, w 225 k = v 225 k := fun k => ei _ _ (by omega) (by omega)
  have i6 : ∀ k, w 226 k = v 226 k := fun k => ei _ _ (by omega) (by omega)
  have i7 : ∀ k, w 227 k = v 227 k := fun k => ei _ _ (by omega) (by omega)
  have i8 : ∀ k, w 228 k = v 228 k := fun k => ei _ _ (by omega) (by omega)
  have i9 : ∀ k, w 229 k = v 229 k := fun k => ei _ _ (by omega) (by omega)
  have i10 : ∀ k, w 230 k = v 230 k := fun k => ei _ _ (by omega) (by omega)
  have i11 : ∀ k, w 231 k = v 231 k := fun k => ei _ _ (by omega) (by omega)
  have i12 : ∀ k, w 232 k = v 232 k := fun k => ei _ _ (by omega) (by omega)
  have i13 : ∀ k, w 233 k = v 233 k := fun k => ei _ _ (by omega) (by omega)
  have i14 : ∀ k, w 234 k = v 234 k := fun k => ei _ _ (by omega) (by omega)
  unfold IMG
  simp only [e3, i1, i2, i3, i4, i5, i6, i7, i8, i9, i10, i11, i12, i13, i14]
  exact ⟨⟨b1, fun f f0 f1 => ⟨(b2 f f0 f1).1, (b2 f f0 f1).2.le hl9⟩, ⟨b3.1, b3.2.le hl9⟩, b4, b5, b6, b7⟩, b8, ⟨b9, b10, fun j j0 j1 => ⟨(b11 j j0 j1).1, (b11 j j0 j1).2.1, (b11 j j0 j1).2.2.le hl9⟩⟩, b12⟩
theorem G7.eq {v w : Sg} (h : G7 v) (e : ∀ o k, FP7 o k → w o k = v o k) : G7 w := h.le (by rw [e 64 1 (by unfold FP7; omega)]; omega) (fun o k q _ => e o k q)
theorem G9.eq {v w : Sg} (h : G9 v) (e : ∀ o k, FP9 o k → w o k = v o k) : G9 w := by
  intro t t0 t1
  have e1 : ∀ k, w 347 k = v 347 k := fun k => e _ _ (by unfold FP9; omega)
  have e2 : ∀ k, w 348 k = v 348 k := fun k => e _ _ (by unfold FP9; omega)
  have e3 : ∀ k, w 349 k = v 349 k := fun k => e _ _ (by unfold FP9; omega)
  have e4 : ∀ k, w (295 + 2 * t) k = v (295 + 2 * t) k := fun k => e _ _ (by unfold FP9; omega)
  have e5 : ∀ k, w (295 + 2 * t + 1) k = v (295 + 2 * t + 1) k := fun k => e _ _ (by unfold FP9; omega)
  have := h t t0 t1
  simp only [e1, e2, e3, e4, e5]
  exact this
theorem G10.eq {v w : Sg} (h : G10 v) (e : ∀ o k, FP10 o k → w o k = v o k) : G10 w := by
  have e1 : w 307 32 = v 307 32 := e _ _ (by unfold FP10; omega)
  have e2 : w 307 36 = v 307 36 := e _ _ (by unfold FP10; omega)
  have e3 : ∀ k, w 320 k = v 320 k := fun k => e _ _ (by unfold FP10; omega)
  have e4 : ∀ k, w 324 k = v 324 k := fun k => e _ _ (by unfold FP10; omega)
  have e5 : ∀ k, w 325 k = v 325 k := fun k => e _ _ (by unfold FP10; omega)
  have e6 : ∀ k, w 329 k = v 329 k := fun k => e _ _ (by unfold FP10; omega)
  have e7 : ∀ k, w 331 k = v 331 k := fun k => e _ _ (by unfold FP10; omega)
  have e8 : w 64 4 = v 64 4 := e _ _ (by unfold FP10; omega)
  unfold G10 at h ⊢
  simp only [e1, e2, e3, e4, e5, e6, e7, e8]
  exact h
theorem LCL.now {A : AHp} {v : Sg} {l : Int} (h : LCL A v l) : CHR v v (GQ A v v l 3) 60 (hp A (v 65 l) 0) (v 309 (60 * l)) := (h.2 A v v (old_rfl A) (fun _ _ _ _ => rfl) (fun _ _ _ => rfl)).1
/-- a job's state stays, as long as what is its own, and its line, stay -/
theorem JB.go {A B : AHp} {v w : Sg} {j : Int} (h : JB A v j) (hj : 0 ≤ j ∧ j < 4) (h1 : G1 A v) (hO : OLD A B) (hl9 : v 64 1 ≤ w 64 1) (e : ∀ o k, FJ j o k ∨ (o = 65 ∧ 0 ≤ k ∧ k < v 64 1) ∨ (350 ≤ o ∧ o < hn A) ∨ (∃ l, 0 ≤ l ∧ l < v 64 1 ∧ LIN l o k) → w o k = v o k) : JB B w j := by
  have f1 : ∀ o, o = 264 ∨ o = 265 ∨ (333 ≤ o ∧ o ≤ 337) → w o j = v o j := fun o q => e o j (Or.inl (Or.inl ⟨q, rfl⟩))
  have e264 := f1 264 (by omega)
  have e265 := f1 265 (by omega)
  have e333 := f1 333 (by omega)
  have e334 := f1 334 (by omega)
  have e335 := f1 335 (by omega)
  have e336 := f1 336 (by omega)
  have e337 := f1 337 (by omega)
  unfold JB
  rw [e264, e265, e333, e334, e335]
  rcases h with h | ⟨⟨a1, a2⟩, a3, a4, a5, k, k9, a6, a7⟩
  · exact Or.inl h
  · refine Or.inr ⟨⟨a1, by omega⟩, a3, a4, a5, k, k9, ?_⟩
    have hL := h1.2.2.2 _ a1 a2
    have hC := hL.now
    have e65 : w 65 (v 333 j) = v 65 (v 333 j) := e _ _ (Or.inr (Or.inl ⟨rfl, a1, a2⟩))
    have e309 : w 309 (60 * v 333 j) = v 309 (60 * v 333 j) := e _ _ (Or.inr (Or.inr (Or.inr ⟨v 333 j, a1, a2, Or.inr (Or.inr ⟨rfl, by omega, by omega⟩)⟩)))
    have ehp : hp B (v 65 (v 333 j)) 0 = hp A (v 65 (v 333 j)) 0 := old_hp hO (isO_lt hL.1.1)
    have hC2 : CHR v v (GQ A v v (v 333 j) 3) (k + (60 - k)) (hp A (v 65 (v 333 j)) 0) (v 309 (60 * v 333 j)) := by
      rw [show k + (60 - k) = 60 by omega]
      exact hC
    obtain ⟨i1, i2⟩ := it_eq (w2 := w) (u2 := w) (fun o k q1 q2 => e o k (Or.inr (Or.inr (Or.inl ⟨q1, q2⟩)))) (fun o i q => e o i (Or.inr (Or.inr (Or.inr ⟨v 333 j, a1, a2, q⟩)))) hC2
    rw [e65, e309, ehp, i1, i2]
    have hC3 := CHR.it hC2
    generalize itT v k (v 309 (60 * v 333 j)) = p at a6 a7 hC3 ⊢
    generalize itV v k (hp A (v 65 (v 333 j)) 0) = po at a7 hC3 ⊢
    refine ⟨a6, ?_⟩
    have fo : ∀ o k, 267 + 7 * j ≤ o → o ≤ 267 + 7 * j + 6 → w o k = v o k := fun o k q1 q2 => e o k (Or.inl (Or.inr (Or.inl ⟨q1, q2⟩)))
    have g0 : ∀ k, w (267 + 7 * j) k = v (267 + 7 * j) k := fun k => fo _ _ (by omega) (by omega)
    have g2 : ∀ o, o = 323 ∨ o = 324 ∨ o = 330 → w o (24 + j) = v o (24 + j) := fun o q => e o _ (Or.inl (Or.inr (Or.inr (Or.inl ⟨q, rfl⟩))))
    have g323 := g2 323 (by omega)
    have g324 := g2 324 (by omega)
    have g330 := g2 330 (by omega)
    have g6 : ∀ o i, o = 326 ∨ o = 327 ∨ o = 328 → 6 * (24 + j) ≤ i → i < 6 * (24 + j) + 6 → w o i = v o i := fun o i q q1 q2 => e o i (Or.inl (Or.inr (Or.inr (Or.inr (Or.inl ⟨q, q1, q2⟩)))))
    have g5 : ∀ i, 24 * (24 + j) ≤ i → i < 24 * (24 + j) + 24 → w 325 i = v 325 i := fun i q1 q2 => e 325 i (Or.inl (Or.inr (Or.inr (Or.inr (Or.inr (Or.inl ⟨rfl, q1, q2⟩))))))
    have g9 : ∀ i, 60 * (24 + j) ≤ i → i < 60 * (24 + j) + 60 → w 329 i = v 329 i := fun i q1 q2 => e 329 i (Or.inl (Or.inr (Or.inr (Or.inr (Or.inr (Or.inr ⟨rfl, q1, q2⟩))))))
    obtain ⟨⟨c1, c2⟩, c3⟩ := a7
    refine ⟨⟨by rw [g0]; exact c1, by rw [g0]; exact c2⟩, ?_⟩
    rw [e336, g0, g0, g0, e337, g323, g324, g330]
    rcases c3 with c3 | ⟨c3, c4, c5, c6, c7, c8⟩
    · exact Or.inl c3
    · refine Or.inr ⟨c3, c4, ?_, c6, c7, fun i hi => ?_⟩
      · obtain ⟨m9, hm9⟩ : ∃ m9, 60 - k = m9 + 1 ∨ 60 - k = 0 := ⟨60 - k - 1, by omega⟩
        rcases hm9 with hm9 | hm9
        · rw [hm9] at hC3
          rcases hC3 with ⟨z1, z2⟩ | ⟨z1, z2, z3⟩
          · omega
          · rw [e po 3 (Or.inr (Or.inr (Or.inl ⟨z1.1, isO_lt z2.1.pw.1.1.2.1⟩)))]
            exact c5
        · rw [hm9] at hC3
          have z : po = 0 ∧ p = -1 := hC3
          omega
      · obtain ⟨m9, hm9⟩ : ∃ m9, 60 - k = m9 + 1 ∨ 60 - k = 0 := ⟨60 - k - 1, by omega⟩
        have hq : GQ A v v (v 333 j) 3 po p := by
          rcases hm9 with hm9 | hm9
          · rw [hm9] at hC3
            rcases hC3 with ⟨z1, z2⟩ | ⟨z1, z2, z3⟩
            · omega
            · exact z2
          · rw [hm9] at hC3
            have z : po = 0 ∧ p = -1 := hC3
            omega
        obtain ⟨⟨r1, r2⟩, r3, r4⟩ := hq.2
        have hpw := hq.1.pw.2.1
        have et : ∀ o i, 310 ≤ o → o ≤ 316 → 60 * v 333 j ≤ i → i < 60 * v 333 j + 60 → w o i = v o i := fun o i q1 q2 q3 q4 => e o i (Or.inr (Or.inr (Or.inr ⟨v 333 j, a1, a2, Or.inl ⟨q1, q2, q3, q4⟩⟩)))
        have t312 : w 312 p = v 312 p := et _ _ (by omega) (by omega) r1 r2
        have t313 : w 313 p = v 313 p := et _ _ (by omega) (by omega) r1 r2
        rw [t313] at hi
        have t314 : w 314 (v 312 p + i) = v 314 (v 312 p + i) := et _ _ (by omega) (by omega) (by omega) (by omega)
        have t316 : w 316 (v 312 p + i) = v 316 (v 312 p + i) := et _ _ (by omega) (by omega) (by omega) (by omega)
        obtain ⟨s1, s2⟩ := c8 i hi
        have hi6 : (i : Int) < 6 := by have := hpw.2.2.2.1; omega
        have s327 := g6 327 (6 * (24 + j) + i) (by omega) (by omega) (by omega)
        have s326 := g6 326 (6 * (24 + j) + i) (by omega) (by omega) (by omega)
        have s328 := g6 328 (6 * (24 + j) + i) (by omega) (by omega) (by omega)
        refine ⟨?_, ?_⟩
        · unfold SO
          rw [t312, t314, s327, s326]
          exact s1
        · unfold SR
          rw [t312, t314, t316]
          refine SRw.eq (hpw.2.2.2.2.2.2 i (by omega) hi).2.1 ⟨fun i9 => Or.inl (fo _ _ (by omega) (by omega)), ⟨fo _ _ (by omega) (by omega), fo _ _ (by omega) (by omega), fo _ _ (by omega) (by omega)⟩, ⟨g0 9, fo _ _ (by omega) (by omega), fun i9 => fo _ _ (by omega) (by omega)⟩, fun i9 => ?_, ⟨s326, s327, s328⟩, g330, fun i9 q1 q2 => g9 _ (by omega) (by omega)⟩ s2
          by_cases q : 4 ≤ i9 ∨ i9 < 0
          · exact Or.inr q
          · exact Or.inl (g5 _ (by omega) (by omega))
def FP8 (o k : Int) : Prop := (o = 264 ∨ o = 265 ∨ (333 ≤ o ∧ o ≤ 337)) ∨ (267 ≤ o ∧ o ≤ 294) ∨ ((o = 323 ∨ o = 324 ∨ o = 330) ∧ 24 ≤ k) ∨ ((o = 326 ∨ o = 327 ∨ o = 328) ∧ 144 ≤ k) ∨ (o = 325 ∧ 576 ≤ k) ∨ (o = 329 ∧ 1440 ≤ k)
theorem G8.go {A B : AHp} {v w : Sg} (h : G8 A v) (h1 : G1 A v) (hO : OLD A B) (hl9 : v 64 1 ≤ w 64 1) (e : ∀ o k, FP8 o k ∨ (o = 65 ∧ 0 ≤ k ∧ k < v 64 1) ∨ (350 ≤ o ∧ o < hn A) ∨ (∃ l, 0 ≤ l ∧ l < v 64 1 ∧ LIN l o k) → w o k = v o k) : G8 B w := by
  intro j j0 j1
  refine (h j j0 j1).go ⟨j0, j1⟩ h1 hO hl9 (fun o k q => e o k ?_)
  rcases q with q | q
  · left
    unfold FJ at q
    unfold FP8
    omega
  · exact Or.inr q
theorem G8.eq {A : AHp} {v w : Sg} (h : G8 A v) (h1 : G1 A v) (e8 : ∀ o k, FP8 o k → w o k = v o k) (e1 : ∀ o k, FP1 o k → w o k = v o k) : G8 A w := by
  refine h.go h1 (old_rfl A) (by rw [e1 64 1 (by unfold FP1; omega)]; omega) (fun o k q => ?_)
  rcases q with q | q | q | ⟨l, _, _, q⟩
  · exact e8 o k q
  · exact e1 o k (Or.inr (Or.inl q.1))
  · exact e1 o k (Or.inr (Or.inr (Or.inl q.1)))
  · refine e1 o k ?_
    unfold LIN at q
    unfold FP1
    omega
/-- a pair of calls that answer the same and keep the relation -/
def PAIR (A : AHp) (v : Sg) (M1 M2 : MD) (as : List AV) : Prop := CALL 900 M1 (vr 60 :: as) (cl A v) (fun r1 B1 => CALL 900 M2 (vr 307 :: as) B1 (fun r2 B2 => r1 = r2 ∧ ∃ B w, B2 = cl B w ∧ RR B w ∧ (GRO A B ∧ hn B ≤ hn A + 301)))
