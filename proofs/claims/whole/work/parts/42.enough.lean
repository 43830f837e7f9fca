/-! ===== enough: of what the tables spell, next always comes back ===== -/
def CH (s : Sg) (P : Int → Prop) : Nat → Int → Prop
  | 0, p => p = -1
  | m + 1, p => p = -1 ∨ ((0 ≤ p ∧ p < 480) ∧ P p ∧ CH s P m (s 310 p))
def PW (s : Sg) (p : Int) : Prop := PTB s p ∧ (∀ k, 0 < k → k < s 313 p → s 314 (s 312 p + k) < 11) ∧ (∀ k, 0 ≤ k → k < s 313 p → s 314 (s 312 p + k) = 8 → 0 ≤ s 315 (s 312 p + k) ∧ s 315 (s 312 p + k) < 5)
/-- a pipe as the tables should have it, with lists e deep within it at most -/
def POK (s : Sg) : Nat → Int → Prop
  | 0, p => PW s p ∧ s 314 (s 312 p) ≠ 14
  | e + 1, p => PW s p ∧ (s 314 (s 312 p) = 14 → (0 ≤ s 315 (s 312 p) ∧ s 315 (s 312 p) < 480) ∧ CH s (POK s e) 100 (s 309 (s 315 (s 312 p))))
theorem POK.w {s : Sg} {e : Nat} {p : Int} (h : POK s e p) : PW s p := by
  cases e <;> exact h.1
def TOK (T : Sg) : Prop := (∀ f, 0 ≤ f → f < 3 → T 321 f < 0 ∨ (T 321 f < 8 ∧ CH T (POK T 3) 100 (T 309 (60 * T 321 f)))) ∧ ∀ j, in32 (T 317 j)
/-- what holds at all times of a run over the tables T -/
def GI (T s : Sg) : Prop := (∀ o j, (309 ≤ o ∧ o ≤ 317) ∨ o = 321 → s o j = T o j) ∧ (0 ≤ s 307 32 ∧ s 307 32 ≤ 60) ∧ (0 ≤ s 307 36 ∧ s 307 36 ≤ 60) ∧ (∀ j, in32 (s 320 j)) ∧ (∀ j, in32 (s 324 j)) ∧ (∀ j, in32 (s 325 j)) ∧ (∀ j, in32 (s 329 j))
theorem GI.set {T s : Sg} {o j v : Int} (h : GI T s) (h1 : ¬ ((309 ≤ o ∧ o ≤ 317) ∨ o = 321)) (h2 : (o = 320 ∨ o = 324 ∨ o = 325 ∨ o = 329) → in32 v) (h3 : o = 307 → (j = 32 ∨ j = 36) → 0 ≤ v ∧ v ≤ 60) : GI T (sset s o j v) := by
  obtain ⟨a1, a2, a3, a4, a5, a6, a7⟩ := h
  refine ⟨fun o' j' hz => ?_, ?_, ?_, fun j' => ?_, fun j' => ?_, fun j' => ?_, fun j' => ?_⟩
  · rw [sset_1 (by omega)]; exact a1 o' j' hz
  · unfold sset
    split
    · next e => exact h3 e.1.symm (Or.inl e.2.symm)
    · exact a2
  · unfold sset
    split
    · next e => exact h3 e.1.symm (Or.inr e.2.symm)
    · exact a3
  all_goals
    unfold sset
    split
    · next e => exact h2 (by omega)
    · first | exact a4 j' | exact a5 j' | exact a6 j' | exact a7 j'
theorem GI.ptb {T s : Sg} {p : Int} (h : GI T s) : PTB s p ↔ PTB T p := by
  have e1 : ∀ j, s 312 j = T 312 j := fun j => h.1 312 j (by omega)
  have e2 : ∀ j, s 313 j = T 313 j := fun j => h.1 313 j (by omega)
  have e3 : ∀ j, s 314 j = T 314 j := fun j => h.1 314 j (by omega)
  have e4 : ∀ j, s 316 j = T 316 j := fun j => h.1 316 j (by omega)
  have e5 : ∀ j, s 317 j = T 317 j := fun j => h.1 317 j (by omega)
  unfold PTB
  simp only [e1, e2, e3, e4, e5]
/-- the places of the frames c .. 23 -/
def TCL (c o j : Int) : Prop := ((o = 323 ∨ o = 324 ∨ o = 330) ∧ c ≤ j ∧ j < 24) ∨ (o = 325 ∧ 24 * c ≤ j ∧ j < 576) ∨ ((o = 326 ∨ o = 327 ∨ o = 328) ∧ 6 * c ≤ j ∧ j < 144) ∨ (o = 329 ∧ 60 * c ≤ j ∧ j < 1440)
/-- what a next of stage k (or one ahead of it) in frame fr may write -/
def TCH (fr k o j : Int) : Prop := o = 320 ∨ (o = 307 ∧ (j = 32 ∨ j = 34)) ∨ ((o = 326 ∨ o = 327 ∨ o = 328) ∧ 6 * fr ≤ j ∧ j ≤ 6 * fr + k) ∨ (o = 329 ∧ 60 * fr ≤ j ∧ j < 60 * fr + 60) ∨ (o = 330 ∧ j = fr) ∨ TCL (childS fr) o j
/-- what a list that goes in frame c, and writes to at9, may write -/
def TCG (c at9 o j : Int) : Prop := o = 320 ∨ (o = 307 ∧ (j = 32 ∨ j = 34)) ∨ TCL c o j ∨ (0 ≤ at9 ∧ ((o = 329 ∧ 60 * at9 ≤ j ∧ j < 60 * at9 + 60) ∨ (o = 330 ∧ j = at9))) ∨ (at9 < 0 ∧ (o = 331 ∨ (o = 307 ∧ j = 36)))
/-- how many answers of the stage ahead are to come -/
def ptA (T s : Sg) (fr p : Int) : Nat → Nat
  | 0 => 0
  | k + 1 => if s 327 (6 * fr + k) ≠ 0 then 0 else
      if T 314 (T 312 p + k) = 0 then 1 + (4 - s 326 (6 * fr + k)).toNat else if T 314 (T 312 p + k) = 1 then 1 + (99 - s 326 (6 * fr + k)).toNat else
      if T 314 (T 312 p + k) ≤ 6 then 1 + (ptA T s fr p k - 1) else if T 314 (T 312 p + k) = 7 then (if s 326 (6 * fr + k) = 1 then 1 else 2) else
      if T 314 (T 312 p + k) ≤ 10 then 1 else 1 + (60 - s 326 (6 * fr + k)).toNat
def SO (T s : Sg) (fr p k : Int) : Prop := (s 327 (6 * fr + k) = 0 ∨ s 327 (6 * fr + k) = 1) ∧ (s 327 (6 * fr + k) = 0 → (T 314 (T 312 p + k) = 0 → 0 ≤ s 326 (6 * fr + k) ∧ s 326 (6 * fr + k) ≤ 4) ∧ (T 314 (T 312 p + k) = 1 → 0 ≤ s 326 (6 * fr + k) ∧ s 326 (6 * fr + k) ≤ 99) ∧ (11 ≤ T 314 (T 312 p + k) → 0 ≤ s 326 (6 * fr + k) ∧ s 326 (6 * fr + k) ≤ 60))
def FX (T s : Sg) (fr p : Int) (k : Nat) : Prop := (0 ≤ s 330 fr ∧ s 330 fr ≤ 60) ∧ ∀ j : Nat, j < k → SO T s fr p j
theorem ptA_le {T s : Sg} {fr p : Int} : ∀ {k : Nat}, (∀ j : Nat, j < k → SO T s fr p j) → ptA T s fr p k ≤ 100
  | 0, _ => Nat.zero_le _
  | k + 1, h => by
    have ih := ptA_le (k := k) (fun j hj => h j (by omega))
    obtain ⟨h1, h2⟩ := h k (by omega)
    unfold ptA
    by_cases e0 : s 327 (6 * fr + k) = 0
    · obtain ⟨g1, g2, g3⟩ := h2 e0
      rw [if_neg (by omega)]
      (repeat' split) <;> omega
    · rw [if_pos e0]
      omega
theorem ptA_eq {T s s' : Sg} {fr p : Int} : ∀ {k : Nat}, (∀ j : Int, 6 * fr ≤ j → j < 6 * fr + k → s' 326 j = s 326 j ∧ s' 327 j = s 327 j) → ptA T s' fr p k = ptA T s fr p k
  | 0, _ => rfl
  | k + 1, h => by
    have ih := ptA_eq (T := T) (p := p) (k := k) (fun j g1 g2 => h j g1 (by omega))
    obtain ⟨h1, h2⟩ := h (6 * fr + k) (by omega) (by omega)
    unfold ptA
    rw [h1, h2, ih]
theorem ptA_pos {T s : Sg} {fr p : Int} {k : Nat} (h : s 327 (6 * fr + k) = 0) : 1 ≤ ptA T s fr p (k + 1) := by
  unfold ptA
  rw [if_neg (by omega)]
  (repeat' split) <;> omega
theorem ptA_end {T s : Sg} {fr p : Int} {k : Nat} (h : s 327 (6 * fr + k) ≠ 0) : ptA T s fr p (k + 1) = 0 := by
  unfold ptA
  rw [if_pos h]
theorem SO_eq {T s s' : Sg} {fr p k : Int} (h1 : s' 326 (6 * fr + k) = s 326 (6 * fr + k)) (h2 : s' 327 (6 * fr + k) = s 327 (6 * fr + k)) (h : SO T s fr p k) : SO T s' fr p k := by
  unfold SO at h ⊢
  rw [h1, h2]
  exact h
def NP (T s s' : Sg) (fr p : Int) (k : Nat) (v : Int) : Prop :=
  (∀ o j, ¬ TCH fr k o j → s' o j = s o j) ∧ GI T s' ∧ FX T s' fr p (k + 1) ∧ (∀ j : Nat, j ≤ k + 1 → ptA T s' fr p j ≤ ptA T s fr p j) ∧ (s 327 (6 * fr + k) = 0 → ptA T s' fr p (k + 1) + 1 ≤ ptA T s fr p (k + 1)) ∧
  (v = (-9223372036854775808) ∧ s' 327 (6 * fr + k) = 1 ∨ in32 v ∧ s' 327 (6 * fr + k) = 0 ∧ s 327 (6 * fr + k) = 0)
def AP (T s s' : Sg) (fr p : Int) (k : Nat) (v : Int) : Prop :=
  (∀ o j, ¬ TCH fr ((k : Int) - 1) o j → s' o j = s o j) ∧ GI T s' ∧ FX T s' fr p k ∧ (∀ j : Nat, j ≤ k → ptA T s' fr p j ≤ ptA T s fr p j) ∧
  (v = (-9223372036854775808) ∨ in32 v ∧ ptA T s' fr p k + 1 ≤ ptA T s fr p k ∧ 1 ≤ ptA T s' fr p k)
theorem AP.trans {T s s1 s2 : Sg} {fr p v1 v2 : Int} {k : Nat} (h1 : AP T s s1 fr p k v1) (h2 : AP T s1 s2 fr p k v2) : AP T s s2 fr p k v2 := by
  obtain ⟨a1, a2, a3, a4, a5⟩ := h1
  obtain ⟨b1, b2, b3, b4, b5⟩ := h2
  refine ⟨fun o j h => (b1 o j h).trans (a1 o j h), b2, b3, fun j hj => Nat.le_trans (b4 j hj) (a4 j hj), ?_⟩
  rcases b5 with b5 | ⟨b5, b6, b7⟩
  · exact Or.inl b5
  · have := a4 k (Nat.le_refl _)
    exact Or.inr ⟨b5, by omega, b7⟩
def NXG (nx : Sg → Int → Int → Option (Int × Sg)) (T : Sg) (fr p : Int) (k : Nat) (g : Int) : Prop := ∀ s, GI T s → s 323 fr = p → FX T s fr p (k + 1) → s 307 33 = g → ∃ v s', nx s fr k = some (v, s') ∧ NP T s s' fr p k v
theorem no32 : ¬ in32 (-9223372036854775808) := by unfold in32; omega
theorem tch_self {fr k : Int} (hfr : 0 ≤ fr ∧ fr < 28) : ¬ TCH fr k 323 fr := by
  unfold TCH TCL childS
  split <;> omega
theorem tch_going {fr k : Int} : ¬ TCH fr k 307 33 := by
  unfold TCH TCL
  omega
theorem tch_le {fr k k' o j : Int} (h : k ≤ k') (q : TCH fr k o j) : TCH fr k' o j := by
  rcases q with q | q | q | q | q | q
  · exact Or.inl q
  · exact Or.inr (Or.inl q)
  · exact Or.inr (Or.inr (Or.inl ⟨q.1, q.2.1, by omega⟩))
  · exact Or.inr (Or.inr (Or.inr (Or.inl q)))
  · exact Or.inr (Or.inr (Or.inr (Or.inr (Or.inl q))))
  · exact Or.inr (Or.inr (Or.inr (Or.inr (Or.inr q))))
theorem ahead_ok {nx : Sg → Int → Int → Option (Int × Sg)} {T s : Sg} {fr p g : Int} {k : Nat} (hN : ∀ m, k = m + 1 → NXG nx T fr p m g) (hG : GI T s) (hp9 : s 323 fr = p) (hF : FX T s fr p k) (hg : s 307 33 = g) : ∃ v s', aheadS nx s fr k = some (v, s') ∧ AP T s s' fr p k v := by
  cases k with
  | zero =>
    refine ⟨(-9223372036854775808), sset s 307 34 (w32 (s 307 34 + 0)), ?_, fun o j h => ?_, hG.set (by omega) (by omega) (by omega), ⟨?_, fun j hj => absurd hj (by omega)⟩, fun j hj => ?_, Or.inl rfl⟩
    · unfold aheadS
      rw [if_pos (by rfl)]
      rfl
    · unfold sset
      rw [if_neg]
      intro q
      exact h (Or.inr (Or.inl ⟨q.1, Or.inr q.2⟩))
    · rw [sset_1 (by omega)]; exact hF.1
    · rw [show j = 0 by omega]; exact Nat.le_refl _
  | succ m =>
    obtain ⟨v, r, e, h1, h2, h3, h4, h5, h6⟩ := hN m rfl s hG hp9 hF hg
    refine ⟨v, sset r 307 34 (w32 (r 307 34 + if v = (-9223372036854775808) then 0 else 1)), ?_, fun o j h => ?_, h2.set (by omega) (by omega) (by omega), ⟨?_, fun j hj => ?_⟩, fun j hj => ?_, ?_⟩
    · unfold aheadS
      rw [if_neg (by omega), show (((m + 1 : Nat) : Int) - 1) = m by omega, e]
      rfl
    · rw [show (((m + 1 : Nat) : Int) - 1) = m by omega] at h
      unfold sset
      rw [if_neg]
      · exact h1 o j h
      · intro q
        exact h (Or.inr (Or.inl ⟨q.1, Or.inr q.2⟩))
    · rw [sset_1 (by omega)]; exact h3.1
    · exact SO_eq (sset_1 (by omega)) (sset_1 (by omega)) (h3.2 j hj)
    · rw [ptA_eq (s := r) (fun j _ _ => ⟨sset_1 (by omega), sset_1 (by omega)⟩)]
      exact h4 j hj
    · rw [ptA_eq (s := r) (fun j _ _ => ⟨sset_1 (by omega), sset_1 (by omega)⟩)]
      rcases h6 with ⟨h6, _⟩ | ⟨h6, h7, h8⟩
      · exact Or.inl h6
      · exact Or.inr ⟨h6, h5 h8, ptA_pos h7⟩
theorem keeps_ok {nx : Sg → Int → Int → Option (Int × Sg)} {T : Sg} {fr p g n : Int} {k : Nat} (hfr : 0 ≤ fr ∧ fr < 28) (hN : ∀ m, k = m + 1 → NXG nx T fr p m g) : ∀ (mm : Nat) (s : Sg), ptA T s fr p k + 1 ≤ mm → GI T s → s 323 fr = p → FX T s fr p k → s 307 33 = g → ∃ v s', keepsS nx fr k n mm s = some (v, s') ∧ AP T s s' fr p k v
  | 0, s, h, _, _, _, _ => by omega
  | mm + 1, s, h, hG, hp9, hF, hg => by
    obtain ⟨v, r, e, hA⟩ := ahead_ok hN hG hp9 hF hg
    by_cases c : v = (-9223372036854775808) ∨ (if n = 0 then v = 0 else v.tmod n = 0)
    · refine ⟨v, r, ?_, hA⟩
      unfold keepsS
      rw [e]
      exact if_pos c
    · have hA9 := hA
      obtain ⟨a1, a2, a3, a4, a5⟩ := hA9
      rcases a5 with a5 | ⟨_, a6, _⟩
      · exact absurd (Or.inl a5) c
      · obtain ⟨v2, r2, e2, hA2⟩ := keeps_ok hfr hN mm r (by omega) a2 ((a1 _ _ (tch_self hfr)).trans hp9) a3 ((a1 _ _ tch_going).trans hg)
        refine ⟨v2, r2, ?_, hA.trans hA2⟩
        unfold keepsS
        rw [e]
        exact (if_neg c).trans e2
theorem sums_ok {nx : Sg → Int → Int → Option (Int × Sg)} {T : Sg} {fr p g : Int} {k : Nat} (hfr : 0 ≤ fr ∧ fr < 28) (hN : ∀ m, k = m + 1 → NXG nx T fr p m g) : ∀ (mm : Nat) (a : Int) (s : Sg), in32 a → ptA T s fr p k + 1 ≤ mm → GI T s → s 323 fr = p → FX T s fr p k → s 307 33 = g → ∃ z s', sumsS nx fr k mm a s = some (z, s') ∧ in32 z ∧ AP T s s' fr p k (-9223372036854775808)
  | 0, a, s, _, h, _, _, _, _ => by omega
  | mm + 1, a, s, ha, h, hG, hp9, hF, hg => by
    obtain ⟨v, r, e, hA⟩ := ahead_ok hN hG hp9 hF hg
    by_cases c : v = (-9223372036854775808)
    · subst c
      refine ⟨a, r, ?_, ha, hA⟩
      unfold sumsS
      rw [e]
      show (if (-9223372036854775808 : Int) = -9223372036854775808 then some (a, r) else sumsS nx fr k mm (w32 (a + w32 (-9223372036854775808))) r) = some (a, r)
      rw [if_pos rfl]
    · have hA9 := hA
      obtain ⟨a1, a2, a3, a4, a5⟩ := hA9
      rcases a5 with a5 | ⟨_, a6, _⟩
      · exact absurd a5 c
      · obtain ⟨v2, r2, e2, hz, hA2⟩ := sums_ok hfr hN mm (w32 (a + w32 v)) r (w32_in _) (by omega) a2 ((a1 _ _ (tch_self hfr)).trans hp9) a3 ((a1 _ _ tch_going).trans hg)
        refine ⟨v2, r2, ?_, hz, hA.trans hA2⟩
        unfold sumsS
        rw [e]
        exact (if_neg c).trans e2
theorem sets_ok {nx : Sg → Int → Int → Option (Int × Sg)} {T : Sg} {fr p g : Int} {k : Nat} (hfr : 0 ≤ fr ∧ fr < 28) (hN : ∀ m, k = m + 1 → NXG nx T fr p m g) : ∀ (mm : Nat) (a : Option Int) (s : Sg), (∀ x, a = some x → in32 x) → ptA T s fr p k + 1 ≤ mm → GI T s → s 323 fr = p → FX T s fr p k → s 307 33 = g → ∃ z s', setsS nx fr k mm a s = some (z, s') ∧ (∀ x, z = some x → in32 x) ∧ AP T s s' fr p k (-9223372036854775808)
  | 0, a, s, _, h, _, _, _, _ => by omega
  | mm + 1, a, s, ha, h, hG, hp9, hF, hg => by
    obtain ⟨v, r, e, hA⟩ := ahead_ok hN hG hp9 hF hg
    by_cases c : v = (-9223372036854775808)
    · subst c
      refine ⟨a, r, ?_, ha, hA⟩
      unfold setsS
      rw [e]
      show (if (-9223372036854775808 : Int) = -9223372036854775808 then some (a, r) else setsS nx fr k mm (some (w32 (-9223372036854775808))) r) = some (a, r)
      rw [if_pos rfl]
    · have hA9 := hA
      obtain ⟨a1, a2, a3, a4, a5⟩ := hA9
      rcases a5 with a5 | ⟨_, a6, _⟩
      · exact absurd a5 c
      · obtain ⟨v2, r2, e2, hz, hA2⟩ := sets_ok hfr hN mm (some (w32 v)) r (fun x hx9 => by injection hx9 with hx9; rw [← hx9]; exact w32_in _) (by omega) a2 ((a1 _ _ (tch_self hfr)).trans hp9) a3 ((a1 _ _ tch_going).trans hg)
        refine ⟨v2, r2, ?_, hz, hA.trans hA2⟩
        unfold setsS
        rw [e]
        exact (if_neg c).trans e2
/-! lists -/
def GPST (T s s' : Sg) (c at9 : Int) : Prop := (∀ o j, ¬ TCG c at9 o j → s' o j = s o j) ∧ GI T s' ∧ (0 ≤ at9 → 0 ≤ s' 330 at9 ∧ s' 330 at9 ≤ 60)
def GOK (nx : Sg → Int → Int → Option (Int × Sg)) (T : Sg) (c at9 g : Int) (e : Nat) : Prop := ∀ s l par, GI T s → s 307 33 = g → (0 ≤ l ∧ l < 480) → CH T (POK T e) 100 (T 309 l) → in32 par → (0 ≤ at9 → 0 ≤ s 330 at9 ∧ s 330 at9 ≤ 60) → ∃ z s', goesS nx l par c at9 s = some (z, s') ∧ GPST T s s' c at9
theorem GPST.trans {T s s1 s2 : Sg} {c at9 : Int} (h1 : GPST T s s1 c at9) (h2 : GPST T s1 s2 c at9) : GPST T s s2 c at9 :=
  ⟨fun o j h => (h2.1 o j h).trans (h1.1 o j h), h2.2.1, h2.2.2⟩
theorem tcl_le {c c' o j : Int} (h : c ≤ c') (q : TCL c' o j) : TCL c o j := by
  rcases q with q | q | q | q
  · exact Or.inl ⟨q.1, by omega, q.2.2⟩
  · exact Or.inr (Or.inl ⟨q.1, by omega, q.2.2⟩)
  · exact Or.inr (Or.inr (Or.inl ⟨q.1, by omega, q.2.2⟩))
  · exact Or.inr (Or.inr (Or.inr ⟨q.1, by omega, q.2.2⟩))
theorem tch_tcg {c at9 k o j : Int} (hc : 0 ≤ c ∧ c < 24) (hk9 : k ≤ 5) (q : TCH c k o j) : TCG c at9 o j := by
  rcases q with q | q | q | q | q | q
  · exact Or.inl q
  · exact Or.inr (Or.inl q)
  · exact Or.inr (Or.inr (Or.inl (Or.inr (Or.inr (Or.inl ⟨q.1, q.2.1, by omega⟩)))))
  · exact Or.inr (Or.inr (Or.inl (Or.inr (Or.inr (Or.inr ⟨q.1, q.2.1, by omega⟩)))))
  · exact Or.inr (Or.inr (Or.inl (Or.inl ⟨Or.inr (Or.inr q.1), by omega, by omega⟩)))
  · refine Or.inr (Or.inr (Or.inl (tcl_le ?_ q)))
    unfold childS
    rw [if_pos hc.2]
    omega
theorem tcg_going {c at9 : Int} : ¬ TCG c at9 307 33 := by
  unfold TCG TCL
  omega
theorem writes_o {s : Sg} {at9 v o j : Int} (h : ¬ TCG 24 at9 o j) (hm : 0 ≤ at9 → 0 ≤ s 330 at9) : writesS s at9 v o j = s o j := by
  unfold writesS
  unfold TCG TCL at h
  by_cases e : at9 < 0
  · rw [if_pos e]
    split
    · unfold sset
      rw [if_neg (by omega), if_neg (by omega)]
    · rfl
  · rw [if_neg e]
    split
    · unfold sset
      have := hm (by omega)
      rw [if_neg (by omega), if_neg (by omega)]
    · rfl
theorem tcg_24 {c at9 o j : Int} (q : TCG 24 at9 o j) : TCG c at9 o j := by
  rcases q with q | q | q | q | q
  · exact Or.inl q
  · exact Or.inr (Or.inl q)
  · exfalso
    rcases q with q | q | q | q <;> omega
  · exact Or.inr (Or.inr (Or.inr (Or.inl q)))
  · exact Or.inr (Or.inr (Or.inr (Or.inr q)))
theorem flow_ok {nx : Sg → Int → Int → Option (Int × Sg)} {T : Sg} {c p g at9 : Int} {k : Nat} (hc : 0 ≤ c ∧ c < 24) (hk9 : k ≤ 5) (h9 : at9 < 28 ∧ (at9 < c ∨ 24 ≤ at9)) (hN : NXG nx T c p k g) : ∀ (mm : Nat) (s : Sg), ptA T s c p (k + 1) + 1 ≤ mm → GI T s → s 323 c = p → FX T s c p (k + 1) → s 307 33 = g → (0 ≤ at9 → 0 ≤ s 330 at9 ∧ s 330 at9 ≤ 60) → ∃ s', flowS nx c at9 k mm s = some s' ∧ GPST T s s' c at9
  | 0, s, h, _, _, _, _, _ => by omega
  | mm + 1, s, h, hG, hp9, hF, hg, ha => by
    obtain ⟨v, r, e, h1, h2, h3, h4, h5, h6⟩ := hN s hG hp9 hF hg
    have fr1 : ∀ o j, ¬ TCG c at9 o j → r o j = s o j := fun o j q => h1 o j (fun z => q (tch_tcg hc (by omega) z))
    have hr : 0 ≤ at9 → 0 ≤ r 330 at9 ∧ r 330 at9 ≤ 60 := fun q => by
      rw [h1 330 at9 (by unfold TCH TCL childS; rw [if_pos (by omega)]; omega)]
      exact ha q
    rcases h6 with ⟨h6, _⟩ | ⟨h6, h7, h8⟩
    · refine ⟨r, ?_, fr1, h2, hr⟩
      unfold flowS
      rw [e]
      exact if_pos h6
    · have hw : ∀ o j, ¬ TCG c at9 o j → writesS r at9 (w32 v) o j = r o j := fun o j q => writes_o (fun z => q (tcg_24 z)) (fun z => (hr z).1)
      have hwk : ∀ o j, (326 ≤ o ∧ o ≤ 328 ∨ o = 323 ∨ (o = 330 ∧ j = c) ∨ (o = 307 ∧ j = 33)) → writesS r at9 (w32 v) o j = r o j := fun o j q => writes_o (by unfold TCG TCL; omega) (fun z => (hr z).1)
      have hG2 : GI T (writesS r at9 (w32 v)) := by
        unfold writesS
        split
        · split
          · refine (h2.set (by omega) (by omega) (by omega)).set (by omega) (by omega) (fun _ _ => ?_)
            have := h2.2.2.1
            omega
          · exact h2
        · split
          · exact (h2.set (by omega) (fun _ => w32_in _) (by omega)).set (by omega) (by omega) (by omega)
          · exact h2
      have hr2 : 0 ≤ at9 → 0 ≤ writesS r at9 (w32 v) 330 at9 ∧ writesS r at9 (w32 v) 330 at9 ≤ 60 := fun q => by
        have q2 := hr q
        unfold writesS
        rw [if_neg (by omega)]
        split
        · rw [sset_e]; omega
        · exact q2
      have ept : ptA T (writesS r at9 (w32 v)) c p (k + 1) = ptA T r c p (k + 1) := ptA_eq (fun j _ _ => ⟨hwk _ _ (by omega), hwk _ _ (by omega)⟩)
      have hF2 : FX T (writesS r at9 (w32 v)) c p (k + 1) := by
        refine ⟨?_, fun j hj => SO_eq (hwk _ _ (by omega)) (hwk _ _ (by omega)) (h3.2 j hj)⟩
        rw [hwk 330 c (by omega)]
        exact h3.1
      obtain ⟨s', e2, hP⟩ := flow_ok hc hk9 h9 hN mm (writesS r at9 (w32 v)) (by rw [ept]; have := h5 h8; omega) hG2 (by rw [hwk _ _ (by omega), h1 _ _ (tch_self (by omega))]; exact hp9) hF2 (by rw [hwk _ _ (by omega), h1 _ _ tch_going]; exact hg) hr2
      refine ⟨s', ?_, fun o j q => (hP.1 o j q).trans ((hw o j q).trans (fr1 o j q)), hP.2⟩
      unfold flowS
      rw [e]
      refine (if_neg (fun (z : v = (-9223372036854775808)) => no32 (z ▸ h6))).trans ?_
      rw [grd_ok ⟨h2.2.2.1, h9.1, hr⟩]
      exact e2
