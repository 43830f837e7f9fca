/-! ===== of the spec of runs: what is written stays an int; the count of reads is looked at nowhere ===== -/
def I31 (s : Sg) : Prop := ∀ j, in32 (s 331 j)
theorem I31.o {s : Sg} {o k x : Int} (h : I31 s) (ho : o ≠ 331) : I31 (sset s o k x) := fun j => by
  rw [sset_1 (by omega)]
  exact h j
def HI (nx : Sg → Int → Int → Option (Int × Sg)) : Prop := ∀ s fr k x t, nx s fr k = some (x, t) → I31 s → I31 t
theorem workS_i {fr k st par : Int} : ∀ {n : Nat} {s : Sg}, I31 s → I31 (workS s fr k st par n)
  | 0, _, h => h
  | _ + 1, _, h => (workS_i h).o (by omega)
theorem stagesS_i {fr p par : Int} : ∀ {n : Nat} {s : Sg}, I31 s → I31 (stagesS s fr p par n)
  | 0, _, h => h
  | _ + 1, _, h => ((((workS_i (stagesS_i h)).o (by omega)).o (by omega)).o (by omega))
theorem beginsS_i {s : Sg} {fr p par : Int} (h : I31 s) : I31 (beginsS s fr p par) := stagesS_i (((h.o (by omega)).o (by omega)).o (by omega))
theorem writesS_i {s : Sg} {a x : Int} (h : I31 s) : I31 (writesS s a (w32 x)) := by
  unfold writesS
  split
  · split
    · refine I31.o (fun j => ?_) (by omega)
      unfold sset
      split
      · exact w32_in x
      · exact h j
    · exact h
  · split
    · exact (h.o (by omega)).o (by omega)
    · exact h
theorem aheadS_i {nx : Sg → Int → Int → Option (Int × Sg)} (hn9 : HI nx) {s t : Sg} {fr k x : Int} (h : aheadS nx s fr k = some (x, t)) (hs9 : I31 s) : I31 t := by
  unfold aheadS at h
  obtain ⟨⟨x1, r1⟩, g1, g2⟩ := Option.bind_eq_some_iff.mp h
  rw [Option.some.injEq, Prod.mk.injEq] at g2
  rw [← g2.2]
  refine I31.o ?_ (by omega)
  by_cases c : k = 0
  · rw [if_pos c, Option.some.injEq, Prod.mk.injEq] at g1
    rw [← g1.2]; exact hs9
  · rw [if_neg c] at g1
    exact hn9 _ _ _ _ _ g1 hs9
theorem keepsS_i {nx : Sg → Int → Int → Option (Int × Sg)} (hn9 : HI nx) {fr k n : Int} : ∀ {m : Nat} {s t : Sg} {x : Int}, keepsS nx fr k n m s = some (x, t) → I31 s → I31 t
  | 0, _, _, _, h, _ => by simp [keepsS] at h
  | m + 1, s, t, x, h, hs9 => by
    unfold keepsS at h
    obtain ⟨⟨x1, r1⟩, g1, g2⟩ := Option.bind_eq_some_iff.mp h
    have h1 := aheadS_i hn9 g1 hs9
    dsimp only at g2
    by_cases c : x1 = (-9223372036854775808) ∨ (if n = 0 then x1 = 0 else x1.tmod n = 0)
    · rw [if_pos c, Option.some.injEq, Prod.mk.injEq] at g2
      rw [← g2.2]; exact h1
    · rw [if_neg c] at g2
      exact keepsS_i hn9 g2 h1
theorem sumsS_i {nx : Sg → Int → Int → Option (Int × Sg)} (hn9 : HI nx) {fr k : Int} : ∀ {m : Nat} {a : Int} {s t : Sg} {x : Int}, sumsS nx fr k m a s = some (x, t) → I31 s → I31 t
  | 0, _, _, _, _, h, _ => by simp [sumsS] at h
  | m + 1, a, s, t, x, h, hs9 => by
    unfold sumsS at h
    obtain ⟨⟨x1, r1⟩, g1, g2⟩ := Option.bind_eq_some_iff.mp h
    have h1 := aheadS_i hn9 g1 hs9
    dsimp only at g2
    split at g2
    · rw [Option.some.injEq, Prod.mk.injEq] at g2
      rw [← g2.2]; exact h1
    · exact sumsS_i hn9 g2 h1
theorem setsS_i {nx : Sg → Int → Int → Option (Int × Sg)} (hn9 : HI nx) {fr k : Int} : ∀ {m : Nat} {a : Option Int} {s t : Sg} {x : Option Int}, setsS nx fr k m a s = some (x, t) → I31 s → I31 t
  | 0, _, _, _, _, h, _ => by simp [setsS] at h
  | m + 1, a, s, t, x, h, hs9 => by
    unfold setsS at h
    obtain ⟨⟨x1, r1⟩, g1, g2⟩ := Option.bind_eq_some_iff.mp h
    have h1 := aheadS_i hn9 g1 hs9
    dsimp only at g2
    split at g2
    · rw [Option.some.injEq, Prod.mk.injEq] at g2
      rw [← g2.2]; exact h1
    · exact setsS_i hn9 g2 h1
theorem flowS_i {nx : Sg → Int → Int → Option (Int × Sg)} (hn9 : HI nx) {fr at9 k : Int} : ∀ {m : Nat} {s t : Sg}, flowS nx fr at9 k m s = some t → I31 s → I31 t
  | 0, _, _, h, _ => by simp [flowS] at h
  | m + 1, s, t, h, hs9 => by
    unfold flowS at h
    obtain ⟨⟨x1, r1⟩, g1, g2⟩ := Option.bind_eq_some_iff.mp h
    have h1 := hn9 _ _ _ _ _ g1 hs9
    dsimp only at g2
    split at g2
    · rw [Option.some.injEq] at g2
      rw [← g2]; exact h1
    · exact flowS_i hn9 (grd_some g2).2 (writesS_i h1)
theorem pipeS_i {nx : Sg → Int → Int → Option (Int × Sg)} (hn9 : HI nx) {p par fr at9 x : Int} {s t : Sg} (h : pipeS nx p par fr at9 s = some (x, t)) (hs9 : I31 s) : I31 t := by
  unfold pipeS at h
  obtain ⟨u, g1, g2⟩ := Option.bind_eq_some_iff.mp (grd_some h).2
  rw [Option.some.injEq, Prod.mk.injEq] at g2
  rw [← g2.2]
  exact flowS_i hn9 g1 (beginsS_i (hs9.o (by omega)))
theorem listS_i {nx : Sg → Int → Int → Option (Int × Sg)} (hn9 : HI nx) {par fr at9 : Int} : ∀ {m : Nat} {p st : Int} {s t : Sg} {x : Int}, listS nx par fr at9 m p st s = some (x, t) → I31 s → I31 t
  | 0, _, _, _, _, _, h, _ => by simp [listS] at h
  | m + 1, p, st, s, t, x, h, hs9 => by
    unfold listS at h
    split at h
    · rw [Option.some.injEq, Prod.mk.injEq] at h
      rw [← h.2]; exact hs9
    · obtain ⟨⟨x1, r1⟩, g1, g2⟩ := Option.bind_eq_some_iff.mp (grd_some h).2
      have h1 : I31 r1 := by
        split at g1
        · split at g1
          · rw [Option.some.injEq, Prod.mk.injEq] at g1
            rw [← g1.2]; exact hs9
          · exact pipeS_i hn9 g1 hs9
        · rw [Option.some.injEq, Prod.mk.injEq] at g1
          rw [← g1.2]; exact hs9
      exact listS_i hn9 g2 h1
theorem goesS_i {nx : Sg → Int → Int → Option (Int × Sg)} (hn9 : HI nx) {l par fr at9 x : Int} {s t : Sg} (h : goesS nx l par fr at9 s = some (x, t)) (hs9 : I31 s) : I31 t := by
  unfold goesS at h
  exact listS_i hn9 (grd_some h).2 hs9
theorem innerS_i {nx : Sg → Int → Int → Option (Int × Sg)} (hn9 : HI nx) {fr st n : Int} {s t : Sg} (h : innerS nx fr st n s = some t) (hs9 : I31 s) : I31 t := by
  unfold innerS at h
  split at h
  · rw [Option.some.injEq] at h
    rw [← h]; exact hs9
  · split at h
    · obtain ⟨⟨x1, r1⟩, g1, g2⟩ := Option.bind_eq_some_iff.mp h
      rw [Option.some.injEq] at g2
      rw [← g2]
      exact (goesS_i hn9 g1 hs9).o (by omega)
    · split at h
      · rw [Option.some.injEq] at h
        rw [← h]; exact hs9.o (by omega)
      · split at h
        · rw [Option.some.injEq] at h
          rw [← h]; exact hs9.o (by omega)
        · obtain ⟨⟨x1, r1⟩, g1, g2⟩ := Option.bind_eq_some_iff.mp h
          rw [Option.some.injEq] at g2
          rw [← g2]
          exact ((goesS_i hn9 g1 (hs9.o (by omega))).o (by omega)).o (by omega)
theorem withinS_i {nx : Sg → Int → Int → Option (Int × Sg)} (hn9 : HI nx) {fr st n x : Int} {s t : Sg} (h : withinS nx fr st n s = some (x, t)) (hs9 : I31 s) : I31 t := by
  unfold withinS at h
  obtain ⟨u, g1, g2⟩ := Option.bind_eq_some_iff.mp h
  have g3 := (grd_some g2).2
  rw [Option.some.injEq, Prod.mk.injEq] at g3
  rw [← g3.2]
  exact (innerS_i hn9 g1 hs9).o (by omega)
theorem putS_i {z : Option Int} {t : Sg} {n fr k : Int} (h : I31 t) : I31 (putS z t n fr k) := by
  cases z with
  | none => exact h
  | some v => exact (h.o (by omega)).o (by omega)
theorem askedS_i {nx : Sg → Int → Int → Option (Int × Sg)} (hn9 : HI nx) {fr k st n x : Int} {s t : Sg} (h : askedS nx fr k st n s = some (x, t)) (hs9 : I31 s) : I31 t := by
  unfold askedS at h
  split at h
  · have g3 := (grd_some h).2
    rw [Option.some.injEq, Prod.mk.injEq] at g3
    rw [← g3.2]; exact hs9.o (by omega)
  split at h
  · rw [Option.some.injEq, Prod.mk.injEq] at h
    rw [← h.2]; exact hs9.o (by omega)
  split at h
  · obtain ⟨⟨x1, r1⟩, g1, g2⟩ := Option.bind_eq_some_iff.mp h
    rw [Option.some.injEq, Prod.mk.injEq] at g2
    rw [← g2.2]; exact aheadS_i hn9 g1 hs9
  split at h
  · obtain ⟨⟨x1, r1⟩, g1, g2⟩ := Option.bind_eq_some_iff.mp h
    rw [Option.some.injEq, Prod.mk.injEq] at g2
    rw [← g2.2]
    split at g1
    · rw [Option.some.injEq, Prod.mk.injEq] at g1
      rw [← g1.2]; exact hs9
    · exact aheadS_i hn9 g1 hs9
  split at h
  · exact keepsS_i hn9 h hs9
  split at h
  · obtain ⟨⟨x1, r1⟩, g1, g2⟩ := Option.bind_eq_some_iff.mp h
    rw [Option.some.injEq, Prod.mk.injEq] at g2
    rw [← g2.2]
    refine I31.o ?_ (by omega)
    split at g1
    · exact aheadS_i hn9 g1 hs9
    · rw [Option.some.injEq, Prod.mk.injEq] at g1
      rw [← g1.2]; exact hs9
  split at h
  · split at h
    · rw [Option.some.injEq, Prod.mk.injEq] at h
      rw [← h.2]; exact hs9
    · exact sumsS_i hn9 h (hs9.o (by omega))
  split at h
  · obtain ⟨⟨x1, r1⟩, g1, g2⟩ := Option.bind_eq_some_iff.mp (grd_some h).2
    rw [Option.some.injEq, Prod.mk.injEq] at g2
    rw [← g2.2]; exact putS_i (setsS_i hn9 g1 hs9)
  split at h
  · rw [Option.some.injEq, Prod.mk.injEq] at h
    rw [← h.2]; exact hs9
  · exact withinS_i hn9 h hs9
theorem nextS_i : ∀ n : Nat, HI (nextS n)
  | 0 => fun s fr k x t h _ => by simp [nextS] at h
  | n + 1 => fun s fr k x t h hs9 => by
    unfold nextS at h
    have h := (grd_some h).2
    split at h
    · rw [Option.some.injEq, Prod.mk.injEq] at h
      rw [← h.2]; exact hs9
    · obtain ⟨⟨x1, r1⟩, g1, g2⟩ := Option.bind_eq_some_iff.mp h
      rw [Option.some.injEq, Prod.mk.injEq] at g2
      rw [← g2.2]; exact (askedS_i (nextS_i n) g1 hs9).o (by omega)
theorem runsS_i {n : Nat} {l : Int} {s t : Sg} (h : runsS n l s = some t) (hs9 : I31 s) : I31 t := by
  obtain ⟨z1, r1, g1, g2⟩ := runs_s h
  have h1 := goesS_i (nextS_i n) g1 ((((hs9.o (by omega)).o (by omega)).o (by omega)).o (by omega))
  rcases g2 with ⟨_, g⟩ | ⟨_, _, z2, g⟩
  · rw [g]; exact h1.o (by omega)
  · exact goesS_i (nextS_i n) g (h1.o (by omega))
/-! the count of reads -/
def RD (s t : Sg) : Prop := ∀ o k, ¬ (o = 307 ∧ k = 34) → t o k = s o k
theorem RD.rf {s : Sg} : RD s s := fun _ _ _ => rfl
theorem RD.set {s t : Sg} {o k x : Int} (h : RD s t) : RD (sset s o k x) (sset t o k x) := fun o' k' q => by
  unfold sset
  split
  · rfl
  · exact h o' k' q
theorem RD.set2 {s t : Sg} {o k x y : Int} (h : RD s t) (e : ¬ (o = 307 ∧ k = 34) → x = y) : RD (sset s o k x) (sset t o k y) := fun o' k' q => by
  unfold sset
  split
  · next z => exact (e (fun w => q ⟨z.1.trans w.1, z.2.trans w.2⟩)).symm
  · exact h o' k' q
def HR (nx : Sg → Int → Int → Option (Int × Sg)) : Prop := ∀ s fr k x t s', nx s fr k = some (x, t) → RD s s' → ∃ t', nx s' fr k = some (x, t') ∧ RD t t'
theorem worthS_r {s s' : Sg} {par x : Int} (h : RD s s') : worthS s' par x = worthS s par x := by
  unfold worthS
  rw [h 320 _ (by omega)]
theorem workS_r {fr k st par : Int} {s s' : Sg} (h : RD s s') : ∀ n : Nat, RD (workS s fr k st par n) (workS s' fr k st par n)
  | 0 => h
  | n + 1 => by
    have ih := workS_r (fr := fr) (k := k) (st := st) (par := par) h n
    unfold workS
    rw [worthS_r ih, ih 317 _ (by omega)]
    exact ih.set
theorem oneS_r {fr k st par : Int} {s s' : Sg} (h : RD s s') : RD (oneS s fr k st par) (oneS s' fr k st par) := by
  unfold oneS
  rw [h 316 _ (by omega)]
  have h1 : RD (clearS (workS s fr k st par (s 316 st).toNat) fr k) (clearS (workS s' fr k st par (s 316 st).toNat) fr k) := ((workS_r h _).set).set
  refine h1.set2 (fun _ => ?_)
  unfold status0
  rw [h1 314 _ (by omega), h1 325 _ (by omega)]
theorem stagesS_r {fr p par : Int} {s s' : Sg} (h : RD s s') : ∀ n : Nat, RD (stagesS s fr p par n) (stagesS s' fr p par n)
  | 0 => h
  | n + 1 => by
    have ih := stagesS_r (fr := fr) (p := p) (par := par) h n
    unfold stagesS
    have e : stAt (stagesS s' fr p par n) p n = stAt (stagesS s fr p par n) p n := by
      unfold stAt
      rw [ih 312 _ (by omega)]
    rw [e]
    exact oneS_r ih
theorem beginsS_r {fr p par : Int} {s s' : Sg} (h : RD s s') : RD (beginsS s fr p par) (beginsS s' fr p par) := by
  unfold beginsS
  have h1 : RD (sset (sset (sset s 323 fr p) 324 fr par) 330 fr 0) (sset (sset (sset s' 323 fr p) 324 fr par) 330 fr 0) := h.set.set.set
  dsimp only
  rw [h1 313 _ (by omega)]
  exact stagesS_r h1 _
theorem writesS_r {a x : Int} {s s' : Sg} (h : RD s s') : RD (writesS s a x) (writesS s' a x) := by
  unfold writesS
  rw [h 307 36 (by omega), h 330 a (by omega)]
  split
  · split
    · exact h.set.set
    · exact h
  · split
    · exact h.set.set
    · exact h
theorem PTB_r {s s' : Sg} {p : Int} (h : RD s s') (q : PTB s p) : PTB s' p := by
  unfold PTB at q ⊢
  have e1 : ∀ k, s' 313 k = s 313 k := fun k => h _ _ (by omega)
  have e2 : ∀ k, s' 312 k = s 312 k := fun k => h _ _ (by omega)
  have e3 : ∀ k, s' 316 k = s 316 k := fun k => h _ _ (by omega)
  have e4 : ∀ k, s' 314 k = s 314 k := fun k => h _ _ (by omega)
  have e5 : ∀ k, s' 317 k = s 317 k := fun k => h _ _ (by omega)
  simp only [e1, e2, e3, e4, e5]
  exact q
theorem aheadS_r {nx : Sg → Int → Int → Option (Int × Sg)} (hn9 : HR nx) {s t s' : Sg} {fr k x : Int} (h : aheadS nx s fr k = some (x, t)) (hs9 : RD s s') : ∃ t', aheadS nx s' fr k = some (x, t') ∧ RD t t' := by
  unfold aheadS at h ⊢
  obtain ⟨⟨x1, r1⟩, g1, g2⟩ := Option.bind_eq_some_iff.mp h
  rw [Option.some.injEq, Prod.mk.injEq] at g2
  by_cases c : k = 0
  · rw [if_pos c, Option.some.injEq, Prod.mk.injEq] at g1
    rw [if_pos c, Option.bind_some]
    rw [← g2.1, ← g2.2, ← g1.1, ← g1.2]
    exact ⟨_, rfl, hs9.set2 (fun z => absurd ⟨rfl, rfl⟩ z)⟩
  · rw [if_neg c] at g1
    obtain ⟨t1, g3, g4⟩ := hn9 _ _ _ _ _ _ g1 hs9
    rw [if_neg c, g3, Option.bind_some, ← g2.1, ← g2.2]
    exact ⟨_, rfl, g4.set2 (fun z => absurd ⟨rfl, rfl⟩ z)⟩
theorem keepsS_r {nx : Sg → Int → Int → Option (Int × Sg)} (hn9 : HR nx) {fr k n : Int} : ∀ {m : Nat} {s t s' : Sg} {x : Int}, keepsS nx fr k n m s = some (x, t) → RD s s' → ∃ t', keepsS nx fr k n m s' = some (x, t') ∧ RD t t'
  | 0, _, _, _, _, h, _ => by simp [keepsS] at h
  | m + 1, s, t, s', x, h, hs9 => by
    unfold keepsS at h ⊢
    obtain ⟨⟨x1, r1⟩, g1, g2⟩ := Option.bind_eq_some_iff.mp h
    obtain ⟨t1, g3, g4⟩ := aheadS_r hn9 g1 hs9
    rw [g3, Option.bind_some]
    dsimp only at g2 ⊢
    by_cases c : x1 = (-9223372036854775808) ∨ (if n = 0 then x1 = 0 else x1.tmod n = 0)
    · rw [if_pos c, Option.some.injEq, Prod.mk.injEq] at g2
      rw [if_pos c, ← g2.1, ← g2.2]
      exact ⟨_, rfl, g4⟩
    · rw [if_neg c] at g2 ⊢
      exact keepsS_r hn9 g2 g4
theorem sumsS_r {nx : Sg → Int → Int → Option (Int × Sg)} (hn9 : HR nx) {fr k : Int} : ∀ {m : Nat} {a : Int} {s t s' : Sg} {x : Int}, sumsS nx fr k m a s = some (x, t) → RD s s' → ∃ t', sumsS nx fr k m a s' = some (x, t') ∧ RD t t'
  | 0, _, _, _, _, _, h, _ => by simp [sumsS] at h
  | m + 1, a, s, t, s', x, h, hs9 => by
    unfold sumsS at h ⊢
    obtain ⟨⟨x1, r1⟩, g1, g2⟩ := Option.bind_eq_some_iff.mp h
    obtain ⟨t1, g3, g4⟩ := aheadS_r hn9 g1 hs9
    rw [g3, Option.bind_some]
    dsimp only at g2 ⊢
    by_cases c : x1 = (-9223372036854775808)
    · rw [if_pos c, Option.some.injEq, Prod.mk.injEq] at g2
      rw [if_pos c, ← g2.1, ← g2.2]
      exact ⟨_, rfl, g4⟩
    · rw [if_neg c] at g2 ⊢
      exact sumsS_r hn9 g2 g4
theorem setsS_r {nx : Sg → Int → Int → Option (Int × Sg)} (hn9 : HR nx) {fr k : Int} : ∀ {m : Nat} {a : Option Int} {s t s' : Sg} {x : Option Int}, setsS nx fr k m a s = some (x, t) → RD s s' → ∃ t', setsS nx fr k m a s' = some (x, t') ∧ RD t t'
  | 0, _, _, _, _, _, h, _ => by simp [setsS] at h
  | m + 1, a, s, t, s', x, h, hs9 => by
    unfold setsS at h ⊢
    obtain ⟨⟨x1, r1⟩, g1, g2⟩ := Option.bind_eq_some_iff.mp h
    obtain ⟨t1, g3, g4⟩ := aheadS_r hn9 g1 hs9
    rw [g3, Option.bind_some]
    dsimp only at g2 ⊢
    by_cases c : x1 = (-9223372036854775808)
    · rw [if_pos c, Option.some.injEq, Prod.mk.injEq] at g2
      rw [if_pos c, ← g2.1, ← g2.2]
      exact ⟨_, rfl, g4⟩
    · rw [if_neg c] at g2 ⊢
      exact setsS_r hn9 g2 g4
theorem flowS_r {nx : Sg → Int → Int → Option (Int × Sg)} (hn9 : HR nx) {fr at9 k : Int} : ∀ {m : Nat} {s t s' : Sg}, flowS nx fr at9 k m s = some t → RD s s' → ∃ t', flowS nx fr at9 k m s' = some t' ∧ RD t t'
  | 0, _, _, _, h, _ => by simp [flowS] at h
  | m + 1, s, t, s', h, hs9 => by
    unfold flowS at h ⊢
    obtain ⟨⟨x1, r1⟩, g1, g2⟩ := Option.bind_eq_some_iff.mp h
    obtain ⟨t1, g3, g4⟩ := hn9 _ _ _ _ _ _ g1 hs9
    rw [g3, Option.bind_some]
    dsimp only at g2 ⊢
    by_cases c : x1 = (-9223372036854775808)
    · rw [if_pos c, Option.some.injEq] at g2
      rw [if_pos c, ← g2]
      exact ⟨_, rfl, g4⟩
    · rw [if_neg c] at g2 ⊢
      obtain ⟨g5, g6⟩ := grd_some g2
      rw [grd_ok (by rw [g4 307 36 (by omega), g4 330 at9 (by omega)]; exact g5)]
      exact flowS_r hn9 g6 (writesS_r g4)
theorem pipeS_r {nx : Sg → Int → Int → Option (Int × Sg)} (hn9 : HR nx) {p par fr at9 x : Int} {s t s' : Sg} (h : pipeS nx p par fr at9 s = some (x, t)) (hs9 : RD s s') : ∃ t', pipeS nx p par fr at9 s' = some (x, t') ∧ RD t t' := by
  unfold pipeS at h ⊢
  obtain ⟨g0, h⟩ := grd_some h
  obtain ⟨u, g1, g2⟩ := Option.bind_eq_some_iff.mp h
  rw [Option.some.injEq, Prod.mk.injEq] at g2
  have e32 : s' 307 32 = s 307 32 := hs9 _ _ (by omega)
  have hb : RD (beginsS (sset s 307 32 (w32 (s 307 32 - 1))) fr p par) (beginsS (sset s' 307 32 (w32 (s' 307 32 - 1))) fr p par) := by
    rw [e32]
    exact beginsS_r hs9.set
  dsimp only
  rw [grd_ok ⟨g0.1, PTB_r hs9 g0.2⟩, hb 313 _ (by omega)]
  obtain ⟨t1, g3, g4⟩ := flowS_r hn9 g1 hb
  rw [g3, Option.bind_some, g4 328 _ (by omega), ← g2.1, ← g2.2]
  exact ⟨_, rfl, g4⟩
theorem listS_r {nx : Sg → Int → Int → Option (Int × Sg)} (hn9 : HR nx) {par fr at9 : Int} : ∀ {m : Nat} {p st : Int} {s t s' : Sg} {x : Int}, listS nx par fr at9 m p st s = some (x, t) → RD s s' → ∃ t', listS nx par fr at9 m p st s' = some (x, t') ∧ RD t t'
  | 0, _, _, _, _, _, _, h, _ => by simp [listS] at h
  | m + 1, p, st, s, t, s', x, h, hs9 => by
    unfold listS at h ⊢
    by_cases c : p < 0
    · rw [if_pos c, Option.some.injEq, Prod.mk.injEq] at h
      rw [if_pos c, ← h.1, ← h.2]
      exact ⟨_, rfl, hs9⟩
    · rw [if_neg c] at h ⊢
      obtain ⟨g0, h⟩ := grd_some h
      obtain ⟨⟨x1, r1⟩, g1, g2⟩ := Option.bind_eq_some_iff.mp h
      have h1 : ∃ t1, (if onS (s' 311 p) st then (if s' 307 32 = 0 then some (8, s') else pipeS nx p par fr at9 s') else some (st, s')) = some (x1, t1) ∧ RD r1 t1 := by
        rw [hs9 311 _ (by omega), hs9 307 32 (by omega)]
        split at g1
        · next z =>
          rw [if_pos z]
          split at g1
          · next z2 =>
            rw [Option.some.injEq, Prod.mk.injEq] at g1
            rw [if_pos z2, ← g1.1, ← g1.2]
            exact ⟨_, rfl, hs9⟩
          · next z2 =>
            rw [if_neg z2]
            exact pipeS_r hn9 g1 hs9
        · next z =>
          rw [Option.some.injEq, Prod.mk.injEq] at g1
          rw [if_neg z, ← g1.1, ← g1.2]
          exact ⟨_, rfl, hs9⟩
      obtain ⟨t1, g3, g4⟩ := h1
      rw [grd_ok g0, g3, Option.bind_some]
      dsimp only at g2 ⊢
      rw [g4 310 _ (by omega)]
      exact listS_r hn9 g2 g4
theorem goesS_r {nx : Sg → Int → Int → Option (Int × Sg)} (hn9 : HR nx) {l par fr at9 x : Int} {s t s' : Sg} (h : goesS nx l par fr at9 s = some (x, t)) (hs9 : RD s s') : ∃ t', goesS nx l par fr at9 s' = some (x, t') ∧ RD t t' := by
  unfold goesS at h ⊢
  obtain ⟨g0, h⟩ := grd_some h
  rw [grd_ok g0, hs9 309 _ (by omega)]
  exact listS_r hn9 h hs9
theorem innerS_r {nx : Sg → Int → Int → Option (Int × Sg)} (hn9 : HR nx) {fr st n : Int} {s t s' : Sg} (h : innerS nx fr st n s = some t) (hs9 : RD s s') : ∃ t', innerS nx fr st n s' = some t' ∧ RD t t' := by
  unfold innerS at h ⊢
  rw [hs9 326 _ (by omega), hs9 314 _ (by omega), hs9 315 _ (by omega), hs9 324 _ (by omega), hs9 321 _ (by omega), hs9 307 33 (by omega)]
  split at h
  · next z =>
    rw [Option.some.injEq] at h
    rw [if_pos z, ← h]
    exact ⟨_, rfl, hs9⟩
  · next z =>
    rw [if_neg z]
    split at h
    · next z2 =>
      rw [if_pos z2]
      obtain ⟨⟨x1, r1⟩, g1, g2⟩ := Option.bind_eq_some_iff.mp h
      obtain ⟨t1, g3, g4⟩ := goesS_r hn9 g1 hs9
      rw [Option.some.injEq] at g2
      rw [g3, Option.bind_some, ← g2]
      exact ⟨_, rfl, g4.set⟩
    · next z2 =>
      rw [if_neg z2]
      split at h
      · next z3 =>
        rw [Option.some.injEq] at h
        rw [if_pos z3, ← h]
        exact ⟨_, rfl, hs9.set⟩
      · next z3 =>
        rw [if_neg z3]
        split at h
        · next z4 =>
          rw [Option.some.injEq] at h
          rw [if_pos z4, ← h]
          exact ⟨_, rfl, hs9.set⟩
        · next z4 =>
          rw [if_neg z4]
          obtain ⟨⟨x1, r1⟩, g1, g2⟩ := Option.bind_eq_some_iff.mp h
          obtain ⟨t1, g3, g4⟩ := goesS_r hn9 g1 (hs9.set (o := 307) (k := 33) (x := w32 (s 307 33 + 1)))
          rw [Option.some.injEq] at g2
          rw [g3, Option.bind_some, ← g2]
          dsimp only
          have e33 : (sset t1 328 (6 * fr) x1) 307 33 = (sset r1 328 (6 * fr) x1) 307 33 := by
            rw [sset_1 (by omega), sset_1 (by omega)]
            exact g4 _ _ (by omega)
          rw [e33]
          exact ⟨_, rfl, g4.set.set⟩
theorem withinS_r {nx : Sg → Int → Int → Option (Int × Sg)} (hn9 : HR nx) {fr st n x : Int} {s t s' : Sg} (h : withinS nx fr st n s = some (x, t)) (hs9 : RD s s') : ∃ t', withinS nx fr st n s' = some (x, t') ∧ RD t t' := by
  unfold withinS at h ⊢
  obtain ⟨u, g1, g2⟩ := Option.bind_eq_some_iff.mp h
  obtain ⟨t1, g3, g4⟩ := innerS_r hn9 g1 hs9
  obtain ⟨g5, g6⟩ := grd_some g2
  rw [g3, Option.bind_some]
  dsimp only
  have e1 : t1 326 (6 * fr) = u 326 (6 * fr) := g4 _ _ (by omega)
  have e2 : t1 330 fr = u 330 fr := g4 _ _ (by omega)
  rw [grd_ok (by rw [e1, e2]; exact g5), e1]
  have h1 : RD (sset u 326 (6 * fr) (w32 (u 326 (6 * fr) + 1))) (sset t1 326 (6 * fr) (w32 (u 326 (6 * fr) + 1))) := g4.set
  rw [Option.some.injEq, Prod.mk.injEq] at g6
  refine ⟨_, ?_, g6.2 ▸ h1⟩
  rw [h1 326 _ (by omega), h1 330 _ (by omega), h1 329 _ (by omega), ← g6.1]
theorem putS_r {z : Option Int} {t t' : Sg} {n fr k : Int} (h : RD t t') : RD (putS z t n fr k) (putS z t' n fr k) := by
  cases z with
  | none => exact h
  | some v => exact h.set.set
theorem askedS_r {nx : Sg → Int → Int → Option (Int × Sg)} (hn9 : HR nx) {fr k st n x : Int} {s t s' : Sg} (h : askedS nx fr k st n s = some (x, t)) (hs9 : RD s s') : ∃ t', askedS nx fr k st n s' = some (x, t') ∧ RD t t' := by
  unfold askedS at h ⊢
  have e314 : s' 314 st = s 314 st := hs9 _ _ (by omega)
  have e326 : s' 326 (6 * fr + k) = s 326 (6 * fr + k) := hs9 _ _ (by omega)
  have e315 : s' 315 st = s 315 st := hs9 _ _ (by omega)
  dsimp only at h ⊢
  rw [e314, e326, e315]
  have hu : ∀ y, RD (sset s 326 (6 * fr + k) y) (sset s' 326 (6 * fr + k) y) := fun y => hs9.set
  split at h
  · next z =>
    rw [if_pos z]
    obtain ⟨g5, g6⟩ := grd_some h
    rw [grd_ok g5, hu _ 326 _ (by omega), hu _ 316 _ (by omega), hu _ 325 _ (by omega)]
    rw [Option.some.injEq, Prod.mk.injEq] at g6
    rw [← g6.1, ← g6.2]
    exact ⟨_, rfl, hu _⟩
  next z0 =>
  rw [if_neg z0]
  split at h
  · next z =>
    rw [if_pos z, hu _ 326 _ (by omega)]
    rw [Option.some.injEq, Prod.mk.injEq] at h
    rw [← h.1, ← h.2]
    exact ⟨_, rfl, hu _⟩
  next z1 =>
  rw [if_neg z1]
  split at h
  · next z =>
    rw [if_pos z]
    obtain ⟨⟨x1, r1⟩, g1, g2⟩ := Option.bind_eq_some_iff.mp h
    obtain ⟨t1, g3, g4⟩ := aheadS_r hn9 g1 hs9
    rw [g3, Option.bind_some]
    dsimp only at g2 ⊢
    have e9 : t1 314 st = r1 314 st := g4 _ _ (by omega)
    rw [Option.some.injEq, Prod.mk.injEq] at g2
    refine ⟨t1, ?_, by rw [← g2.2]; exact g4⟩
    rw [← g2.1]
    simp only [e9]
  next z2 =>
  rw [if_neg z2]
  split at h
  · next z =>
    rw [if_pos z]
    obtain ⟨⟨x1, r1⟩, g1, g2⟩ := Option.bind_eq_some_iff.mp h
    have h1 : ∃ t1, (if n = 0 then some ((-9223372036854775808), s') else aheadS nx s' fr k) = some (x1, t1) ∧ RD r1 t1 := by
      split at g1
      · next y =>
        rw [Option.some.injEq, Prod.mk.injEq] at g1
        rw [if_pos y, ← g1.1, ← g1.2]
        exact ⟨_, rfl, hs9⟩
      · next y =>
        rw [if_neg y]
        exact aheadS_r hn9 g1 hs9
    obtain ⟨t1, g3, g4⟩ := h1
    rw [g3, Option.bind_some]
    rw [Option.some.injEq, Prod.mk.injEq] at g2
    rw [← g2.1, ← g2.2]
    exact ⟨_, rfl, g4⟩
  next z3 =>
  rw [if_neg z3]
  split at h
  · next z =>
    rw [if_pos z]
    exact keepsS_r hn9 h hs9
  next z4 =>
  rw [if_neg z4]
  split at h
  · next z =>
    rw [if_pos z]
    obtain ⟨⟨x1, r1⟩, g1, g2⟩ := Option.bind_eq_some_iff.mp h
    have h1 : ∃ t1, (if s 326 (6 * fr + k) < n then aheadS nx s' fr k else some ((-9223372036854775808), s')) = some (x1, t1) ∧ RD r1 t1 := by
      split at g1
      · next y =>
        rw [if_pos y]
        exact aheadS_r hn9 g1 hs9
      · next y =>
        rw [Option.some.injEq, Prod.mk.injEq] at g1
        rw [if_neg y, ← g1.1, ← g1.2]
        exact ⟨_, rfl, hs9⟩
    obtain ⟨t1, g3, g4⟩ := h1
    rw [g3, Option.bind_some]
    dsimp only at g2 ⊢
    rw [g4 326 _ (by omega)]
    rw [Option.some.injEq, Prod.mk.injEq] at g2
    rw [← g2.1, ← g2.2]
    exact ⟨_, rfl, g4.set⟩
  next z5 =>
  rw [if_neg z5]
  split at h
  · next z =>
    rw [if_pos z]
    split at h
    · next y =>
      rw [Option.some.injEq, Prod.mk.injEq] at h
      rw [if_pos y, ← h.1, ← h.2]
      exact ⟨_, rfl, hs9⟩
    · next y =>
      rw [if_neg y]
      exact sumsS_r hn9 h hs9.set
  next z6 =>
  rw [if_neg z6]
  split at h
  · next z =>
    rw [if_pos z]
    obtain ⟨g5, g6⟩ := grd_some h
    obtain ⟨⟨x1, r1⟩, g1, g2⟩ := Option.bind_eq_some_iff.mp g6
    obtain ⟨t1, g3, g4⟩ := setsS_r hn9 g1 hs9
    rw [grd_ok g5, g3, Option.bind_some]
    rw [Option.some.injEq, Prod.mk.injEq] at g2
    rw [← g2.1, ← g2.2]
    exact ⟨_, rfl, putS_r g4⟩
  next z7 =>
  rw [if_neg z7]
  split at h
  · next z =>
    rw [Option.some.injEq, Prod.mk.injEq] at h
    rw [if_pos z, ← h.1, ← h.2]
    exact ⟨_, rfl, hs9⟩
  · next z =>
    rw [if_neg z]
    exact withinS_r hn9 h hs9
theorem nextS_r : ∀ n : Nat, HR (nextS n)
  | 0 => fun s fr k x t s' h _ => by simp [nextS] at h
  | n + 1 => fun s fr k x t s' h hs9 => by
    unfold nextS at h ⊢
    obtain ⟨⟨g0, g01, g02, g03⟩, h⟩ := grd_some h
    have e323 : s' 323 fr = s 323 fr := hs9 _ _ (by omega)
    have e327 : s' 327 (6 * fr + k) = s 327 (6 * fr + k) := hs9 _ _ (by omega)
    have e313 : s' 313 (s 323 fr) = s 313 (s 323 fr) := hs9 _ _ (by omega)
    have e325 : s' 325 (24 * fr + 4 * k) = s 325 (24 * fr + 4 * k) := hs9 _ _ (by omega)
    have est : stAt s' (s 323 fr) k = stAt s (s 323 fr) k := by
      unfold stAt
      rw [hs9 312 _ (by omega)]
    rw [e323, e327, e325, est]
    rw [grd_ok ⟨g0, by rw [e313]; exact g01, PTB_r hs9 g02, g03⟩]
    split at h
    · next z =>
      rw [Option.some.injEq, Prod.mk.injEq] at h
      rw [if_pos z, ← h.1, ← h.2]
      exact ⟨_, rfl, hs9⟩
    · next z =>
      rw [if_neg z]
      obtain ⟨⟨x1, r1⟩, g1, g2⟩ := Option.bind_eq_some_iff.mp h
      obtain ⟨t1, g3, g4⟩ := askedS_r (nextS_r n) g1 hs9
      rw [g3, Option.bind_some]
      rw [Option.some.injEq, Prod.mk.injEq] at g2
      rw [← g2.1, ← g2.2]
      exact ⟨_, rfl, g4.set⟩
