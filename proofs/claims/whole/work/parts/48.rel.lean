/-! ===== class and reference side by side: what stands, what goes ===== -/
def ST (A : AHp) (V T : Sg) (so st : Int) : Prop := STG A V so ∧ hp A so 0 = T 314 st + 1 ∧ (T 314 st ≠ 8 → V so 2 = T 316 st ∧ ∀ i, 0 ≤ i → i < T 316 st → V (hp A so 1) i = T 317 (4 * st + i)) ∧ (T 314 st = 8 → T 316 st = 0 ∧ V (hp A so 1) 0 = -1 - T 315 st) ∧
  ((1 ≤ T 314 st ∧ T 314 st ≤ 6 ∨ 10 ≤ T 314 st ∧ T 314 st ≤ 13) → 1 ≤ T 316 st)
def PC (A : AHp) (V T : Sg) (po p : Int) : Prop := PIP A po ∧ V po 1 = T 313 p ∧ V po 2 = T 311 p ∧ ∀ k, 0 ≤ k → k < T 313 p → ST A V T (V (hp A po 0) k) (T 312 p + k)
def CHR (V T : Sg) (P : Int → Int → Prop) : Nat → Int → Int → Prop
  | 0, po, p => po = 0 ∧ p = -1
  | m + 1, po, p => (po = 0 ∧ p = -1) ∨ ((350 ≤ po ∧ 0 ≤ p) ∧ P po p ∧ CHR V T P m (V po 3) (T 310 p))
def PR (A : AHp) (V T : Sg) : Nat → Int → Int → Prop
  | 0, po, p => PC A V T po p ∧ T 314 (T 312 p) ≠ 14
  | e + 1, po, p => PC A V T po p ∧ (T 314 (T 312 p) = 14 → 350 ≤ V (V (hp A po 0) 0) 3 ∧ CHR V T (PR A V T e) 60 (V (V (hp A po 0) 0) 3) (T 309 (T 315 (T 312 p))))
theorem PR.c {A : AHp} {V T : Sg} {e : Nat} {po p : Int} (h : PR A V T e po p) : PC A V T po p := by
  cases e <;> exact h.1
/-- a stage of the class and one of the reference; w: the word, m: how many numbers it has -/
def SRw (v s : Sg) (fo fr k w m : Int) : Prop :=
  v (fo + 4) k = s 328 (6 * fr + k) ∧ (∀ i, 0 ≤ i → i < m → v (fo + 1) (k * 4 + i) = s 325 (24 * fr + 4 * k + i)) ∧ (v (fo + 3) k = 0 ∨ v (fo + 3) k = 1) ∧
  (v (fo + 3) k = 1 ↔ (s 327 (6 * fr + k) = 1 ∨ (w = 7 ∧ s 326 (6 * fr + k) = 1))) ∧
  (v (fo + 3) k = 0 → ((w ≤ 1 ∨ w = 6 ∨ 11 ≤ w) → v (fo + 2) k = s 326 (6 * fr + k)) ∧ (w = 7 → v (fo + 2) k = 0) ∧ (w = 8 → s 328 (6 * fr + k) = 1) ∧
    (11 ≤ w → (v fo 9 = 0 ∧ s 326 (6 * fr + k) = 0 ∧ s 330 fr = 0) ∨ (v fo 9 = 1 ∧ 1 ≤ s 326 (6 * fr + k) ∧ v (fo + 5) 1 = s 330 fr ∧ ∀ i, 0 ≤ i → i < s 330 fr → v (fo + 5 + 1) i = s 329 (60 * fr + i))))
def SR (v s T : Sg) (fo fr p k : Int) : Prop := SRw v s fo fr k (T 314 (T 312 p + k)) (T 316 (T 312 p + k))
/-- all that a stage's relation looks at is the same -/
def SReq (v v' s s' : Sg) (fo fr k : Int) : Prop := (∀ i, v' (fo + 1) (k * 4 + i) = v (fo + 1) (k * 4 + i) ∨ 4 ≤ i ∨ i < 0) ∧ (v' (fo + 2) k = v (fo + 2) k ∧ v' (fo + 3) k = v (fo + 3) k ∧ v' (fo + 4) k = v (fo + 4) k) ∧ (v' fo 9 = v fo 9 ∧ v' (fo + 5) 1 = v (fo + 5) 1 ∧ ∀ i, v' (fo + 5 + 1) i = v (fo + 5 + 1) i) ∧
  (∀ i, s' 325 (24 * fr + 4 * k + i) = s 325 (24 * fr + 4 * k + i) ∨ 4 ≤ i ∨ i < 0) ∧ (s' 326 (6 * fr + k) = s 326 (6 * fr + k) ∧ s' 327 (6 * fr + k) = s 327 (6 * fr + k) ∧ s' 328 (6 * fr + k) = s 328 (6 * fr + k)) ∧ s' 330 fr = s 330 fr ∧ ∀ i, 0 ≤ i → i < s 330 fr → s' 329 (60 * fr + i) = s 329 (60 * fr + i)
theorem SRw.eq {v v' s s' : Sg} {fo fr k w m : Int} (hm : m ≤ 4) (q : SReq v v' s s' fo fr k) (h : SRw v s fo fr k w m) : SRw v' s' fo fr k w m := by
  obtain ⟨q1, ⟨q2, q3, q4⟩, ⟨q5, q6, q7⟩, q8, ⟨q9, q10, q11⟩, q12, q13⟩ := q
  unfold SRw at h ⊢
  rw [q2, q3, q4, q5, q6, q9, q10, q11, q12]
  obtain ⟨h1, h2, h3, h4, h5⟩ := h
  refine ⟨h1, fun i g1 g2 => ?_, h3, h4, fun z => ?_⟩
  · rcases q1 i with e | e
    · rw [e]
      rcases q8 i with e2 | e2
      · rw [e2]; exact h2 i g1 g2
      · omega
    · omega
  · obtain ⟨a1, a2, a3, a4⟩ := h5 z
    refine ⟨a1, a2, a3, fun z2 => ?_⟩
    rcases a4 z2 with a | ⟨b1, b2, b3, b4⟩
    · exact Or.inl a
    · exact Or.inr ⟨b1, b2, b3, fun i g1 g2 => by rw [q7, q13 i g1 g2]; exact b4 i g1 g2⟩
def UNC (ko o j : Int) : Prop := 350 ≤ o ∨ o = 65 ∨ o = 66 ∨ (o = 64 ∧ j = 1) ∨ o = ko + 2 ∨ (o = ko ∧ j = 2)
def FRL (V T : Sg) (ko fo fr p po g : Int) (v s : Sg) (k : Nat) : Prop :=
  (∀ o j, UNC ko o j → v o j = V o j) ∧ (v 64 3 = s 307 32 ∧ v 64 4 = s 307 34 ∧ in32 (s 307 34)) ∧ (∀ n, 0 ≤ n → n < 5 → v (ko + 1) n = s 320 n) ∧ (v fo 1 = po ∧ v fo 3 = s 324 fr ∧ v fo 4 = g) ∧ ∀ j : Nat, j < k → SR v s T fo fr p j
def XCH (ko fo lev k o j : Int) : Prop := o = ko + 1 ∨ (o = 64 ∧ (j = 3 ∨ j = 4)) ∨ (o = fo ∧ j = 9) ∨ ((o = fo + 2 ∨ o = fo + 3 ∨ o = fo + 4) ∧ 0 ≤ j ∧ j ≤ k) ∨ o = fo + 5 ∨ o = fo + 5 + 1 ∨ (67 + 7 * (lev + 1) ≤ o ∧ o < 207)
def XF (ko fo lev k : Int) (v v' : Sg) : Prop := ∀ o j, ¬ XCH ko fo lev k o j → v' o j = v o j
theorem XF.rf {ko fo lev k : Int} {v : Sg} : XF ko fo lev k v v := fun _ _ _ => rfl
theorem XF.trans {ko fo lev k : Int} {v1 v2 v3 : Sg} (h1 : XF ko fo lev k v1 v2) (h2 : XF ko fo lev k v2 v3) : XF ko fo lev k v1 v3 := fun o j q => (h2 o j q).trans (h1 o j q)
theorem xch_le {ko fo lev k k' o j : Int} (h : k ≤ k') (q : XCH ko fo lev k o j) : XCH ko fo lev k' o j := by
  rcases q with q | q | q | q | q
  · exact Or.inl q
  · exact Or.inr (Or.inl q)
  · exact Or.inr (Or.inr (Or.inl q))
  · exact Or.inr (Or.inr (Or.inr (Or.inl ⟨q.1, q.2.1, by omega⟩)))
  · exact Or.inr (Or.inr (Or.inr (Or.inr q)))
theorem XF.le {ko fo lev k k' : Int} {v1 v2 : Sg} (h : k ≤ k') (h1 : XF ko fo lev k v1 v2) : XF ko fo lev k' v1 v2 := fun o j q => h1 o j (fun z => q (xch_le h z))
theorem XF.put {ko fo lev k : Int} {v v' : Sg} {o x j0 : Int} (h : XF ko fo lev k v v') (hk : 0 ≤ j0 ∧ j0 ≤ k) (ho : o = fo + 2 ∨ o = fo + 3 ∨ o = fo + 4) : XF ko fo lev k v (sset v' o j0 x) := fun o' j q => by
  unfold sset
  rw [if_neg]
  · exact h o' j q
  · intro z
    apply q
    exact Or.inr (Or.inr (Or.inr (Or.inl ⟨by omega, by omega, by omega⟩)))
theorem XF.reads {ko fo lev k x : Int} {v v' : Sg} (h : XF ko fo lev k v v') : XF ko fo lev k v (sset v' 64 4 x) := fun o' j q => by
  unfold sset
  rw [if_neg]
  · exact h o' j q
  · intro z
    exact q (Or.inr (Or.inl ⟨z.1, Or.inr z.2⟩))
theorem XF.val {ko fo lev k x j0 : Int} {v v' : Sg} (h : XF ko fo lev k v v') : XF ko fo lev k v (sset v' (ko + 1) j0 x) := fun o' j q => by
  unfold sset
  rw [if_neg]
  · exact h o' j q
  · intro z
    exact q (Or.inl z.1)
/-- what is the same for all of a pipe's going -/
def SCX (A : AHp) (V T : Sg) (ko fo lev fr p po : Int) (e : Nat) : Prop := XLAY A ∧ KeptAt A ko ∧ FrameAt A fo ∧ (66 < fo ∧ fo < 300 ∧ (fo < 201 ∨ 266 < fo)) ∧ (206 < ko ∧ ko < 250) ∧ (0 ≤ lev ∧ lev < 20) ∧ (fo = 67 + 7 * lev ∨ 266 < fo) ∧ (0 ≤ fr ∧ fr < 28) ∧ PC A V T po p ∧ POK T e p ∧ TOK T
theorem FRL.own {V T : Sg} {ko fo fr p po g : Int} {v v' s s' : Sg} {k : Nat} (hfo : 66 < fo ∧ fo < 300 ∧ (fo < 201 ∨ 266 < fo)) (hko : 206 < ko ∧ ko < 250) (hT : ∀ j : Nat, j < k → T 316 (T 312 p + j) ≤ 4) (h : FRL V T ko fo fr p po g v s k) (hv' : ∀ o j : Int, ¬ ((o = fo + 2 ∨ o = fo + 3 ∨ o = fo + 4) ∧ j = k) → v' o j = v o j) (hs' : ∀ o j : Int, ¬ ((o = 326 ∨ o = 327 ∨ o = 328) ∧ j = 6 * fr + k) → s' o j = s o j) : FRL V T ko fo fr p po g v' s' k := by
  obtain ⟨h1, ⟨h2, h3, h3b⟩, h4, ⟨h5, h6, h7⟩, h8⟩ := h
  refine ⟨fun o j q => ?_, ⟨?_, ?_, ?_⟩, fun n g1 g2 => ?_, ⟨?_, ?_, ?_⟩, fun j hj => ?_⟩
  · rw [hv' o j (by unfold UNC at q; omega)]; exact h1 o j q
  · rw [hv' _ _ (by omega), hs' _ _ (by omega)]; exact h2
  · rw [hv' _ _ (by omega), hs' _ _ (by omega)]; exact h3
  · rw [hs' _ _ (by omega)]; exact h3b
  · rw [hv' _ _ (by omega), hs' _ _ (by omega)]; exact h4 n g1 g2
  · rw [hv' _ _ (by omega)]; exact h5
  · rw [hv' _ _ (by omega), hs' _ _ (by omega)]; exact h6
  · rw [hv' _ _ (by omega)]; exact h7
  · refine SRw.eq (hT j hj) ⟨fun i => Or.inl (hv' _ _ (by omega)), ⟨hv' _ _ (by omega), hv' _ _ (by omega), hv' _ _ (by omega)⟩, ⟨hv' _ _ (by omega), hv' _ _ (by omega), fun i => hv' _ _ (by omega)⟩, fun i => Or.inl (hs' _ _ (by omega)), ⟨hs' _ _ (by omega), hs' _ _ (by omega), hs' _ _ (by omega)⟩, hs' _ _ (by omega), fun i _ _ => hs' _ _ (by omega)⟩ (h8 j hj)
theorem FRL.reads {V T : Sg} {ko fo fr p po g : Int} {v s : Sg} {k : Nat} (hfo : 66 < fo ∧ fo < 300 ∧ (fo < 201 ∨ 266 < fo)) (hko : 206 < ko ∧ ko < 250) (hT : ∀ j : Nat, j < k → T 316 (T 312 p + j) ≤ 4) (h : FRL V T ko fo fr p po g v s k) : FRL V T ko fo fr p po g (sset v 64 4 (w32 (v 64 4 + 1))) (sset s 307 34 (w32 (s 307 34 + 1))) k := by
  obtain ⟨h1, ⟨h2, h3, h3b⟩, h4, ⟨h5, h6, h7⟩, h8⟩ := h
  refine ⟨fun o j q => ?_, ⟨?_, ?_, ?_⟩, fun n g1 g2 => ?_, ⟨?_, ?_, ?_⟩, fun j hj => ?_⟩
  · unfold UNC at q
    unfold sset
    rw [if_neg (by omega)]
    exact h1 o j (by unfold UNC; omega)
  · rw [sset_2 (by omega), sset_2 (by omega)]; exact h2
  · rw [sset_e, sset_e, h3]
  · rw [sset_e]; exact w32_in _
  · rw [sset_1 (by omega), sset_1 (by omega)]; exact h4 n g1 g2
  · rw [sset_1 (by omega)]; exact h5
  · rw [sset_1 (by omega), sset_1 (by omega)]; exact h6
  · rw [sset_1 (by omega)]; exact h7
  · exact SRw.eq (hT j hj) ⟨fun i => Or.inl (sset_1 (by omega)), ⟨sset_1 (by omega), sset_1 (by omega), sset_1 (by omega)⟩, ⟨sset_1 (by omega), sset_1 (by omega), fun i => sset_1 (by omega)⟩, fun i => Or.inl (sset_1 (by omega)), ⟨sset_1 (by omega), sset_1 (by omega), sset_1 (by omega)⟩, sset_1 (by omega), fun i _ _ => sset_1 (by omega)⟩ (h8 j hj)
theorem FRL.reads0 {V T : Sg} {ko fo fr p po g : Int} {v s : Sg} {k : Nat} (h : FRL V T ko fo fr p po g v s k) : FRL V T ko fo fr p po g v (sset s 307 34 (w32 (s 307 34 + 0))) k := by
  have e : sset s 307 34 (w32 (s 307 34 + 0)) = s := by
    funext o j
    unfold sset
    split
    · next z =>
      have := h.2.1.2.2
      rw [z.1, z.2, Int.add_zero]
      exact w32_id this.1 this.2
    · rfl
  rw [e]
  exact h
theorem FRL.val {V T : Sg} {ko fo fr p po g x n0 : Int} {v s : Sg} {k : Nat} (hfo : 66 < fo ∧ fo < 300 ∧ (fo < 201 ∨ 266 < fo)) (hko : 206 < ko ∧ ko < 250) (hT : ∀ j : Nat, j < k → T 316 (T 312 p + j) ≤ 4) (h : FRL V T ko fo fr p po g v s k) : FRL V T ko fo fr p po g (sset v (ko + 1) n0 x) (sset s 320 n0 x) k := by
  obtain ⟨h1, ⟨h2, h3, h3b⟩, h4, ⟨h5, h6, h7⟩, h8⟩ := h
  refine ⟨fun o j q => ?_, ⟨?_, ?_, ?_⟩, fun n g1 g2 => ?_, ⟨?_, ?_, ?_⟩, fun j hj => ?_⟩
  · unfold UNC at q
    unfold sset
    rw [if_neg (by omega)]
    exact h1 o j (by unfold UNC; omega)
  · rw [sset_1 (by omega), sset_1 (by omega)]; exact h2
  · rw [sset_1 (by omega), sset_1 (by omega)]; exact h3
  · rw [sset_1 (by omega)]; exact h3b
  · unfold sset
    by_cases e : n = n0
    · rw [if_pos ⟨rfl, e⟩, if_pos ⟨rfl, e⟩]
    · rw [if_neg (fun z => e z.2), if_neg (fun z => e z.2)]; exact h4 n g1 g2
  · rw [sset_1 (by omega)]; exact h5
  · rw [sset_1 (by omega), sset_1 (by omega)]; exact h6
  · rw [sset_1 (by omega)]; exact h7
  · exact SRw.eq (hT j hj) ⟨fun i => Or.inl (sset_1 (by omega)), ⟨sset_1 (by omega), sset_1 (by omega), sset_1 (by omega)⟩, ⟨sset_1 (by omega), sset_1 (by omega), fun i => sset_1 (by omega)⟩, fun i => Or.inl (sset_1 (by omega)), ⟨sset_1 (by omega), sset_1 (by omega), sset_1 (by omega)⟩, sset_1 (by omega), fun i _ _ => sset_1 (by omega)⟩ (h8 j hj)
theorem FRL.up {V T : Sg} {ko fo fr p po g : Int} {v s : Sg} {k : Nat} (h : FRL V T ko fo fr p po g v s k) (h2 : SR v s T fo fr p k) : FRL V T ko fo fr p po g v s (k + 1) := by
  obtain ⟨h1, h3, h4, h5, h8⟩ := h
  refine ⟨h1, h3, h4, h5, fun j hj => ?_⟩
  by_cases e : j = k
  · subst e; exact h2
  · exact h8 j (by omega)
theorem FRL.down {V T : Sg} {ko fo fr p po g : Int} {v s : Sg} {k : Nat} (h : FRL V T ko fo fr p po g v s (k + 1)) : FRL V T ko fo fr p po g v s k :=
  ⟨h.1, h.2.1, h.2.2.1, h.2.2.2.1, fun j hj => h.2.2.2.2 j (by omega)⟩
/-- how many answers of all stages ahead are to come -/
def ptS (T s : Sg) (fr p : Int) : Nat → Nat
  | 0 => 0
  | k + 1 => ptS T s fr p k + ptA T s fr p (k + 1)
theorem ptS_le {T s s' : Sg} {fr p : Int} : ∀ {k : Nat}, (∀ j : Nat, j ≤ k → ptA T s' fr p j ≤ ptA T s fr p j) → ptS T s' fr p k ≤ ptS T s fr p k
  | 0, _ => Nat.le_refl _
  | k + 1, h => by
    have h1 := ptS_le (k := k) (fun j hj => h j (by omega))
    have h2 := h (k + 1) (Nat.le_refl _)
    unfold ptS
    omega
theorem ptS_eq {T s s' : Sg} {fr p : Int} : ∀ {k : Nat}, (∀ j : Int, 6 * fr ≤ j → j < 6 * fr + k → s' 326 j = s 326 j ∧ s' 327 j = s 327 j) → ptS T s' fr p k = ptS T s fr p k
  | 0, _ => rfl
  | k + 1, h => by
    have h1 := ptS_eq (T := T) (p := p) (k := k) (fun j g1 g2 => h j g1 (by omega))
    have h2 := ptA_eq (T := T) (p := p) (k := k + 1) (fun j g1 g2 => h j g1 (by omega))
    unfold ptS
    omega
theorem ptS_bd {T s : Sg} {fr p : Int} : ∀ {k : Nat}, (∀ j : Nat, j < k → SO T s fr p j) → ptS T s fr p k ≤ 100 * k
  | 0, _ => Nat.le_refl _
  | k + 1, h => by
    have h1 := ptS_bd (k := k) (fun j hj => h j (by omega))
    have h2 := ptA_le h
    unfold ptS
    omega
/-- a next of stage k: class and reference keep step -/
def NXK (d : Nat) (nx : Sg → Int → Int → Option (Int × Sg)) (A : AHp) (V T : Sg) (ko fo lev fr p po g : Int) (k : Nat) : Prop :=
  ∀ (v s s' : Sg) (x i : Int) (Q : Option AV → AHp → Prop), FRL V T ko fo fr p po g v s (k + 1) → GI T s → s 323 fr = p → FX T s fr p (k + 1) → s 307 33 = g → nx s fr k = some (x, s') → NP T s s' fr p k x → 0 ≤ i → i + 4 * (ptS T s fr p k : Int) + 2 * (ptA T s fr p (k + 1) : Int) ≤ 800000 →
    (∀ (i' : Int) (v' : Sg), 0 ≤ i' → i' + 4 * (ptS T s' fr p k : Int) + 2 * (ptA T s' fr p (k + 1) : Int) ≤ i + 4 * (ptS T s fr p k : Int) + 2 * (ptA T s fr p (k + 1) : Int) → FRL V T ko fo fr p po g v' s' (k + 1) → XF ko fo lev k v v' → HD d A ko fo lev (T 313 p - 1) i' k x v' Q) →
    AK d A ko fo lev (T 313 p - 1) i k v Q
/-- what came from ahead, as a number -/
def gotY (b : Sg) (fo o k x : Int) : Int × Sg :=
  if o = 3 then (w32 (w32 x + b (fo + 1) (k * 4)), b) else
  if o = 4 then (w32 (w32 x * b (fo + 1) (k * 4)), b) else
  if o = 5 then (if b (fo + 1) (k * 4) = 0 then ((-9223372036854775808), sset b (fo + 3) k 1) else ((w32 x).tmod (b (fo + 1) (k * 4)), b)) else
  if o = 6 then ((if (if b (fo + 1) (k * 4) = 0 then w32 x = 0 else (w32 x).tmod (b (fo + 1) (k * 4)) = 0) then w32 x else 9223372036854775807), b) else
  if o = 7 then (w32 x, sset b (fo + 2) k (w32 (b (fo + 2) k + 1))) else
  if o = 8 then (9223372036854775807, sset b (fo + 2) k (w32 (b (fo + 2) k + w32 x))) else
  if o = 9 then (9223372036854775807, sset (sset b (fo + 2) k (w32 x)) (fo + 4) k 0) else
  ((-9223372036854775808), sset b (fo + 3) k 1)
theorem gotX_y {A : AHp} {v : Sg} {ko fo so o k x : Int} (hfo : 66 < fo) (hx9 : x ≠ (-9223372036854775808)) : gotX A v ko fo so o k x = gotY (sset v 64 4 (w32 (v 64 4 + 1))) fo o k x := by
  unfold gotX gotY
  rw [if_neg hx9, sset_1 (by omega), sset_1 (by omega)]
theorem ahx {d : Nat} {nx : Sg → Int → Int → Option (Int × Sg)} {A : AHp} {V T : Sg} {ko fo lev fr p po g so o : Int} {e k : Nat} (hC : SCX A V T ko fo lev fr p po e) (hd : 4 ≤ d) (hk9 : (k : Int) < T 313 p) (hso : V (hp A po 0) k = so) (ho : hp A so 0 = o) (hN : ∀ m, k = m + 1 → NXK d nx A V T ko fo lev fr p po g m) (hNG : ∀ m, k = m + 1 → NXG nx T fr p m g)
    {v s r : Sg} {x i : Int} {Q : Option AV → AHp → Prop} (hR : FRL V T ko fo fr p po g v s k) (hG : GI T s) (hp9 : s 323 fr = p) (hF : FX T s fr p k) (hg : s 307 33 = g) (hA : aheadS nx s fr k = some (x, r)) (hi0 : 0 ≤ i) (hi : i + 4 * (ptS T s fr p k : Int) + 2 ≤ 800000)
    (hE0 : x = (-9223372036854775808) → ∀ (i' : Int) (v' : Sg), 0 ≤ i' → i' + 4 * (ptS T r fr p k : Int) ≤ i + 4 * (ptS T s fr p k : Int) + 2 → FRL V T ko fo fr p po g v' r k → XF ko fo lev (k - 1) v v' → HD d A ko fo lev (T 313 p - 1) i' k (gotEndX A v' ko fo so o k).1 (gotEndX A v' ko fo so o k).2 Q)
    (hE1 : x ≠ (-9223372036854775808) → ∀ (i' : Int) (b : Sg), 0 ≤ i' → i' + 4 * (ptS T r fr p k : Int) ≤ i + 4 * (ptS T s fr p k : Int) → FRL V T ko fo fr p po g b r k → XF ko fo lev (k - 1) v b → HD d A ko fo lev (T 313 p - 1) i' k (gotY b fo o k x).1 (gotY b fo o k x).2 Q) : HD d A ko fo lev (T 313 p - 1) i k 9223372036854775807 v Q := by
  obtain ⟨hX, hK, hFr, hfo, hko, hlev, hfl, hfr, hPC, hPOK, hTOK⟩ := hC
  obtain ⟨hPo, hPs, hPj, hPst⟩ := id hPC
  have hPT := hPOK.w.1
  have hsz6 := hPT.2.2.2.1
  have hT4 : ∀ j : Nat, j < k → T 316 (T 312 p + j) ≤ 4 := fun j hj => (hPT.2.2.2.2.2.2 j (by omega) (by omega)).2.1
  have hSt0 := (hPst k (by omega) hk9).1
  rw [hso] at hSt0
  have up : ∀ (u : Sg) (i1 : Int) (k1 : Int), k1 + 1 = k → x ≠ 9223372036854775807 → 0 ≤ i1 → i1 < 900000 → FRL V T ko fo fr p po g u s 0 ∨ (∀ o j, UNC ko o j → u o j = V o j) ∧ u fo 1 = po → HD d A ko fo lev (T 313 p - 1) (i1 + 1) k (gotX A u ko fo so o k x).1 (gotX A u ko fo so o k x).2 Q → HD d A ko fo lev (T 313 p - 1) i1 k1 x u Q := by
    intro u i1 k1 ek hxa h1 h2 hU hE
    have hU2 : (∀ o j, UNC ko o j → u o j = V o j) ∧ u fo 1 = po := by
      rcases hU with q | q
      · exact ⟨q.1, q.2.2.2.1.1⟩
      · exact q
    have eu : ∀ o j, 350 ≤ o → u o j = V o j := fun o j q => hU2.1 o j (Or.inl q)
    refine hd_up (po := po) (so := so) (o := o) hX ⟨h1, h2⟩ (by omega) (by omega) hd hxa hK hFr hfo hko (by omega) hU2.2 hPo (by rw [eu _ _ hPo.2.2.1, ek]; exact hso) (hSt0.eq eu) ho ?_
    rw [ek]
    exact hE
  cases k with
  | zero =>
    obtain ⟨q1, q2⟩ := ahead_z (by rfl) hA
    subst q1
    refine hd_asks0 hX ⟨hi0, by omega⟩ ?_
    refine up v (i + 1) (-1) (by omega) (by omega) (by omega) (by omega) (Or.inl hR) ?_
    have e0 : gotX A v ko fo so o ((0 : Nat) : Int) (-9223372036854775808) = gotEndX A v ko fo so o ((0 : Nat) : Int) := by
      unfold gotX
      rw [if_pos rfl]
    rw [e0]
    refine hE0 rfl (i + 1 + 1) v (by omega) ?_ ?_ XF.rf
    · show (i + 1 + 1) + 4 * (0 : Int) ≤ i + 4 * (0 : Int) + 2
      omega
    · rw [q2, if_pos rfl]
      exact hR.reads0
  | succ m =>
    obtain ⟨r0, q1, q2⟩ := ahead_n (by omega) hA
    rw [show (((m + 1 : Nat) : Int) - 1) = m by omega] at q1
    obtain ⟨x1, r1, q3, hNP⟩ := hNG m rfl s hG hp9 hF hg
    rw [q1, Option.some.injEq, Prod.mk.injEq] at q3
    obtain ⟨q4, q5⟩ := q3
    subst q4 q5
    have hpS : ∀ j, ptS T r fr p j = ptS T r0 fr p j := fun j => by
      rw [q2]
      exact ptS_eq (fun j _ _ => ⟨sset_1 (by omega), sset_1 (by omega)⟩)
    obtain ⟨n1, n2, n3, n4, n5, n6⟩ := id hNP
    have hle := n4 (m + 1) (Nat.le_refl _)
    have hxa : x ≠ 9223372036854775807 := by
      rcases n6 with ⟨n6, _⟩ | ⟨n6, _⟩
      · omega
      · unfold in32 at n6; omega
    have eS : ∀ s1, ptS T s1 fr p (m + 1) = ptS T s1 fr p m + ptA T s1 fr p (m + 1) := fun _ => rfl
    rw [eS] at hi
    refine hd_asks hX ⟨hi0, by omega⟩ (by omega) (by omega) ?_
    rw [show (((m + 1 : Nat) : Int) - 1) = m by omega]
    refine hN m rfl v s r0 x (i + 1) Q hR hG hp9 hF hg q1 hNP (by omega) (by omega) (fun i1 v1 g1 g2 g3 g4 => ?_)
    refine up v1 i1 m (by omega) hxa g1 (by omega) (Or.inr ⟨g3.1, g3.2.2.2.1.1⟩) ?_
    have g4' : XF ko fo lev (((m + 1 : Nat) : Int) - 1) v v1 := by
      rw [show (((m + 1 : Nat) : Int) - 1) = m by omega]
      exact g4
    by_cases c : x = (-9223372036854775808)
    · subst c
      have e0 : gotX A v1 ko fo so o ((m + 1 : Nat) : Int) (-9223372036854775808) = gotEndX A v1 ko fo so o ((m + 1 : Nat) : Int) := by
        unfold gotX
        rw [if_pos rfl]
      rw [e0]
      refine hE0 rfl (i1 + 1) v1 (by omega) ?_ ?_ g4'
      · rw [hpS, eS, eS]
        omega
      · rw [q2, if_pos rfl]
        exact g3.reads0
    · rw [gotX_y (by omega) c]
      refine hE1 c (i1 + 1) _ (by omega) ?_ ?_ g4'.reads
      · rw [hpS, eS, eS]
        rcases n6 with ⟨n6, _⟩ | ⟨_, _, n8⟩
        · exact absurd n6 c
        · have := n5 n8
          omega
      · rw [q2, if_neg c]
        exact g3.reads hfo hko hT4
