/-! ===== word by word ===== -/
def SG4 (T s : Sg) (fr p g : Int) (k : Nat) : Prop := GI T s ∧ s 323 fr = p ∧ FX T s fr p k ∧ s 307 33 = g
def RO (s r : Sg) (fr k : Int) : Prop := (∀ j, 24 * fr ≤ j → j < 24 * fr + 24 → r 325 j = s 325 j) ∧ (r 326 (6 * fr + k) = s 326 (6 * fr + k) ∧ r 327 (6 * fr + k) = s 327 (6 * fr + k) ∧ r 328 (6 * fr + k) = s 328 (6 * fr + k))
theorem RO.trans {s r t : Sg} {fr k : Int} (h1 : RO s r fr k) (h2 : RO r t fr k) : RO s t fr k :=
  ⟨fun j g1 g2 => (h2.1 j g1 g2).trans (h1.1 j g1 g2), h2.2.1.trans h1.2.1, h2.2.2.1.trans h1.2.2.1, h2.2.2.2.trans h1.2.2.2⟩
theorem AP.ro {T s r : Sg} {fr p v : Int} {k : Nat} (hfr : 0 ≤ fr ∧ fr < 28) (hk : k ≤ 5) (h : AP T s r fr p k v) : RO s r fr k := by
  refine ⟨fun j g1 g2 => h.1 _ _ ?_, h.1 _ _ (tch_own hfr (by omega) (by omega)), h.1 _ _ (tch_own hfr (by omega) (by omega)), h.1 _ _ (tch_own hfr (by omega) (by omega))⟩
  unfold TCH TCL childS
  split <;> omega
theorem AP.sg {T s r : Sg} {fr p v g : Int} {k : Nat} (hfr : 0 ≤ fr ∧ fr < 28) (hS : SG4 T s fr p g k) (h : AP T s r fr p k v) : SG4 T r fr p g k :=
  ⟨h.2.1, (h.1 _ _ (tch_self hfr)).trans hS.2.1, h.2.2.1, (h.1 _ _ tch_going).trans hS.2.2.2⟩
theorem XF.own {ko fo lev k : Int} {v v' : Sg} (hfo : 66 < fo ∧ fo < 300 ∧ (fo < 201 ∨ 266 < fo)) (hko : 206 < ko ∧ ko < 250) (hfl : fo = 67 + 7 * lev ∨ 266 < fo) (h : XF ko fo lev (k - 1) v v') :
    (∀ j, v' (fo + 1) j = v (fo + 1) j) ∧ v' (fo + 2) k = v (fo + 2) k ∧ v' (fo + 3) k = v (fo + 3) k ∧ v' (fo + 4) k = v (fo + 4) k := by
  refine ⟨fun j => h _ _ (by unfold XCH; omega), h _ _ (by unfold XCH; omega), h _ _ (by unfold XCH; omega), h _ _ (by unfold XCH; omega)⟩
theorem XF.own1 {ko fo lev k : Int} {v v' : Sg} (hfo : 66 < fo ∧ fo < 300 ∧ (fo < 201 ∨ 266 < fo)) (hko : 206 < ko ∧ ko < 250) (hfl : fo = 67 + 7 * lev ∨ 266 < fo) (h : XF ko fo lev k v v') : ∀ j, v' (fo + 1) j = v (fo + 1) j := fun j => h _ _ (by unfold XCH; omega)
/-- a stage's surroundings: k, its object, its word -/
def SKX (A : AHp) (V T : Sg) (ko fo lev fr p po : Int) (e : Nat) (k : Nat) (so o : Int) : Prop := SCX A V T ko fo lev fr p po e ∧ (k : Int) < T 313 p ∧ V (hp A po 0) k = so ∧ hp A so 0 = o
def NXB (d : Nat) (nx : Sg → Int → Int → Option (Int × Sg)) (A : AHp) (V T : Sg) (ko fo lev fr p po g : Int) (k : Nat) : Prop := 4 ≤ d ∧ (∀ m, k = m + 1 → NXK d nx A V T ko fo lev fr p po g m) ∧ ∀ m, k = m + 1 → NXG nx T fr p m g
theorem SKX.k5 {A : AHp} {V T : Sg} {ko fo lev fr p po so o : Int} {e k : Nat} (h : SKX A V T ko fo lev fr p po e k so o) : k ≤ 5 := by
  have h1 := h.1.2.2.2.2.2.2.2.2.2.1.w.1.2.2.2.1
  have h2 := h.2.1
  omega
theorem SKX.m4 {A : AHp} {V T : Sg} {ko fo lev fr p po so o : Int} {e k : Nat} (h : SKX A V T ko fo lev fr p po e k so o) : ∀ j : Nat, j ≤ k → T 316 (T 312 p + j) ≤ 4 := fun j hj =>
  (h.1.2.2.2.2.2.2.2.2.2.1.w.1.2.2.2.2.2.2 j (by omega) (by have := h.2.1; omega)).2.1
theorem SKX.st {A : AHp} {V T : Sg} {ko fo lev fr p po so o : Int} {e k : Nat} (h : SKX A V T ko fo lev fr p po e k so o) : ST A V T so (T 312 p + k) ∧ o = T 314 (T 312 p + k) + 1 := by
  have h1 := h.1.2.2.2.2.2.2.2.2.1.2.2.2 k (by omega) h.2.1
  rw [h.2.2.1] at h1
  exact ⟨h1, by rw [← h.2.2.2]; exact h1.2.1⟩
theorem ah2 {d : Nat} {nx : Sg → Int → Int → Option (Int × Sg)} {A : AHp} {V T : Sg} {ko fo lev fr p po g so o : Int} {e k : Nat} (hC : SKX A V T ko fo lev fr p po e k so o) (hB : NXB d nx A V T ko fo lev fr p po g k)
    {v s r : Sg} {x i : Int} {Q : Option AV → AHp → Prop} (hR : FRL V T ko fo fr p po g v s k) (hS : SG4 T s fr p g k) (hA : aheadS nx s fr k = some (x, r)) (hi0 : 0 ≤ i) (hi : i + 4 * (ptS T s fr p k : Int) + 2 ≤ 800000)
    (hE0 : x = (-9223372036854775808) → SG4 T r fr p g k → RO s r fr k → ∀ (i' : Int) (v' : Sg), 0 ≤ i' → i' + 4 * (ptS T r fr p k : Int) ≤ i + 4 * (ptS T s fr p k : Int) + 2 → FRL V T ko fo fr p po g v' r k → XF ko fo lev (k - 1) v v' → HD d A ko fo lev (T 313 p - 1) i' k (gotEndX A v' ko fo so o k).1 (gotEndX A v' ko fo so o k).2 Q)
    (hE1 : x ≠ (-9223372036854775808) → in32 x → SG4 T r fr p g k → RO s r fr k → ∀ (i' : Int) (b : Sg), 0 ≤ i' → i' + 4 * (ptS T r fr p k : Int) ≤ i + 4 * (ptS T s fr p k : Int) → FRL V T ko fo fr p po g b r k → XF ko fo lev (k - 1) v b → HD d A ko fo lev (T 313 p - 1) i' k (gotY b fo o k x).1 (gotY b fo o k x).2 Q) : HD d A ko fo lev (T 313 p - 1) i k 9223372036854775807 v Q := by
  have hfr := hC.1.2.2.2.2.2.2.2.1
  obtain ⟨x1, r1, q1, hAP⟩ := ahead_ok hB.2.2 hS.1 hS.2.1 hS.2.2.1 hS.2.2.2
  rw [hA, Option.some.injEq, Prod.mk.injEq] at q1
  obtain ⟨q2, q3⟩ := q1
  subst q2 q3
  have hk5 := hC.k5
  refine ahx hC.1 hB.1 hC.2.1 hC.2.2.1 hC.2.2.2 hB.2.1 hB.2.2 hR hS.1 hS.2.1 hS.2.2.1 hS.2.2.2 hA hi0 hi (fun c => hE0 c (hAP.sg hfr hS) (hAP.ro hfr hk5)) (fun c => hE1 c ?_ (hAP.sg hfr hS) (hAP.ro hfr hk5))
  rcases hAP.2.2.2.2 with q | ⟨q, _⟩
  · exact absurd q c
  · exact q
theorem w32_i {x : Int} (h : in32 x) : w32 x = x := w32_id h.1 h.2
theorem keepx {d : Nat} {nx : Sg → Int → Int → Option (Int × Sg)} {A : AHp} {V T : Sg} {ko fo lev fr p po g so o n x : Int} {e k : Nat} (hC : SKX A V T ko fo lev fr p po e k so o) (hB : NXB d nx A V T ko fo lev fr p po g k) (ho6 : o = 6) {t : Sg} {Q : Option AV → AHp → Prop} :
    ∀ (mm : Nat) (v s : Sg) (i : Int), keepsS nx fr k n mm s = some (x, t) → FRL V T ko fo fr p po g v s k → SG4 T s fr p g k → v (fo + 1) (k * 4) = n → 0 ≤ i → i + 4 * (ptS T s fr p k : Int) + 2 ≤ 800000 →
    (∀ (i' : Int) (v' : Sg), 0 ≤ i' → i' + 4 * (ptS T t fr p k : Int) ≤ i + 4 * (ptS T s fr p k : Int) + 2 → FRL V T ko fo fr p po g v' t k → XF ko fo lev (k - 1) v v' → RO s t fr k → HD d A ko fo lev (T 313 p - 1) i' k x (if x = (-9223372036854775808) then sset v' (fo + 3) k 1 else v') Q) →
    HD d A ko fo lev (T 313 p - 1) i k 9223372036854775807 v Q
  | 0, v, s, i, h, _, _, _, _, _, _ => by simp [keepsS] at h
  | mm + 1, v, s, i, h, hR, hS, hn, hi0, hi, hE => by
    obtain ⟨_, _, _, hfo, hko, _, hfl, _⟩ := id hC.1
    obtain ⟨m', a, r, e1, e2, e3⟩ := keeps_s h
    obtain rfl : mm = m' := by omega
    refine ah2 hC hB hR hS e2 hi0 hi (fun c hS2 hRO i' v' g1 g2 g3 g4 => ?_) (fun c hc hS2 hRO i' b g1 g2 g3 g4 => ?_)
    · rcases e3 with ⟨_, e4, e5⟩ | ⟨e3, _⟩
      · subst e4 e5
        have := hE i' v' g1 (by omega) g3 g4 hRO
        rw [c, if_pos rfl] at this
        unfold gotEndX
        rw [if_neg (by omega), if_neg (by omega)]
        exact this
      · exact absurd (Or.inl c) e3
    · have hb := (g4.own hfo hko hfl).1 (k * 4)
      have eY : gotY b fo o k a = ((if (if n = 0 then a = 0 else a.tmod n = 0) then a else 9223372036854775807), b) := by
        unfold gotY
        rw [if_neg (by omega), if_neg (by omega), if_neg (by omega), if_pos ho6, hb, hn, w32_i hc]
      rw [eY]
      rcases e3 with ⟨e3, e4, e5⟩ | ⟨e3, e4⟩
      · subst e4 e5
        have e6 : (if n = 0 then x = 0 else x.tmod n = 0) := by
          rcases e3 with e3 | e3
          · exact absurd e3 c
          · exact e3
        rw [if_pos e6]
        have := hE i' b g1 (by omega) g3 g4 hRO
        rw [if_neg c] at this
        exact this
      · rw [if_neg (fun z => e3 (Or.inr z))]
        exact keepx hC hB ho6 mm b r i' e4 g3 hS2 (hb.trans hn) g1 (by omega) (fun i2 v2 k1 k2 k3 k4 k5 => hE i2 v2 k1 (by omega) k3 (g4.trans k4) (hRO.trans k5))
theorem FRL.tally {V T : Sg} {ko fo fr p po g x : Int} {v s : Sg} {k : Nat} (hfo : 66 < fo ∧ fo < 300 ∧ (fo < 201 ∨ 266 < fo)) (hko : 206 < ko ∧ ko < 250) (hT : ∀ j : Nat, j < k → T 316 (T 312 p + j) ≤ 4) {o : Int} (ho : o = fo + 2 ∨ o = fo + 3 ∨ o = fo + 4) (h : FRL V T ko fo fr p po g v s k) : FRL V T ko fo fr p po g (sset v o k x) s k := by
  refine h.own hfo hko hT (fun o' j q => ?_) (fun _ _ _ => rfl)
  unfold sset
  rw [if_neg (by omega)]
theorem sumx {d : Nat} {nx : Sg → Int → Int → Option (Int × Sg)} {A : AHp} {V T : Sg} {ko fo lev fr p po g so o z : Int} {e k : Nat} (hC : SKX A V T ko fo lev fr p po e k so o) (hB : NXB d nx A V T ko fo lev fr p po g k) (ho8 : o = 8) {t : Sg} {Q : Option AV → AHp → Prop} :
    ∀ (mm : Nat) (a : Int) (v s : Sg) (i : Int), sumsS nx fr k mm a s = some (z, t) → FRL V T ko fo fr p po g v s k → SG4 T s fr p g k → v (fo + 2) k = a → 0 ≤ i → i + 4 * (ptS T s fr p k : Int) + 2 ≤ 800000 →
    (∀ (i' : Int) (v' : Sg), 0 ≤ i' → i' + 4 * (ptS T t fr p k : Int) ≤ i + 4 * (ptS T s fr p k : Int) + 2 → FRL V T ko fo fr p po g v' t k → XF ko fo lev k v v' → RO s t fr k → v' (fo + 4) k = v (fo + 4) k → HD d A ko fo lev (T 313 p - 1) i' k z (sset v' (fo + 3) k 1) Q) →
    HD d A ko fo lev (T 313 p - 1) i k 9223372036854775807 v Q
  | 0, a, v, s, i, h, _, _, _, _, _, _ => by simp [sumsS] at h
  | mm + 1, a, v, s, i, h, hR, hS, hn, hi0, hi, hE => by
    obtain ⟨_, _, _, hfo, hko, _, hfl, _⟩ := id hC.1
    obtain ⟨m', y, r, e1, e2, e3⟩ := sums_s h
    obtain rfl : mm = m' := by omega
    refine ah2 hC hB hR hS e2 hi0 hi (fun c hS2 hRO i' v' g1 g2 g3 g4 => ?_) (fun c hc hS2 hRO i' b g1 g2 g3 g4 => ?_)
    · rw [if_pos c, Option.some.injEq, Prod.mk.injEq] at e3
      obtain ⟨e4, e5⟩ := e3
      subst e4 e5
      obtain ⟨_, k2, k3, k4⟩ := g4.own hfo hko hfl
      have := hE i' v' g1 (by omega) g3 (g4.le (by omega)) hRO k4
      unfold gotEndX
      rw [if_pos ho8, k2, hn]
      exact this
    · rw [if_neg c] at e3
      obtain ⟨_, k2, k3, k4⟩ := g4.own hfo hko hfl
      have eY : gotY b fo o k y = (9223372036854775807, sset b (fo + 2) k (w32 (a + w32 y))) := by
        unfold gotY
        rw [if_neg (by omega), if_neg (by omega), if_neg (by omega), if_neg (by omega), if_neg (by omega), if_pos ho8, k2, hn]
      rw [eY]
      show HD d A ko fo lev (T 313 p - 1) i' k 9223372036854775807 (sset b (fo + 2) k (w32 (a + w32 y))) Q
      refine sumx hC hB ho8 mm _ _ r i' e3 (g3.tally hfo hko (fun j hj => hC.m4 j (by omega)) (Or.inl rfl)) hS2 sset_e g1 (by omega) (fun i2 v2 k1 k2' k3' k4' k5' k6' => hE i2 v2 k1 (by omega) k3' ?_ (hRO.trans k5') ?_)
      · exact ((g4.le (by omega)).put (by omega) (Or.inl rfl)).trans k4'
      · rw [k6', sset_1 (by omega)]; exact k4
def SLa (v : Sg) (fo k : Int) : Option Int → Prop
  | none => v (fo + 4) k = 1
  | some y => v (fo + 2) k = y ∧ v (fo + 4) k = 0
theorem setx {d : Nat} {nx : Sg → Int → Int → Option (Int × Sg)} {A : AHp} {V T : Sg} {ko fo lev fr p po g so o : Int} {e k : Nat} (hC : SKX A V T ko fo lev fr p po e k so o) (hB : NXB d nx A V T ko fo lev fr p po g k) (ho9 : o = 9) {t : Sg} {z : Option Int} {Q : Option AV → AHp → Prop} :
    ∀ (mm : Nat) (a : Option Int) (v s : Sg) (i : Int), setsS nx fr k mm a s = some (z, t) → FRL V T ko fo fr p po g v s k → SG4 T s fr p g k → SLa v fo k a → 0 ≤ i → i + 4 * (ptS T s fr p k : Int) + 2 ≤ 800000 →
    (∀ (i' : Int) (v' : Sg), 0 ≤ i' → i' + 4 * (ptS T t fr p k : Int) ≤ i + 4 * (ptS T s fr p k : Int) + 2 → FRL V T ko fo fr p po g v' t k → XF ko fo lev k v v' → RO s t fr k → SLa v' fo k z → HD d A ko fo lev (T 313 p - 1) i' k (gotEndX A v' ko fo so o k).1 (gotEndX A v' ko fo so o k).2 Q) →
    HD d A ko fo lev (T 313 p - 1) i k 9223372036854775807 v Q
  | 0, a, v, s, i, h, _, _, _, _, _, _ => by simp [setsS] at h
  | mm + 1, a, v, s, i, h, hR, hS, hn, hi0, hi, hE => by
    obtain ⟨_, _, _, hfo, hko, _, hfl, _⟩ := id hC.1
    obtain ⟨m', y, r, e1, e2, e3⟩ := sets_s h
    obtain rfl : mm = m' := by omega
    refine ah2 hC hB hR hS e2 hi0 hi (fun c hS2 hRO i' v' g1 g2 g3 g4 => ?_) (fun c hc hS2 hRO i' b g1 g2 g3 g4 => ?_)
    · rw [if_pos c, Option.some.injEq, Prod.mk.injEq] at e3
      obtain ⟨e4, e5⟩ := e3
      subst e4 e5
      obtain ⟨_, k2, k3, k4⟩ := g4.own hfo hko hfl
      refine hE i' v' g1 (by omega) g3 (g4.le (by omega)) hRO ?_
      cases a with
      | none => exact k4.trans hn
      | some y2 => exact ⟨k2.trans hn.1, k4.trans hn.2⟩
    · rw [if_neg c] at e3
      have eY : gotY b fo o k y = (9223372036854775807, sset (sset b (fo + 2) k (w32 y)) (fo + 4) k 0) := by
        unfold gotY
        rw [if_neg (by omega), if_neg (by omega), if_neg (by omega), if_neg (by omega), if_neg (by omega), if_neg (by omega), if_pos ho9]
      rw [eY]
      show HD d A ko fo lev (T 313 p - 1) i' k 9223372036854775807 (sset (sset b (fo + 2) k (w32 y)) (fo + 4) k 0) Q
      have hT4 : ∀ j : Nat, j < k → T 316 (T 312 p + j) ≤ 4 := fun j hj => hC.m4 j (by omega)
      refine setx hC hB ho9 mm _ _ r i' e3 ((g3.tally hfo hko hT4 (Or.inl rfl)).tally hfo hko hT4 (Or.inr (Or.inr rfl))) hS2 ⟨by rw [sset_1 (by omega), sset_e], sset_e⟩ g1 (by omega) (fun i2 v2 k1 k2' k3' k4' k5' k6' => hE i2 v2 k1 (by omega) k3' ?_ (hRO.trans k5') k6')
      exact (((g4.le (by omega)).put (by omega) (Or.inl rfl)).put (by omega) (Or.inr (Or.inr rfl))).trans k4'
/-- a stage has come to its end -/
theorem FRL.fin {A : AHp} {V T : Sg} {ko fo lev fr p po g so o : Int} {e k : Nat} (hC : SKX A V T ko fo lev fr p po e k so o) {v s : Sg} (h : FRL V T ko fo fr p po g v s k) (h1 : v (fo + 4) k = s 328 (6 * fr + k)) (h2 : ∀ i, 0 ≤ i → i < T 316 (T 312 p + k) → v (fo + 1) (k * 4 + i) = s 325 (24 * fr + 4 * k + i)) :
    FRL V T ko fo fr p po g (sset v (fo + 3) k 1) (sset s 327 (6 * fr + k) 1) (k + 1) := by
  obtain ⟨_, _, _, hfo, hko, _, hfl, _⟩ := id hC.1
  have h9 : FRL V T ko fo fr p po g (sset v (fo + 3) k 1) (sset s 327 (6 * fr + k) 1) k := by
    refine h.own hfo hko (fun j hj => hC.m4 j (by omega)) (fun o' j q => ?_) (fun o' j q => ?_)
    · unfold sset
      rw [if_neg (by omega)]
    · unfold sset
      rw [if_neg (by omega)]
  refine h9.up ?_
  unfold SR SRw
  rw [sset_1 (by omega), sset_1 (by omega), sset_e, sset_e]
  refine ⟨h1, fun i g1 g2 => ?_, Or.inr rfl, ⟨fun _ => Or.inl rfl, fun _ => rfl⟩, fun q => absurd q (by omega)⟩
  rw [sset_1 (by omega), sset_1 (by omega)]
  exact h2 i g1 g2
/-- a stage has told a number -/
theorem FRL.num {A : AHp} {V T : Sg} {ko fo lev fr p po g so o : Int} {e k : Nat} (hC : SKX A V T ko fo lev fr p po e k so o) {v s : Sg} (h : FRL V T ko fo fr p po g v s k) (h0 : s 327 (6 * fr + k) = 0) (h2 : SR v s T fo fr p k) :
    FRL V T ko fo fr p po g v (sset s 327 (6 * fr + k) 0) (k + 1) := by
  have e : sset s 327 (6 * fr + k) 0 = s := by
    funext o' j
    unfold sset
    split
    · next z => rw [z.1, z.2, h0]
    · rfl
  rw [e]
  exact h.up h2
