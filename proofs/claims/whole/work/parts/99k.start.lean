/-! ===== the relation holds at the start ===== -/
def mdw (v : Sg) : Sg := filc (filc (sset (filc (filw v 308 14) 321 3 (-5)) 307 15 (-5)) 333 4 (-1)) 347 6 (-1)
theorem filc_o {v : Sg} {a n x o k : Int} (h : ¬ (o = a ∧ 0 ≤ k ∧ k < n)) : filc v a n x o k = v o k := if_neg h
theorem filc_e {v : Sg} {a n x o k : Int} (h : o = a ∧ 0 ≤ k ∧ k < n) : filc v a n x o k = x := if_pos h
theorem filw_o {v : Sg} {a n o k : Int} (h : ¬ (o = a ∧ 0 ≤ k ∧ k < n)) : filw v a n o k = v o k := if_neg h
theorem filw_e {v : Sg} {a n o k : Int} (h : o = a ∧ 0 ≤ k ∧ k < n) : filw v a n o k = 16 + k := if_pos h
def EX1 (o k : Int) : Prop := (o = 308 ∧ 0 ≤ k ∧ k < 14) ∨ (o = 321 ∧ 0 ≤ k ∧ k < 3) ∨ (o = 307 ∧ k = 15) ∨ (o = 333 ∧ 0 ≤ k ∧ k < 4) ∨ (o = 347 ∧ 0 ≤ k ∧ k < 6)
def EX2 (o k : Int) : Prop := (o = 62 ∧ 0 ≤ k ∧ k < 15) ∨ (o = 66 ∧ 0 ≤ k ∧ k < 20) ∨ ((o = 207 ∨ o = 221 ∨ o = 235 ∨ o = 249) ∧ k = 2) ∨ ((o = 209 ∨ o = 223 ∨ o = 237 ∨ o = 251) ∧ 0 ≤ k ∧ k ≤ 2) ∨ ((o = 263 ∨ o = 264) ∧ 0 ≤ k ∧ k < 4) ∨ (o = 266 ∧ 0 ≤ k ∧ k < 6) ∨ (295 ≤ o ∧ o < 307 ∧ (o - 295) % 2 = 0 ∧ k = 0)
theorem mdw_o {v : Sg} {o k : Int} (h : ¬ EX1 o k) : mdw v o k = v o k := by
  unfold EX1 at h
  unfold mdw
  rw [filc_o (by omega), filc_o (by omega), sset_ne (by omega), filc_o (by omega), filw_o (by omega)]
theorem mdw_308 {v : Sg} {k : Int} (h : 0 ≤ k ∧ k < 14) : mdw v 308 k = 16 + k := by
  unfold mdw
  rw [filc_o (by omega), filc_o (by omega), sset_ne (by omega), filc_o (by omega), filw_e ⟨rfl, h⟩]
theorem mdw_321 {v : Sg} {k : Int} (h : 0 ≤ k ∧ k < 3) : mdw v 321 k = -5 := by
  unfold mdw
  rw [filc_o (by omega), filc_o (by omega), sset_ne (by omega), filc_e ⟨rfl, h⟩]
theorem mdw_307 {v : Sg} : mdw v 307 15 = -5 := by
  unfold mdw
  rw [filc_o (by omega), filc_o (by omega), sset_e]
theorem mdw_333 {v : Sg} {k : Int} (h : 0 ≤ k ∧ k < 4) : mdw v 333 k = -1 := by
  unfold mdw
  rw [filc_o (by omega), filc_e ⟨rfl, h⟩]
theorem mdw_347 {v : Sg} {k : Int} (h : 0 ≤ k ∧ k < 6) : mdw v 347 k = -1 := by
  unfold mdw
  rw [filc_e ⟨rfl, h⟩]
theorem c0_z {v w : Sg} (h : C0 v w) (hz : ZV v 60) {o k : Int} (q : 60 ≤ o) (g : ¬ EX2 o k) : w o k = 0 := by
  unfold EX2 at g
  rw [h.2.2.2.2.2 o k (by omega) (by omega) (by omega) (by omega) (by omega) (by omega) (by omega)]
  exact hz o q k
theorem rr_start {A : AHp} {v w1 : Sg} (hn9 : hn A = 350) (hX : XLAY A) (hM : MLAY A) (hz : ZV v 60) (h : C0 v w1) : RR A (mdw w1) := by
  have Z : ∀ o k, 60 ≤ o → ¬ EX1 o k → ¬ EX2 o k → mdw w1 o k = 0 := fun o k a b c => (mdw_o b).trans (c0_z h hz a c)
  obtain ⟨c1, c2, c3, c4, c5, _⟩ := h
  have i0 : in32 0 := by decide
  have e64 : mdw w1 64 1 = 0 := Z _ _ (by decide) (by unfold EX1; omega) (by unfold EX2; omega)
  have z7 : ∀ k, k ≠ 15 → mdw w1 307 k = 0 := fun k q => Z _ _ (by decide) (by unfold EX1; omega) (by unfold EX2; omega)
  have zr : ∀ o k, 309 ≤ o → o ≠ 321 → o ≠ 333 → o ≠ 347 → mdw w1 o k = 0 := fun o k a b c d => Z _ _ (by omega) (by unfold EX1; omega) (by unfold EX2; omega)
  have zk : ∀ o k, 207 ≤ o → o ≤ 262 → k ≠ 2 → o ≠ 209 → o ≠ 223 → o ≠ 237 → o ≠ 251 → mdw w1 o k = 0 := fun o k a b c d e f g => Z _ _ (by omega) (by unfold EX1; omega) (by unfold EX2; omega)
  have zl : ∀ o k, 207 ≤ o → o ≤ 262 → o ≠ 207 → o ≠ 221 → o ≠ 235 → o ≠ 249 → o ≠ 209 → o ≠ 223 → o ≠ 237 → o ≠ 251 → mdw w1 o k = 0 := fun o k a b c1 c2 c3 c4 d e f g => Z _ _ (by omega) (by unfold EX1; omega) (by unfold EX2; omega)
  refine ⟨⟨⟨by omega, hX, hM⟩, fun j j0 j1 => ?_, fun j j0 j1 => ?_, fun j j0 j1 => ?_, fun j j0 j1 => ?_, fun j j0 j1 => mdw_308 ⟨j0, j1⟩⟩, ?_, ?_, ?_, ?_, ?_, ?_, ?_, ?_, ?_, ?_⟩
  · rw [mdw_o (by unfold EX1; omega)]
    exact (c4 j j0 j1).1
  · rw [mdw_o (by unfold EX1; omega)]
    exact (c5 j j0 j1).1
  · rw [mdw_o (by unfold EX1; omega)]
    exact c2 j j0 j1
  · rw [mdw_o (by unfold EX1; omega)]
    exact c1 j j0 j1
  · refine ⟨by omega, ?_, fun j => ?_, fun l l0 l1 => by omega⟩
    · rw [e64]
      exact z7 12 (by decide)
    · rw [zr 317 j (by decide) (by decide) (by decide) (by decide)]
      exact i0
  · have e17 := z7 17 (by decide)
    refine ⟨?_, by omega, fun k k0 k1 => by omega⟩
    rw [e17]
    exact Z _ _ (by decide) (by unfold EX1; omega) (by unfold EX2; omega)
  · have e39 := z7 39 (by decide)
    refine ⟨fun n n0 n1 => ?_, fun f f0 f1 => ⟨?_, ?_⟩, ⟨?_, ?_⟩, ⟨?_, by omega⟩, fun i i0 i1 => by omega, ?_, ?_⟩
    · rw [zl 208 n (by decide) (by decide) (by decide) (by decide) (by decide) (by decide) (by decide) (by decide) (by decide) (by decide), zr 320 n (by decide) (by decide) (by decide) (by decide)]
    · rw [mdw_o (by unfold EX1; omega), mdw_321 ⟨f0, f1⟩]
      exact c3 209 f (by omega)
    · exact Or.inl (mdw_321 ⟨f0, f1⟩)
    · rw [mdw_o (by unfold EX1; omega), mdw_307]
      exact c3 207 2 (by omega)
    · exact Or.inl mdw_307
    · rw [e39]
      exact zk 210 1 (by decide) (by decide) (by decide) (by decide) (by decide) (by decide) (by decide)
    · rw [z7 40 (by decide)]
      exact zk 207 4 (by decide) (by decide) (by decide) (by decide) (by decide) (by decide) (by decide)
    · rw [z7 41 (by decide)]
      exact zk 207 5 (by decide) (by decide) (by decide) (by decide) (by decide) (by decide) (by decide)
  · have e49 := z7 49 (by decide)
    refine ⟨?_, by omega, fun j j0 j1 => by omega⟩
    rw [e49]
    exact zl 212 2 (by decide) (by decide) (by decide) (by decide) (by decide) (by decide) (by decide) (by decide) (by decide) (by decide)
  · have e52 := z7 52 (by decide)
    refine ⟨?_, by omega, fun j j0 j1 => by omega⟩
    rw [e52]
    exact zl 215 2 (by decide) (by decide) (by decide) (by decide) (by decide) (by decide) (by decide) (by decide) (by decide) (by decide)
  · have e54 := z7 54 (by decide)
    refine ⟨?_, by omega, fun j j0 j1 => by omega⟩
    rw [e54]
    exact zl 218 2 (by decide) (by decide) (by decide) (by decide) (by decide) (by decide) (by decide) (by decide) (by decide) (by decide)
  · have e4 : mdw w1 60 4 = 0 := Z _ _ (by decide) (by unfold EX1; omega) (by unfold EX2; omega)
    refine ⟨by rw [e4, z7 58 (by decide)], Or.inl e4, fun q => absurd e4 q⟩
  · intro j j0 j1
    refine Or.inl ⟨?_, mdw_333 ⟨j0, j1⟩⟩
    rw [mdw_o (by unfold EX1; omega)]
    exact (c4 j j0 j1).2
  · intro t t0 t1
    have s1 : mdw w1 347 t = -1 := mdw_347 ⟨t0, by omega⟩
    have s2 : mdw w1 348 t = 0 := zr 348 t (by decide) (by decide) (by decide) (by decide)
    have s3 : mdw w1 (295 + 2 * t) 0 = -1 := by
      rw [mdw_o (by unfold EX1; omega)]
      exact (c5 t t0 (by omega)).2
    have s4 : mdw w1 (295 + 2 * t) 1 = 0 := Z _ _ (by omega) (by unfold EX1; omega) (by unfold EX2; omega)
    refine ⟨by omega, by omega, by omega, by omega, fun _ => s2, fun i i0 i1 => ?_⟩
    rw [zr 349 _ (by decide) (by decide) (by decide) (by decide)]
    exact Z _ _ (by omega) (by unfold EX1; omega) (by unfold EX2; omega)
  · have e32 := z7 32 (by decide)
    have e36 := z7 36 (by decide)
    refine ⟨by omega, ⟨fun j => ?_, fun j => ?_, fun j => ?_, fun j => ?_, fun j => ?_⟩, ?_⟩
    · rw [zr 320 j (by decide) (by decide) (by decide) (by decide)]
      exact i0
    · rw [zr 324 j (by decide) (by decide) (by decide) (by decide)]
      exact i0
    · rw [zr 325 j (by decide) (by decide) (by decide) (by decide)]
      exact i0
    · rw [zr 329 j (by decide) (by decide) (by decide) (by decide)]
      exact i0
    · rw [zr 331 j (by decide) (by decide) (by decide) (by decide)]
      exact i0
    · rw [Z 64 4 (by decide) (by unfold EX1; omega) (by unfold EX2; omega)]
      exact i0
