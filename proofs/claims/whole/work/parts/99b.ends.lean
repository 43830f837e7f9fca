/-! ===== the pair ends ===== -/
def EZ (v z s : Sg) : Prop := CZI v z ∧ (∀ n, 0 ≤ n → n < 5 → z 236 n = s 320 n) ∧ (∀ f, 0 ≤ f → f < 3 → z 237 f = s 321 f ∧ LNN v (s 321 f)) ∧ z 235 2 = s 307 15 ∧ LNN v (s 307 15)
def ES (v s : Sg) : Prop := (∀ o k, ¬ (TC2 o k ∨ o = 338 ∨ o = 340 ∨ o = 343 ∨ o = 344 ∨ (o = 321 ∧ 0 ≤ k ∧ k < 3) ∨ (o = 307 ∧ k = 15)) → s o k = v o k) ∧ GR9 s ∧ (∀ n, 0 ≤ n → n < 5 → s 343 n = v 320 n) ∧ ∀ f, 0 ≤ f → f < 3 → s 344 f = v 321 f
theorem ES.st {v s : Sg} {o k x : Int} (h : ES v s) (ho : (o = 320 ∧ in32 x) ∨ (o = 321 ∧ 0 ≤ k ∧ k < 3) ∨ (o = 307 ∧ k = 15)) : ES v (sset s o k x) := by
  obtain ⟨h1, ⟨⟨x2, x3, x4, x5, x6, x7⟩, x8⟩, h3, h4⟩ := h
  have ho2 : o = 320 ∨ o = 321 ∨ (o = 307 ∧ k = 15) := by
    rcases ho with z | z | z
    · exact Or.inl z.1
    · exact Or.inr (Or.inl z.1)
    · exact Or.inr (Or.inr z)
  refine ⟨fun o' k' q => ?_, ⟨⟨?_, ?_, fun j => ?_, fun j => ?_, fun j => ?_, fun j => ?_⟩, fun j => ?_⟩, fun n n0 n1 => ?_, fun f f0 f1 => ?_⟩
  · rw [sset_ne (fun w => q (by
      rcases ho with z | z | z
      · exact Or.inl (Or.inl (w.1.trans z.1))
      · exact Or.inr (Or.inr (Or.inr (Or.inr (Or.inr (Or.inl ⟨w.1.trans z.1, by rw [w.2]; exact z.2.1, by rw [w.2]; exact z.2.2⟩)))))
      · exact Or.inr (Or.inr (Or.inr (Or.inr (Or.inr (Or.inr ⟨w.1.trans z.1, w.2.trans z.2⟩)))))))]
    exact h1 o' k' q
  · rw [sset_ne (by clear h1 ho; omega)]; exact x2
  · rw [sset_ne (by clear h1 ho; omega)]; exact x3
  · unfold sset
    split
    · next w =>
      rcases ho with q | q | q
      · exact q.2
      · omega
      · omega
    · exact x4 j
  · rw [sset_ne (by clear h1 ho; omega)]; exact x5 j
  · rw [sset_ne (by clear h1 ho; omega)]; exact x6 j
  · rw [sset_ne (by clear h1 ho; omega)]; exact x7 j
  · rw [sset_ne (by clear h1 ho; omega)]; exact x8 j
  · rw [sset_ne (by clear h1 ho; omega)]; exact h3 n n0 n1
  · rw [sset_ne (by clear h1 ho; omega)]; exact h4 f f0 f1
theorem CZI.tr {v z : Sg} {o k x : Int} (h : CZI v z) (ho : 235 ≤ o ∧ o ≤ 262) : CZI v (sset z o k x) := ⟨fun o' k' q => by
  rw [sset_ne (by omega)]
  exact h.1 o' k' q, by rw [sset_1 (by omega)]; exact h.2⟩
theorem end_step {A : AHp} {v s : Sg} {w a : Int} (h : RR A v) (hs9 : ES v s) (hp9 : PLV v w a) (hE : ∃ z, EZ v z s) : ∃ s', endStep 139 s w a = some s' ∧ ES v s' ∧ ∀ z, EZ v z s → CALL 899 mX12_carryOut [vr 60, vi w, vi a] (cl A z) (fun r B => ∃ u, r = none ∧ B = cl A u ∧ EZ v u s') := by
  obtain ⟨h0, h1, h2, h3, h4, h5, h6, h7, h8, h9, h10⟩ := id h
  have hX := h0.1.2.1
  obtain ⟨e1, e2, e3, e4⟩ := id hs9
  by_cases c0 : w = 0
  · have ha : 0 ≤ a ∧ a < v 64 1 := by unfold PLV at hp9; omega
    have hRS : ∀ z, EZ v z s → RS v z s 235 := fun z hz => by
      obtain ⟨y1, y2, y3, y4, y5⟩ := hz
      refine ⟨fun o k q => y1.1 o k (by omega), fun o k q1 q2 => e1 o k (by unfold TC2; omega), y3, ⟨y4, y5⟩, y2, e2.1, e2.2⟩
    obtain ⟨z1, hz1⟩ := hE
    obtain ⟨t, g1, ⟨g2, g3, g4, g5, g6, g7, g8⟩, g9, g10, _⟩ := run_core h1 h0.2.2.2.1 hX (XK_trial hX) (by omega) (hRS z1 hz1) ha
    refine ⟨t, by unfold endStep; rw [if_pos c0]; exact g1, ⟨fun o k q => ?_, ⟨⟨g3, g4, g5, g6, g7, g8⟩, g9⟩, fun n n0 n1 => ?_, fun f f0 f1 => ?_⟩, fun z hz => ?_⟩
    · rw [g10 o k (fun w => q (Or.inl w))]; exact e1 o k q
    · rw [g10 _ _ (by unfold TC2; omega)]; exact e3 n n0 n1
    · rw [g10 _ _ (by unfold TC2; omega)]; exact e4 f f0 f1
    · obtain ⟨y1, y2, y3, y4, y5⟩ := id hz
      refine x_carryOut (by omega) hX (fun _ _ _ => ?_) (fun q => by omega) (fun q => by omega) (fun q => by omega) (fun q => ?_)
      · obtain ⟨t2, f1, f2, f3, f4, f5⟩ := run_core h1 h0.2.2.2.1 hX (XK_trial hX) (by omega) (hRS z hz) ha
        rw [g1, Option.some.injEq] at f1
        subst f1
        refine f5 _ _ (by omega) (fun z' u1 u2 u3 u4 u5 => ⟨z', rfl, rfl, z', rfl, rfl, ?_⟩)
        obtain ⟨w1, ⟨w2, w3, w4⟩, w5⟩ := u1
        have t321 : ∀ f, t 321 f = s 321 f := fun f => g10 _ _ (by unfold TC2; omega)
        have t15 : t 307 15 = s 307 15 := g10 _ _ (by unfold TC2; omega)
        refine ⟨⟨fun o k q => ?_, by rw [w3]; exact w4⟩, w5, fun f f0 f1 => ?_, ?_, by rw [t15]; exact y5⟩
        · rw [u5 o k (by omega)]; exact y1.1 o k q
        · rw [u5 237 f (by omega), t321]; exact y3 f f0 f1
        · rw [u5 235 2 (by omega), t15]; exact y4
      · have e64 : z 64 1 = v 64 1 := y1.1 _ _ (by omega)
        omega
  · by_cases c1 : w = 1
    · have ha : 0 ≤ a ∧ a ≤ 4 := by unfold PLV at hp9; omega
      refine ⟨sset s 320 a 0, by unfold endStep; rw [if_neg c0, if_pos c1], hs9.st (Or.inl ⟨rfl, by unfold in32; omega⟩), fun z hz => ?_⟩
      obtain ⟨y1, y2, y3, y4, y5⟩ := hz
      refine x_carryOut (by omega) hX (fun q => by omega) (fun _ _ _ => ⟨_, rfl, rfl, y1.tr (by omega), fun n n0 n1 => ?_, fun f f0 f1 => ?_, ?_, ?_⟩) (fun q => by omega) (fun q => by omega) (fun q => by omega)
      · unfold sset
        by_cases c : n = a
        · rw [if_pos ⟨rfl, c⟩, if_pos ⟨rfl, c⟩]
        · rw [if_neg (fun w => c w.2), if_neg (fun w => c w.2)]; exact y2 n n0 n1
      · rw [sset_1 (by omega), sset_1 (by omega)]; exact y3 f f0 f1
      · rw [sset_1 (by omega), sset_1 (by omega)]; exact y4
      · rw [sset_1 (by omega)]; exact y5
    · by_cases c2 : w = 2
      · have ha : 0 ≤ a ∧ a ≤ 2 := by unfold PLV at hp9; omega
        refine ⟨sset s 321 a (-5), by unfold endStep; rw [if_neg c0, if_neg c1, if_pos c2], hs9.st (Or.inr (Or.inl ⟨rfl, by omega, by omega⟩)), fun z hz => ?_⟩
        obtain ⟨y1, y2, y3, y4, y5⟩ := hz
        refine x_carryOut (by omega) hX (fun q => by omega) (fun q => by omega) (fun _ _ _ => ⟨_, rfl, rfl, y1.tr (by omega), fun n n0 n1 => ?_, fun f f0 f1 => ?_, ?_, ?_⟩) (fun q => by omega) (fun q => by omega)
        · rw [sset_1 (by omega), sset_1 (by omega)]; exact y2 n n0 n1
        · unfold sset
          by_cases c : f = a
          · rw [if_pos ⟨rfl, c⟩, if_pos ⟨rfl, c⟩]; exact ⟨rfl, Or.inl rfl⟩
          · rw [if_neg (fun w => c w.2), if_neg (fun w => c w.2)]; exact y3 f f0 f1
        · rw [sset_1 (by omega), sset_1 (by omega)]; exact y4
        · rw [sset_1 (by omega)]; exact y5
      · have c3 : w = 3 := by unfold PLV at hp9; omega
        refine ⟨sset s 307 15 (-5), by unfold endStep; rw [if_neg c0, if_neg c1, if_neg c2], hs9.st (Or.inr (Or.inr ⟨rfl, rfl⟩)), fun z hz => ?_⟩
        obtain ⟨y1, y2, y3, y4, y5⟩ := hz
        refine x_carryOut (by omega) hX (fun q => by omega) (fun q => by omega) (fun q => by omega) (fun _ => ⟨_, rfl, rfl, y1.tr (by omega), fun n n0 n1 => ?_, fun f f0 f1 => ?_, ?_, ?_⟩) (fun q => by omega)
        · rw [sset_1 (by omega), sset_1 (by omega)]; exact y2 n n0 n1
        · rw [sset_1 (by omega), sset_1 (by omega)]; exact y3 f f0 f1
        · rw [sset_e, sset_e]
        · rw [sset_e]; exact Or.inl rfl
noncomputable def famE (v : Sg) : Nat → Sg
  | 0 => scpy (scpy v 320 0 343 0 5) 321 0 344 0 3
  | i + 1 => (endStep 139 (famE v i) (v 341 (2 * (i : Int))) (v 341 (2 * (i : Int) + 1))).getD v
theorem famE_ok {A : AHp} {v : Sg} (h : RR A v) : ∀ i : Nat, (i : Int) ≤ v 307 52 → ES v (famE v i) ∧ ∃ z, EZ v z (famE v i) := by
  obtain ⟨h0, h1, h2, h3, h4, h5, h6, h7, h8, h9, h10⟩ := id h
  intro i
  induction i with
  | zero =>
    intro _
    have s0 : ∀ o k, o ≠ 343 → o ≠ 344 → famE v 0 o k = v o k := fun o k q1 q2 => by
      show scpy (scpy v 320 0 343 0 5) 321 0 344 0 3 o k = v o k
      rw [scpy_n (by omega), scpy_n (by omega)]
    have hg := h.gr
    obtain ⟨⟨x2, x3, x4, x5, x6, x7⟩, x8⟩ := hg
    refine ⟨⟨fun o k q => s0 o k (by omega) (by omega), ⟨⟨?_, ?_, fun j => ?_, fun j => ?_, fun j => ?_, fun j => ?_⟩, fun j => ?_⟩, fun n n0 n1 => ?_, fun f f0 f1 => ?_⟩, ?_⟩
    · rw [s0 _ _ (by omega) (by omega)]; exact x2
    · rw [s0 _ _ (by omega) (by omega)]; exact x3
    · rw [s0 _ _ (by omega) (by omega)]; exact x4 j
    · rw [s0 _ _ (by omega) (by omega)]; exact x5 j
    · rw [s0 _ _ (by omega) (by omega)]; exact x6 j
    · rw [s0 _ _ (by omega) (by omega)]; exact x7 j
    · rw [s0 _ _ (by omega) (by omega)]; exact x8 j
    · show scpy (scpy v 320 0 343 0 5) 321 0 344 0 3 343 n = v 320 n
      rw [scpy_n (by omega), scpy_i (by omega)]
      congr 1
      omega
    · show scpy (scpy v 320 0 343 0 5) 321 0 344 0 3 344 f = v 321 f
      rw [scpy_i (by omega), scpy_n (by omega)]
      congr 1
      omega
    · obtain ⟨k1, k2, k3, k4⟩ := kcv_f (A := A) (z := v) (ko := 235) (by omega)
      refine ⟨kcv A v 235, ⟨fun o k q => k4 o k (by omega), by rw [k4 64 4 (by omega)]; exact h10.2.2⟩, fun n n0 n1 => ?_, fun f f0 f1 => ?_, ?_, ?_⟩
      · rw [s0 _ _ (by omega) (by omega)]; exact (k1 n n0 n1).trans (h3.1 n n0 n1)
      · rw [s0 _ _ (by omega) (by omega)]; exact ⟨(k2 f f0 f1).trans (h3.2.1 f f0 f1).1, (h3.2.1 f f0 f1).2⟩
      · rw [s0 _ _ (by omega) (by omega)]; exact k3.trans h3.2.2.1.1
      · rw [s0 _ _ (by omega) (by omega)]; exact h3.2.2.1.2
  | succ i ih =>
    intro hi
    obtain ⟨j1, z, j2⟩ := ih (by omega)
    have hp9 := (h5.2.2 (i : Int) (by omega) (by omega)).2.2
    obtain ⟨s', g1, g2, g3⟩ := end_step h j1 hp9 ⟨z, j2⟩
    have e : famE v (i + 1) = s' := by
      show (endStep 139 (famE v i) (v 341 (2 * (i : Int))) (v 341 (2 * (i : Int) + 1))).getD v = s'
      rw [g1]
      rfl
    rw [e]
    refine ⟨g2, ?_⟩
    obtain ⟨r, B, ⟨⟨u, _, _, hu⟩, _⟩, _⟩ := g3 z j2
    exact ⟨u, hu⟩
theorem p_ends {A : AHp} {v : Sg} {name : Int} (h : RR A v) : PAIR A v mX12_ends mX13_ends [vi name] := by
  obtain ⟨h0, h1, h2, h3, h4, h5, h6, h7, h8, h9, h10⟩ := id h
  have hX := h0.1.2.1
  have hM := h0.1.2.2
  obtain ⟨a1, a2, a3⟩ := id h5
  have hcc : (((v 307 52).toNat : Nat) : Int) = v 307 52 := by omega
  have f52 : ∀ i : Nat, (i : Int) ≤ v 307 52 → famE v i 307 52 = v 307 52 ∧ ∀ k, famE v i 341 k = v 341 k := fun i hi => ⟨(famE_ok h i hi).1.1 _ _ (by unfold TC2; omega), fun k => (famE_ok h i hi).1.1 _ _ (by unfold TC2; omega)⟩
  have hstp : ∀ i : Nat, (i : Int) < v 307 52 → endStep 139 (famE v i) (v 341 (2 * (i : Int))) (v 341 (2 * (i : Int) + 1)) = some (famE v (i + 1)) ∧ ∀ z, EZ v z (famE v i) → CALL 899 mX12_carryOut [vr 60, vi (v 341 (2 * (i : Int))), vi (v 341 (2 * (i : Int) + 1))] (cl A z) (fun r B => ∃ u, r = none ∧ B = cl A u ∧ EZ v u (famE v (i + 1))) := fun i hi => by
    obtain ⟨j1, j2⟩ := famE_ok h i (by omega)
    obtain ⟨s', g1, g2, g3⟩ := end_step h j1 (a3 (i : Int) (by omega) hi).2.2 j2
    have e : famE v (i + 1) = s' := by
      show (endStep 139 (famE v i) (v 341 (2 * (i : Int))) (v 341 (2 * (i : Int) + 1))).getD v = s'
      rw [g1]
      rfl
    rw [e]
    exact ⟨g1, g3⟩
  unfold PAIR
  refine x_ends (c := (v 307 52).toNat) (Inv := fun i z => EZ v z (famE v i)) (by omega) hX ((CZI.rf h).ksz h) (by omega) (fun q => ?_) ?_ (fun i z hi hz => ⟨?_, fun hi2 => ?_⟩) (fun q1 q2 z hz => ?_)
  · rw [lift_z (CZI.rf h)]
    exact c_ends (n := 139) (by omega) hM hMinC (fun _ => ⟨rfl, A, v, (lift_z (CZI.rf h)).symm, h, GRO.rf, by omega⟩) (fun _ _ => by omega)
  · obtain ⟨k1, k2, k3, k4⟩ := kcv_f (A := A) (z := v) (ko := 235) (by omega)
    have s0 : ∀ o k, o ≠ 343 → o ≠ 344 → famE v 0 o k = v o k := fun o k q1 q2 => by
      show scpy (scpy v 320 0 343 0 5) 321 0 344 0 3 o k = v o k
      rw [scpy_n (by omega), scpy_n (by omega)]
    refine ⟨⟨fun o k q => k4 o k (by omega), by rw [k4 64 4 (by omega)]; exact h10.2.2⟩, fun n n0 n1 => ?_, fun f f0 f1 => ?_, ?_, ?_⟩
    · rw [s0 _ _ (by omega) (by omega)]; exact (k1 n n0 n1).trans (h3.1 n n0 n1)
    · rw [s0 _ _ (by omega) (by omega)]; exact ⟨(k2 f f0 f1).trans (h3.2.1 f f0 f1).1, (h3.2.1 f f0 f1).2⟩
    · rw [s0 _ _ (by omega) (by omega)]; exact k3.trans h3.2.2.1.1
    · rw [s0 _ _ (by omega) (by omega)]; exact h3.2.2.1.2
  · rw [hz.1.1 215 2 (by omega), a1, hcc]
  · obtain ⟨b1, b2, b3⟩ := a3 (i : Int) (by omega) (by omega)
    rw [hz.1.1 216 i (by omega), hz.1.1 217 i (by omega), b1, b2]
    exact (hstp i (by omega)).2 z hz
  · rw [lift_z hz.1]
    obtain ⟨⟨j1, ⟨⟨x2, x3, x4, x5, x6, x7⟩, x8⟩, j3, j4⟩, _⟩ := famE_ok h (v 307 52).toNat (by omega)
    refine c_ends (n := 139) (by omega) hM hMinC (fun _ => by omega) (fun _ _ => ⟨(v 307 52).toNat, famE v, rfl, by omega, fun i hi => by rw [(f52 i (by omega)).1, hcc], fun i hi => ?_, fun i hi => by rw [(f52 i (by omega)).2, (f52 i (by omega)).2]; exact (hstp i (by omega)).1, ?_⟩)
    · rw [(f52 i (by omega)).2, (f52 i (by omega)).2]
      have hp9 := (a3 (i : Int) (by omega) (by omega)).2.2
      have hl8 := h1.1.2
      unfold PLV at hp9
      refine ⟨by omega, by omega, fun q => by omega, fun q => by omega, fun q => by omega⟩
    · have t0 : ∀ o k, ¬ (o = 320 ∨ o = 321 ∨ (o = 307 ∧ k = 15)) → (sset (scpy (scpy (famE v (v 307 52).toNat) 343 0 320 0 5) 344 0 321 0 3) 307 15 (v 307 15)) o k = famE v (v 307 52).toNat o k := fun o k q => by
        rw [sset_ne (by omega), scpy_n (by omega), scpy_n (by omega)]
      have t15 : (sset (scpy (scpy (famE v (v 307 52).toNat) 343 0 320 0 5) 344 0 321 0 3) 307 15 (v 307 15)) 307 15 = v 307 15 := sset_e
      have t20 : ∀ n, 0 ≤ n → n < 5 → (sset (scpy (scpy (famE v (v 307 52).toNat) 343 0 320 0 5) 344 0 321 0 3) 307 15 (v 307 15)) 320 n = v 320 n := fun n n0 n1 => by
        rw [sset_1 (by omega), scpy_n (by omega), scpy_i (by omega), show (0 : Int) + (n - 0) = n by omega]
        exact j3 n n0 n1
      have t20o : ∀ n, n < 0 ∨ 5 ≤ n → (sset (scpy (scpy (famE v (v 307 52).toNat) 343 0 320 0 5) 344 0 321 0 3) 307 15 (v 307 15)) 320 n = famE v (v 307 52).toNat 320 n := fun n n0 => by
        rw [sset_1 (by omega), scpy_n (by omega), scpy_n (by omega)]
      have t21 : ∀ f, (sset (scpy (scpy (famE v (v 307 52).toNat) 343 0 320 0 5) 344 0 321 0 3) 307 15 (v 307 15)) 321 f = v 321 f := fun f => by
        by_cases c : 0 ≤ f ∧ f < 3
        · rw [sset_1 (by omega), scpy_i (by omega), scpy_n (by omega), show (0 : Int) + (f - 0) = f by omega]
          exact j4 f c.1 c.2
        · rw [sset_1 (by omega), scpy_n (by omega), scpy_n (by omega)]
          exact j1 _ _ (by unfold TC2; omega)
      generalize sset (scpy (scpy (famE v (v 307 52).toNat) 343 0 320 0 5) 344 0 321 0 3) 307 15 (v 307 15) = t at t0 t15 t20 t20o t21 ⊢
      refine ⟨?_, A, liftV z t, lift_cl, h.cz hz.1 ⟨fun o k q => ?_, ⟨?_, ?_, fun j => ?_, fun j => ?_, fun j => ?_, fun j => ?_⟩, fun j => ?_⟩ t20, GRO.rf, by omega⟩
      · rw [hz.2.1 name q1 (by omega)]
      · by_cases c : o = 321
        · rw [c]; exact t21 k
        · by_cases c2 : o = 307 ∧ k = 15
          · rw [c2.1, c2.2]; exact t15
          · rw [t0 o k (fun w => q (by unfold TC2; omega))]
            exact j1 o k (fun w => by
              rcases w with w | w | w | w | w | w | w
              · exact q (Or.inl w)
              · exact q (Or.inr (Or.inl w))
              · exact q (Or.inr (Or.inr (Or.inl w)))
              · exact q (Or.inr (Or.inr (Or.inr (Or.inl w))))
              · exact q (Or.inr (Or.inr (Or.inr (Or.inr w))))
              · exact c w.1
              · exact c2 w)
      · rw [t0 _ _ (by omega)]; exact x2
      · rw [t0 _ _ (by omega)]; exact x3
      · by_cases c : 0 ≤ j ∧ j < 5
        · rw [t20 j c.1 c.2]; exact h10.2.1.1 j
        · rw [t20o j (by omega)]; exact x4 j
      · rw [t0 _ _ (by omega)]; exact x5 j
      · rw [t0 _ _ (by omega)]; exact x6 j
      · rw [t0 _ _ (by omega)]; exact x7 j
      · rw [t0 _ _ (by omega)]; exact x8 j
