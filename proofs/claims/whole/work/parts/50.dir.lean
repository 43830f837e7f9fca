/-! ===== a stage answers ===== -/
theorem SR.mk {v r T : Sg} {fo fr p k : Int} (h1 : v (fo + 4) k = r 328 (6 * fr + k)) (h2 : ∀ i, 0 ≤ i → i < T 316 (T 312 p + k) → v (fo + 1) (k * 4 + i) = r 325 (24 * fr + 4 * k + i)) (h3 : v (fo + 3) k = 0) (h4 : r 327 (6 * fr + k) = 0) (h5 : T 314 (T 312 p + k) = 7 → r 326 (6 * fr + k) ≠ 1)
    (h6 : (T 314 (T 312 p + k) ≤ 1 ∨ T 314 (T 312 p + k) = 6 ∨ 11 ≤ T 314 (T 312 p + k)) → v (fo + 2) k = r 326 (6 * fr + k)) (h7 : T 314 (T 312 p + k) = 7 → v (fo + 2) k = 0) (h8 : T 314 (T 312 p + k) = 8 → r 328 (6 * fr + k) = 1)
    (h9 : 11 ≤ T 314 (T 312 p + k) → (v fo 9 = 0 ∧ r 326 (6 * fr + k) = 0 ∧ r 330 fr = 0) ∨ (v fo 9 = 1 ∧ 1 ≤ r 326 (6 * fr + k) ∧ v (fo + 5) 1 = r 330 fr ∧ ∀ i, 0 ≤ i → i < r 330 fr → v (fo + 5 + 1) i = r 329 (60 * fr + i))) : SR v r T fo fr p k := by
  refine ⟨h1, h2, Or.inl h3, ⟨fun q => by omega, fun q => ?_⟩, fun _ => ⟨h6, h7, h8, h9⟩⟩
  rcases q with q | ⟨q1, q2⟩
  · omega
  · exact absurd q2 (h5 q1)
theorem withx {d : Nat} {A : AHp} {V T : Sg} {ko fo lev fr p po g so o : Int} {e k : Nat} (hC : SKX A V T ko fo lev fr p po e k so o) (hk0 : k = 0) (hw : 11 ≤ T 314 (T 312 p + k))
    {v v0 u : Sg} {x i : Int} {Q : Option AV → AHp → Prop} (hR : FRL V T ko fo fr p po g v u k) (h1 : v (fo + 4) k = u 328 (6 * fr + k)) (h2 : ∀ i, 0 ≤ i → i < T 316 (T 312 p + k) → v (fo + 1) (k * 4 + i) = u 325 (24 * fr + 4 * k + i)) (h3 : v (fo + 3) k = 0) (h4 : u 327 (6 * fr + k) = 0) (h5 : v (fo + 2) k = u 326 (6 * fr + k)) (h6 : v fo 9 = 1) (h7 : v (fo + 5) 1 = u 330 fr) (h8 : ∀ i, 0 ≤ i → i < u 330 fr → v (fo + 5 + 1) i = u 329 (60 * fr + i))
    (hb : 0 ≤ u 326 (6 * fr + k) ∧ u 326 (6 * fr + k) ≤ 60) (hX0 : XF ko fo lev k v0 v) (hx9 : x = if u 326 (6 * fr) + 1 ≤ u 330 fr then u 329 (60 * fr + (u 326 (6 * fr) + 1) - 1) else (-9223372036854775808)) (hno : ∀ j, u 329 j ≠ (-9223372036854775808))
    (hE : ∀ (v' : Sg), FRL V T ko fo fr p po g v' (sset (sset u 326 (6 * fr) (u 326 (6 * fr) + 1)) 327 (6 * fr + k) (if x = (-9223372036854775808) then 1 else 0)) (k + 1) → XF ko fo lev k v0 v' → HD d A ko fo lev (T 313 p - 1) i k x v' Q) :
    HD d A ko fo lev (T 313 p - 1) i k (askX v fo so o k).1 (askX v fo so o k).2 Q := by
  obtain ⟨_, _, _, hfo, hko, _, hfl, _⟩ := id hC.1
  have ho := hC.st.2
  have hT4 : ∀ j : Nat, j < k → T 316 (T 312 p + j) ≤ 4 := fun j hj => hC.m4 j (by omega)
  have e0 : 6 * fr + (k : Int) = 6 * fr := by omega
  rw [e0] at h1 h4 h5 hb
  have eA : askX v fo so o k = if v (fo + 2) k < v (fo + 5) 1 then (v (fo + 5 + 1) (v (fo + 2) k), sset v (fo + 2) k (w32 (v (fo + 2) k + 1))) else ((-9223372036854775808), sset v (fo + 3) k 1) := by
    unfold askX
    rw [if_neg (by omega), if_neg (by omega), if_pos (by omega)]
  rw [eA, h5, h7]
  by_cases c : u 326 (6 * fr) < u 330 fr
  · rw [if_pos c]
    rw [if_pos (by omega), show 60 * fr + (u 326 (6 * fr) + 1) - 1 = 60 * fr + u 326 (6 * fr) by omega] at hx9
    rw [h8 _ hb.1 c, ← hx9]
    have hxn : x ≠ (-9223372036854775808) := by rw [hx9]; exact hno _
    rw [if_neg hxn] at hE
    rw [w32_id (by omega) (by omega)]
    refine hE _ ?_ (hX0.put (by omega) (Or.inl rfl))
    rw [e0]
    have hdn : FRL V T ko fo fr p po g (sset v (fo + 2) k (u 326 (6 * fr) + 1)) (sset u 326 (6 * fr) (u 326 (6 * fr) + 1)) k := by
      refine hR.own hfo hko hT4 (fun o' j q => ?_) (fun o' j q => ?_)
      · unfold sset
        rw [if_neg (by omega)]
      · unfold sset
        rw [if_neg (by omega)]
    have h := FRL.num hC hdn (by rw [sset_1 (by omega), e0]; exact h4) (SR.mk (by rw [sset_1 (by omega), sset_1 (by omega), e0]; exact h1) (fun i g1 g2 => by rw [sset_1 (by omega), sset_1 (by omega)]; exact h2 i g1 g2) (by rw [sset_1 (by omega)]; exact h3) (by rw [sset_1 (by omega), e0]; exact h4) (by omega) (fun _ => by rw [sset_e, e0, sset_e]) (by omega) (by omega) (fun _ => Or.inr ⟨by rw [sset_1 (by omega)]; exact h6, by rw [e0, sset_e]; omega, by rw [sset_1 (by omega), sset_1 (by omega)]; exact h7, fun i g1 g2 => by rw [sset_1 (by omega)] at g2; rw [sset_1 (by omega), sset_1 (by omega)]; exact h8 i g1 g2⟩))
    rw [e0] at h
    exact h
  · rw [if_neg c]
    rw [if_neg (by omega)] at hx9
    rw [if_pos hx9] at hE
    subst hx9
    refine hE _ ?_ (hX0.put (by omega) (Or.inr (Or.inl rfl)))
    refine FRL.fin hC ?_ (by rw [sset_1 (by omega), e0]; exact h1) (fun i g1 g2 => by rw [sset_1 (by omega)]; exact h2 i g1 g2)
    refine hR.own hfo hko hT4 (fun o' j q => rfl) (fun o' j q => ?_)
    unfold sset
    rw [if_neg (by omega)]
theorem sset_comm {s : Sg} {o k x o' k' x' : Int} (h : o ≠ o') : sset (sset s o k x) o' k' x' = sset (sset s o' k' x') o k x := by
  funext a b
  unfold sset
  by_cases z1 : a = o' ∧ b = k'
  · rw [if_pos z1, if_neg (by omega), if_pos z1]
  · rw [if_neg z1]
    by_cases z2 : a = o ∧ b = k
    · rw [if_pos z2, if_pos z2]
    · rw [if_neg z2, if_neg z2, if_neg z1]
theorem w11 {w : Int} (h3 : 0 ≤ w) (w0 : ¬ w = 0) (w1 : ¬ w = 1) (w2 : ¬ (w = 2 ∨ w = 3)) (w4 : ¬ w = 4) (w5 : ¬ w = 5) (w6 : ¬ w = 6) (w7 : ¬ w = 7) (w8 : ¬ w = 8) (w9 : ¬ (w = 9 ∨ w = 10)) : 11 ≤ w := by omega
theorem k0_of {A : AHp} {V T : Sg} {ko fo lev fr p po so o : Int} {e k : Nat} (hC : SKX A V T ko fo lev fr p po e k so o) (hw : 11 ≤ T 314 (T 312 p + k)) : k = 0 := by
  rcases Nat.eq_zero_or_pos k with q | q
  · exact q
  · have := hC.1.2.2.2.2.2.2.2.2.2.1.w.2.1 k (by omega) hC.2.1
    omega
theorem dirw {d : Nat} {nx : Sg → Int → Int → Option (Int × Sg)} {A : AHp} {V T : Sg} {ko fo lev fr p po g so o n : Int} {e k : Nat} (hC : SKX A V T ko fo lev fr p po e k so o) (hw : 11 ≤ T 314 (T 312 p + k))
    {v s r : Sg} {x i : Int} {Q : Option AV → AHp → Prop} (hR : FRL V T ko fo fr p po g v s (k + 1)) (hS : SG4 T s fr p g (k + 1)) (hopen : s 327 (6 * fr + k) = 0) (hov : v (fo + 3) k = 0) (hin : v fo 9 ≠ 0)
    (hA : withinS nx fr (T 312 p + k) n s = some (x, r)) (hi0 : 0 ≤ i)
    (hE : ∀ (i' : Int) (v' : Sg), 0 ≤ i' → i' + 4 * (ptS T r fr p k : Int) ≤ i + 4 * (ptS T s fr p k : Int) + 2 → FRL V T ko fo fr p po g v' (sset r 327 (6 * fr + k) (if x = (-9223372036854775808) then 1 else 0)) (k + 1) → XF ko fo lev k v v' → HD d A ko fo lev (T 313 p - 1) i' k x v' Q) :
    HD d A ko fo lev (T 313 p - 1) i k (askX v fo so o k).1 (askX v fo so o k).2 Q := by
  have hk0 := k0_of hC hw
  obtain ⟨s1, s2, s3, s4, s5⟩ := hR.2.2.2.2 k (by omega)
  obtain ⟨t1, t2, t3, t4⟩ := s5 hov
  have hSO := ((hS.2.2.1.2 k (by omega)).2 hopen).2.2 hw
  have t1 := t1 (Or.inr (Or.inr hw))
  have t4 := t4 hw
  clear t2 t3 s5 s4
  obtain ⟨u, q1, q2, q3, q4⟩ := within_s hA
  rcases t4 with ⟨z1, _⟩ | ⟨z1, z2, z3, z4⟩
  · exact absurd z1 hin
  · have e0 : 6 * fr + (k : Int) = 6 * fr := by omega
    have eu : u = s := by
      unfold innerS at q1
      rw [if_pos (by rw [← e0]; omega), Option.some.injEq] at q1
      exact q1.symm
    subst eu
    refine withx hC hk0 hw hR.down s1 s2 hov hopen t1 z1 z3 z4 hSO XF.rf q3 (fun j z => no32 (z ▸ hS.1.2.2.2.2.2.2 j)) (fun v' g3 g4 => ?_)
    rw [← q4] at g3
    refine hE i v' hi0 ?_ g3 g4
    have : ptS T r fr p k = ptS T u fr p k := by
      rw [q4]
      exact ptS_eq (fun j g1 g2 => by omega)
    omega
theorem rs_off {s : Sg} {o9 fr k x : Int} (h : o9 = 326 ∨ o9 = 327 ∨ o9 = 328) : ∀ o' j : Int, ¬ ((o' = 326 ∨ o' = 327 ∨ o' = 328) ∧ j = 6 * fr + k) → sset s o9 (6 * fr + k) x o' j = s o' j := fun o' j q => by
  unfold sset
  rw [if_neg (by omega)]
theorem ptS_val {T s : Sg} {fr p j0 x y a : Int} {k : Nat} : ptS T (sset (sset s 320 j0 x) 328 a y) fr p k = ptS T s fr p k :=
  ptS_eq (fun j _ _ => ⟨by rw [sset_1 (by decide), sset_1 (by decide)], by rw [sset_1 (by decide), sset_1 (by decide)]⟩)
theorem gotEnd_set {A : AHp} {v : Sg} {ko fo so o k nm y : Int} (ho : o = 9) (h1 : v (fo + 2) k = y) (h2 : v (fo + 4) k = 0) (e5 : v (hp A so 1) 0 = -1 - nm) (hnm : 0 ≤ nm ∧ nm < 5) (hne : fo + 3 ≠ ko + 1) : gotEndX A v ko fo so o k = ((-9223372036854775808), sset (sset v (ko + 1) nm y) (fo + 3) k 1) := by
  unfold gotEndX
  rw [if_neg (by omega), if_pos (by rw [e5]; omega), e5, h1, show -1 - (-1 - nm) = nm by omega, sset_comm hne]
theorem gotEnd_none {A : AHp} {v : Sg} {ko fo so o k : Int} (ho : o = 9) (h2 : v (fo + 4) k = 1) : gotEndX A v ko fo so o k = ((-9223372036854775808), sset v (fo + 3) k 1) := by
  unfold gotEndX
  rw [if_neg (by omega), if_neg (by omega)]
set_option maxHeartbeats 4000000 in
theorem dirx {d : Nat} {nx : Sg → Int → Int → Option (Int × Sg)} {A : AHp} {V T : Sg} {ko fo lev fr p po g so o : Int} {e k : Nat} (hC : SKX A V T ko fo lev fr p po e k so o) (hB : NXB d nx A V T ko fo lev fr p po g k)
    {v s r : Sg} {x i : Int} {Q : Option AV → AHp → Prop} (hR : FRL V T ko fo fr p po g v s (k + 1)) (hS : SG4 T s fr p g (k + 1)) (hopen : s 327 (6 * fr + k) = 0) (hov : v (fo + 3) k = 0) (hin : T 314 (T 312 p + k) < 11 ∨ v fo 9 ≠ 0)
    (hA : askedS nx fr k (T 312 p + k) (s 325 (24 * fr + 4 * k)) s = some (x, r)) (hi0 : 0 ≤ i) (hi : i + 4 * (ptS T s fr p k : Int) + 2 ≤ 800000)
    (hE : ∀ (i' : Int) (v' : Sg), 0 ≤ i' → i' + 4 * (ptS T r fr p k : Int) ≤ i + 4 * (ptS T s fr p k : Int) + 2 → FRL V T ko fo fr p po g v' (sset r 327 (6 * fr + k) (if x = (-9223372036854775808) then 1 else 0)) (k + 1) → XF ko fo lev k v v' → HD d A ko fo lev (T 313 p - 1) i' k x v' Q) :
    ASO v fo o k ∧ HD d A ko fo lev (T 313 p - 1) i k (askX v fo so o k).1 (askX v fo so o k).2 Q := by
  obtain ⟨_, _, _, hfo, hko, _, hfl, hfr, hPC, hPOK, hTOK⟩ := id hC.1
  have hk5 := hC.k5
  have hkp := hC.2.1
  obtain ⟨hST, ho⟩ := hC.st
  obtain ⟨hStg, _, hS3, hS4, hS5⟩ := hST
  have hT4 : ∀ j : Nat, j < k → T 316 (T 312 p + j) ≤ 4 := fun j hj => hC.m4 j (by omega)
  have hne : fo + 3 ≠ ko + 1 := by omega
  have hne4 : fo + 4 ≠ ko + 1 := by omega
  have hG := hS.1
  have hFk : FX T s fr p k := ⟨hS.2.2.1.1, fun j hj => hS.2.2.1.2 j (by omega)⟩
  have hS' : SG4 T s fr p g k := ⟨hG, hS.2.1, hFk, hS.2.2.2⟩
  have hSO := (hS.2.2.1.2 k (by omega)).2 hopen
  have hRk := hR.down
  obtain ⟨s1, s2, s3, s4, s5⟩ := hR.2.2.2.2 k (by omega)
  obtain ⟨t1, t2, t3, t4⟩ := s5 hov
  obtain ⟨p1, p2, p3, p4, _⟩ := hPOK.w.1.2.2.2.2.2.2 k (by omega) hkp
  have ew : s 314 (T 312 p + k) = T 314 (T 312 p + k) := hG.1 _ _ (by omega)
  have em : s 316 (T 312 p + k) = T 316 (T 312 p + k) := hG.1 _ _ (by omega)
  have eso : v so 2 = V so 2 := hR.1 so 2 (Or.inl hStg.1)
  have hn : (1 ≤ T 314 (T 312 p + k) ∧ T 314 (T 312 p + k) ≤ 6 ∨ 10 ≤ T 314 (T 312 p + k) ∧ T 314 (T 312 p + k) ≤ 13) → v (fo + 1) (k * 4) = s 325 (24 * fr + 4 * k) := fun q => by
    have := s2 0 (by omega) (by have := hS5 q; omega)
    rw [Int.add_zero, Int.add_zero] at this
    exact this
  have hASO : ASO v fo o k := by
    refine ⟨fun q => ?_, fun q => ?_⟩
    · rw [t1 (by omega)]
      rcases q with q | q | q
      · have := hSO.1 (by omega); omega
      · have := hSO.2.1 (by omega); omega
      · have := hSO.2.2 (by omega); omega
    · rcases t4 (by omega) with ⟨q1, _⟩ | ⟨_, _, q3, _⟩
      · rcases hin with q | q
        · omega
        · exact absurd q1 q
      · rw [q3]; exact hS.2.2.1.1
  refine ⟨hASO, ?_⟩
  have fin : ∀ (i' : Int) (v1 : Sg), x = (-9223372036854775808) → 0 ≤ i' → i' + 4 * (ptS T r fr p k : Int) ≤ i + 4 * (ptS T s fr p k : Int) + 2 → FRL V T ko fo fr p po g v1 r k → v1 (fo + 4) k = r 328 (6 * fr + k) → (∀ j, 24 * fr ≤ j → j < 24 * fr + 24 → r 325 j = s 325 j) → XF ko fo lev k v v1 → HD d A ko fo lev (T 313 p - 1) i' k (-9223372036854775808) (sset v1 (fo + 3) k 1) Q := by
    intro i' v1 hx9 g1 g2 g3 g4 g5 g6
    have := hE i' (sset v1 (fo + 3) k 1) g1 g2
    rw [if_pos hx9, hx9] at this
    refine this (FRL.fin hC g3 g4 (fun i q1 q2 => ?_)) (g6.put (by omega) (Or.inr (Or.inl rfl)))
    rw [g6.own1 hfo hko hfl, g5 _ (by omega) (by omega)]
    exact s2 i q1 q2
  have num : ∀ (i' : Int) (v1 : Sg), x ≠ (-9223372036854775808) → 0 ≤ i' → i' + 4 * (ptS T r fr p k : Int) ≤ i + 4 * (ptS T s fr p k : Int) + 2 → FRL V T ko fo fr p po g v1 r k → r 327 (6 * fr + k) = 0 → SR v1 r T fo fr p k → XF ko fo lev k v v1 → HD d A ko fo lev (T 313 p - 1) i' k x v1 Q := by
    intro i' v1 hx9 g1 g2 g3 g4 g5 g6
    have := hE i' v1 g1 g2
    rw [if_neg hx9] at this
    exact this (FRL.num hC g3 g4 g5) g6
  have nx32 : ∀ y : Int, in32 y → y ≠ (-9223372036854775808) := fun y hy z => no32 (z ▸ hy)
  -- words 2 to 6: after what came from ahead
  have pass : ∀ (i' : Int) (b r0 : Sg), r = r0 → x ≠ (-9223372036854775808) → (2 ≤ T 314 (T 312 p + k) ∧ T 314 (T 312 p + k) ≤ 5) → RO s r0 fr k → 0 ≤ i' → i' + 4 * (ptS T r0 fr p k : Int) ≤ i + 4 * (ptS T s fr p k : Int) + 2 → FRL V T ko fo fr p po g b r0 k → XF ko fo lev (k - 1) v b → HD d A ko fo lev (T 313 p - 1) i' k x b Q := by
    intro i' b r0 er hx9 hw hRO g1 g2 g3 g4
    subst er
    obtain ⟨k1, k2, k3, k4⟩ := g4.own hfo hko hfl
    refine num i' b hx9 g1 g2 g3 (hRO.2.2.1.trans hopen) (SR.mk (by rw [k4, hRO.2.2.2]; exact s1) (fun i q1 q2 => by rw [k1, hRO.1 _ (by omega) (by omega)]; exact s2 i q1 q2) (by rw [k3]; exact hov) (hRO.2.2.1.trans hopen) (by omega) (by omega) (by omega) (by omega) (by omega)) (g4.le (by omega))
  have endA : ∀ (i' : Int) (v1 r0 : Sg), r = r0 → x = (-9223372036854775808) → RO s r0 fr k → 0 ≤ i' → i' + 4 * (ptS T r0 fr p k : Int) ≤ i + 4 * (ptS T s fr p k : Int) + 2 → FRL V T ko fo fr p po g v1 r0 k → XF ko fo lev (k - 1) v v1 → HD d A ko fo lev (T 313 p - 1) i' k (-9223372036854775808) (sset v1 (fo + 3) k 1) Q := by
    intro i' v1 r0 er hx9 hRO g1 g2 g3 g4
    subst er
    obtain ⟨k1, k2, k3, k4⟩ := g4.own hfo hko hfl
    exact fin i' v1 hx9 g1 g2 g3 (by rw [k4, hRO.2.2.2]; exact s1) hRO.1 (g4.le (by omega))
  unfold askedS at hA
  rw [ew] at hA
  by_cases w0 : T 314 (T 312 p + k) = 0
  · rw [if_pos w0] at hA
    obtain ⟨g1, g2⟩ := grd_some hA
    simp only [Option.some.injEq, Prod.mk.injEq, sset_e] at g2
    obtain ⟨g3, g4⟩ := g2
    have ht := t1 (by omega)
    have e1 : w32 (s 326 (6 * fr + k) + 1) = s 326 (6 * fr + k) + 1 := w32_id (by omega) (by omega)
    rw [e1] at g3 g4
    rw [sset_1 (by omega), sset_1 (by omega), em] at g3
    have hps : ptS T r fr p k = ptS T s fr p k := by
      rw [← g4]
      exact ptS_eq (fun j _ _ => ⟨sset_2 (by omega), sset_1 (by omega)⟩)
    have eA : askX v fo so o k = if v (fo + 2) k < v so 2 then (v (fo + 1) (k * 4 + v (fo + 2) k), sset v (fo + 2) k (w32 (v (fo + 2) k + 1))) else ((-9223372036854775808), sset v (fo + 3) k 1) := by
      unfold askX
      rw [if_pos (by omega)]
    rw [eA, ht, eso, (hS3 (by omega)).1]
    by_cases c : s 326 (6 * fr + k) < T 316 (T 312 p + k)
    · rw [if_pos (by omega)] at g3
      rw [if_pos c, s2 _ g1.1 c, show 24 * fr + 4 * (k : Int) + s 326 (6 * fr + k) = 24 * fr + 4 * k + (s 326 (6 * fr + k) + 1) - 1 by omega, g3, e1]
      dsimp only
      refine num i _ (by rw [← g3]; exact nx32 _ (hG.2.2.2.2.2.1 _)) hi0 (by omega) ?_ (by rw [← g4, sset_1 (by omega)]; exact hopen) ?_ (XF.rf.put (by omega) (Or.inl rfl))
      · rw [← g4]
        refine hRk.own hfo hko hT4 (fun o' j q => ?_) (fun o' j q => ?_)
        · unfold sset
          rw [if_neg (by omega)]
        · unfold sset
          rw [if_neg (by omega)]
      · rw [← g4]
        exact SR.mk (by rw [sset_1 (by omega), sset_1 (by omega)]; exact s1) (fun i q1 q2 => by rw [sset_1 (by omega), sset_1 (by omega)]; exact s2 i q1 q2) (by rw [sset_1 (by omega)]; exact hov) (by rw [sset_1 (by omega)]; exact hopen) (by omega) (fun _ => by rw [sset_e, sset_e]) (by omega) (by omega) (by omega)
    · rw [if_neg (by omega)] at g3
      rw [if_neg c]
      dsimp only
      refine fin i v g3.symm hi0 (by omega) ?_ (by rw [← g4, sset_1 (by omega)]; exact s1) (fun j _ _ => by rw [← g4, sset_1 (by omega)]) XF.rf
      rw [← g4]
      refine hRk.own hfo hko hT4 (fun o' j q => rfl) (fun o' j q => ?_)
      unfold sset
      rw [if_neg (by omega)]
  rw [if_neg w0] at hA
  by_cases w1 : T 314 (T 312 p + k) = 1
  · rw [if_pos w1] at hA
    simp only [Option.some.injEq, Prod.mk.injEq, sset_e] at hA
    obtain ⟨g3, g4⟩ := hA
    have ht := t1 (by omega)
    have g1 := hSO.2.1 w1
    have e1 : w32 (s 326 (6 * fr + k) + 1) = s 326 (6 * fr + k) + 1 := w32_id (by omega) (by omega)
    rw [e1] at g3 g4
    have hps : ptS T r fr p k = ptS T s fr p k := by
      rw [← g4]
      exact ptS_eq (fun j _ _ => ⟨sset_2 (by omega), sset_1 (by omega)⟩)
    have eA : askX v fo so o k = if v (fo + 2) k < min (v (fo + 1) (k * 4)) 99 then (v (fo + 2) k + 1, sset v (fo + 2) k (w32 (v (fo + 2) k + 1))) else ((-9223372036854775808), sset v (fo + 3) k 1) := by
      unfold askX
      rw [if_neg (by omega), if_pos (by omega)]
    rw [eA, ht, hn (by omega)]
    by_cases c : s 326 (6 * fr + k) < min (s 325 (24 * fr + 4 * k)) 99
    · rw [if_pos (by omega)] at g3
      rw [if_pos c, e1, g3]
      dsimp only
      refine num i _ (by omega) hi0 (by omega) ?_ (by rw [← g4, sset_1 (by omega)]; exact hopen) ?_ ?_
      · rw [← g4]
        refine hRk.own hfo hko hT4 (fun o' j q => ?_) (fun o' j q => ?_)
        · unfold sset
          rw [if_neg (by omega)]
        · unfold sset
          rw [if_neg (by omega)]
      · rw [← g4]
        exact SR.mk (by rw [sset_1 (by omega), sset_1 (by omega)]; exact s1) (fun i q1 q2 => by rw [sset_1 (by omega), sset_1 (by omega)]; exact s2 i q1 q2) (by rw [sset_1 (by omega)]; exact hov) (by rw [sset_1 (by omega)]; exact hopen) (by omega) (fun _ => by rw [sset_e, sset_e, g3]) (by omega) (by omega) (by omega)
      · exact XF.rf.put (by omega) (Or.inl rfl)
    · rw [if_neg (by omega)] at g3
      rw [if_neg c]
      dsimp only
      refine fin i v g3.symm hi0 (by omega) ?_ (by rw [← g4, sset_1 (by omega)]; exact s1) (fun j _ _ => by rw [← g4, sset_1 (by omega)]) XF.rf
      rw [← g4]
      refine hRk.own hfo hko hT4 (fun o' j q => rfl) (fun o' j q => ?_)
      unfold sset
      rw [if_neg (by omega)]
  rw [if_neg w1] at hA
  by_cases w2 : T 314 (T 312 p + k) = 2 ∨ T 314 (T 312 p + k) = 3
  · rw [if_pos w2] at hA
    obtain ⟨⟨x0, r0⟩, q1, q2⟩ := Option.bind_eq_some_iff.mp hA
    simp only [Option.some.injEq, Prod.mk.injEq] at q2
    obtain ⟨q3, q4⟩ := q2
    have eA : askX v fo so o k = (9223372036854775807, v) := by
      unfold askX
      rw [if_neg (by omega), if_neg (by omega), if_neg (by omega), if_neg (by omega), if_neg (by omega), if_neg (by omega)]
    rw [eA]
    dsimp only
    refine ah2 hC hB hRk hS' q1 hi0 hi (fun c hS2 hRO i' v' g1 g2 g3 g4 => ?_) (fun c hc hS2 hRO i' b g1 g2 g3 g4 => ?_)
    · unfold gotEndX
      rw [if_neg (by omega), if_neg (by omega)]
      exact endA i' v' r0 q4.symm (by rw [← q3, if_pos c]) hRO g1 g2 g3 g4
    · have hb := (g4.own hfo hko hfl).1 (k * 4)
      have e14 : r0 314 (T 312 p + k) = T 314 (T 312 p + k) := hS2.1.1 _ _ (by omega)
      rw [if_neg c, e14] at q3
      have eY : gotY b fo o k x0 = (x, b) := by
        unfold gotY
        rcases w2 with w2 | w2
        · rw [if_pos (by omega), hb, hn (by omega), ← q3, if_pos w2]
        · rw [if_neg (by omega), if_pos (by omega), hb, hn (by omega), ← q3, if_neg (by omega)]
      rw [eY]
      dsimp only
      exact pass i' b r0 q4.symm (by rw [← q3]; split <;> exact nx32 _ (w32_in _)) (by omega) hRO g1 (by omega) g3 g4
  rw [if_neg w2] at hA
  by_cases w4 : T 314 (T 312 p + k) = 4
  · rw [if_pos w4] at hA
    have eA : askX v fo so o k = if v (fo + 1) (k * 4) = 0 then ((-9223372036854775808), sset v (fo + 3) k 1) else (9223372036854775807, v) := by
      unfold askX
      rw [if_neg (by omega), if_neg (by omega), if_neg (by omega), if_neg (by omega), if_pos (by omega)]
    rw [eA, hn (by omega)]
    by_cases c0 : s 325 (24 * fr + 4 * k) = 0
    · rw [if_pos c0] at hA
      simp only [Option.bind_some, Option.some.injEq, Prod.mk.injEq, if_true] at hA
      obtain ⟨q3, q4⟩ := hA
      rw [if_pos c0]
      dsimp only
      exact endA i v s q4.symm q3.symm ⟨fun _ _ _ => rfl, rfl, rfl, rfl⟩ hi0 (by omega) hRk XF.rf
    · rw [if_neg c0] at hA ⊢
      dsimp only
      obtain ⟨⟨x0, r0⟩, q1, q2⟩ := Option.bind_eq_some_iff.mp hA
      simp only [Option.some.injEq, Prod.mk.injEq] at q2
      obtain ⟨q3, q4⟩ := q2
      refine ah2 hC hB hRk hS' q1 hi0 hi (fun c hS2 hRO i' v' g1 g2 g3 g4 => ?_) (fun c hc hS2 hRO i' b g1 g2 g3 g4 => ?_)
      · unfold gotEndX
        rw [if_neg (by omega), if_neg (by omega)]
        exact endA i' v' r0 q4.symm (by rw [← q3, if_pos c]) hRO g1 g2 g3 g4
      · have hb := (g4.own hfo hko hfl).1 (k * 4)
        rw [if_neg c] at q3
        have eY : gotY b fo o k x0 = (x, b) := by
          unfold gotY
          rw [if_neg (by omega), if_neg (by omega), if_pos (by omega), hb, hn (by omega), if_neg c0, w32_i hc, q3]
        rw [eY]
        dsimp only
        exact pass i' b r0 q4.symm (by rw [← q3]; exact nx32 _ (w_tmod hc (hG.2.2.2.2.2.1 _))) (by omega) hRO g1 (by omega) g3 g4
  rw [if_neg w4] at hA
  by_cases w5 : T 314 (T 312 p + k) = 5
  · rw [if_pos w5] at hA
    have eA : askX v fo so o k = (9223372036854775807, v) := by
      unfold askX
      rw [if_neg (by omega), if_neg (by omega), if_neg (by omega), if_neg (by omega), if_neg (by omega), if_neg (by omega)]
    rw [eA]
    dsimp only
    refine keepx hC hB (by omega) 200 v s i hA hRk hS' (hn (by omega)) hi0 hi (fun i' v' g1 g2 g3 g4 g5 => ?_)
    by_cases c : x = (-9223372036854775808)
    · rw [if_pos c]
      have := endA i' v' r rfl c g5 g1 g2 g3 g4
      rw [c]
      exact this
    · rw [if_neg c]
      exact pass i' v' r rfl c (by omega) g5 g1 g2 g3 g4
  rw [if_neg w5] at hA
  by_cases w6 : T 314 (T 312 p + k) = 6
  · rw [if_pos w6] at hA
    have ht := t1 (by omega)
    have eA : askX v fo so o k = if v (fo + 2) k < v (fo + 1) (k * 4) then (9223372036854775807, v) else ((-9223372036854775808), sset v (fo + 3) k 1) := by
      unfold askX
      rw [if_neg (by omega), if_neg (by omega), if_neg (by omega), if_neg (by omega), if_neg (by omega), if_pos (by omega)]
    rw [eA, hn (by omega), ht]
    by_cases c0 : s 326 (6 * fr + k) < s 325 (24 * fr + 4 * k)
    · rw [if_pos c0] at hA ⊢
      dsimp only
      obtain ⟨⟨x0, r0⟩, q1, q2⟩ := Option.bind_eq_some_iff.mp hA
      simp only [Option.some.injEq, Prod.mk.injEq] at q2
      obtain ⟨q3, q4⟩ := q2
      have hps : ptS T r fr p k = ptS T r0 fr p k := by
        rw [← q4]
        exact ptS_eq (fun j _ _ => ⟨sset_2 (by omega), sset_1 (by omega)⟩)
      refine ah2 hC hB hRk hS' q1 hi0 hi (fun c hS2 hRO i' v' g1 g2 g3 g4 => ?_) (fun c hc hS2 hRO i' b g1 g2 g3 g4 => ?_)
      · unfold gotEndX
        rw [if_neg (by omega), if_neg (by omega)]
        obtain ⟨k1, k2, k3, k4⟩ := g4.own hfo hko hfl
        refine fin i' v' (q3.symm.trans c) g1 (by omega) ?_ (by rw [k4, ← q4, sset_1 (by omega), hRO.2.2.2]; exact s1) (fun j j1 j2 => by rw [← q4, sset_1 (by omega)]; exact hRO.1 j j1 j2) (g4.le (by omega))
        rw [← q4]
        refine g3.own hfo hko hT4 (fun o' j q => rfl) (fun o' j q => ?_)
        unfold sset
        rw [if_neg (by omega)]
      · obtain ⟨k1, k2, k3, k4⟩ := g4.own hfo hko hfl
        have eY : gotY b fo o k x0 = (x0, sset b (fo + 2) k (w32 (b (fo + 2) k + 1))) := by
          unfold gotY
          rw [if_neg (by omega), if_neg (by omega), if_neg (by omega), if_neg (by omega), if_pos (by omega), w32_i hc]
        rw [eY, q3]
        dsimp only
        rw [if_neg c] at q4
        refine num i' _ (by rw [← q3]; exact c) g1 (by omega) ?_ (by rw [← q4, sset_1 (by omega)]; exact hRO.2.2.1.trans hopen) ?_ ((g4.le (by omega)).put (by omega) (Or.inl rfl))
        · rw [← q4]
          refine g3.own hfo hko hT4 (fun o' j q => ?_) (fun o' j q => ?_)
          · unfold sset
            rw [if_neg (by omega)]
          · unfold sset
            rw [if_neg (by omega)]
        · rw [← q4]
          exact SR.mk (by rw [sset_1 (by omega), sset_1 (by omega), k4, hRO.2.2.2]; exact s1) (fun i q1 q2 => by rw [sset_1 (by omega), sset_1 (by omega), k1, hRO.1 _ (by omega) (by omega)]; exact s2 i q1 q2) (by rw [sset_1 (by omega), k3]; exact hov) (by rw [sset_1 (by omega)]; exact hRO.2.2.1.trans hopen) (by omega) (fun _ => by rw [sset_e, sset_e, k2, ht, hRO.2.1]) (by omega) (by omega) (by omega)
    · rw [if_neg c0] at hA ⊢
      dsimp only
      simp only [Option.bind_some, Option.some.injEq, Prod.mk.injEq, if_true] at hA
      obtain ⟨q3, q4⟩ := hA
      have hps : ptS T r fr p k = ptS T s fr p k := by
        rw [← q4]
        exact ptS_eq (fun j _ _ => ⟨sset_2 (by omega), sset_1 (by omega)⟩)
      refine fin i v q3.symm hi0 (by omega) ?_ (by rw [← q4, sset_1 (by omega)]; exact s1) (fun j _ _ => by rw [← q4, sset_1 (by omega)]) XF.rf
      rw [← q4]
      refine hRk.own hfo hko hT4 (fun o' j q => rfl) (fun o' j q => ?_)
      unfold sset
      rw [if_neg (by omega)]
  rw [if_neg w6] at hA
  by_cases w7 : T 314 (T 312 p + k) = 7
  · rw [if_pos w7] at hA
    have hp1 : s 326 (6 * fr + k) ≠ 1 := fun z => by
      have := s4.mpr (Or.inr ⟨w7, z⟩)
      omega
    rw [if_neg hp1] at hA
    have eA : askX v fo so o k = (9223372036854775807, v) := by
      unfold askX
      rw [if_neg (by omega), if_neg (by omega), if_neg (by omega), if_neg (by omega), if_neg (by omega), if_neg (by omega)]
    rw [eA]
    dsimp only
    have hQ1 : QC T s (sset s 326 (6 * fr + k) 1) fr p k := (QC.rf hG hS.2.2.1).put (Or.inl rfl)
    have hS2 : SG4 T (sset s 326 (6 * fr + k) 1) fr p g k := ⟨hQ1.2.1, by rw [sset_1 (by omega)]; exact hS.2.1, hQ1.2.2.1, by rw [sset_1 (by omega)]; exact hS.2.2.2⟩
    have hps : ptS T (sset s 326 (6 * fr + k) 1) fr p k = ptS T s fr p k := ptS_eq (fun j _ _ => ⟨sset_2 (by omega), sset_1 (by omega)⟩)
    have hR2 : FRL V T ko fo fr p po g v (sset s 326 (6 * fr + k) 1) k := by
      refine hRk.own hfo hko hT4 (fun o' j q => rfl) (fun o' j q => ?_)
      unfold sset
      rw [if_neg (by omega)]
    obtain ⟨z9, r9, q1, q2, _⟩ := sums_ok hfr hB.2.2 200 0 (sset s 326 (6 * fr + k) 1) (by unfold in32; omega) (by have := ptA_le hS2.2.2.1.2; omega) hS2.1 hS2.2.1 hS2.2.2.1 hS2.2.2.2
    rw [hA, Option.some.injEq, Prod.mk.injEq] at q1
    have hxn : x ≠ (-9223372036854775808) := by rw [q1.1]; exact nx32 _ q2
    refine sumx hC hB (by omega) 200 0 v _ i hA hR2 hS2 (t2 w7) hi0 (by rw [hps]; exact hi) (fun i' v' g1 g2 g3 g4 g5 g6 => ?_)
    rw [hps] at g2
    have hr26 : r 326 (6 * fr + k) = 1 := by rw [g5.2.1, sset_e]
    have hr27 : r 327 (6 * fr + k) = 0 := by rw [g5.2.2.1, sset_1 (by omega)]; exact hopen
    have := hE i' (sset v' (fo + 3) k 1) g1 g2
    rw [if_neg hxn] at this
    refine this ?_ (g4.put (by omega) (Or.inr (Or.inl rfl)))
    refine FRL.num hC (g3.tally hfo hko hT4 (Or.inr (Or.inl rfl))) hr27 ?_
    unfold SR SRw
    rw [sset_e, sset_1 (by omega), sset_1 (by omega)]
    refine ⟨by rw [g6, g5.2.2.2, sset_1 (by omega)]; exact s1, fun i q1 q2 => ?_, Or.inr rfl, ⟨fun _ => Or.inr ⟨w7, hr26⟩, fun _ => rfl⟩, fun q => absurd q (by omega)⟩
    rw [sset_1 (by omega), g4.own1 hfo hko hfl, g5.1 _ (by omega) (by omega), sset_1 (by omega)]
    exact s2 i q1 q2
  rw [if_neg w7] at hA
  by_cases w8 : T 314 (T 312 p + k) = 8
  · rw [if_pos w8] at hA
    obtain ⟨hg15, hA⟩ := grd_some hA
    have e15 : s 315 (T 312 p + k) = T 315 (T 312 p + k) := hG.1 _ _ (by omega)
    rw [e15] at hg15 hA
    obtain ⟨⟨z, r0⟩, q1, q2⟩ := Option.bind_eq_some_iff.mp hA
    simp only [Option.some.injEq, Prod.mk.injEq] at q2
    obtain ⟨q3, q4⟩ := q2
    have eA : askX v fo so o k = (9223372036854775807, v) := by
      unfold askX
      rw [if_neg (by omega), if_neg (by omega), if_neg (by omega), if_neg (by omega), if_neg (by omega), if_neg (by omega)]
    rw [eA]
    dsimp only
    refine setx hC hB (by omega) 200 none v s i q1 hRk hS' (by show v (fo + 4) k = 1; rw [s1]; exact t3 w8) hi0 hi (fun i' v' g1 g2 g3 g4 g5 g6 => ?_)
    have e4 : V (hp A so 1) 0 = -1 - T 315 (T 312 p + k) := (hS4 w8).2
    have e5 : v' (hp A so 1) 0 = -1 - T 315 (T 312 p + k) := (g3.1 _ _ (Or.inl hStg.2.2.2.1)).trans e4
    have ho9 : o = 9 := by rw [ho, w8]; rfl
    cases z with
    | none =>
      rw [gotEnd_none ho9 g6]
      dsimp only
      have er : r = r0 := q4.symm
      rw [er] at fin
      exact fin i' v' q3.symm g1 g2 g3 (g6.trans (g5.2.2.2.trans (t3 w8)).symm) g5.1 g4
    | some y =>
      rw [gotEnd_set ho9 g6.1 g6.2 e5 hg15 hne]
      dsimp only
      have er : r = sset (sset r0 320 (T 315 (T 312 p + k)) y) 328 (6 * fr + k) 0 := q4.symm
      have hps : ptS T r fr p k = ptS T r0 fr p k := by
        rw [er]
        exact ptS_val
      rw [← hps] at g2
      have f1 : FRL V T ko fo fr p po g (sset v' (ko + 1) (T 315 (T 312 p + k)) y) r k := by
        rw [er]
        exact (g3.val hfo hko hT4).own hfo hko hT4 (fun o' j q => rfl) (rs_off (Or.inr (Or.inr rfl)))
      have f2 : sset v' (ko + 1) (T 315 (T 312 p + k)) y (fo + 4) k = r 328 (6 * fr + k) := by
        rw [er, sset_e, sset_1 hne4]
        exact g6.2
      have f3 : ∀ j, 24 * fr ≤ j → j < 24 * fr + 24 → r 325 j = s 325 j := fun j j1 j2 => by
        rw [er, sset_1 (by decide), sset_1 (by decide)]
        exact g5.1 j j1 j2
      exact fin i' _ q3.symm g1 g2 f1 f2 f3 g4.val
  rw [if_neg w8] at hA
  by_cases w9 : T 314 (T 312 p + k) = 9 ∨ T 314 (T 312 p + k) = 10
  · rw [if_pos w9] at hA
    simp only [Option.some.injEq, Prod.mk.injEq] at hA
    obtain ⟨q3, q4⟩ := hA
    have eA : askX v fo so o k = ((-9223372036854775808), sset v (fo + 3) k 1) := by
      unfold askX
      rw [if_neg (by omega), if_neg (by omega), if_neg (by omega), if_pos (by omega)]
    rw [eA]
    dsimp only
    exact endA i v s q4.symm q3.symm ⟨fun _ _ _ => rfl, rfl, rfl, rfl⟩ hi0 (by omega) hRk XF.rf
  rw [if_neg w9] at hA
  have hw := w11 p3 w0 w1 w2 w4 w5 w6 w7 w8 w9
  rcases hin with q | q
  · exact absurd hw (Int.not_le.mpr q)
  · exact dirw hC hw hR hS hopen hov q hA hi0 hE
