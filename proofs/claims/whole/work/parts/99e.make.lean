/-! ===== the class: what its constructors make ===== -/
/-- nothing stands in the slots from an address on -/
def ZV (v : Sg) (n : Int) : Prop := ∀ o, n ≤ o → ∀ k, v o k = 0
theorem ZV.mono {v : Sg} {n m : Int} (h : ZV v n) (q : n ≤ m) : ZV v m := fun o z => h o (by omega)
theorem ZV.set {v : Sg} {n o k x : Int} (h : ZV v n) (q : o < n) : ZV (sset v o k x) n := fun o' z k' => by
  rw [sset_1 (by omega)]
  exact h o' z k'
theorem vz_z {v : Sg} {n a : Int} (h : ZV v n) (q : n ≤ a) : vz v a = v := by
  funext o k
  by_cases c : o = a
  · subst c
    rw [vz_at, h o q]
  · exact vz_ne _ c
theorem cl_newz {A : AHp} {v : Sg} {n0 : Int} (hz : ZV v n0) {kd sl : Nat} {n : Int} (h : n0 ≤ hn A) : hnew (cl A v) kd n sl (fun _ => 0) = cl (hnew A kd n sl (fun _ => 0)) v := by
  rw [cl_new, vz_z hz h]
/-- B grew out of A; of what stood in A only q got final fields -/
def NW (q : Int) (A B : AHp) : Prop := hn A ≤ hn B ∧ ∀ o, o < hn A → hk B o = hk A o ∧ hl B o = hl A o ∧ ∀ k, o ≠ q → hp B o k = hp A o k
theorem nw_rfl {q : Int} {A : AHp} : NW q A A := ⟨by omega, fun _ _ => ⟨rfl, rfl, fun _ _ => rfl⟩⟩
theorem nw_old {q : Int} {A B : AHp} (h : OLD A B) : NW q A B := ⟨h.1, fun o z => ⟨(h.2 o z).1, (h.2 o z).2.1, fun k _ => (h.2 o z).2.2 k⟩⟩
theorem nw_tr {q q' : Int} {A B C : AHp} (h : NW q A B) (g : NW q' B C) (hq : q' = q ∨ hn A ≤ q') : NW q A C := by
  refine ⟨Int.le_trans h.1 g.1, fun o z => ?_⟩
  obtain ⟨a1, a2, a3⟩ := h.2 o z
  obtain ⟨b1, b2, b3⟩ := g.2 o (Int.lt_of_lt_of_le z h.1)
  exact ⟨b1.trans a1, b2.trans a2, fun k y => (b3 k (by omega)).trans (a3 k y)⟩
theorem nw_new {q : Int} {A B : AHp} {kd sl : Nat} {n : Int} {f : Int → Int} (h : NW q A B) : NW q A (hnew B kd n sl f) :=
  nw_tr h (nw_old (q := q) old_new) (Or.inl rfl)
theorem nw_ps {q o k x : Int} {A B : AHp} (h : NW q A B) (ho : o = q ∨ hn A ≤ o) : NW q A (hpset B o k x) := by
  refine ⟨h.1, fun o' z => ?_⟩
  obtain ⟨a1, a2, a3⟩ := h.2 o' z
  refine ⟨a1, a2, fun k' y => ?_⟩
  rw [hp_pset, if_neg (by omega)]
  exact a3 k' y
theorem nw_O {q : Int} {A B : AHp} {o : Int} {kd : Nat} (h : NW q A B) (z : isO A o kd) : isO B o kd :=
  ⟨z.1, Int.lt_of_lt_of_le z.2.1 h.1, (h.2 o z.2.1).1.trans z.2.2⟩
theorem nw_A {q : Int} {A B : AHp} {o n : Int} {kd : Nat} (h : NW q A B) (z : isA A o kd n) : isA B o kd n :=
  ⟨z.1, Int.lt_of_lt_of_le z.2.1 h.1, (h.2 o z.2.1).1.trans z.2.2.1, (h.2 o z.2.1).2.1.trans z.2.2.2⟩
theorem nw_hp {q : Int} {A B : AHp} {o k : Int} (h : NW q A B) (z : o < hn A) (hq : o ≠ q) : hp B o k = hp A o k := (h.2 o z).2.2 k hq
theorem hp_new_n {A : AHp} {kd sl : Nat} {n : Int} {f : Int → Int} {o k : Int} (h : o ≠ hn A) : hp (hnew A kd n sl f) o k = hp A o k := by
  rw [hp_new, if_neg h]
theorem hp_ps_e {A : AHp} {o k x : Int} : hp (hpset A o k x) o k = x := by rw [hp_pset, if_pos ⟨rfl, rfl⟩]
theorem hp_ps_k {A : AHp} {o o' k k' x : Int} (h : k' ≠ k) : hp (hpset A o k x) o' k' = hp A o' k' := by rw [hp_pset, if_neg (fun z => h z.2)]
theorem hp_ps_o {A : AHp} {o o' k k' x : Int} (h : o' ≠ o) : hp (hpset A o k x) o' k' = hp A o' k' := by rw [hp_pset, if_neg (fun z => h z.1)]
theorem new_A2 {A : AHp} {kd sl : Nat} {n a : Int} {f : Int → Int} (h : 60 ≤ a) (ha : a = hn A) : isA (hnew A kd n sl f) a kd n := by
  subst ha
  exact new_A h
theorem new_O2 {A : AHp} {kd sl : Nat} {n a : Int} {f : Int → Int} (h : 60 ≤ a) (ha : a = hn A) : isO (hnew A kd n sl f) a kd := by
  subst ha
  exact new_O h
theorem nums_nw {q a : Int} {A B : AHp} (h : NW q A B) (z : NumsAt A a) (hq : a ≠ q) : NumsAt B a :=
  ⟨nw_O h z.1, (nw_hp h z.1.2.1 hq).trans z.2.1, nw_A h z.2.2⟩
theorem rows_nw {q a n : Int} {A B : AHp} (h : NW q A B) (z : RowsAt A a n) (hq : a ≠ q) : RowsAt B a n :=
  ⟨nw_O h z.1, (nw_hp h z.1.2.1 hq).trans z.2.1, (nw_hp h z.1.2.1 hq).trans z.2.2.1, nw_A h z.2.2.2.1, nw_A h z.2.2.2.2⟩
theorem tape_nw {q a : Int} {A B : AHp} (h : NW q A B) (z : TapeAt A a) (hq : a ≠ q) : TapeAt B a :=
  ⟨nw_O h z.1, (nw_hp h z.1.2.1 hq).trans z.2.1, nw_A h z.2.2⟩

set_option maxRecDepth 20000 in
theorem x_nums {d : Nat} {q : Int} {A : AHp} {v : Sg} {Q : Option AV → AHp → Prop} (hd : 1 ≤ d) (hO : isO A q 5) (hq : q + 1 = hn A) (hz : ZV v (hn A)) (hQ : ∀ B, NW q A B → hn B = hn A + 1 → hs B = hs A + 60 → NumsAt B q → Q none (cl B v)) : CALL d mX5_init [vr q] (cl A v) Q := by
  refine CALL.of (by decide) (Nat.le_of_ble_eq_true rfl) ?_
  change AW d mX5_init 0 [some (vr q)] [] (cl A v) Q
  refine aw_aload_n (pc' := 1) rfl dX5_init_0 rfl ?_
  refine aw_obj (pc' := 4) lX5_3 w_oi w_oc (by omega) (Nat.le_of_ble_eq_true rfl) dX5_init_1 rfl hO.1 ?_
  refine aw_aload_n (pc' := 5) rfl dX5_init_4 rfl ?_
  refine aw_bipush (pc' := 7) (by decide +kernel) dX5_init_5 rfl ?_
  refine aw_newa (atype := .int) (kd := 20) (t0 := 0) (pc' := 9) (fun _ => rfl) (Or.inl ⟨rfl, rfl⟩) w_aint dX5_init_7 rfl (by omega) (by omega) ?_
  rw [cl_newz hz]
  rotate_left
  · first | omega | (simp only [hn_pset, hn_new, hn_cl]; omega)
  refine aw_putFr (pc' := 12) (k9 := 0) dX5_init_9 rfl fX5_9 rfl rfl rfl rfl rfl (by repeat (first | assumption | rw [ps_O] | rw [ps_A] | rw [cl_O] | rw [cl_A] | exact new_A2 (by omega) (by first | omega | (simp only [hn_pset, hn_new]; omega)) | exact new_O2 (by omega) (by first | omega | (simp only [hn_pset, hn_new]; omega)) | refine old_A old_new ?_ | refine old_O old_new ?_)) ?_
  refine AW.ret none dX5_init_12 trivial ?_
  have h60 := hO.1
  rw [cl_pset, hn_cl]
  refine hQ _ (nw_ps (nw_new nw_rfl) (Or.inl rfl)) rfl rfl ⟨?_, ?_, ?_⟩
  · repeat (first | assumption | rw [ps_O] | rw [ps_A] | rw [cl_O] | rw [cl_A] | exact new_A2 (by omega) (by first | omega | (simp only [hn_pset, hn_new]; omega)) | exact new_O2 (by omega) (by first | omega | (simp only [hn_pset, hn_new]; omega)) | refine old_A old_new ?_ | refine old_O old_new ?_)
  · simp (disch := first | omega | (simp only [hn_pset, hn_new]; omega)) only [hp_ps_e, hp_ps_k, hp_ps_o, hp_new_n]
    omega
  · repeat (first | assumption | rw [ps_O] | rw [ps_A] | rw [cl_O] | rw [cl_A] | exact new_A2 (by omega) (by first | omega | (simp only [hn_pset, hn_new]; omega)) | exact new_O2 (by omega) (by first | omega | (simp only [hn_pset, hn_new]; omega)) | refine old_A old_new ?_ | refine old_O old_new ?_)

set_option maxRecDepth 20000 in
theorem x_rows {d : Nat} {q n : Int} {A : AHp} {v : Sg} {Q : Option AV → AHp → Prop} (hd : 1 ≤ d) (hn0 : 0 ≤ n ∧ n < 100) (hO : isO A q 8) (hq : q + 1 = hn A) (hz : ZV v (hn A)) (hQ : ∀ B, NW q A B → hn B = hn A + 2 → hs B = hs A + 2 * n.toNat → RowsAt B q n → Q none (cl B v)) : CALL d mX8_init [vr q, vi n] (cl A v) Q := by
  refine CALL.of (by decide) (Nat.le_of_ble_eq_true rfl) ?_
  change AW d mX8_init 0 [some (vr q), some (vi n)] [] (cl A v) Q
  refine aw_aload_n (pc' := 1) rfl dX8_init_0 rfl ?_
  refine aw_obj (pc' := 4) lX8_3 w_oi w_oc (by omega) (Nat.le_of_ble_eq_true rfl) dX8_init_1 rfl hO.1 ?_
  refine aw_aload_n (pc' := 5) rfl dX8_init_4 rfl ?_
  refine aw_iload_n (pc' := 6) rfl dX8_init_5 rfl ?_
  refine aw_newa (atype := .int) (kd := 20) (t0 := 0) (pc' := 8) (fun _ => rfl) (Or.inl ⟨rfl, rfl⟩) w_aint dX8_init_6 rfl (by omega) (by omega) ?_
  rw [cl_newz hz]
  rotate_left
  · first | omega | (simp only [hn_pset, hn_new, hn_cl]; omega)
  refine aw_putFr (pc' := 11) (k9 := 0) dX8_init_8 rfl fX8_9 rfl rfl rfl rfl rfl (by repeat (first | assumption | rw [ps_O] | rw [ps_A] | rw [cl_O] | rw [cl_A] | exact new_A2 (by omega) (by first | omega | (simp only [hn_pset, hn_new]; omega)) | exact new_O2 (by omega) (by first | omega | (simp only [hn_pset, hn_new]; omega)) | refine old_A old_new ?_ | refine old_O old_new ?_)) ?_
  refine aw_aload_n (pc' := 12) rfl dX8_init_11 rfl ?_
  refine aw_iload_n (pc' := 13) rfl dX8_init_12 rfl ?_
  refine aw_newa (atype := .int) (kd := 20) (t0 := 0) (pc' := 15) (fun _ => rfl) (Or.inl ⟨rfl, rfl⟩) w_aint dX8_init_13 rfl (by omega) (by omega) ?_
  simp only [cl_pset, hn_cl, hn_pset, hn_new]
  rw [cl_newz hz]
  rotate_left
  · first | omega | (simp only [hn_pset, hn_new, hn_cl]; omega)
  refine aw_putFr (pc' := 18) (k9 := 1) dX8_init_15 rfl fX8_15 rfl rfl rfl rfl rfl (by repeat (first | assumption | rw [ps_O] | rw [ps_A] | rw [cl_O] | rw [cl_A] | exact new_A2 (by omega) (by first | omega | (simp only [hn_pset, hn_new]; omega)) | exact new_O2 (by omega) (by first | omega | (simp only [hn_pset, hn_new]; omega)) | refine old_A old_new ?_ | refine old_O old_new ?_)) ?_
  refine AW.ret none dX8_init_18 trivial ?_
  have h60 := hO.1
  rw [cl_pset]
  refine hQ _ (nw_ps (nw_new (nw_ps (nw_new nw_rfl) (Or.inl rfl))) (Or.inl rfl)) ?_ ?_ ⟨?_, ?_, ?_, ?_, ?_⟩
  · show hn A + 1 + 1 = hn A + 2
    omega
  · show hs A + n.toNat + n.toNat = hs A + 2 * n.toNat
    omega
  · repeat (first | assumption | rw [ps_O] | rw [ps_A] | rw [cl_O] | rw [cl_A] | exact new_A2 (by omega) (by first | omega | (simp only [hn_pset, hn_new]; omega)) | exact new_O2 (by omega) (by first | omega | (simp only [hn_pset, hn_new]; omega)) | refine old_A old_new ?_ | refine old_O old_new ?_)
  · simp (disch := first | omega | (simp only [hn_pset, hn_new]; omega)) only [hp_ps_e, hp_ps_k, hp_ps_o, hp_new_n]
    omega
  · simp (disch := first | omega | (simp only [hn_pset, hn_new]; omega)) only [hp_ps_e, hp_ps_k, hp_ps_o, hp_new_n]
    omega
  · repeat (first | assumption | rw [ps_O] | rw [ps_A] | rw [cl_O] | rw [cl_A] | exact new_A2 (by omega) (by first | omega | (simp only [hn_pset, hn_new]; omega)) | exact new_O2 (by omega) (by first | omega | (simp only [hn_pset, hn_new]; omega)) | refine old_A old_new ?_ | refine old_O old_new ?_)
  · repeat (first | assumption | rw [ps_O] | rw [ps_A] | rw [cl_O] | rw [cl_A] | exact new_A2 (by omega) (by first | omega | (simp only [hn_pset, hn_new]; omega)) | exact new_O2 (by omega) (by first | omega | (simp only [hn_pset, hn_new]; omega)) | refine old_A old_new ?_ | refine old_O old_new ?_)

set_option maxRecDepth 20000 in
theorem x_ntape {d : Nat} {q : Int} {A : AHp} {v : Sg} {Q : Option AV → AHp → Prop} (hd : 1 ≤ d) (hO : isO A q 10) (hq : q + 1 = hn A) (hz : ZV v (hn A)) (hQ : ∀ B, NW q A B → hn B = hn A + 1 → hs B = hs A + 60 → TapeAt B q → Q none (cl B (sset v q 0 (-1)))) : CALL d mX10_init [vr q] (cl A v) Q := by
  refine CALL.of (by decide) (Nat.le_of_ble_eq_true rfl) ?_
  change AW d mX10_init 0 [some (vr q)] [] (cl A v) Q
  refine aw_aload_n (pc' := 1) rfl dX10_init_0 rfl ?_
  refine aw_obj (pc' := 4) lX10_3 w_oi w_oc (by omega) (Nat.le_of_ble_eq_true rfl) dX10_init_1 rfl hO.1 ?_
  refine aw_aload_n (pc' := 5) rfl dX10_init_4 rfl ?_
  refine aw_iconst (pc' := 6) (by decide) dX10_init_5 rfl ?_
  refine aw_puti (pc' := 9) (k9 := 0) dX10_init_6 rfl fX10_9 rfl rfl rfl (by repeat (first | assumption | rw [ps_O] | rw [ps_A] | rw [cl_O] | rw [cl_A] | exact new_A2 (by omega) (by first | omega | (simp only [hn_pset, hn_new]; omega)) | exact new_O2 (by omega) (by first | omega | (simp only [hn_pset, hn_new]; omega)) | refine old_A old_new ?_ | refine old_O old_new ?_)) ?_
  refine aw_aload_n (pc' := 10) rfl dX10_init_9 rfl ?_
  refine aw_bipush (pc' := 12) (by decide +kernel) dX10_init_10 rfl ?_
  refine aw_newa (atype := .long) (kd := 21) (t0 := 1) (pc' := 14) (fun _ => rfl) (Or.inr (Or.inr (Or.inr ⟨rfl, rfl⟩))) w_along dX10_init_12 rfl (by omega) (by omega) ?_
  rw [cl_set]
  have hz2 : ZV (sset v q 0 (-1)) (hn A) := hz.set (by omega)
  rw [cl_newz hz2 (by omega)]
  refine aw_putFr (pc' := 17) (k9 := 2) dX10_init_14 rfl fX10_15 rfl rfl rfl rfl rfl (by repeat (first | assumption | rw [ps_O] | rw [ps_A] | rw [cl_O] | rw [cl_A] | exact new_A2 (by omega) (by first | omega | (simp only [hn_pset, hn_new]; omega)) | exact new_O2 (by omega) (by first | omega | (simp only [hn_pset, hn_new]; omega)) | refine old_A old_new ?_ | refine old_O old_new ?_)) ?_
  refine AW.ret none dX10_init_17 trivial ?_
  have h60 := hO.1
  rw [cl_pset, hn_cl]
  refine hQ _ (nw_ps (nw_new nw_rfl) (Or.inl rfl)) rfl rfl ⟨?_, ?_, ?_⟩
  · repeat (first | assumption | rw [ps_O] | rw [ps_A] | rw [cl_O] | rw [cl_A] | exact new_A2 (by omega) (by first | omega | (simp only [hn_pset, hn_new]; omega)) | exact new_O2 (by omega) (by first | omega | (simp only [hn_pset, hn_new]; omega)) | refine old_A old_new ?_ | refine old_O old_new ?_)
  · simp (disch := first | omega | (simp only [hn_pset, hn_new]; omega)) only [hp_ps_e, hp_ps_k, hp_ps_o, hp_new_n]
    omega
  · repeat (first | assumption | rw [ps_O] | rw [ps_A] | rw [cl_O] | rw [cl_A] | exact new_A2 (by omega) (by first | omega | (simp only [hn_pset, hn_new]; omega)) | exact new_O2 (by omega) (by first | omega | (simp only [hn_pset, hn_new]; omega)) | refine old_A old_new ?_ | refine old_O old_new ?_)

theorem mkA {A : AHp} {v : Sg} {q n0 k n : Int} {kd sl : Nat} (hz : ZV v n0) (h : n0 ≤ hn A) (hq : q < hn A) (h60 : 60 ≤ q) : ∃ B, hpset (hnew (cl A v) kd n sl (fun _ => 0)) q k (hn (cl A v)) = cl B v ∧ NW q A B ∧ hn B = hn A + 1 ∧ hs B = hs A + sl ∧ hp B q k = hn A ∧ (∀ k', k' ≠ k → hp B q k' = hp A q k') ∧ isA B (hn A) kd n := by
  refine ⟨hpset (hnew A kd n sl (fun _ => 0)) q k (hn A), ?_, nw_ps (nw_new nw_rfl) (Or.inl rfl), rfl, rfl, hp_ps_e, fun k' z => ?_, ?_⟩
  · rw [cl_newz hz h, cl_pset, hn_cl]
  · rw [hp_ps_k z, hp_new_n (by omega)]
  · rw [ps_A]
    exact new_A (by omega)
theorem mkO {A : AHp} {v : Sg} {n0 : Int} {kd sl : Nat} (hz : ZV v n0) (h : n0 ≤ hn A) (h60 : 60 ≤ hn A) : ∃ B, hnew (cl A v) kd 0 sl (fun _ => 0) = cl B v ∧ OLD A B ∧ hn B = hn A + 1 ∧ hs B = hs A + sl ∧ isO B (hn A) kd :=
  ⟨hnew A kd 0 sl (fun _ => 0), cl_newz hz h, old_new, rfl, rfl, new_O h60⟩
theorem mkP {A : AHp} {v : Sg} {q k x : Int} : ∃ B, hpset (cl A v) q k x = cl B v ∧ NW q A B ∧ hn B = hn A ∧ hs B = hs A ∧ hp B q k = x ∧ (∀ k', k' ≠ k → hp B q k' = hp A q k') :=
  ⟨hpset A q k x, cl_pset, nw_ps nw_rfl (Or.inl rfl), rfl, rfl, hp_ps_e, fun k' z => hp_ps_k z⟩
theorem frame_nw {q a : Int} {A B : AHp} (h : NW q A B) (z : FrameAt A a) (hq : q < a ∨ a + 6 < q) : FrameAt B a := by
  obtain ⟨a1, ⟨b1, b2⟩, ⟨c1, c2⟩, ⟨d1, d2⟩, ⟨e1, e2⟩, f1, f2⟩ := z
  have l := a1.2.1
  exact ⟨nw_O h a1, ⟨(nw_hp h l (by omega)).trans b1, nw_A h b2⟩, ⟨(nw_hp h l (by omega)).trans c1, nw_A h c2⟩, ⟨(nw_hp h l (by omega)).trans d1, nw_A h d2⟩, ⟨(nw_hp h l (by omega)).trans e1, nw_A h e2⟩, (nw_hp h l (by omega)).trans f1, nums_nw h f2 (by omega)⟩
theorem kept_nw {q a : Int} {A B : AHp} (h : NW q A B) (z : KeptAt A a) (hq : q < a ∨ a + 13 < q) : KeptAt B a := by
  obtain ⟨a1, ⟨b1, b2⟩, ⟨c1, c2⟩, ⟨d1, d2⟩, ⟨e1, e2⟩, ⟨f1, f2⟩, g1, g2⟩ := z
  have l := a1.2.1
  exact ⟨nw_O h a1, ⟨(nw_hp h l (by omega)).trans b1, nw_A h b2⟩, ⟨(nw_hp h l (by omega)).trans c1, nw_A h c2⟩, ⟨(nw_hp h l (by omega)).trans d1, nums_nw h d2 (by omega)⟩, ⟨(nw_hp h l (by omega)).trans e1, rows_nw h e2 (by omega)⟩, ⟨(nw_hp h l (by omega)).trans f1, rows_nw h f2 (by omega)⟩, (nw_hp h l (by omega)).trans g1, rows_nw h g2 (by omega)⟩
theorem clN_4 : clN 4 = 2 := by decide +kernel
theorem clN_7 : clN 7 = 3 := by decide +kernel
set_option maxRecDepth 20000 in
theorem x_frame {d : Nat} {q : Int} {A : AHp} {v : Sg} {Q : Option AV → AHp → Prop} (hd : 2 ≤ d) (hO : isO A q 1) (hq : q + 1 = hn A) (hz : ZV v (hn A)) (hQ : ∀ B, NW q A B → hn B = hn A + 6 → hs B = hs A + 104 → FrameAt B q → Q none (cl B v)) : CALL d mX1_init [vr q] (cl A v) Q := by
  refine CALL.of (by decide) (Nat.le_of_ble_eq_true rfl) ?_
  change AW d mX1_init 0 [some (vr q)] [] (cl A v) Q
  have nb : NW q A A := nw_rfl
  have hb0 : isO A q 1 := hO
  have eh : hn A = hn A + 0 := by omega
  have es : hs A = hs A + 0 := rfl
  have hz9 : ZV v (hn A) := hz
  have h60 := hO.1
  refine aw_aload_n (pc' := 1) rfl dX1_init_0 rfl ?_
  refine aw_obj (pc' := 4) lX1_3 w_oi w_oc (by omega) (Nat.le_of_ble_eq_true rfl) dX1_init_1 rfl hO.1 ?_
  refine aw_aload_n (pc' := 5) rfl dX1_init_4 rfl ?_
  refine aw_bipush (pc' := 7) (by decide +kernel) dX1_init_5 rfl ?_
  refine aw_newa (atype := .int) (kd := 20) (t0 := 0) (pc' := 9) (fun _ => rfl) (Or.inl ⟨rfl, rfl⟩) w_aint dX1_init_7 rfl (by omega) (by omega) ?_
  refine aw_putFr (pc' := 12) (k9 := 5) dX1_init_9 rfl fX1_9 rfl rfl rfl rfl rfl (by first | exact hb0 | exact old_O old_new hb0) ?_
  obtain ⟨B1, e_, n_, h_, s_, p5, o_, i5⟩ := mkA (A := A) (q := q) (k := 5) (kd := 20) (n := 24) (sl := Int.toNat 24) hz9 (by omega) (by have := hb0.2.1; omega) (by omega)
  rw [e_]
  replace hb0 := nw_O n_ hb0
  replace nb := nw_tr nb n_ (Or.inl rfl)
  replace eh : hn B1 = hn A + 1 := by omega
  replace es : hs B1 = hs A + 24 := by omega
  try simp only [hn_cl]
  refine aw_aload_n (pc' := 13) rfl dX1_init_12 rfl ?_
  refine aw_bipush (pc' := 15) (by decide +kernel) dX1_init_13 rfl ?_
  refine aw_newa (atype := .int) (kd := 20) (t0 := 0) (pc' := 17) (fun _ => rfl) (Or.inl ⟨rfl, rfl⟩) w_aint dX1_init_15 rfl (by omega) (by omega) ?_
  refine aw_putFr (pc' := 20) (k9 := 6) dX1_init_17 rfl fX1_15 rfl rfl rfl rfl rfl (by first | exact hb0 | exact old_O old_new hb0) ?_
  obtain ⟨B2, e_, n_, h_, s_, p6, o_, i6⟩ := mkA (A := B1) (q := q) (k := 6) (kd := 20) (n := 6) (sl := Int.toNat 6) hz9 (by omega) (by have := hb0.2.1; omega) (by omega)
  rw [e_]
  replace p5 := (o_ 5 (by decide)).trans p5
  replace i5 := nw_A n_ i5
  replace hb0 := nw_O n_ hb0
  replace nb := nw_tr nb n_ (Or.inl rfl)
  replace eh : hn B2 = hn A + 2 := by omega
  replace es : hs B2 = hs A + 30 := by omega
  try simp only [hn_cl]
  refine aw_aload_n (pc' := 21) rfl dX1_init_20 rfl ?_
  refine aw_bipush (pc' := 23) (by decide +kernel) dX1_init_21 rfl ?_
  refine aw_newa (atype := .boolean) (kd := 23) (t0 := 3) (pc' := 25) (fun _ => rfl) (Or.inr (Or.inr (Or.inl ⟨rfl, rfl⟩))) w_aboolean dX1_init_23 rfl (by omega) (by omega) ?_
  refine aw_putFr (pc' := 28) (k9 := 7) dX1_init_25 rfl fX1_18 rfl rfl rfl rfl rfl (by first | exact hb0 | exact old_O old_new hb0) ?_
  obtain ⟨B3, e_, n_, h_, s_, p7, o_, i7⟩ := mkA (A := B2) (q := q) (k := 7) (kd := 23) (n := 6) (sl := Int.toNat 6) hz9 (by omega) (by have := hb0.2.1; omega) (by omega)
  rw [e_]
  replace p5 := (o_ 5 (by decide)).trans p5
  replace i5 := nw_A n_ i5
  replace p6 := (o_ 6 (by decide)).trans p6
  replace i6 := nw_A n_ i6
  replace hb0 := nw_O n_ hb0
  replace nb := nw_tr nb n_ (Or.inl rfl)
  replace eh : hn B3 = hn A + 3 := by omega
  replace es : hs B3 = hs A + 36 := by omega
  try simp only [hn_cl]
  refine aw_aload_n (pc' := 29) rfl dX1_init_28 rfl ?_
  refine aw_bipush (pc' := 31) (by decide +kernel) dX1_init_29 rfl ?_
  refine aw_newa (atype := .int) (kd := 20) (t0 := 0) (pc' := 33) (fun _ => rfl) (Or.inl ⟨rfl, rfl⟩) w_aint dX1_init_31 rfl (by omega) (by omega) ?_
  refine aw_putFr (pc' := 36) (k9 := 8) dX1_init_33 rfl fX1_22 rfl rfl rfl rfl rfl (by first | exact hb0 | exact old_O old_new hb0) ?_
  obtain ⟨B4, e_, n_, h_, s_, p8, o_, i8⟩ := mkA (A := B3) (q := q) (k := 8) (kd := 20) (n := 6) (sl := Int.toNat 6) hz9 (by omega) (by have := hb0.2.1; omega) (by omega)
  rw [e_]
  replace p5 := (o_ 5 (by decide)).trans p5
  replace i5 := nw_A n_ i5
  replace p6 := (o_ 6 (by decide)).trans p6
  replace i6 := nw_A n_ i6
  replace p7 := (o_ 7 (by decide)).trans p7
  replace i7 := nw_A n_ i7
  replace hb0 := nw_O n_ hb0
  replace nb := nw_tr nb n_ (Or.inl rfl)
  replace eh : hn B4 = hn A + 4 := by omega
  replace es : hs B4 = hs A + 42 := by omega
  try simp only [hn_cl]
  refine aw_aload_n (pc' := 37) rfl dX1_init_36 rfl ?_
  refine aw_new (ci := 4) (pc' := 40) (by decide) zX1_25 w4_new w4_ini dX1_init_37 rfl ?_
  obtain ⟨B5, e_, g_, h_, s_, hq_⟩ := mkO (A := B4) (kd := 5) (sl := clN 4) hz9 (by omega) (by omega)
  rw [e_]
  rw [clN_4] at s_
  have n_ := nw_old (q := hn B4) g_
  replace p5 := (old_hp g_ hb0.2.1).trans p5
  replace i5 := nw_A n_ i5
  replace p6 := (old_hp g_ hb0.2.1).trans p6
  replace i6 := nw_A n_ i6
  replace p7 := (old_hp g_ hb0.2.1).trans p7
  replace i7 := nw_A n_ i7
  replace p8 := (old_hp g_ hb0.2.1).trans p8
  replace i8 := nw_A n_ i8
  replace hb0 := nw_O n_ hb0
  replace nb := nw_tr nb n_ (Or.inr (by omega))
  replace eh : hn B5 = hn A + 5 := by omega
  replace es : hs B5 = hs A + 44 := by omega
  try simp only [hn_cl]
  refine aw_dup (pc' := 41) rfl dX1_init_40 rfl ?_
  refine aw_callIN (d' := d - 1) (as := []) (pc' := 44) rfl kX5_init rfl iX5_init nX1_27 (by omega) dX1_init_41 rfl rfl (Nat.le_of_ble_eq_true rfl) (by omega) ?_
  refine x_nums (q := hn B4) (by omega) hq_ (by omega) (hz9.mono (by omega)) (fun B6 n_ h_ s_ u1 => ?_)
  replace p5 := (nw_hp n_ hb0.2.1 (by omega)).trans p5
  replace i5 := nw_A n_ i5
  replace p6 := (nw_hp n_ hb0.2.1 (by omega)).trans p6
  replace i6 := nw_A n_ i6
  replace p7 := (nw_hp n_ hb0.2.1 (by omega)).trans p7
  replace i7 := nw_A n_ i7
  replace p8 := (nw_hp n_ hb0.2.1 (by omega)).trans p8
  replace i8 := nw_A n_ i8
  replace hb0 := nw_O n_ hb0
  replace nb := nw_tr nb n_ (Or.inr (by omega))
  replace eh : hn B6 = hn A + 6 := by omega
  replace es : hs B6 = hs A + 104 := by omega
  try simp only [hn_cl]
  refine aw_putFr (pc' := 47) (k9 := 10) dX1_init_44 rfl fX1_28 rfl rfl rfl rfl rfl (by first | exact hb0 | exact old_O old_new hb0) ?_
  obtain ⟨B7, e_, n_, h_, s_, p10, o_⟩ := mkP (A := B6) (v := v) (q := q) (k := 10) (x := hn B4)
  rw [e_]
  replace p5 := (o_ 5 (by decide)).trans p5
  replace i5 := nw_A n_ i5
  replace p6 := (o_ 6 (by decide)).trans p6
  replace i6 := nw_A n_ i6
  replace p7 := (o_ 7 (by decide)).trans p7
  replace i7 := nw_A n_ i7
  replace p8 := (o_ 8 (by decide)).trans p8
  replace i8 := nw_A n_ i8
  replace u1 := nums_nw n_ u1 (by omega)
  replace hb0 := nw_O n_ hb0
  replace nb := nw_tr nb n_ (Or.inl rfl)
  replace eh : hn B7 = hn A + 6 := by omega
  replace es : hs B7 = hs A + 104 := by omega
  try simp only [hn_cl]
  refine AW.ret none dX1_init_47 trivial ?_
  refine hQ _ nb eh es ⟨hb0, ⟨by omega, ?_⟩, ⟨by omega, ?_⟩, ⟨by omega, ?_⟩, ⟨by omega, ?_⟩, by omega, ?_⟩
  · rw [show q + 1 = hn A by omega]
    exact i5
  · rw [show q + 2 = hn B1 by omega]
    exact i6
  · rw [show q + 3 = hn B2 by omega]
    exact i7
  · rw [show q + 4 = hn B3 by omega]
    exact i8
  · rw [show q + 5 = hn B4 by omega]
    exact u1
