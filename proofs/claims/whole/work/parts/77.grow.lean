/-! ===== the class: heaps that grow ===== -/
def vz (v : Sg) (a : Int) : Sg := fun o k => if o = a then 0 else v o k
theorem vz_at (v : Sg) (a k : Int) : vz v a a k = 0 := if_pos rfl
theorem vz_ne {v : Sg} {a o : Int} (k : Int) (h : ¬ o = a) : vz v a o k = v o k := if_neg h
theorem cl_new {A : AHp} {v : Sg} {kd sl : Nat} {n : Int} : hnew (cl A v) kd n sl (fun _ => 0) = cl (hnew A kd n sl (fun _ => 0)) (vz v (hn A)) := rfl
theorem cl_pset {A : AHp} {v : Sg} {o k x : Int} : hpset (cl A v) o k x = cl (hpset A o k x) v := rfl
theorem hp_cl (A : AHp) (v : Sg) (o k : Int) : hp (cl A v) o k = hp A o k := rfl
theorem hn_cl (A : AHp) (v : Sg) : hn (cl A v) = hn A := rfl
theorem hk_cl (A : AHp) (v : Sg) : hk (cl A v) = hk A := rfl
theorem hl_cl (A : AHp) (v : Sg) : hl (cl A v) = hl A := rfl
/-- what stood in A stands in B: kinds, lengths, final fields; addresses only grow -/
def OLD (A B : AHp) : Prop := hn A ≤ hn B ∧ ∀ o, o < hn A → hk B o = hk A o ∧ hl B o = hl A o ∧ ∀ k, hp B o k = hp A o k
theorem old_rfl (A : AHp) : OLD A A := ⟨by omega, fun _ _ => ⟨rfl, rfl, fun _ => rfl⟩⟩
theorem old_tr {A B C : AHp} (h : OLD A B) (g : OLD B C) : OLD A C := by
  refine ⟨Int.le_trans h.1 g.1, fun o q => ?_⟩
  obtain ⟨a1, a2, a3⟩ := h.2 o q
  obtain ⟨b1, b2, b3⟩ := g.2 o (Int.lt_of_lt_of_le q h.1)
  exact ⟨b1.trans a1, b2.trans a2, fun k => (b3 k).trans (a3 k)⟩
theorem old_new {A : AHp} {kd sl : Nat} {n : Int} {f : Int → Int} : OLD A (hnew A kd n sl f) := by
  refine ⟨by rw [hn_new]; omega, fun o q => ?_⟩
  have hne : ¬ o = hn A := by omega
  exact ⟨by rw [hk_new, if_neg hne], by rw [hl_new, if_neg hne], fun k => by rw [hp_new, if_neg hne]⟩
theorem old_pset {A B : AHp} {o k x : Int} (h : OLD A B) (ho : hn A ≤ o) : OLD A (hpset B o k x) := by
  refine ⟨h.1, fun o' q => ?_⟩
  obtain ⟨a1, a2, a3⟩ := h.2 o' q
  refine ⟨a1, a2, fun k' => ?_⟩
  rw [hp_pset, if_neg (by omega)]
  exact a3 k'
theorem old_cl {A B : AHp} {v w : Sg} (h : OLD A B) : OLD (cl A v) (cl B w) := h
theorem old_O {A B : AHp} {o : Int} {kd : Nat} (h : OLD A B) (q : isO A o kd) : isO B o kd :=
  ⟨q.1, Int.lt_of_lt_of_le q.2.1 h.1, (h.2 o q.2.1).1.trans q.2.2⟩
theorem old_A {A B : AHp} {o n : Int} {kd : Nat} (h : OLD A B) (q : isA A o kd n) : isA B o kd n :=
  ⟨q.1, Int.lt_of_lt_of_le q.2.1 h.1, (h.2 o q.2.1).1.trans q.2.2.1, (h.2 o q.2.1).2.1.trans q.2.2.2⟩
theorem old_hp {A B : AHp} {o k : Int} (h : OLD A B) (q : o < hn A) : hp B o k = hp A o k := (h.2 o q).2.2 k
theorem new_O {A : AHp} {kd sl : Nat} {n : Int} {f : Int → Int} (h : 60 ≤ hn A) : isO (hnew A kd n sl f) (hn A) kd :=
  ⟨h, by rw [hn_new]; omega, by rw [hk_new, if_pos rfl]⟩
theorem new_A {A : AHp} {kd sl : Nat} {n : Int} {f : Int → Int} (h : 60 ≤ hn A) : isA (hnew A kd n sl f) (hn A) kd n :=
  ⟨h, by rw [hn_new]; omega, by rw [hk_new, if_pos rfl], by rw [hl_new, if_pos rfl]⟩
theorem ps_O {A : AHp} {o k x o' : Int} {kd : Nat} : isO (hpset A o k x) o' kd = isO A o' kd := rfl
theorem ps_A {A : AHp} {o k x o' n : Int} {kd : Nat} : isA (hpset A o k x) o' kd n = isA A o' kd n := rfl
theorem cl_O {A : AHp} {v : Sg} {o : Int} {kd : Nat} : isO (cl A v) o kd = isO A o kd := rfl
theorem cl_A {A : AHp} {v : Sg} {o n : Int} {kd : Nat} : isA (cl A v) o kd n = isA A o kd n := rfl
