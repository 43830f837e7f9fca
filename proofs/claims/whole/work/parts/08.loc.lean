/-! ===== locals as a list of places ===== -/
abbrev LV : Type := List (Option AV)
def acat : AV → Nat
  | .inr (.inl _) => 2
  | _ => 1
theorem rV_cat (G : Gp) (v : AV) : (rV G v).category = acat v := by
  rcases v with x | x | x
  · rfl
  · rfl
  · show (rR G x).category = 1
    unfold rR
    split <;> rfl
def lvG (lv : LV) (i : Nat) : Option AV := match lv[i]? with
  | some (some v) => some v
  | _ => none
theorem lvG_iff {lv : LV} {i : Nat} {v : AV} : lvG lv i = some v ↔ lv[i]? = some (some v) := by
  unfold lvG
  split
  · next w h => rw [h]; simp
  · next h =>
    constructor
    · intro q; cases q
    · intro q; exact absurd q (h v)
def lvK (lv : LV) (i : Nat) : LV := match i with
  | 0 => lv
  | j + 1 => match lv[j]? with
    | some (some (.inr (.inl _))) => lv.set j none
    | _ => lv
def st1 (lv : LV) (i : Nat) (v : AV) : LV := (lvK lv i).set i (some v)
def st2 (lv : LV) (i : Nat) (v : AV) : LV := ((lvK lv i).set i (some v)).set (i + 1) none
def lvOK (G : Gp) (ls : Array Slot) (nL : Nat) (lv : LV) : Prop := ls.size = nL ∧ lv_wf ls ∧ ∀ (i : Nat) (v : AV), lv[i]? = some (some v) → ls[i]? = some (.val (rV G v))
def lvR (G : Gp) (lv : LV) : List (Nat × Value) := (List.range lv.length).filterMap fun i => (lvG lv i).map fun v => (i, rV G v)
theorem lvR_mem {G : Gp} {lv : LV} {q : Nat × Value} : q ∈ lvR G lv ↔ ∃ v, lv[q.1]? = some (some v) ∧ q.2 = rV G v := by
  unfold lvR
  simp only [List.mem_filterMap, List.mem_range, Option.map_eq_some_iff, lvG_iff]
  constructor
  · rintro ⟨i, -, v, h2, rfl⟩
    exact ⟨v, h2, rfl⟩
  · rintro ⟨v, h1, h2⟩
    exact ⟨q.1, (List.getElem?_eq_some_iff.mp h1).1, v, h1, by rw [← h2]⟩
theorem lvOK.has {G : Gp} {ls : Array Slot} {nL : Nat} {lv : LV} (h : lvOK G ls nL lv) : lv_has ls nL (lvR G lv) := by
  refine ⟨h.1, h.2.1, fun q hq => ?_⟩
  obtain ⟨v, h1, h2⟩ := lvR_mem.mp hq
  rw [h2]
  exact h.2.2 _ _ h1
theorem lvOK.at {G : Gp} {ls : Array Slot} {nL : Nat} {lv : LV} (h : lvOK G ls nL lv) {i : Nat} {v : AV} (hv : lvG lv i = some v) : ls[i]? = some (.val (rV G v)) := h.2.2 i v (lvG_iff.mp hv)
theorem lvK_get {lv : LV} {i j : Nat} {u : AV} (hj : j ≠ i) (h : (lvK lv i)[j]? = some (some u)) : lv[j]? = some (some u) ∧ ¬ (j + 1 = i ∧ acat u = 2) := by
  unfold lvK at h
  split at h
  · exact ⟨h, fun q => by omega⟩
  · next k =>
    split at h
    · next y hy =>
      by_cases e : j = k
      · subst e
        rw [List.getElem?_set] at h
        simp at h
      · rw [List.getElem?_set_ne (Ne.symm e)] at h
        exact ⟨h, fun q => e (by omega)⟩
    · next hy =>
      refine ⟨h, fun q => ?_⟩
      obtain ⟨q1, q2⟩ := q
      have e : j = k := by omega
      subst e
      rcases u with x | x | x
      · cases q2
      · exact hy x h
      · cases q2
theorem lvOK.of1 {G : Gp} {ls' : Array Slot} {nL i : Nat} {lv : LV} {v : AV} (h : lv_has ls' nL ((i, rV G v) :: (lvR G lv).filter (fun q => !(q.1 == i) && !(q.1 + 1 == i && q.2.category == 2)))) : lvOK G ls' nL (st1 lv i v) := by
  refine ⟨h.1, h.2.1, fun j u hu => ?_⟩
  unfold st1 at hu
  by_cases e : i = j
  · subst e
    rw [List.getElem?_set] at hu
    split at hu
    · split at hu
      · simp only [Option.some.injEq] at hu
        subst hu
        exact h.2.2 (i, rV G v) List.mem_cons_self
      · cases hu
    · next q => exact absurd rfl q
  · rw [List.getElem?_set_ne e] at hu
    obtain ⟨h1, h2⟩ := lvK_get (Ne.symm e) hu
    refine h.2.2 (j, rV G u) (List.mem_cons_of_mem _ (List.mem_filter.mpr ⟨lvR_mem.mpr ⟨u, h1, rfl⟩, ?_⟩))
    have e1 : (j == i) = false := by simpa using Ne.symm e
    have e2 : (j + 1 == i && (rV G u).category == 2) = false := by
      rw [rV_cat]
      by_cases q : j + 1 = i
      · have : ¬ acat u = 2 := fun z => h2 ⟨q, z⟩
        simp [this]
      · simp [q]
    show (!(j == i) && !(j + 1 == i && (rV G u).category == 2)) = true
    rw [e1, e2]
    rfl
theorem lvOK.of2 {G : Gp} {ls' : Array Slot} {nL i : Nat} {lv : LV} {v : AV} (h : lv_has ls' nL ((i, rV G v) :: (lvR G lv).filter (fun q => !(q.1 == i) && (!(q.1 == i + 1) && !(q.1 + 1 == i && q.2.category == 2))))) : lvOK G ls' nL (st2 lv i v) := by
  refine ⟨h.1, h.2.1, fun j u hu => ?_⟩
  unfold st2 at hu
  by_cases e0 : i + 1 = j
  · subst e0
    rw [List.getElem?_set] at hu
    simp at hu
  · rw [List.getElem?_set_ne e0] at hu
    by_cases e : i = j
    · subst e
      rw [List.getElem?_set] at hu
      split at hu
      · split at hu
        · simp only [Option.some.injEq] at hu
          subst hu
          exact h.2.2 (i, rV G v) List.mem_cons_self
        · cases hu
      · next q => exact absurd rfl q
    · rw [List.getElem?_set_ne e] at hu
      obtain ⟨h1, h2⟩ := lvK_get (Ne.symm e) hu
      refine h.2.2 (j, rV G u) (List.mem_cons_of_mem _ (List.mem_filter.mpr ⟨lvR_mem.mpr ⟨u, h1, rfl⟩, ?_⟩))
      have e1 : (j == i) = false := by simpa using Ne.symm e
      have e3 : (j == i + 1) = false := by simpa using Ne.symm e0
      have e2 : (j + 1 == i && (rV G u).category == 2) = false := by
        rw [rV_cat]
        by_cases q : j + 1 = i
        · have : ¬ acat u = 2 := fun z => h2 ⟨q, z⟩
          simp [this]
        · simp [q]
      show (!(j == i) && (!(j == i + 1) && !(j + 1 == i && (rV G u).category == 2))) = true
      rw [e1, e2, e3]
      rfl
def okL (lv : LV) : Prop := ∀ (i : Nat) (v : AV), lv[i]? = some (some v) → okV v
theorem okL.at {lv : LV} (h : okL lv) {i : Nat} {v : AV} (hv : lvG lv i = some v) : okV v := h i v (lvG_iff.mp hv)
theorem okL_s1 {lv : LV} (h : okL lv) {i : Nat} {v : AV} (hv : okV v) : okL (st1 lv i v) := by
  intro j u hu
  unfold st1 at hu
  by_cases e : i = j
  · subst e
    rw [List.getElem?_set] at hu
    split at hu
    · split at hu
      · simp only [Option.some.injEq] at hu
        subst hu
        exact hv
      · cases hu
    · next q => exact absurd rfl q
  · rw [List.getElem?_set_ne e] at hu
    exact h j u (lvK_get (Ne.symm e) hu).1
theorem okL_s2 {lv : LV} (h : okL lv) {i : Nat} {v : AV} (hv : okV v) : okL (st2 lv i v) := by
  intro j u hu
  have h1 := okL_s1 h (i := i) hv
  unfold st1 at h1
  unfold st2 at hu
  by_cases e0 : i + 1 = j
  · subst e0
    rw [List.getElem?_set] at hu
    simp at hu
  · rw [List.getElem?_set_ne e0] at hu
    exact h1 j u hu
/-- the locals at a method's entry: a long takes two places -/
def aArgs : List AV → LV
  | [] => []
  | v :: t => if acat v = 2 then some v :: none :: aArgs t else some v :: aArgs t
theorem aArgs_mem {G : Gp} : ∀ (as : List AV) (k i : Nat) (v : AV), (aArgs as)[i]? = some (some v) → (k + i, rV G v) ∈ lv_args k (as.map (rV G)) := by
  intro as
  induction as with
  | nil => intro k i v h; simp [aArgs] at h
  | cons a t ih =>
    intro k i v h
    show (k + i, rV G v) ∈ (k, rV G a) :: lv_args (if (rV G a).category = 2 then k + 2 else k + 1) (t.map (rV G))
    rw [rV_cat]
    unfold aArgs at h
    by_cases e : acat a = 2
    · rw [if_pos e] at h ⊢
      match i, h with
      | 0, h =>
        simp only [List.getElem?_cons_zero, Option.some.injEq] at h
        subst h
        exact List.mem_cons_self
      | 1, h => simp at h
      | i + 2, h =>
        simp only [List.getElem?_cons_succ] at h
        have := ih (k + 2) i v h
        rw [show k + (i + 2) = k + 2 + i by omega]
        exact List.mem_cons_of_mem _ this
    · rw [if_neg e] at h ⊢
      match i, h with
      | 0, h =>
        simp only [List.getElem?_cons_zero, Option.some.injEq] at h
        subst h
        exact List.mem_cons_self
      | i + 1, h =>
        simp only [List.getElem?_cons_succ] at h
        have := ih (k + 1) i v h
        rw [show k + (i + 1) = k + 1 + i by omega]
        exact List.mem_cons_of_mem _ this
theorem aArgs_ok : ∀ (as : List AV), (∀ a ∈ as, okV a) → okL (aArgs as) := by
  intro as
  induction as with
  | nil => intro _ i v h; simp [aArgs] at h
  | cons a t ih =>
    intro ho i v h
    have ha := ho a List.mem_cons_self
    have ht := ih (fun x hx => ho x (List.mem_cons_of_mem _ hx))
    unfold aArgs at h
    split at h
    · match i, h with
      | 0, h =>
        simp only [List.getElem?_cons_zero, Option.some.injEq] at h
        subst h
        exact ha
      | 1, h => simp at h
      | i + 2, h =>
        simp only [List.getElem?_cons_succ] at h
        exact ht i v h
    · match i, h with
      | 0, h =>
        simp only [List.getElem?_cons_zero, Option.some.injEq] at h
        subst h
        exact ha
      | i + 1, h =>
        simp only [List.getElem?_cons_succ] at h
        exact ht i v h
/-- entry locals, with as many empty places behind as the method has -/
def aEnt (n : Nat) (as : List AV) : LV := aArgs as ++ List.replicate (n - (aArgs as).length) none
theorem aEnt_get {n : Nat} {as : List AV} {i : Nat} {v : AV} (h : (aEnt n as)[i]? = some (some v)) : (aArgs as)[i]? = some (some v) := by
  unfold aEnt at h
  by_cases e : i < (aArgs as).length
  · rwa [List.getElem?_append_left e] at h
  · rw [List.getElem?_append_right (by omega), List.getElem?_replicate] at h
    split at h
    · cases h
    · cases h
theorem lvOK_ent {G : Gp} {as : List AV} {n : Nat} (h : (lg_sl (as.map (rV G))).length ≤ n) : lvOK G (lg_sl (as.map (rV G)) ++ List.replicate (n - (lg_sl (as.map (rV G))).length) Slot.unset).toArray n (aEnt n as) := by
  have hl := lv_entry (as.map (rV G)) h
  refine ⟨hl.1, hl.2.1, fun i v hv => ?_⟩
  have h1 := aArgs_mem (G := G) as 0 i v (aEnt_get hv)
  rw [Nat.zero_add] at h1
  exact hl.2.2 _ h1
theorem aLen {G : Gp} : ∀ (as : List AV), (lg_sl (as.map (rV G))).length = (aArgs as).length := by
  intro as
  induction as with
  | nil => rfl
  | cons a t ih =>
    unfold aArgs
    have e : lg_sl ((a :: t).map (rV G)) = (if (rV G a).category = 2 then [.val (rV G a), .second] else [.val (rV G a)]) ++ lg_sl (t.map (rV G)) := rfl
    rw [e, rV_cat]
    by_cases e : acat a = 2
    · rw [if_pos e, if_pos e]
      simp only [List.length_append, List.length_cons, List.length_nil]
      omega
    · rw [if_neg e, if_neg e]
      simp only [List.length_append, List.length_cons, List.length_nil]
      omega
