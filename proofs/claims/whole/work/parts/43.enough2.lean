/-! ===== enough: a pipe begins ===== -/
theorem worth_eq {s t : Sg} {par x : Int} (h : ∀ j, t 320 j = s 320 j) : worthS t par x = worthS s par x := by
  unfold worthS
  rw [h]
theorem worth_in {T s : Sg} {par x : Int} (h : GI T s) (hpar : in32 par) (hx9 : in32 x) : in32 (worthS s par x) := by
  unfold worthS
  split
  · exact hpar
  · split
    · exact h.2.2.2.1 _
    · exact hx9
theorem workS_325 {s : Sg} {fr k st par : Int} : ∀ {n : Nat} {j : Int}, workS s fr k st par n 325 j = if 24 * fr + 4 * k ≤ j ∧ j < 24 * fr + 4 * k + n then worthS s par (s 317 (4 * st + (j - (24 * fr + 4 * k)))) else s 325 j
  | 0, j => by
    rw [if_neg (by omega)]
    rfl
  | n + 1, j => by
    have ih := workS_325 (s := s) (fr := fr) (k := k) (st := st) (par := par) (n := n) (j := j)
    have e1 : worthS (workS s fr k st par n) par (workS s fr k st par n 317 (4 * st + n)) = worthS s par (s 317 (4 * st + n)) := by
      rw [workS_o (by omega), worth_eq (fun j => workS_o (by omega))]
    have e2 : workS s fr k st par (n + 1) = sset (workS s fr k st par n) 325 (24 * fr + 4 * k + n) (worthS (workS s fr k st par n) par (workS s fr k st par n 317 (4 * st + n))) := rfl
    rw [e2, e1]
    by_cases e : j = 24 * fr + 4 * k + n
    · subst e
      rw [sset_e, if_pos (by omega), show 24 * fr + 4 * k + (n : Int) - (24 * fr + 4 * k) = n by omega]
    · rw [sset_2 e, ih]
      by_cases e3 : 24 * fr + 4 * k ≤ j ∧ j < 24 * fr + 4 * k + n
      · rw [if_pos e3, if_pos (by omega)]
      · rw [if_neg e3, if_neg (by omega)]
theorem oneS_d {s : Sg} {fr k st par : Int} : oneS s fr k st par = sset (clearS (workS s fr k st par (s 316 st).toNat) fr k) 328 (6 * fr + k) (status0 (clearS (workS s fr k st par (s 316 st).toNat) fr k) fr k st) := rfl
theorem oneS_326 {s : Sg} {fr k st par j : Int} : oneS s fr k st par 326 j = if j = 6 * fr + k then 0 else s 326 j := by
  rw [oneS_d]
  unfold clearS
  rw [sset_1 (by omega), sset_1 (by omega)]
  by_cases e : j = 6 * fr + k
  · subst e
    rw [sset_e, if_pos rfl]
  · rw [sset_2 e, if_neg e, workS_o (by omega)]
theorem oneS_327 {s : Sg} {fr k st par j : Int} : oneS s fr k st par 327 j = if j = 6 * fr + k then 0 else s 327 j := by
  rw [oneS_d]
  unfold clearS
  rw [sset_1 (by omega)]
  by_cases e : j = 6 * fr + k
  · subst e
    rw [sset_e, if_pos rfl]
  · rw [sset_2 e, if_neg e, sset_1 (by omega), workS_o (by omega)]
theorem oneS_325 {s : Sg} {fr k st par j : Int} : oneS s fr k st par 325 j = workS s fr k st par (s 316 st).toNat 325 j := by
  rw [oneS_d]
  unfold clearS
  rw [sset_1 (by omega), sset_1 (by omega), sset_1 (by omega)]
/-- the status of a pipe at first, if a stage of word w with number x is its last -/
def statV (w x : Int) : Int := if w = 10 then x else if w = 4 ∧ x = 0 then 2 else if w = 8 then 1 else 0
theorem oneS_328 {s : Sg} {fr k st par j : Int} : oneS s fr k st par 328 j = if j = 6 * fr + k then statV (s 314 st) (oneS s fr k st par 325 (24 * fr + 4 * k)) else s 328 j := by
  by_cases e : j = 6 * fr + k
  · subst e
    rw [if_pos rfl, oneS_325, oneS_d, sset_e]
    unfold status0 clearS statV
    rw [sset_1 (by omega), sset_1 (by omega), sset_1 (by omega), sset_1 (by omega), workS_o (by omega)]
  · rw [if_neg e, oneS_d, sset_2 e]
    unfold clearS
    rw [sset_1 (by omega), sset_1 (by omega), workS_o (by omega)]
theorem stages_d {s : Sg} {fr p par : Int} {n : Nat} : stagesS s fr p par (n + 1) = oneS (stagesS s fr p par n) fr n (stAt (stagesS s fr p par n) p n) par := rfl
theorem stages_326 {s : Sg} {fr p par : Int} : ∀ {n : Nat} {j : Int}, stagesS s fr p par n 326 j = if 6 * fr ≤ j ∧ j < 6 * fr + n then 0 else s 326 j
  | 0, j => by
    rw [if_neg (by omega)]
    rfl
  | n + 1, j => by
    rw [stages_d, oneS_326, stages_326]
    by_cases e : j = 6 * fr + n
    · rw [if_pos e, if_pos (by omega)]
    · rw [if_neg e]
      by_cases e2 : 6 * fr ≤ j ∧ j < 6 * fr + n
      · rw [if_pos e2, if_pos (by omega)]
      · rw [if_neg e2, if_neg (by omega)]
theorem stages_327 {s : Sg} {fr p par : Int} : ∀ {n : Nat} {j : Int}, stagesS s fr p par n 327 j = if 6 * fr ≤ j ∧ j < 6 * fr + n then 0 else s 327 j
  | 0, j => by
    rw [if_neg (by omega)]
    rfl
  | n + 1, j => by
    rw [stages_d, oneS_327, stages_327]
    by_cases e : j = 6 * fr + n
    · rw [if_pos e, if_pos (by omega)]
    · rw [if_neg e]
      by_cases e2 : 6 * fr ≤ j ∧ j < 6 * fr + n
      · rw [if_pos e2, if_pos (by omega)]
      · rw [if_neg e2, if_neg (by omega)]
theorem st_of {s : Sg} {fr p par : Int} {n : Nat} (hP : PTB s p) (hn9 : (n : Int) < s 313 p) : stAt (stagesS s fr p par n) p n = s 312 p + n := by
  unfold stAt
  rw [stagesS_o (by omega)]
  obtain ⟨h1, h2, h3, h4, h5, h6, _⟩ := hP
  exact w32_id (by omega) (by omega)
theorem stages_325s {s : Sg} {fr p par : Int} {n : Nat} {j : Int} (hP : PTB s p) (hn9 : (n : Int) < s 313 p) : stagesS s fr p par (n + 1) 325 j =
    if 24 * fr + 4 * n ≤ j ∧ j < 24 * fr + 4 * n + s 316 (s 312 p + n) then worthS s par (s 317 (4 * (s 312 p + n) + (j - (24 * fr + 4 * n)))) else stagesS s fr p par n 325 j := by
  rw [stages_d, oneS_325, st_of hP hn9, workS_325, stagesS_o (by omega), stagesS_o (by omega), worth_eq (fun j => stagesS_o (by omega))]
  have := (hP.2.2.2.2.2.2 n (by omega) hn9).1
  rw [show (((s 316 (s 312 p + (n : Int))).toNat : Nat) : Int) = s 316 (s 312 p + n) by omega]
theorem stages_325o {s : Sg} {fr p par : Int} (hP : PTB s p) : ∀ {n : Nat} {j : Int}, (n : Int) ≤ s 313 p → (j < 24 * fr ∨ 24 * fr + 4 * n ≤ j) → stagesS s fr p par n 325 j = s 325 j
  | 0, j, _, _ => rfl
  | n + 1, j, h1, h2 => by
    have := hP.2.2.2.2.2.2 n (by omega) (by omega)
    rw [stages_325s hP (by omega), if_neg (by omega), stages_325o hP (by omega) (by omega)]
theorem stages_325v {s : Sg} {fr p par : Int} (hP : PTB s p) : ∀ {n : Nat} {k i : Int}, (n : Int) ≤ s 313 p → 0 ≤ k → k < n → 0 ≤ i → i < s 316 (s 312 p + k) → stagesS s fr p par n 325 (24 * fr + 4 * k + i) = worthS s par (s 317 (4 * (s 312 p + k) + i))
  | 0, k, i, _, h2, h3, _, _ => by omega
  | n + 1, k, i, h1, h2, h3, h4, h5 => by
    have hm := hP.2.2.2.2.2.2 k (by omega) (by omega)
    rw [stages_325s hP (by omega)]
    by_cases e : k = n
    · subst e
      rw [if_pos (by omega), show 24 * fr + 4 * (n : Int) + i - (24 * fr + 4 * n) = i by omega]
    · rw [if_neg (by omega)]
      exact stages_325v hP (by omega) h2 (by omega) h4 h5
theorem stages_325k {s : Sg} {fr p par : Int} (hP : PTB s p) {n : Nat} {j : Int} (h1 : (n : Int) < s 313 p) (h2 : j < 24 * fr + 4 * n) : stagesS s fr p par (n + 1) 325 j = stagesS s fr p par n 325 j := by
  rw [stages_325s hP h1, if_neg (by omega)]
theorem stages_328v {s : Sg} {fr p par : Int} (hP : PTB s p) : ∀ {n : Nat} {k : Int}, (n : Int) ≤ s 313 p → 0 ≤ k → k < n → stagesS s fr p par n 328 (6 * fr + k) = statV (s 314 (s 312 p + k)) (stagesS s fr p par n 325 (24 * fr + 4 * k))
  | 0, k, _, h2, h3 => by omega
  | n + 1, k, h1, h2, h3 => by
    rw [stages_d, oneS_328, st_of hP (by omega)]
    by_cases e : k = n
    · subst e
      rw [if_pos rfl, stagesS_o (by omega)]
    · rw [if_neg (by omega), stages_328v hP (by omega) h2 (by omega), ← st_of (fr := fr) (par := par) hP (by omega), ← stages_d, stages_325k hP (by omega) (by omega)]
theorem stages_328o {s : Sg} {fr p par : Int} : ∀ {n : Nat} {j : Int}, (j < 6 * fr ∨ 6 * fr + n ≤ j) → stagesS s fr p par n 328 j = s 328 j
  | 0, j, _ => rfl
  | n + 1, j, h2 => by
    rw [stages_d, oneS_328, if_neg (by omega), stages_328o (by omega)]
theorem begins_d {s : Sg} {fr p par : Int} : beginsS s fr p par = stagesS (sset (sset (sset s 323 fr p) 324 fr par) 330 fr 0) fr p par (s 313 p).toNat := by
  show stagesS (sset (sset (sset s 323 fr p) 324 fr par) 330 fr 0) fr p par (((sset (sset (sset s 323 fr p) 324 fr par) 330 fr 0) 313 p)).toNat = _
  rw [sset_1 (by omega), sset_1 (by omega), sset_1 (by omega)]
/-- what a pipe's begin leaves as it is -/
def TCB (fr o j : Int) : Prop := ((o = 323 ∨ o = 324 ∨ o = 330) ∧ j = fr) ∨ (o = 325 ∧ 24 * fr ≤ j ∧ j < 24 * fr + 24) ∨ ((o = 326 ∨ o = 327 ∨ o = 328) ∧ 6 * fr ≤ j ∧ j < 6 * fr + 6)
theorem begins_v {s : Sg} {fr p par : Int} (hP : PTB s p) :
    (∀ o j, ¬ TCB fr o j → beginsS s fr p par o j = s o j) ∧ (beginsS s fr p par 323 fr = p ∧ beginsS s fr p par 324 fr = par ∧ beginsS s fr p par 330 fr = 0) ∧
    ∀ k, 0 ≤ k → k < s 313 p → beginsS s fr p par 326 (6 * fr + k) = 0 ∧ beginsS s fr p par 327 (6 * fr + k) = 0 ∧ beginsS s fr p par 328 (6 * fr + k) = statV (s 314 (s 312 p + k)) (beginsS s fr p par 325 (24 * fr + 4 * k)) ∧
      ∀ i, 0 ≤ i → i < s 316 (s 312 p + k) → beginsS s fr p par 325 (24 * fr + 4 * k + i) = worthS s par (s 317 (4 * (s 312 p + k) + i)) := by
  have hsz := hP.2.2.1
  have hsz6 := hP.2.2.2.1
  have eT : ∀ o, (o < 323 ∨ 330 < o) → ∀ j, (sset (sset (sset s 323 fr p) 324 fr par) 330 fr 0) o j = s o j := fun o h j => by
    rw [sset_1 (by omega), sset_1 (by omega), sset_1 (by omega)]
  have hP2 : PTB (sset (sset (sset s 323 fr p) 324 fr par) 330 fr 0) p := by
    unfold PTB at hP ⊢
    simp only [eT 312 (by omega), eT 313 (by omega), eT 314 (by omega), eT 316 (by omega), eT 317 (by omega)]
    exact hP
  have hn9 : (((s 313 p).toNat : Nat) : Int) = s 313 p := by omega
  rw [begins_d]
  refine ⟨fun o j h => ?_, ⟨?_, ?_, ?_⟩, fun k h1 h2 => ⟨?_, ?_, ?_, fun i h3 h4 => ?_⟩⟩
  · unfold TCB at h
    have e1 : (sset (sset (sset s 323 fr p) 324 fr par) 330 fr 0) o j = s o j := by
      unfold sset
      rw [if_neg (by omega), if_neg (by omega), if_neg (by omega)]
    by_cases c5 : o = 325
    · subst c5
      rw [stages_325o hP2 (by rw [eT 313 (by omega)]; omega) (by omega)]
      exact e1
    by_cases c6 : o = 326
    · subst c6
      rw [stages_326, if_neg (by omega)]
      exact e1
    by_cases c7 : o = 327
    · subst c7
      rw [stages_327, if_neg (by omega)]
      exact e1
    by_cases c8 : o = 328
    · subst c8
      rw [stages_328o (by omega)]
      exact e1
    rw [stagesS_o (by omega)]
    exact e1
  · rw [stagesS_o (by omega), sset_1 (by omega), sset_1 (by omega), sset_e]
  · rw [stagesS_o (by omega), sset_1 (by omega), sset_e]
  · rw [stagesS_o (by omega), sset_e]
  · rw [stages_326, if_pos (by omega)]
  · rw [stages_327, if_pos (by omega)]
  · rw [stages_328v hP2 (by rw [eT 313 (by omega)]; omega) h1 (by omega), eT 314 (by omega), eT 312 (by omega)]
  · have h5 := stages_325v (fr := fr) (par := par) hP2 (n := (s 313 p).toNat) (k := k) (i := i) (by rw [eT 313 (by omega)]; omega) h1 (by omega) h3 (by rw [eT 316 (by omega), eT 312 (by omega)]; exact h4)
    rw [h5, eT 317 (by omega), eT 312 (by omega), worth_eq (fun j => eT 320 (by omega) j)]
theorem begins_GI {T s : Sg} {fr p par : Int} (hT : TOK T) (hG : GI T s) (hP : PTB s p) (hpar : in32 par) : GI T (beginsS s fr p par) := by
  obtain ⟨h1, ⟨_, h2, _⟩, h3⟩ := begins_v (fr := fr) (par := par) hP
  have hG9 := hG
  obtain ⟨a1, a2, a3, a4, a5, a6, a7⟩ := hG
  refine ⟨fun o j hz => ?_, ?_, ?_, fun j => ?_, fun j => ?_, fun j => ?_, fun j => ?_⟩
  · rw [h1 o j (by unfold TCB; omega)]; exact a1 o j hz
  · rw [h1 _ _ (by unfold TCB; omega)]; exact a2
  · rw [h1 _ _ (by unfold TCB; omega)]; exact a3
  · rw [h1 _ _ (by unfold TCB; omega)]; exact a4 j
  · by_cases e : j = fr
    · subst e; rw [h2]; exact hpar
    · rw [h1 _ _ (by unfold TCB; omega)]; exact a5 j
  · rw [begins_d]
    have key : ∀ n : Nat, (n : Int) ≤ s 313 p → in32 (stagesS (sset (sset (sset s 323 fr p) 324 fr par) 330 fr 0) fr p par n 325 j) := by
      have eT : ∀ o, (o < 323 ∨ 330 < o) → ∀ j, (sset (sset (sset s 323 fr p) 324 fr par) 330 fr 0) o j = s o j := fun o h j => by
        rw [sset_1 (by omega), sset_1 (by omega), sset_1 (by omega)]
      have hP2 : PTB (sset (sset (sset s 323 fr p) 324 fr par) 330 fr 0) p := by
        unfold PTB at hP ⊢
        simp only [eT 312 (by omega), eT 313 (by omega), eT 314 (by omega), eT 316 (by omega), eT 317 (by omega)]
        exact hP
      intro n
      induction n with
      | zero =>
        intro _
        show in32 ((sset (sset (sset s 323 fr p) 324 fr par) 330 fr 0) 325 j)
        rw [sset_1 (by omega), sset_1 (by omega), sset_1 (by omega)]
        exact a6 j
      | succ n ih =>
        intro hn9
        rw [stages_325s hP2 (by rw [eT 313 (by omega)]; omega)]
        split
        · rw [worth_eq (fun j => eT 320 (by omega) j), eT 317 (by omega)]
          refine worth_in hG9 hpar ?_
          rw [a1 317 _ (by omega)]
          exact hT.2 _
        · exact ih (by omega)
    exact key _ (by have := hP.2.2.1; omega)
  · rw [h1 _ _ (by unfold TCB; omega)]; exact a7 j
theorem tcb_tcg {c at9 o j : Int} (hc : 0 ≤ c ∧ c < 24) (q : TCB c o j) : TCG c at9 o j := by
  rcases q with q | q | q
  · exact Or.inr (Or.inr (Or.inl (Or.inl ⟨q.1, by omega, by omega⟩)))
  · exact Or.inr (Or.inr (Or.inl (Or.inr (Or.inl ⟨q.1, by omega, by omega⟩))))
  · exact Or.inr (Or.inr (Or.inl (Or.inr (Or.inr (Or.inl ⟨q.1, by omega, by omega⟩)))))
theorem pipe_ok {nx : Sg → Int → Int → Option (Int × Sg)} {T : Sg} {c p g at9 par : Int} {e : Nat} (hT : TOK T) (hc : 0 ≤ c ∧ c < 24) (h9 : at9 < 28 ∧ (at9 < c ∨ 24 ≤ at9)) (hP : POK T e p) (hN : ∀ k : Nat, (k : Int) < T 313 p → NXG nx T c p k g) {s : Sg} (hG : GI T s) (hg : s 307 33 = g) (hf : s 307 32 ≠ 0) (hpar : in32 par) (ha : 0 ≤ at9 → 0 ≤ s 330 at9 ∧ s 330 at9 ≤ 60) :
    ∃ z s', pipeS nx p par c at9 s = some (z, s') ∧ GPST T s s' c at9 := by
  have hPT := hP.w.1
  have hsz := hPT.2.2.1
  have hsz6 := hPT.2.2.2.1
  have hfu := hG.2.1
  have e32 : w32 (s 307 32 - 1) = s 307 32 - 1 := w32_id (by omega) (by omega)
  have hG0 : GI T (sset s 307 32 (w32 (s 307 32 - 1))) := hG.set (by omega) (by omega) (fun _ q => by rw [e32]; omega)
  have hPs : PTB (sset s 307 32 (w32 (s 307 32 - 1))) p := hG0.ptb.mpr hPT
  have hG1 := begins_GI (fr := c) (par := par) hT hG0 hPs hpar
  obtain ⟨b1, ⟨b2, b3, b4⟩, b5⟩ := begins_v (fr := c) (par := par) hPs
  have e13 : beginsS (sset s 307 32 (w32 (s 307 32 - 1))) c p par 313 p = T 313 p := hG1.1 313 p (by omega)
  have e13s : (sset s 307 32 (w32 (s 307 32 - 1))) 313 p = T 313 p := hG0.1 313 p (by omega)
  have hK : (((T 313 p - 1).toNat : Nat) : Int) = T 313 p - 1 := by omega
  have fr0 : ∀ o j, ¬ TCG c at9 o j → beginsS (sset s 307 32 (w32 (s 307 32 - 1))) c p par o j = s o j := fun o j q => by
    rw [b1 o j (fun z => q (tcb_tcg hc z))]
    unfold sset
    rw [if_neg]
    intro z
    exact q (Or.inr (Or.inl ⟨z.1, Or.inl z.2⟩))
  have hFX : FX T (beginsS (sset s 307 32 (w32 (s 307 32 - 1))) c p par) c p ((T 313 p - 1).toNat + 1) := by
    refine ⟨by rw [b4]; omega, fun j hj => ?_⟩
    obtain ⟨q1, q2, _⟩ := b5 j (by omega) (by rw [e13s]; omega)
    unfold SO
    rw [q1, q2]
    omega
  have ha2 : 0 ≤ at9 → 0 ≤ beginsS (sset s 307 32 (w32 (s 307 32 - 1))) c p par 330 at9 ∧ beginsS (sset s 307 32 (w32 (s 307 32 - 1))) c p par 330 at9 ≤ 60 := fun q => by
    rw [b1 330 at9 (by unfold TCB; omega), sset_1 (by omega)]
    exact ha q
  obtain ⟨u, e2, hU⟩ := flow_ok (k := (T 313 p - 1).toNat) hc (by omega) h9 (hN _ (by omega)) 200 _ (by have := ptA_le hFX.2; omega) hG1 b2 hFX (by rw [b1 _ _ (by unfold TCB; omega), sset_2 (by omega)]; exact hg) ha2
  refine ⟨u 328 (6 * c + (T 313 p - 1)), u, ?_, fun o j q => (hU.1 o j q).trans (fr0 o j q), hU.2⟩
  · show grd _ (Option.bind (flowS nx c at9 (beginsS (sset s 307 32 (w32 (s 307 32 - 1))) c p par 313 p - 1) 200 (beginsS (sset s 307 32 (w32 (s 307 32 - 1))) c p par)) (fun u => some (u 328 (6 * c + (beginsS (sset s 307 32 (w32 (s 307 32 - 1))) c p par 313 p - 1)), u))) = _
    rw [grd_ok ⟨by omega, hG.ptb.mpr hPT⟩, e13, ← hK, e2]
    rfl
theorem GPST.rf {T s : Sg} {c at9 : Int} (hG : GI T s) (ha : 0 ≤ at9 → 0 ≤ s 330 at9 ∧ s 330 at9 ≤ 60) : GPST T s s c at9 := ⟨fun _ _ _ => rfl, hG, ha⟩
theorem list_ok {nx : Sg → Int → Int → Option (Int × Sg)} {T : Sg} {c g at9 par : Int} {e : Nat} (hT : TOK T) (hc : 0 ≤ c ∧ c < 24) (h9 : at9 < 28 ∧ (at9 < c ∨ 24 ≤ at9)) (hN : ∀ p (k : Nat), POK T e p → (k : Int) < T 313 p → NXG nx T c p k g) (hpar : in32 par) :
    ∀ (mm m : Nat) (p st : Int) (s : Sg), m + 1 ≤ mm → CH T (POK T e) m p → GI T s → s 307 33 = g → (0 ≤ at9 → 0 ≤ s 330 at9 ∧ s 330 at9 ≤ 60) → ∃ z s', listS nx par c at9 mm p st s = some (z, s') ∧ GPST T s s' c at9
  | 0, m, p, st, s, h, _, _, _, _ => by omega
  | mm + 1, m, p, st, s, h, hC, hG, hg, ha => by
    have hend : p = -1 → ∃ z s', listS nx par c at9 (mm + 1) p st s = some (z, s') ∧ GPST T s s' c at9 := fun e1 => by
      refine ⟨st, s, ?_, GPST.rf hG ha⟩
      unfold listS
      exact if_pos (by omega)
    cases m with
    | zero => exact hend hC
    | succ m =>
      rcases hC with e1 | ⟨hp9, hP, hC2⟩
      · exact hend e1
      · have hx : ∃ z1 r1, (if onS (s 311 p) st then (if s 307 32 = 0 then some (8, s) else pipeS nx p par c at9 s) else some (st, s)) = some (z1, r1) ∧ GPST T s r1 c at9 := by
          by_cases c1 : onS (s 311 p) st = true
          · by_cases c2 : s 307 32 = 0
            · exact ⟨8, s, by rw [if_pos c1, if_pos c2], GPST.rf hG ha⟩
            · obtain ⟨z1, r1, q1, q2⟩ := pipe_ok hT hc h9 hP (fun k hk9 => hN p k hP hk9) hG hg c2 hpar ha
              exact ⟨z1, r1, by rw [if_pos c1, if_neg c2]; exact q1, q2⟩
          · exact ⟨st, s, by rw [if_neg c1], GPST.rf hG ha⟩
        obtain ⟨z1, r1, q1, q2⟩ := hx
        obtain ⟨z2, r2, q3, q4⟩ := list_ok hT hc h9 hN hpar mm m (r1 310 p) z1 r1 (by omega) (by rw [q2.2.1.1 310 p (by omega)]; exact hC2) q2.2.1 ((q2.1 _ _ tcg_going).trans hg) q2.2.2
        refine ⟨z2, r2, ?_, q2.trans q4⟩
        unfold listS
        rw [if_neg (by omega), grd_ok hp9.2, q1]
        exact q3
theorem goes_ok {nx : Sg → Int → Int → Option (Int × Sg)} {T : Sg} {c g at9 : Int} {e : Nat} (hT : TOK T) (hc : 0 ≤ c ∧ c < 24) (h9 : at9 < 28 ∧ (at9 < c ∨ 24 ≤ at9)) (hN : ∀ p (k : Nat), POK T e p → (k : Int) < T 313 p → NXG nx T c p k g) : GOK nx T c at9 g e := by
  intro s l par hG hg hl9 hC hpar ha
  obtain ⟨z, s', q1, q2⟩ := list_ok hT hc h9 hN hpar 200 100 (s 309 l) 0 s (by omega) (by rw [hG.1 309 l (by omega)]; exact hC) hG hg ha
  exact ⟨z, s', by unfold goesS; rw [grd_ok hl9]; exact q1, q2⟩
