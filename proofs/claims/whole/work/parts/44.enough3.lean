/-! ===== enough: a stage is asked ===== -/
def QC (T s s' : Sg) (fr p : Int) (k : Nat) : Prop :=
  (∀ o j, (¬ TCH fr k o j ∨ (o = 327 ∧ j = 6 * fr + k)) → s' o j = s o j) ∧ GI T s' ∧ FX T s' fr p k ∧ (∀ j : Nat, j ≤ k → ptA T s' fr p j ≤ ptA T s fr p j)
def QP (T s s' : Sg) (fr p : Int) (k : Nat) (v : Int) : Prop := QC T s s' fr p k ∧ (v = (-9223372036854775808) ∨ in32 v ∧ SO T s' fr p k ∧ ptA T s' fr p (k + 1) + 1 ≤ ptA T s fr p (k + 1))
theorem QC.rf {T s : Sg} {fr p : Int} {k : Nat} (hG : GI T s) (hF : FX T s fr p (k + 1)) : QC T s s fr p k :=
  ⟨fun _ _ _ => rfl, hG, ⟨hF.1, fun j hj => hF.2 j (by omega)⟩, fun _ _ => Nat.le_refl _⟩
theorem tch_own {fr k o : Int} (hfr : 0 ≤ fr ∧ fr < 28) (hk9 : 0 ≤ k ∧ k ≤ 5) (ho : o = 326 ∨ o = 327 ∨ o = 328) : ¬ TCH fr (k - 1) o (6 * fr + k) := by
  unfold TCH TCL childS
  split <;> omega
theorem QC.ofAP {T s r : Sg} {fr p v : Int} {k : Nat} (hfr : 0 ≤ fr ∧ fr < 28) (hk9 : k ≤ 5) (h : AP T s r fr p k v) : QC T s r fr p k := by
  obtain ⟨a1, a2, a3, a4, _⟩ := h
  refine ⟨fun o j q => a1 o j (fun z => ?_), a2, a3, a4⟩
  rcases q with q | ⟨q1, q2⟩
  · exact q (tch_le (by omega) z)
  · subst q1 q2
    exact tch_own hfr (by omega) (by omega) z
theorem QC.trans {T s r t : Sg} {fr p : Int} {k : Nat} (h1 : QC T s r fr p k) (h2 : QC T r t fr p k) : QC T s t fr p k :=
  ⟨fun o j q => (h2.1 o j q).trans (h1.1 o j q), h2.2.1, h2.2.2.1, fun j hj => Nat.le_trans (h2.2.2.2 j hj) (h1.2.2.2 j hj)⟩
theorem QC.put {T s r : Sg} {fr p o x : Int} {k : Nat} (h : QC T s r fr p k) (ho : o = 326 ∨ o = 328) : QC T s (sset r o (6 * fr + k) x) fr p k := by
  obtain ⟨a1, a2, a3, a4⟩ := h
  refine ⟨fun o' j q => ?_, a2.set (by omega) (by omega) (by omega), ⟨by rw [sset_1 (by omega)]; exact a3.1, fun j hj => SO_eq ?_ (sset_1 (by omega)) (a3.2 j hj)⟩, fun j hj => ?_⟩
  · unfold sset
    rw [if_neg]
    · exact a1 o' j q
    · intro z
      rcases q with q | q
      · apply q
        unfold TCH
        omega
      · omega
  · exact sset_2 (by omega)
  · rw [ptA_eq (s := r) (fun j' _ _ => ⟨sset_2 (by omega), sset_1 (by omega)⟩)]
    exact a4 j hj
theorem QC.val {T s r : Sg} {fr p j0 x : Int} {k : Nat} (h : QC T s r fr p k) (hx9 : in32 x) : QC T s (sset r 320 j0 x) fr p k := by
  obtain ⟨a1, a2, a3, a4⟩ := h
  refine ⟨fun o' j q => ?_, a2.set (by omega) (fun _ => hx9) (by omega), ⟨by rw [sset_1 (by omega)]; exact a3.1, fun j hj => SO_eq (sset_1 (by omega)) (sset_1 (by omega)) (a3.2 j hj)⟩, fun j hj => ?_⟩
  · unfold sset
    rw [if_neg]
    · exact a1 o' j q
    · intro z
      rcases q with q | q
      · apply q
        unfold TCH
        omega
      · omega
  · rw [ptA_eq (s := r) (fun j' _ _ => ⟨sset_1 (by omega), sset_1 (by omega)⟩)]
    exact a4 j hj
theorem ptA_own {T s : Sg} {fr p : Int} {k : Nat} (h : s 327 (6 * fr + k) = 0) : ptA T s fr p (k + 1) =
      if T 314 (T 312 p + k) = 0 then 1 + (4 - s 326 (6 * fr + k)).toNat else if T 314 (T 312 p + k) = 1 then 1 + (99 - s 326 (6 * fr + k)).toNat else
      if T 314 (T 312 p + k) ≤ 6 then 1 + (ptA T s fr p k - 1) else if T 314 (T 312 p + k) = 7 then (if s 326 (6 * fr + k) = 1 then 1 else 2) else
      if T 314 (T 312 p + k) ≤ 10 then 1 else 1 + (60 - s 326 (6 * fr + k)).toNat := by
  conv => lhs; unfold ptA
  rw [if_neg (by omega)]
/-- words 2 to 6: what comes from ahead comes on -/
theorem QP.pass {T s r : Sg} {fr p v y : Int} {k : Nat} (h1 : s 327 (6 * fr + k) = 0) (hw : 2 ≤ T 314 (T 312 p + k) ∧ T 314 (T 312 p + k) ≤ 6) (hQ : QC T s r fr p k) (h : v = (-9223372036854775808) ∨ in32 v ∧ ptA T r fr p k + 1 ≤ ptA T s fr p k ∧ 1 ≤ ptA T r fr p k)
    (hy : y = (-9223372036854775808) ∨ v ≠ (-9223372036854775808) ∧ in32 y) : QP T s r fr p k y := by
  refine ⟨hQ, ?_⟩
  rcases hy with hy | ⟨hy, hy2⟩
  · exact Or.inl hy
  · rcases h with h | ⟨h, h2, h3⟩
    · exact absurd h hy
    · have h9 : r 327 (6 * fr + k) = 0 := (hQ.1 _ _ (Or.inr ⟨rfl, rfl⟩)).trans h1
      refine Or.inr ⟨hy2, ?_, ?_⟩
      · unfold SO
        omega
      · rw [ptA_own h9, ptA_own h1]
        simp (disch := omega) only [if_pos, if_neg]
        omega
theorem tcg_tch {fr o j : Int} (hfr : 0 ≤ fr) (z : TCG (childS fr) fr o j) : TCH fr 0 o j := by
  rcases z with z | z | z | ⟨_, z | z⟩ | ⟨z, _⟩
  · exact Or.inl z
  · exact Or.inr (Or.inl z)
  · exact Or.inr (Or.inr (Or.inr (Or.inr (Or.inr z))))
  · exact Or.inr (Or.inr (Or.inr (Or.inl z)))
  · exact Or.inr (Or.inr (Or.inr (Or.inr (Or.inl z))))
  · omega
theorem goes_qc {T s t : Sg} {fr p : Int} (hfr : 0 ≤ fr ∧ fr < 28) (h : GPST T s t (childS fr) fr) : QC T s t fr p 0 := by
  obtain ⟨a1, a2, a3⟩ := h
  refine ⟨fun o j q => a1 o j (fun z => ?_), a2, ⟨a3 hfr.1, fun j hj => absurd hj (by omega)⟩, fun j hj => ?_⟩
  · rcases q with q | ⟨q1, q2⟩
    · exact q (tcg_tch hfr.1 z)
    · subst q1 q2
      unfold TCG TCL childS at z
      split at z <;> omega
  · rw [show j = 0 by omega]
    exact Nat.le_refl _
theorem tcg_own {fr : Int} (hfr : 0 ≤ fr ∧ fr < 28) : ¬ TCG (childS fr) fr 326 (6 * fr) := by
  unfold TCG TCL childS
  split <;> omega
theorem inner_ok {nx : Sg → Int → Int → Option (Int × Sg)} {T : Sg} {fr p g n : Int} {e : Nat} (hfr : 0 ≤ fr ∧ fr < 28) (hT : TOK T) (hP : POK T e p) (hL : ∀ e', e = e' + 1 → GOK nx T (childS fr) fr g e') (hFn : g < 4 → GOK nx T (childS fr) fr (g + 1) 3) (hg4 : 0 ≤ g ∧ g ≤ 4)
    {s : Sg} (hG : GI T s) (hF : FX T s fr p 1) (hg : s 307 33 = g) (hw : 11 ≤ T 314 (T 312 p) ∧ T 314 (T 312 p) ≤ 14) (hn9 : in32 n) : ∃ t, innerS nx fr (T 312 p) n s = some t ∧ QC T s t fr p 0 ∧ t 326 (6 * fr) = s 326 (6 * fr) := by
  have ew : s 314 (T 312 p) = T 314 (T 312 p) := hG.1 _ _ (by omega)
  have ef : ∀ j, s 321 j = T 321 j := fun j => hG.1 _ _ (by omega)
  have hrf : QC T s s fr p 0 := QC.rf hG hF
  have put : ∀ {r : Sg} {x : Int}, QC T s r fr p 0 → QC T s (sset r 328 (6 * fr) x) fr p 0 := fun {r x} q => by
    have := q.put (o := 328) (x := x) (Or.inr rfl)
    rw [show (6 * fr + ((0 : Nat) : Int)) = 6 * fr by omega] at this
    exact this
  unfold innerS
  by_cases c1 : s 326 (6 * fr) ≠ 0
  · rw [if_pos c1]
    exact ⟨s, rfl, hrf, rfl⟩
  · rw [if_neg c1, ew]
    by_cases c2 : T 314 (T 312 p) = 14
    · rw [if_pos c2]
      cases e with
      | zero => exact absurd c2 hP.2
      | succ e' =>
        obtain ⟨q1, q2⟩ := hP.2 c2
        obtain ⟨z, r, q3, q4⟩ := hL e' rfl s (s 315 (T 312 p)) (s 324 fr) hG hg (by rw [hG.1 315 _ (by omega)]; exact q1) (by rw [hG.1 315 _ (by omega)]; exact q2) (hG.2.2.2.2.1 _) (fun _ => hF.1)
        refine ⟨sset r 328 (6 * fr) z, ?_, put (goes_qc hfr q4), ?_⟩
        · rw [q3]; rfl
        · rw [sset_1 (by omega)]; exact q4.1 _ _ (tcg_own hfr)
    · rw [if_neg c2, ef]
      by_cases c3 : T 321 (T 314 (T 312 p) - 11) < 0
      · rw [if_pos c3]
        exact ⟨_, rfl, put hrf, sset_1 (by omega)⟩
      · rw [if_neg c3, hg]
        by_cases c4 : g = 4
        · rw [if_pos c4]
          exact ⟨_, rfl, put hrf, sset_1 (by omega)⟩
        · rw [if_neg c4]
          rcases hT.1 (T 314 (T 312 p) - 11) (by omega) (by omega) with q0 | ⟨q1, q2⟩
          · exact absurd q0 c3
          · have eg : w32 (g + 1) = g + 1 := w32_id (by omega) (by omega)
            obtain ⟨z, r, q3, q4⟩ := hFn (by omega) (sset s 307 33 (w32 (g + 1))) (60 * T 321 (T 314 (T 312 p) - 11)) n (hG.set (by omega) (by omega) (by omega)) (by rw [sset_e, eg]) (by omega) q2 hn9 (fun _ => by rw [sset_1 (by omega)]; exact hF.1)
            have g33 : r 307 33 = g + 1 := by
              rw [q4.1 _ _ tcg_going, sset_e, eg]
            have hq0 := goes_qc (p := p) hfr q4
            have h00 := put (r := r) (x := z)
            refine ⟨sset (sset r 328 (6 * fr) z) 307 33 (w32 ((sset r 328 (6 * fr) z) 307 33 - 1)), ?_, ?_, ?_⟩
            · rw [q3]; rfl
            · have e9 : w32 ((sset r 328 (6 * fr) z) 307 33 - 1) = g := by
                rw [sset_1 (by omega), g33, show g + 1 - 1 = g by omega]
                exact w32_id (by omega) (by omega)
              rw [e9]
              obtain ⟨a1, a2, a3, a4⟩ := hq0
              refine ⟨fun o j q => ?_, (a2.set (by omega) (by omega) (by omega)).set (by omega) (by omega) (by omega), ⟨by rw [sset_1 (by omega), sset_1 (by omega)]; exact a3.1, fun j hj => absurd hj (by omega)⟩, fun j hj => by rw [show j = 0 by omega]; exact Nat.le_refl _⟩
              by_cases c5 : o = 307 ∧ j = 33
              · rw [c5.1, c5.2, sset_e, hg]
              · have e5 := a1 o j q
                have e6 : (sset s 307 33 (w32 (g + 1))) o j = s o j := by
                  unfold sset
                  rw [if_neg c5]
                rw [e6] at e5
                unfold sset
                rw [if_neg c5, if_neg]
                · exact e5
                · intro z
                  rcases q with q | q
                  · apply q
                    unfold TCH
                    omega
                  · omega
            · rw [sset_1 (by omega), sset_1 (by omega), q4.1 _ _ (tcg_own hfr), sset_1 (by omega)]
theorem asked_ok {nx : Sg → Int → Int → Option (Int × Sg)} {T : Sg} {fr p g n : Int} {e k : Nat} (hfr : 0 ≤ fr ∧ fr < 28) (hT : TOK T) (hP : POK T e p) (hk9 : (k : Int) < T 313 p) (hN : ∀ m, k = m + 1 → NXG nx T fr p m g) (hL : ∀ e', e = e' + 1 → GOK nx T (childS fr) fr g e') (hFn : g < 4 → GOK nx T (childS fr) fr (g + 1) 3) (hg4 : 0 ≤ g ∧ g ≤ 4)
    {s : Sg} (hG : GI T s) (hp9 : s 323 fr = p) (hF : FX T s fr p (k + 1)) (hg : s 307 33 = g) (hopen : s 327 (6 * fr + k) = 0) (hn9 : in32 n) : ∃ v s', askedS nx fr k (T 312 p + k) n s = some (v, s') ∧ QP T s s' fr p k v := by
  have hPT := hP.w.1
  have hk5 : k ≤ 5 := by have := hPT.2.2.2.1; omega
  obtain ⟨t1, t2, t3, t4, _⟩ := hPT.2.2.2.2.2.2 k (by omega) hk9
  have ew : s 314 (T 312 p + k) = T 314 (T 312 p + k) := hG.1 _ _ (by omega)
  have em : s 316 (T 312 p + k) = T 316 (T 312 p + k) := hG.1 _ _ (by omega)
  have hrf : QC T s s fr p k := QC.rf hG hF
  have hFk : FX T s fr p k := ⟨hF.1, fun j hj => hF.2 j (by omega)⟩
  have hSO := (hF.2 k (by omega)).2 hopen
  unfold askedS
  rw [ew]
  by_cases w0 : T 314 (T 312 p + k) = 0
  · rw [if_pos w0]
    have hb := hSO.1 w0
    have e1 : w32 (s 326 (6 * fr + k) + 1) = s 326 (6 * fr + k) + 1 := w32_id (by omega) (by omega)
    refine ⟨_, _, grd_ok hb, ?_⟩
    · refine ⟨hrf.put (Or.inl rfl), ?_⟩
      simp only [sset_e, e1]
      by_cases c : s 326 (6 * fr + k) + 1 ≤ (sset s 326 (6 * fr + k) (s 326 (6 * fr + k) + 1)) 316 (T 312 p + k)
      · rw [if_pos c]
        rw [sset_1 (by omega), em] at c
        refine Or.inr ⟨by rw [sset_1 (by omega)]; exact hG.2.2.2.2.2.1 _, ?_, ?_⟩
        · unfold SO
          rw [sset_e, sset_1 (by omega)]
          omega
        · rw [ptA_own (by rw [sset_1 (by omega)]; exact hopen), ptA_own hopen, if_pos w0, if_pos w0, sset_e]
          omega
      · rw [if_neg c]
        exact Or.inl rfl
  rw [if_neg w0]
  by_cases w1 : T 314 (T 312 p + k) = 1
  · rw [if_pos w1]
    have hb := hSO.2.1 w1
    have e1 : w32 (s 326 (6 * fr + k) + 1) = s 326 (6 * fr + k) + 1 := w32_id (by omega) (by omega)
    refine ⟨_, _, rfl, hrf.put (Or.inl rfl), ?_⟩
    simp only [sset_e, e1]
    by_cases c : s 326 (6 * fr + k) + 1 ≤ min n 99
    · rw [if_pos c]
      refine Or.inr ⟨by unfold in32; omega, ?_, ?_⟩
      · unfold SO
        rw [sset_e, sset_1 (by omega)]
        omega
      · rw [ptA_own (by rw [sset_1 (by omega)]; exact hopen), ptA_own hopen, if_neg w0, if_neg w0, if_pos w1, if_pos w1, sset_e]
        omega
    · rw [if_neg c]
      exact Or.inl rfl
  rw [if_neg w1]
  by_cases w2 : T 314 (T 312 p + k) = 2 ∨ T 314 (T 312 p + k) = 3
  · rw [if_pos w2]
    obtain ⟨v, r, q1, q2⟩ := ahead_ok hN hG hp9 hFk hg
    rw [q1]
    refine ⟨_, r, rfl, QP.pass hopen (by omega) (QC.ofAP hfr hk5 q2) q2.2.2.2.2 ?_⟩
    simp only
    by_cases c : v = (-9223372036854775808)
    · rw [if_pos c]; exact Or.inl rfl
    · rw [if_neg c]
      refine Or.inr ⟨c, ?_⟩
      split <;> exact w32_in _
  rw [if_neg w2]
  by_cases w4 : T 314 (T 312 p + k) = 4
  · rw [if_pos w4]
    by_cases c0 : n = 0
    · rw [if_pos c0]
      exact ⟨_, s, rfl, hrf, Or.inl rfl⟩
    · rw [if_neg c0]
      obtain ⟨v, r, q1, q2⟩ := ahead_ok hN hG hp9 hFk hg
      rw [q1]
      refine ⟨_, r, rfl, QP.pass hopen (by omega) (QC.ofAP hfr hk5 q2) q2.2.2.2.2 ?_⟩
      simp only
      by_cases c : v = (-9223372036854775808)
      · rw [if_pos c]; exact Or.inl rfl
      · rw [if_neg c]
        refine Or.inr ⟨c, ?_⟩
        rcases q2.2.2.2.2 with q | ⟨q, _⟩
        · exact absurd q c
        · exact w_tmod q hn9
  rw [if_neg w4]
  by_cases w5 : T 314 (T 312 p + k) = 5
  · rw [if_pos w5]
    obtain ⟨v, r, q1, q2⟩ := keeps_ok (n := n) hfr hN 200 s (by have := ptA_le hFk.2; omega) hG hp9 hFk hg
    refine ⟨v, r, q1, QP.pass hopen (by omega) (QC.ofAP hfr hk5 q2) q2.2.2.2.2 ?_⟩
    rcases q2.2.2.2.2 with q | ⟨q, _⟩
    · exact Or.inl q
    · exact Or.inr ⟨fun z => no32 (z ▸ q), q⟩
  rw [if_neg w5]
  by_cases w6 : T 314 (T 312 p + k) = 6
  · rw [if_pos w6]
    have hx : ∃ v r, (if s 326 (6 * fr + k) < n then aheadS nx s fr k else some ((-9223372036854775808), s)) = some (v, r) ∧ QC T s r fr p k ∧ (v = (-9223372036854775808) ∨ in32 v ∧ ptA T r fr p k + 1 ≤ ptA T s fr p k ∧ 1 ≤ ptA T r fr p k) := by
      by_cases c : s 326 (6 * fr + k) < n
      · obtain ⟨v, r, q1, q2⟩ := ahead_ok hN hG hp9 hFk hg
        exact ⟨v, r, by rw [if_pos c]; exact q1, QC.ofAP hfr hk5 q2, q2.2.2.2.2⟩
      · exact ⟨_, s, by rw [if_neg c], hrf, Or.inl rfl⟩
    obtain ⟨v, r, q1, q2, q3⟩ := hx
    rw [q1]
    refine ⟨v, _, rfl, QP.pass (v := v) hopen (by omega) (q2.put (Or.inl rfl)) ?_ ?_⟩
    · rw [ptA_eq (s := r) (fun j' _ _ => ⟨sset_2 (by omega), sset_1 (by omega)⟩)]
      exact q3
    · rcases q3 with q | ⟨q, _⟩
      · exact Or.inl q
      · exact Or.inr ⟨fun z => no32 (z ▸ q), q⟩
  rw [if_neg w6]
  by_cases w7 : T 314 (T 312 p + k) = 7
  · rw [if_pos w7]
    by_cases c : s 326 (6 * fr + k) = 1
    · rw [if_pos c]
      exact ⟨_, s, rfl, hrf, Or.inl rfl⟩
    · rw [if_neg c]
      have hQ1 : QC T s (sset s 326 (6 * fr + k) 1) fr p k := hrf.put (Or.inl rfl)
      have hp2 : (sset s 326 (6 * fr + k) 1) 323 fr = p := by rw [sset_1 (by omega)]; exact hp9
      have hg2 : (sset s 326 (6 * fr + k) 1) 307 33 = g := by rw [sset_1 (by omega)]; exact hg
      obtain ⟨z, r, q1, q2, q3⟩ := sums_ok hfr hN 200 0 (sset s 326 (6 * fr + k) 1) (by unfold in32; omega) (by have := ptA_le hQ1.2.2.1.2; omega) hQ1.2.1 hp2 hQ1.2.2.1 hg2
      have hQ2 := hQ1.trans (QC.ofAP hfr hk5 q3)
      have h26 : r 326 (6 * fr + k) = 1 := by rw [q3.1 _ _ (tch_own hfr (by omega) (by omega)), sset_e]
      have h27 : r 327 (6 * fr + k) = 0 := by rw [hQ2.1 _ _ (Or.inr ⟨rfl, rfl⟩)]; exact hopen
      refine ⟨z, r, q1, hQ2, Or.inr ⟨q2, ?_, ?_⟩⟩
      · unfold SO
        omega
      · rw [ptA_own h27, ptA_own hopen]
        simp (disch := omega) only [if_pos, if_neg]
        omega
  rw [if_neg w7]
  by_cases w8 : T 314 (T 312 p + k) = 8
  · rw [if_pos w8]
    have e15 : s 315 (T 312 p + k) = T 315 (T 312 p + k) := hG.1 _ _ (by omega)
    have h15 := hP.w.2.2 k (by omega) hk9 w8
    obtain ⟨z, r, q1, q2, q3⟩ := sets_ok hfr hN 200 none s (by simp) (by have := ptA_le hFk.2; omega) hG hp9 hFk hg
    rw [e15, grd_ok h15, q1]
    refine ⟨_, _, rfl, ?_, Or.inl rfl⟩
    show QC T s (putS z r (T 315 (T 312 p + k)) fr k) fr p k
    have hQ2 := QC.ofAP hfr hk5 q3
    cases z with
    | none => exact hQ2
    | some x => exact (hQ2.val (q2 x rfl)).put (Or.inr rfl)
  rw [if_neg w8]
  by_cases w9 : T 314 (T 312 p + k) = 9 ∨ T 314 (T 312 p + k) = 10
  · rw [if_pos w9]
    exact ⟨_, s, rfl, hrf, Or.inl rfl⟩
  rw [if_neg w9]
  have hk0 : k = 0 := by
    rcases Nat.eq_zero_or_pos k with q | q
    · exact q
    · have := hP.w.2.1 k (by omega) hk9
      omega
  subst hk0
  have e0 : (6 * fr + ((0 : Nat) : Int)) = 6 * fr := by omega
  have e00 : (T 312 p + ((0 : Nat) : Int)) = T 312 p := by omega
  rw [e00] at t3 t4 w0 w1 w2 w4 w5 w6 w7 w8 w9 hSO ⊢
  rw [e0] at hopen hSO
  obtain ⟨t, q1, q2, q3⟩ := inner_ok (n := n) hfr hT hP hL hFn hg4 hG hF hg (by omega) hn9
  unfold withinS
  rw [q1]
  have hb := hSO.2.2 (by omega)
  have h330 := q2.2.2.1.1
  have e1 : w32 (t 326 (6 * fr) + 1) = s 326 (6 * fr) + 1 := by rw [q3]; exact w32_id (by omega) (by omega)
  have h27 : t 327 (6 * fr) = 0 := by
    rw [q2.1 327 (6 * fr) (Or.inr ⟨rfl, by omega⟩)]
    exact hopen
  have hput := q2.put (o := 326) (x := s 326 (6 * fr) + 1) (Or.inl rfl)
  rw [e0] at hput
  have hgr : (0 ≤ t 326 (6 * fr) ∧ t 326 (6 * fr) ≤ 60) ∧ 0 ≤ t 330 fr ∧ t 330 fr ≤ 60 := ⟨by omega, h330⟩
  refine ⟨_, _, grd_ok hgr, by rw [e1]; exact hput, ?_⟩
  · rw [e1, sset_e]
    by_cases c : s 326 (6 * fr) + 1 ≤ (sset t 326 (6 * fr) (s 326 (6 * fr) + 1)) 330 fr
    · rw [if_pos c]
      rw [sset_1 (by omega)] at c
      refine Or.inr ⟨by rw [sset_1 (by omega)]; exact q2.2.1.2.2.2.2.2.2 _, ?_, ?_⟩
      · unfold SO
        rw [e0, e00, sset_e, sset_1 (by omega)]
        omega
      · rw [ptA_own (by rw [e0, sset_1 (by omega)]; exact h27), ptA_own (by rw [e0]; exact hopen), e0, e00, sset_e]
        simp (disch := omega) only [if_neg]
        omega
    · rw [if_neg c]
      exact Or.inl rfl
theorem nexts_ok {T : Sg} (hT : TOK T) : ∀ (n : Nat) (fr p g : Int) (e k L : Nat), (0 ≤ g ∧ g ≤ 4) → (L : Int) = 4 * (4 - g) + e → 7 * L + k + 1 ≤ n → (0 ≤ fr ∧ fr < 24 ∧ fr + L ≤ 23 ∨ 24 ≤ fr ∧ fr < 28 ∧ L ≤ 23) → POK T e p → (k : Int) < T 313 p → NXG (nextS n) T fr p k g
  | 0, fr, p, g, e, k, L, _, _, h, _, _, _ => by omega
  | n + 1, fr, p, g, e, k, L, hg, hL, hn9, hfr, hP, hk9 => by
    intro s hG hp9 hF hgo
    have hPT := hP.w.1
    have hsz := hPT.2.2.2.1
    have hfr2 : 0 ≤ fr ∧ fr < 28 := by omega
    have hN : ∀ m, k = m + 1 → NXG (nextS n) T fr p m g := fun m em => nexts_ok hT n fr p g e m L hg hL (by omega) hfr hP (by omega)
    have hc : ∀ q : Nat, q + 1 ≤ L → (0 ≤ childS fr ∧ childS fr < 24 ∧ childS fr + q ≤ 23 ∨ 24 ≤ childS fr ∧ childS fr < 28 ∧ q ≤ 23) ∧ (0 ≤ childS fr ∧ childS fr < 24) ∧ fr < 28 ∧ (fr < childS fr ∨ 24 ≤ fr) := fun q hq => by
      unfold childS
      split <;> omega
    have hgo1 : ∀ e', e = e' + 1 → GOK (nextS n) T (childS fr) fr g e' := fun e' ee => by
      obtain ⟨c1, c2, c3⟩ := hc (L - 1) (by omega)
      exact goes_ok hT c2 c3 (fun p' k' hP' hk' => nexts_ok hT n (childS fr) p' g e' k' (L - 1) hg (by omega) (by have := hP'.w.1.2.2.2.1; omega) c1 hP' hk')
    have hgo2 : g < 4 → GOK (nextS n) T (childS fr) fr (g + 1) 3 := fun h4 => by
      obtain ⟨c1, c2, c3⟩ := hc (4 * (4 - (g + 1)) + 3).toNat (by omega)
      exact goes_ok hT c2 c3 (fun p' k' hP' hk' => nexts_ok hT n (childS fr) p' (g + 1) 3 k' (4 * (4 - (g + 1)) + 3).toNat (by omega) (by omega) (by have := hP'.w.1.2.2.2.1; omega) c1 hP' hk')
    have hPs : PTB s p := hG.ptb.mpr hPT
    have hkk := hF.2 k (by omega)
    have est : stAt s p k = T 312 p + k := by
      rw [stAt_id hPs (by rw [hG.1 313 p (by omega)]; omega), hG.1 312 p (by omega)]
    have hguard : (0 ≤ fr ∧ fr < 28) ∧ (0 ≤ (k : Int) ∧ (k : Int) < s 313 (s 323 fr)) ∧ PTB s (s 323 fr) ∧ (s 327 (6 * fr + k) = 0 ∨ s 327 (6 * fr + k) = 1) := by
      rw [hp9, hG.1 313 p (by omega)]
      exact ⟨hfr2, ⟨by omega, hk9⟩, hPs, hkk.1⟩
    unfold nextS
    rw [grd_ok hguard, hp9, est]
    by_cases c : s 327 (6 * fr + k) = 0
    · rw [if_neg (by omega)]
      obtain ⟨v, r, q1, q2, q3⟩ := asked_ok hfr2 hT hP hk9 hN hgo1 hgo2 hg hG hp9 hF hgo c (hG.2.2.2.2.2.1 (24 * fr + 4 * k))
      rw [q1]
      have eset : ∀ x, ptA T (sset r 327 (6 * fr + k) x) fr p k = ptA T r fr p k := fun x => ptA_eq (fun j _ _ => ⟨sset_1 (by omega), sset_2 (by omega)⟩)
      have hlow : ∀ x (j : Nat), j < k → SO T (sset r 327 (6 * fr + k) x) fr p j := fun x j hj => SO_eq (sset_1 (by omega)) (sset_2 (by omega)) (q2.2.2.1.2 j hj)
      have hlow2 : ∀ x (j : Nat), j ≤ k → ptA T (sset r 327 (6 * fr + k) x) fr p j ≤ ptA T s fr p j := fun x j hj => by
        rw [ptA_eq (s := r) (fun j _ _ => ⟨sset_1 (by omega), sset_2 (by omega)⟩)]
        exact q2.2.2.2 j hj
      have hfrm : ∀ x o j, ¬ TCH fr k o j → (sset r 327 (6 * fr + k) x) o j = s o j := fun x o j q => by
        unfold sset
        rw [if_neg]
        · exact q2.1 o j (Or.inl q)
        · intro z
          apply q
          unfold TCH
          omega
      have hpo := ptA_pos (T := T) (p := p) c
      have e27 : r 327 (6 * fr + k) = 0 := (q2.1 _ _ (Or.inr ⟨rfl, rfl⟩)).trans c
      refine ⟨v, sset r 327 (6 * fr + k) (if v = (-9223372036854775808) then 1 else 0), rfl, ?_⟩
      rcases q3 with q3 | ⟨q3, q4, q5⟩
      · rw [if_pos q3]
        have hend : ptA T (sset r 327 (6 * fr + k) 1) fr p (k + 1) = 0 := ptA_end (by rw [sset_e]; omega)
        refine ⟨hfrm 1, q2.2.1.set (by omega) (by omega) (by omega), ⟨by rw [sset_1 (by omega)]; exact q2.2.2.1.1, fun j hj => ?_⟩, fun j hj => ?_, fun _ => by rw [hend]; omega, Or.inl ⟨q3, sset_e⟩⟩
        · by_cases ej : j = k
          · subst ej
            unfold SO
            rw [sset_e]
            omega
          · exact hlow 1 j (by omega)
        · by_cases ej : j = k + 1
          · subst ej
            rw [hend]
            exact Nat.zero_le _
          · exact hlow2 1 j (by omega)
      · rw [if_neg (fun (z : v = (-9223372036854775808)) => no32 (z ▸ q3))]
        have e0 : sset r 327 (6 * fr + k) 0 = r := by
          funext o j
          unfold sset
          split
          · next z => rw [z.1, z.2, e27]
          · rfl
        refine ⟨hfrm 0, ?_⟩
        rw [e0]
        refine ⟨q2.2.1, ⟨q2.2.2.1.1, fun j hj => ?_⟩, fun j hj => ?_, fun _ => q5, Or.inr ⟨q3, e27, c⟩⟩
        · by_cases ej : j = k
          · subst ej
            exact q4
          · exact q2.2.2.1.2 j (by omega)
        · by_cases ej : j = k + 1
          · subst ej
            omega
          · exact q2.2.2.2 j (by omega)
    · rw [if_pos c]
      refine ⟨_, s, rfl, fun _ _ _ => rfl, hG, hF, fun _ _ => Nat.le_refl _, fun z => absurd z c, Or.inl ⟨rfl, ?_⟩⟩
      rcases hkk.1 with q | q
      · exact absurd q c
      · exact q
/-- what a run may write -/
def TCR (o j : Int) : Prop := TCG 0 (-1) o j ∨ (o = 307 ∧ (j = 33 ∨ j = 37))
theorem run_goes {T : Sg} (hT : TOK T) {n : Nat} (hn9 : 139 ≤ n) : GOK (nextS n) T 0 (-1) 0 3 :=
  goes_ok hT (by omega) (by omega) (fun p k hP hk9 => nexts_ok hT n 0 p 0 3 k 19 (by omega) (by omega) (by have := hP.w.1.2.2.2.1; omega) (by omega) hP hk9)
theorem runs_ok {T : Sg} (hT : TOK T) {n : Nat} (hn9 : 139 ≤ n) {s : Sg} {l : Int} (hG : GI T s) (hl9 : 0 ≤ l ∧ l < 8) (hC : CH T (POK T 3) 100 (T 309 (60 * l))) (htr : s 307 15 < 0 ∨ (s 307 15 < 8 ∧ CH T (POK T 3) 100 (T 309 (60 * s 307 15)))) :
    ∃ t, runsS n l s = some t ∧ GI T t ∧ ∀ o j, ¬ TCR o j → t o j = s o j := by
  have hG0 : GI T (sset (sset (sset (sset s 307 32 60) 307 33 0) 307 34 0) 307 36 0) := (((hG.set (by omega) (by omega) (by omega)).set (by omega) (by omega) (by omega)).set (by omega) (by omega) (by omega)).set (by omega) (by omega) (by omega)
  obtain ⟨z1, r1, q1, q2⟩ := run_goes hT hn9 _ (60 * l) 0 hG0 (by rw [sset_2 (by omega), sset_2 (by omega), sset_e]) (by omega) hC (by unfold in32; omega) (by omega)
  have f1 : ∀ o j, ¬ TCR o j → r1 o j = s o j := fun o j q => by
    rw [q2.1 o j (fun z => q (Or.inl z))]
    unfold TCR TCG at q
    unfold sset
    rw [if_neg (by omega), if_neg (by omega), if_neg (by omega), if_neg (by omega)]
  have h33 : r1 307 33 = 0 := by
    rw [q2.1 _ _ tcg_going, sset_2 (by omega), sset_2 (by omega), sset_e]
  have h15 : r1 307 15 = s 307 15 := f1 _ _ (by unfold TCR TCG TCL; omega)
  have f2 : ∀ o j, ¬ TCR o j → (sset r1 307 37 z1) o j = s o j := fun o j q => by
    unfold sset
    rw [if_neg]
    · exact f1 o j q
    · intro z
      apply q
      unfold TCR
      omega
  have hG1 : GI T (sset r1 307 37 z1) := q2.2.1.set (by omega) (by omega) (by omega)
  unfold runsS
  simp only
  rw [q1]
  show ∃ t, (if (sset r1 307 37 z1) 307 37 ≠ 0 ∧ 0 ≤ (sset r1 307 37 z1) 307 15 then (goesS (nextS n) (60 * (sset r1 307 37 z1) 307 15) 0 0 (-1) (sset r1 307 37 z1)).bind fun r2 => some r2.2 else some (sset r1 307 37 z1)) = some t ∧ _
  by_cases c : (sset r1 307 37 z1) 307 37 ≠ 0 ∧ 0 ≤ (sset r1 307 37 z1) 307 15
  · rw [if_pos c]
    have e15 : (sset r1 307 37 z1) 307 15 = s 307 15 := by rw [sset_2 (by omega)]; exact h15
    rw [e15] at c ⊢
    rcases htr with q | ⟨q5, q6⟩
    · omega
    · obtain ⟨z2, r2, q3, q4⟩ := run_goes hT hn9 _ (60 * s 307 15) 0 hG1 (by rw [sset_2 (by omega)]; exact h33) (by omega) q6 (by unfold in32; omega) (by omega)
      rw [q3]
      exact ⟨r2, rfl, q4.2.1, fun o j q => (q4.1 o j (fun z => q (Or.inl z))).trans (f2 o j q)⟩
  · rw [if_neg c]
    exact ⟨_, rfl, hG1, f2⟩
