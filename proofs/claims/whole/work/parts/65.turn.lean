/-! ===== a job's turn: it comes back; class and reference keep step ===== -/
def JP (T : Sg) (j : Int) (s : Sg) (m1 : Nat) : Prop := (s 336 j = 0 ∧ CH T (POK T 3) m1 (s 335 j)) ∨ (s 336 j = 1 ∧ (0 ≤ s 335 j ∧ s 335 j < 480) ∧ POK T 3 (s 335 j) ∧ s 323 (24 + j) = s 335 j ∧ (∃ K : Nat, (K : Int) = T 313 (s 335 j) - 1 ∧ FX T s (24 + j) (s 335 j) (K + 1)) ∧ CH T (POK T 3) m1 (T 310 (s 335 j)))
def TCJ (j o i : Int) : Prop := TCH (24 + j) 5 o i ∨ TCB (24 + j) o i ∨ ((o = 335 ∨ o = 336 ∨ o = 337) ∧ i = j)
def TPO (T : Sg) (j : Int) (s t : Sg) (x : Int) (m1 : Nat) : Prop := GI T t ∧ t 307 33 = 0 ∧ (∀ o i, ¬ TCJ j o i → t o i = s o i) ∧ (x = (-9223372036854775808) ∨ in32 x ∧ t 336 j = 1 ∧ ∃ m1', m1' ≤ m1 ∧ JP T j t m1')
theorem tcj_s {j o i : Int} (h : o < 320 ∨ o = 321 ∨ o = 322 ∨ (330 < o ∧ o < 335) ∨ 337 < o) (h2 : ¬ (o = 307 ∧ (i = 32 ∨ i = 34))) : ¬ TCJ j o i := by
  unfold TCJ TCH TCB TCL
  omega
theorem FXs {T s s' : Sg} {fr p : Int} {k : Nat} (h : FX T s fr p k) (h1 : s' 330 fr = s 330 fr) (h2 : ∀ o i, (o = 326 ∨ o = 327) → s' o i = s o i) : FX T s' fr p k :=
  ⟨by rw [h1]; exact h.1, fun i hi => SO_eq (h2 _ _ (Or.inl rfl)) (h2 _ _ (Or.inr rfl)) (h.2 i hi)⟩
/-- a pipe of a job has begun -/
theorem jbeg {T s : Sg} {j p : Int} (hT : TOK T) (hj : 0 ≤ j ∧ j ≤ 3) (hG : GI T s) (hf : s 307 32 ≠ 0) (hP : POK T 3 p) : GI T (beginsS (sset s 307 32 (w32 (s 307 32 - 1))) (24 + j) p 0) ∧ beginsS (sset s 307 32 (w32 (s 307 32 - 1))) (24 + j) p 0 323 (24 + j) = p ∧ (∀ K : Nat, (K : Int) = T 313 p - 1 → FX T (beginsS (sset s 307 32 (w32 (s 307 32 - 1))) (24 + j) p 0) (24 + j) p (K + 1)) ∧
    (∀ o i, ¬ TCB (24 + j) o i → (o ≠ 307 ∨ i ≠ 32) → beginsS (sset s 307 32 (w32 (s 307 32 - 1))) (24 + j) p 0 o i = s o i) := by
  have hPT := hP.w.1
  have hsz := hPT.2.2.1
  have hfu := hG.2.1
  have e32 : w32 (s 307 32 - 1) = s 307 32 - 1 := w32_id (by omega) (by omega)
  have hG0 : GI T (sset s 307 32 (w32 (s 307 32 - 1))) := hG.set (by omega) (by omega) (fun _ q => by rw [e32]; omega)
  have hPs : PTB (sset s 307 32 (w32 (s 307 32 - 1))) p := hG0.ptb.mpr hPT
  obtain ⟨b1, ⟨b2, b3, b4⟩, b5⟩ := begins_v (fr := 24 + j) (par := 0) hPs
  have e13s : (sset s 307 32 (w32 (s 307 32 - 1))) 313 p = T 313 p := hG0.1 313 p (by omega)
  refine ⟨begins_GI hT hG0 hPs (by unfold in32; omega), b2, fun K hK => ⟨by rw [b4]; omega, fun i hi => ?_⟩, fun o i q1 q2 => ?_⟩
  · obtain ⟨q1, q2, _⟩ := b5 i (by omega) (by rw [e13s]; omega)
    unfold SO
    rw [q1, q2]
    omega
  · rw [b1 o i q1]
    unfold sset
    rw [if_neg (by omega)]
theorem turn_ok {T : Sg} {n : Nat} {j : Int} (hT : TOK T) (hn9 : 139 ≤ n) (hj : 0 ≤ j ∧ j ≤ 3) : ∀ (m m1 : Nat) (s : Sg), 2 * m1 + 1 + (s 336 j).toNat ≤ m → GI T s → s 307 33 = 0 → JP T j s m1 → ∃ x t, turnL (nextS n) j m s = some (x, t) ∧ TPO T j s t x m1
  | 0, m1, s, h, _, _, _ => by omega
  | m + 1, m1, s, h, hG, hg, hJ => by
    rcases hJ with ⟨g0, hCH⟩ | ⟨g1, hp9, hP, h323, ⟨K, hK, hF⟩, hCH⟩
    · by_cases c1 : s 335 j < 0
      · refine ⟨(-9223372036854775808), s, ?_, hG, hg, fun _ _ _ => rfl, Or.inl rfl⟩
        unfold turnL
        rw [if_pos c1]
      · cases m1 with
        | zero => have : s 335 j = -1 := hCH; omega
        | succ m1 =>
          rcases hCH with e1 | ⟨hp9, hP, hC2⟩
          · omega
          · have hPs : PTB s (s 335 j) := hG.ptb.mpr hP.w.1
            have e10 : s 310 (s 335 j) = T 310 (s 335 j) := hG.1 _ _ (by omega)
            have hcase : ∃ x t, turnL (nextS n) j m (jobBegS s j) = some (x, t) ∧ TPO T j s t x (m1 + 1) := by
              unfold jobBegS
              by_cases c2 : onS (s 311 (s 335 j)) (s 337 j) = false
              · rw [if_pos c2]
                obtain ⟨x, t, q1, q2, q3, q4, q5⟩ := turn_ok hT hn9 hj m m1 (sset s 335 j (s 310 (s 335 j))) (by rw [sset_1 (by omega), g0]; omega) (hG.set (by omega) (by omega) (by omega)) (by rw [sset_1 (by omega)]; exact hg) (Or.inl ⟨by rw [sset_1 (by omega)]; exact g0, by rw [sset_e, e10]; exact hC2⟩)
                refine ⟨x, t, q1, q2, q3, fun o i q => ?_, ?_⟩
                · rw [q4 o i q]
                  unfold sset
                  rw [if_neg (fun z => q (Or.inr (Or.inr ⟨Or.inl z.1, z.2⟩)))]
                · rcases q5 with q5 | ⟨q5, q6, m', q7, q8⟩
                  · exact Or.inl q5
                  · exact Or.inr ⟨q5, q6, m', by omega, q8⟩
              · rw [if_neg c2]
                by_cases c3 : s 307 32 = 0
                · rw [if_pos c3]
                  obtain ⟨x, t, q1, q2, q3, q4, q5⟩ := turn_ok hT hn9 hj m m1 (sset (sset s 337 j 8) 335 j (s 310 (s 335 j))) (by rw [sset_1 (by omega), sset_1 (by omega), g0]; omega) ((hG.set (by omega) (by omega) (by omega)).set (by omega) (by omega) (by omega)) (by rw [sset_1 (by omega), sset_1 (by omega)]; exact hg) (Or.inl ⟨by rw [sset_1 (by omega), sset_1 (by omega)]; exact g0, by rw [sset_e, e10]; exact hC2⟩)
                  refine ⟨x, t, q1, q2, q3, fun o i q => ?_, ?_⟩
                  · rw [q4 o i q]
                    unfold sset
                    rw [if_neg (fun z => q (Or.inr (Or.inr ⟨Or.inl z.1, z.2⟩))), if_neg (fun z => q (Or.inr (Or.inr ⟨Or.inr (Or.inr z.1), z.2⟩)))]
                  · rcases q5 with q5 | ⟨q5, q6, m', q7, q8⟩
                    · exact Or.inl q5
                    · exact Or.inr ⟨q5, q6, m', by omega, q8⟩
                · rw [if_neg c3]
                  obtain ⟨b1, b2, b3, b4⟩ := jbeg hT hj hG c3 hP
                  have hsz := hP.w.1.2.2.1
                  obtain ⟨K, hK⟩ : ∃ K : Nat, (K : Int) = T 313 (s 335 j) - 1 := ⟨(T 313 (s 335 j) - 1).toNat, by omega⟩
                  have e335 : ∀ y, (sset (beginsS (sset s 307 32 (w32 (s 307 32 - 1))) (24 + j) (s 335 j) 0) 336 j y) 335 j = s 335 j := fun y => by
                    rw [sset_1 (by omega), b4 _ _ (by unfold TCB; omega) (by omega)]
                  obtain ⟨x, t, q1, q2, q3, q4, q5⟩ := turn_ok hT hn9 hj m m1 (sset (beginsS (sset s 307 32 (w32 (s 307 32 - 1))) (24 + j) (s 335 j) 0) 336 j 1) (by rw [sset_e, show (1 : Int).toNat = 1 by rfl]; omega) (b1.set (by omega) (by omega) (by omega)) (by rw [sset_1 (by omega), b4 _ _ (by unfold TCB; omega) (by omega)]; exact hg) (Or.inr ⟨sset_e, by rw [e335]; exact hp9, by rw [e335]; exact hP, by rw [e335, sset_1 (by omega)]; exact b2, ⟨K, by rw [e335]; exact hK, by rw [e335]; exact FXs (b3 K hK) (sset_1 (by omega)) (fun o i q => sset_1 (by omega))⟩, by rw [e335]; exact hC2⟩)
                  refine ⟨x, t, q1, q2, q3, fun o i q => ?_, ?_⟩
                  · rw [q4 o i q]
                    unfold sset
                    rw [if_neg (fun z => q (Or.inr (Or.inr ⟨Or.inr (Or.inl z.1), z.2⟩)))]
                    refine b4 o i (fun z => q (Or.inr (Or.inl z))) ?_
                    by_cases e9 : o = 307
                    · right
                      intro e8
                      exact q (Or.inl (Or.inr (Or.inl ⟨e9, Or.inl e8⟩)))
                    · exact Or.inl e9
                  · rcases q5 with q5 | ⟨q5, q6, m', q7, q8⟩
                    · exact Or.inl q5
                    · exact Or.inr ⟨q5, q6, m', by omega, q8⟩
            obtain ⟨x, t, q1, q2⟩ := hcase
            refine ⟨x, t, ?_, q2⟩
            unfold turnL
            rw [if_neg c1, grd_ok ⟨Or.inl g0, hPs⟩, if_pos g0]
            exact q1
    · have hPs : PTB s (s 335 j) := hG.ptb.mpr hP.w.1
      have hsz6 := hP.w.1.2.2.2.1
      obtain ⟨x, r, e1, n1, n2, n3, n4, n5, n6⟩ := nexts_ok hT n (24 + j) (s 335 j) 0 3 K 19 (by omega) (by omega) (by omega) (by omega) hP (by omega) s hG h323 hF hg
      have e13 : s 313 (s 335 j) - 1 = (K : Int) := by rw [hG.1 313 _ (by omega), hK]
      have r335 : r 335 j = s 335 j := n1 _ _ (by unfold TCH TCL; omega)
      have r336 : r 336 j = s 336 j := n1 _ _ (by unfold TCH TCL; omega)
      have r33 : r 307 33 = 0 := (n1 _ _ tch_going).trans hg
      have e10 : r 310 (s 335 j) = T 310 (s 335 j) := n2.1 _ _ (by omega)
      have fr0 : ∀ o i, ¬ TCJ j o i → r o i = s o i := fun o i q => n1 o i (fun z => q (Or.inl (tch_le (by omega) z)))
      by_cases c : x = (-9223372036854775808)
      · have hcase : ∃ y t, turnL (nextS n) j m (jobEnd r j K) = some (y, t) ∧ TPO T j s t y m1 := by
          unfold jobEnd
          rw [r335, e10]
          obtain ⟨y, t, q1, q2, q3, q4, q5⟩ := turn_ok hT hn9 hj m m1 (sset (sset (sset r 337 j (r 328 (6 * (24 + j) + K))) 336 j 0) 335 j (T 310 (s 335 j))) (by rw [sset_1 (by omega), sset_e]; have := g1; rw [g1] at h; simp only [Int.toNat_zero]; have e1 : (1 : Int).toNat = 1 := rfl; omega) (((n2.set (by omega) (by omega) (by omega)).set (by omega) (by omega) (by omega)).set (by omega) (by omega) (by omega)) (by rw [sset_1 (by omega), sset_1 (by omega), sset_1 (by omega)]; exact r33) (Or.inl ⟨by rw [sset_1 (by omega), sset_e], by rw [sset_e]; exact hCH⟩)
          refine ⟨y, t, q1, q2, q3, fun o i q => ?_, q5⟩
          rw [q4 o i q]
          unfold sset
          rw [if_neg (fun z => q (Or.inr (Or.inr ⟨Or.inl z.1, z.2⟩))), if_neg (fun z => q (Or.inr (Or.inr ⟨Or.inr (Or.inl z.1), z.2⟩))), if_neg (fun z => q (Or.inr (Or.inr ⟨Or.inr (Or.inr z.1), z.2⟩)))]
          exact fr0 o i q
        obtain ⟨y, t, q1, q2⟩ := hcase
        refine ⟨y, t, ?_, q2⟩
        unfold turnL
        rw [if_neg (by omega), grd_ok ⟨Or.inr g1, hPs⟩, if_neg (by omega), e13, e1, Option.bind_some]
        show (if x = (-9223372036854775808) then grd (0 ≤ r 335 j ∧ r 335 j < 480) (turnL (nextS n) j m (jobEnd r j K)) else some (x, r)) = some (y, t)
        rw [if_pos c, grd_ok (by rw [r335]; exact hp9)]
        exact q1
      · refine ⟨x, r, ?_, n2, r33, fr0, ?_⟩
        · unfold turnL
          rw [if_neg (by omega), grd_ok ⟨Or.inr g1, hPs⟩, if_neg (by omega), e13, e1, Option.bind_some]
          show (if x = (-9223372036854775808) then grd (0 ≤ r 335 j ∧ r 335 j < 480) (turnL (nextS n) j m (jobEnd r j K)) else some (x, r)) = some (x, r)
          rw [if_neg c]
        · rcases n6 with ⟨n6, _⟩ | ⟨n6, _⟩
          · exact absurd n6 c
          · refine Or.inr ⟨n6, r336.trans g1, m1, Nat.le_refl _, Or.inr ⟨r336.trans g1, by rw [r335]; exact hp9, by rw [r335]; exact hP, ?_, ⟨K, by rw [r335]; exact hK, by rw [r335]; exact n3⟩, by rw [r335]; exact hCH⟩⟩
            rw [r335]
            exact (n1 _ _ (tch_self (by omega))).trans h323
