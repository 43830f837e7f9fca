/-! ===== the reference's reader, purely: it always comes back; what it may write ===== -/
def INX (p0 p1 s0 s1 l0 l1 o i : Int) : Prop := (310 ≤ o ∧ o ≤ 313 ∧ p0 ≤ i ∧ i < p1) ∨ (314 ≤ o ∧ o ≤ 316 ∧ s0 ≤ i ∧ i < s1) ∨ (o = 317 ∧ 4 * s0 ≤ i ∧ i < 4 * s1) ∨ (o = 309 ∧ l0 ≤ i ∧ i < l1) ∨ (o = 307 ∧ 18 ≤ i ∧ i ≤ 23)
def FRX (p0 p1 s0 s1 l0 l1 : Int) (s t : Sg) : Prop := ∀ o i, ¬ INX p0 p1 s0 s1 l0 l1 o i → t o i = s o i
theorem FRX.rf {p0 p1 s0 s1 l0 l1 : Int} {s : Sg} : FRX p0 p1 s0 s1 l0 l1 s s := fun _ _ _ => rfl
theorem FRX.tr {p0 p1 s0 s1 l0 l1 : Int} {s r t : Sg} (h : FRX p0 p1 s0 s1 l0 l1 s r) (g : FRX p0 p1 s0 s1 l0 l1 r t) : FRX p0 p1 s0 s1 l0 l1 s t := fun o i q => (g o i q).trans (h o i q)
theorem FRX.mn {p0 p1 s0 s1 l0 l1 q0 q1 r0 r1 k0 k1 : Int} {s t : Sg} (h : FRX p0 p1 s0 s1 l0 l1 s t) (h1 : q0 ≤ p0 ∧ p1 ≤ q1) (h2 : r0 ≤ s0 ∧ s1 ≤ r1) (h3 : k0 ≤ l0 ∧ l1 ≤ k1) : FRX q0 q1 r0 r1 k0 k1 s t := fun o i q => h o i (fun z => q (by unfold INX at z ⊢; omega))
theorem INX.mn {p0 p1 s0 s1 l0 l1 q0 q1 r0 r1 k0 k1 o i : Int} (h : INX p0 p1 s0 s1 l0 l1 o i) (h1 : q0 ≤ p0 ∧ p1 ≤ q1) (h2 : r0 ≤ s0 ∧ s1 ≤ r1) (h3 : k0 ≤ l0 ∧ l1 ≤ k1) : INX q0 q1 r0 r1 k0 k1 o i := by
  unfold INX at h ⊢
  omega
theorem FRX.st {p0 p1 s0 s1 l0 l1 o i x : Int} {s t : Sg} (h : FRX p0 p1 s0 s1 l0 l1 s t) (hin : INX p0 p1 s0 s1 l0 l1 o i) : FRX p0 p1 s0 s1 l0 l1 s (sset t o i x) := fun o' i' q => by
  unfold sset
  rw [if_neg (fun z => q (by rw [z.1, z.2]; exact hin))]
  exact h o' i' q
theorem FRX.k {p0 p1 s0 s1 l0 l1 i : Int} {s t : Sg} (h : FRX p0 p1 s0 s1 l0 l1 s t) (hi : i < 18 ∨ 23 < i) : t 307 i = s 307 i := h 307 i (by unfold INX; omega)
theorem RB.fr {p0 p1 s0 s1 l0 l1 : Int} {s t : Sg} (h : RB s) (g : FRX p0 p1 s0 s1 l0 l1 s t) (h18 : 0 ≤ t 307 18 ∧ t 307 18 ≤ s 307 17) (h20 : 0 ≤ t 307 20 ∧ t 307 20 < 60) (h21 : 0 ≤ t 307 21 ∧ t 307 21 < 60) (h22 : 0 ≤ t 307 22 ∧ t 307 22 < 60) : RB t := by
  obtain ⟨⟨a1, a2, a3⟩, a4, a5, a6⟩ := h
  have e17 := g.k (i := 17) (by omega)
  have e12 := g.k (i := 12) (by omega)
  refine ⟨⟨?_, ?_, ?_⟩, ⟨h20, h21, h22⟩, fun k k1 k2 => ?_, fun j j1 j2 => ?_⟩
  · rw [e17]; exact a1
  · rw [e17]; exact h18
  · rw [e12]; exact a3
  · rw [e17] at k2
    rw [g 322 k (by unfold INX; omega)]; exact a5 k k1 k2
  · rw [g 308 j (by unfold INX; omega)]; exact a6 j j1 j2
theorem bt_lt {s : Sg} {k : Int} (h : btS s k ≠ -1) : k < s 307 17 := by
  unfold btS at h
  split at h
  · assumption
  · exact absurd rfl h
theorem digN_all {s : Sg} {a : Int} : ∀ j : Nat, (j : Int) < digN s a → 48 ≤ btS s (a + j) ∧ btS s (a + j) ≤ 57 := by
  intro j hj
  have e0 : j = 0 → a + (j : Int) = a := fun q => by omega
  have e1 : j = 1 → a + (j : Int) = a + 1 := fun q => by omega
  have e2 : j = 2 → a + (j : Int) = a + 2 := fun q => by omega
  unfold digN at hj
  by_cases c0 : 48 ≤ btS s a ∧ btS s a ≤ 57
  · rw [if_neg (fun z => z c0)] at hj
    by_cases c1 : 48 ≤ btS s (a + 1) ∧ btS s (a + 1) ≤ 57
    · rw [if_neg (fun z => z c1)] at hj
      by_cases c2 : 48 ≤ btS s (a + 2) ∧ btS s (a + 2) ≤ 57
      · rw [if_neg (fun z => z c2)] at hj
        rcases (show j = 0 ∨ j = 1 ∨ j = 2 by omega) with q | q | q
        · rw [e0 q]; exact c0
        · rw [e1 q]; exact c1
        · rw [e2 q]; exact c2
      · rw [if_pos c2] at hj
        rcases (show j = 0 ∨ j = 1 by omega) with q | q
        · rw [e0 q]; exact c0
        · rw [e1 q]; exact c1
    · rw [if_pos c1] at hj
      rw [e0 (by omega)]; exact c0
  · rw [if_pos c0] at hj
    omega
theorem numR_ok {s : Sg} {a : Int} (h : (numR s a).1 = true) : (numR s a).2.1 ≤ s 307 17 ∧ a + 1 ≤ (numR s a).2.1 ∧ -6 ≤ (numR s a).2.2 ∧ (numR s a).2.2 ≤ 999 := by
  unfold numR at h ⊢
  by_cases c : btS s a = 36
  · rw [if_pos c] at h ⊢
    by_cases c2 : ¬ (97 ≤ btS s (a + 1) ∧ btS s (a + 1) ≤ 101) ∧ btS s (a + 1) ≠ 112
    · rw [if_pos c2] at h
      exact absurd h Bool.false_ne_true
    · rw [if_neg c2]
      have hl := bt_lt (s := s) (k := a + 1) (by omega)
      refine ⟨?_, ?_, ?_, ?_⟩
      · show a + 1 + 1 ≤ s 307 17
        omega
      · show a + 1 ≤ a + 1 + 1
        omega
      · show -6 ≤ (if btS s (a + 1) = 112 then (-6 : Int) else -1 - (btS s (a + 1) - 97))
        split <;> omega
      · show (if btS s (a + 1) = 112 then (-6 : Int) else -1 - (btS s (a + 1) - 97)) ≤ 999
        split <;> omega
  · rw [if_neg c] at h ⊢
    by_cases c2 : digN s a = 0
    · rw [if_pos c2] at h
      exact absurd h Bool.false_ne_true
    · rw [if_neg c2]
      have hb := digN_b (s := s) (a := a)
      have ha := digN_all (s := s) (a := a)
      have hv := digV_b (s := s) (a := a) (digN s a).toNat (by omega) (fun j hj => ha j (by omega))
      have hl1 := ha ((digN s a).toNat - 1) (by omega)
      have hl := bt_lt (s := s) (k := a + (((digN s a).toNat - 1 : Nat) : Int)) (by omega)
      refine ⟨?_, ?_, ?_, ?_⟩
      · show a + digN s a ≤ s 307 17
        omega
      · show a + 1 ≤ a + digN s a
        omega
      · show -6 ≤ digV s a (digN s a).toNat
        omega
      · show digV s a (digN s a).toNat ≤ 999
        omega
theorem numS_fr {s : Sg} {st o i : Int} (h : ¬ ((o = 307 ∧ (i = 18 ∨ i = 19)) ∨ (o = 316 ∧ i = st) ∨ (o = 317 ∧ i = 4 * st + s 316 st))) : numS s st o i = s o i := by
  unfold numS putN
  split
  · rw [sset_1 (o := 307) (by omega)]
    unfold sset
    rw [if_neg (by omega), if_neg (by omega), if_neg (by omega)]
  · unfold sset
    rw [if_neg (by omega), if_neg (by omega)]
theorem numS_19 {s : Sg} {st : Int} (h : (numR s (s 307 18 + 1)).1 = false) : numS s st 307 19 = (numR s (s 307 18 + 1)).2.1 := by
  unfold numS
  rw [if_neg (by rw [h]; exact Bool.false_ne_true), sset_e]
theorem numS_v {s : Sg} {st : Int} (h : (numR s (s 307 18 + 1)).1 = true) : numS s st 317 (4 * st + s 316 st) = (numR s (s 307 18 + 1)).2.2 := by
  have e : (sset s 307 18 (numR s (s 307 18 + 1)).2.1) 316 st = s 316 st := sset_1 (by omega)
  unfold numS putN
  rw [if_pos h, e, sset_1 (o := 316) (by omega), sset_e]
/-- what a word that takes something may write -/
def WFR (st : Int) (s t : Sg) : Prop := ∀ o i, ¬ ((o = 307 ∧ (i = 18 ∨ i = 19)) ∨ ((o = 315 ∨ o = 316) ∧ i = st) ∨ (o = 317 ∧ 4 * st ≤ i ∧ i < 4 * st + 4)) → t o i = s o i
def NMB (s : Sg) (st : Int) : Prop := ∀ i, 0 ≤ i → i < s 316 st → -6 ≤ s 317 (4 * st + i) ∧ s 317 (4 * st + i) ≤ 999
theorem rd_num_ok {s : Sg} {st : Int} (h3 : 0 ≤ s 316 st ∧ s 316 st < 4) (hN : NMB s st) (h18 : 0 ≤ s 307 18 ∧ s 307 18 ≤ s 307 17 ∧ s 307 17 ≤ 100) : WFR st s (numS s st) ∧ s 307 18 + 1 ≤ numS s st 307 18 ∧ numS s st 307 18 ≤ 104 ∧ ((numR s (s 307 18 + 1)).1 = true → numS s st 307 18 ≤ s 307 17 ∧ numS s st 316 st = s 316 st + 1 ∧ NMB (numS s st) st) ∧ ((numR s (s 307 18 + 1)).1 = false → numS s st 307 19 = numS s st 307 18) := by
  have hb := numR_b (s := s) (a := s 307 18 + 1)
  refine ⟨fun o i q => numS_fr (by omega), ?_, ?_, fun h => ⟨?_, ?_, fun i i1 i2 => ?_⟩, fun h => ?_⟩
  · rw [numS_at]; omega
  · rw [numS_at]; omega
  · rw [numS_at]; exact (numR_ok h).1
  · rw [numS_many, if_pos h]
  · rw [numS_many, if_pos h] at i2
    by_cases e : i = s 316 st
    · subst e
      rw [numS_v h]
      exact ⟨(numR_ok h).2.2.1, (numR_ok h).2.2.2⟩
    · rw [numS_fr (by omega)]
      exact hN i i1 (by omega)
  · rw [numS_19 h, numS_at]
theorem rd_ech_ok {st w : Int} : ∀ (m : Nat) (g : Bool) (s : Sg), (0 ≤ s 316 st ∧ s 316 st ≤ 4) → 0 ≤ s 307 18 → s 307 18 ≤ 104 → s 307 17 ≤ 100 → (g = true → s 307 18 ≤ s 307 17 ∧ NMB s st) → (g = false → s 307 19 = s 307 18) →
    WFR st s (echS st w m g s).2 ∧ s 307 18 ≤ (echS st w m g s).2 307 18 ∧ (echS st w m g s).2 307 18 ≤ 104 ∧ (s 316 st ≤ (echS st w m g s).2 316 st ∧ (echS st w m g s).2 316 st ≤ 4) ∧ ((echS st w m g s).1 = true → (echS st w m g s).2 307 18 ≤ s 307 17 ∧ NMB (echS st w m g s).2 st) ∧ ((echS st w m g s).1 = false → (echS st w m g s).2 307 19 = (echS st w m g s).2 307 18) := by
  intro m
  induction m with
  | zero =>
    intro g s h1 h2 h3 h4 h5 h6
    exact ⟨fun _ _ _ => rfl, Int.le_refl _, h3, ⟨Int.le_refl _, h1.2⟩, h5, h6⟩
  | succ m ih =>
    intro g s h1 h2 h3 h4 h5 h6
    unfold echS
    by_cases c : g = true ∧ w = 0 ∧ btS s (s 307 18) = 32 ∧ s 316 st < 4
    · rw [if_pos c]
      obtain ⟨c1, c2, c3, c4⟩ := c
      obtain ⟨g1, g2⟩ := h5 c1
      obtain ⟨n1, n2, n3, n4, n5⟩ := rd_num_ok (s := s) (st := st) ⟨h1.1, c4⟩ g2 ⟨h2, g1, h4⟩
      have e17 : numS s st 307 17 = s 307 17 := n1 307 17 (by omega)
      have hm : s 316 st ≤ numS s st 316 st ∧ numS s st 316 st ≤ 4 := by
        rw [numS_many]
        split <;> omega
      obtain ⟨i1, i2, i3, i4, i5, i6⟩ := ih (numR s (s 307 18 + 1)).1 (numS s st) (by omega) (by omega) n3 (by omega) (fun q => by rw [e17]; exact ⟨(n4 q).1, (n4 q).2.2⟩) n5
      refine ⟨fun o i q => (i1 o i q).trans (n1 o i q), by omega, i3, ⟨by omega, i4.2⟩, fun q => ?_, i6⟩
      have := i5 q
      rw [e17] at this
      exact this
    · rw [if_neg c]
      exact ⟨fun _ _ _ => rfl, Int.le_refl _, h3, ⟨Int.le_refl _, h1.2⟩, h5, h6⟩
theorem ech_many {st w : Int} (hw : w ≠ 0) (m : Nat) (g : Bool) (s : Sg) : echS st w m g s = (g, s) := by
  cases m with
  | zero => rfl
  | succ m =>
    unfold echS
    rw [if_neg (fun z => hw z.2.1)]
theorem rd_whole_ok {s : Sg} {st w : Int} (h3 : s 316 st = 0) (h18 : 0 ≤ s 307 18 ∧ s 307 18 ≤ s 307 17 ∧ s 307 17 ≤ 100) : WFR st s (wholeS s st w).2 ∧ s 307 18 ≤ (wholeS s st w).2 307 18 ∧ (wholeS s st w).2 307 18 ≤ 104 ∧ ((wholeS s st w).1 = false → (wholeS s st w).2 307 19 = (wholeS s st w).2 307 18) ∧
    ((wholeS s st w).1 = true → (wholeS s st w).2 307 18 ≤ s 307 17 ∧ (0 ≤ (wholeS s st w).2 316 st ∧ (wholeS s st w).2 316 st ≤ 4) ∧ NMB (wholeS s st w).2 st ∧ (w = 8 → (wholeS s st w).2 316 st = 0 ∧ 0 ≤ (wholeS s st w).2 315 st ∧ (wholeS s st w).2 315 st < 5) ∧ ((w ≠ 7 ∧ w ≠ 8 ∧ w ≠ 9) → 1 ≤ (wholeS s st w).2 316 st) ∧ ((w ≠ 7 ∧ w ≠ 9) → s 307 18 + 1 ≤ (wholeS s st w).2 307 18)) := by
  have hN0 : ∀ t : Sg, t 316 st = 0 → NMB t st := fun t e i i1 i2 => by omega
  unfold wholeS
  by_cases c1 : w = 7 ∨ w = 9
  · rw [if_pos c1]
    refine ⟨fun _ _ _ => rfl, Int.le_refl _, by show s 307 18 ≤ 104; omega, fun q => absurd q.symm Bool.false_ne_true, fun _ => ⟨h18.2.1, by show 0 ≤ s 316 st ∧ s 316 st ≤ 4; omega, hN0 s h3, fun q => by omega, fun q => by omega, fun q => by omega⟩⟩
  · rw [if_neg c1]
    by_cases c2 : btS s (s 307 18) ≠ 32
    · rw [if_pos c2]
      refine ⟨fun o i q => ?_, ?_, ?_, fun _ => ?_, fun q => absurd q Bool.false_ne_true⟩
      · show sset s 307 19 (s 307 18) o i = s o i
        unfold sset
        rw [if_neg (by omega)]
      · show s 307 18 ≤ sset s 307 19 (s 307 18) 307 18
        rw [sset_2 (by omega)]; omega
      · show sset s 307 19 (s 307 18) 307 18 ≤ 104
        rw [sset_2 (by omega)]; omega
      · show sset s 307 19 (s 307 18) 307 19 = sset s 307 19 (s 307 18) 307 18
        rw [sset_e, sset_2 (by omega)]
    · rw [if_neg c2]
      have hlt := bt_lt (s := s) (k := s 307 18) (by omega)
      by_cases c3 : w = 8
      · rw [if_pos c3]
        by_cases c4 : ¬ (97 ≤ btS s (s 307 18 + 1) ∧ btS s (s 307 18 + 1) ≤ 101)
        · rw [if_pos c4]
          refine ⟨fun o i q => ?_, ?_, ?_, fun _ => ?_, fun q => absurd q Bool.false_ne_true⟩
          · show sset (sset (sset s 307 18 (s 307 18 + 1)) 315 st (btS s (s 307 18 + 1) - 97)) 307 19 (s 307 18 + 1) o i = s o i
            unfold sset
            rw [if_neg (by omega), if_neg (by omega), if_neg (by omega)]
          · show s 307 18 ≤ sset (sset (sset s 307 18 (s 307 18 + 1)) 315 st (btS s (s 307 18 + 1) - 97)) 307 19 (s 307 18 + 1) 307 18
            rw [sset_2 (by omega), sset_1 (by omega), sset_e]; omega
          · show sset (sset (sset s 307 18 (s 307 18 + 1)) 315 st (btS s (s 307 18 + 1) - 97)) 307 19 (s 307 18 + 1) 307 18 ≤ 104
            rw [sset_2 (by omega), sset_1 (by omega), sset_e]; omega
          · show sset (sset (sset s 307 18 (s 307 18 + 1)) 315 st (btS s (s 307 18 + 1) - 97)) 307 19 (s 307 18 + 1) 307 19 = sset (sset (sset s 307 18 (s 307 18 + 1)) 315 st (btS s (s 307 18 + 1) - 97)) 307 19 (s 307 18 + 1) 307 18
            rw [sset_e, sset_2 (by omega), sset_1 (by omega), sset_e]
        · rw [if_neg c4]
          have hl2 := bt_lt (s := s) (k := s 307 18 + 1) (by omega)
          generalize ht : sset (sset (sset s 307 18 (s 307 18 + 1)) 315 st (btS s (s 307 18 + 1) - 97)) 307 18 (s 307 18 + 1 + 1) = t
          have t18 : t 307 18 = s 307 18 + 1 + 1 := by rw [← ht, sset_e]
          have t315 : t 315 st = btS s (s 307 18 + 1) - 97 := by rw [← ht, sset_1 (by omega), sset_e]
          have t316 : t 316 st = 0 := by rw [← ht, sset_1 (by omega), sset_1 (by omega), sset_1 (by omega)]; exact h3
          refine ⟨fun o i q => ?_, ?_, ?_, fun q => absurd q.symm Bool.false_ne_true, fun _ => ⟨?_, ?_, hN0 t t316, fun _ => ⟨t316, ?_, ?_⟩, fun q => by omega, fun _ => ?_⟩⟩
          · show t o i = s o i
            rw [← ht]
            unfold sset
            rw [if_neg (by omega), if_neg (by omega), if_neg (by omega)]
          · show s 307 18 ≤ t 307 18
            omega
          · show t 307 18 ≤ 104
            omega
          · show t 307 18 ≤ s 307 17
            omega
          · show 0 ≤ t 316 st ∧ t 316 st ≤ 4
            omega
          · show 0 ≤ t 315 st
            omega
          · show t 315 st < 5
            omega
          · show s 307 18 + 1 ≤ t 307 18
            omega
      · rw [if_neg c3]
        obtain ⟨n1, n2, n3, n4, n5⟩ := rd_num_ok (s := s) (st := st) ⟨by omega, by omega⟩ (hN0 s h3) h18
        have e17 : numS s st 307 17 = s 307 17 := n1 307 17 (by omega)
        have hm : 0 ≤ numS s st 316 st ∧ numS s st 316 st ≤ 4 := by
          rw [numS_many]
          split <;> omega
        obtain ⟨i1, i2, i3, i4, i5, i6⟩ := rd_ech_ok (st := st) (w := w) 4 (numR s (s 307 18 + 1)).1 (numS s st) hm (by omega) n3 (by omega) (fun q => by rw [e17]; exact ⟨(n4 q).1, (n4 q).2.2⟩) n5
        refine ⟨fun o i q => (i1 o i q).trans (n1 o i q), by omega, i3, i6, fun q => ?_⟩
        have h5 := i5 q
        rw [e17] at h5
        refine ⟨h5.1, ⟨by omega, i4.2⟩, h5.2, fun z => absurd z c3, fun z => ?_, fun _ => by omega⟩
        have hg : (numR s (s 307 18 + 1)).1 = true := by
          cases hq : (numR s (s 307 18 + 1)).1 with
          | true => rfl
          | false =>
            rw [hq] at q
            have e : echS st w 4 false (numS s st) = (false, numS s st) := by
              unfold echS
              rw [if_neg (fun z => absurd z.1 Bool.false_ne_true)]
            rw [e] at q
            exact absurd q Bool.false_ne_true
        have := (n4 hg).2.1
        omega
theorem fst1_b {b : Nat → Bool} : ∀ {n : Nat}, 0 ≤ fst1 b n → b (fst1 b n).toNat = true
  | 0, h => by
    have e : fst1 b 0 = -1 := rfl
    omega
  | n + 1, h => by
    unfold fst1 at h ⊢
    by_cases c : fst1 b n = -1
    · rw [if_pos c] at h ⊢
      by_cases c2 : b n = true
      · rw [if_pos c2]
        exact c2
      · rw [if_neg c2] at h
        omega
    · rw [if_neg c] at h ⊢
      exact fst1_b h
theorem slen_tab : ∀ k, k < 14 → 1 ≤ sLen k ∧ (k = 7 → 3 ≤ sLen k) ∧ (k = 9 → 2 ≤ sLen k) := by decide +kernel
theorem wof_len {s : Sg} {f t : Int} (h : 0 ≤ wofS s f t) : f + 1 ≤ t ∧ ((wofS s f t = 7 ∨ wofS s f t = 9) → f + 2 ≤ t) := by
  have hb := wof_b (s := s) (f := f) (t := t)
  have h1 : mtS s f t (wofS s f t).toNat = true := fst1_b h
  unfold mtS at h1
  simp only [decide_eq_true_eq] at h1
  have h2 : (sLen (wofS s f t).toNat : Int) = t - f := h1.1
  obtain ⟨a1, a2, a3⟩ := slen_tab (wofS s f t).toNat (by omega)
  refine ⟨by omega, fun q => ?_⟩
  rcases q with q | q
  · have := a2 (by omega)
    omega
  · have := a3 (by omega)
    omega
def BDR (s : Sg) (c : Int) : Prop := RB s ∧ 2 * s 307 22 ≤ s 307 18 ∧ s 307 21 ≤ s 307 22 ∧ s 307 20 ≤ s 307 22 + c
def FRS (s t : Sg) : Prop := FRX (60 * s 307 12 + s 307 21) (60 * s 307 12 + t 307 21) (60 * s 307 12 + s 307 22) (60 * s 307 12 + t 307 22) (60 * s 307 12 + s 307 20) (60 * s 307 12 + t 307 20) s t
def MNS (s t : Sg) : Prop := s 307 20 ≤ t 307 20 ∧ s 307 21 ≤ t 307 21 ∧ s 307 22 ≤ t 307 22 ∧ s 307 18 ≤ t 307 18
def RQ (s t : Sg) (x dl pl : Int) : Prop := FRS s t ∧ MNS s t ∧ t 307 18 ≤ 110 ∧ (x < 0 → 0 ≤ t 307 19 ∧ t 307 19 ≤ t 307 18) ∧ (0 ≤ x → RB t ∧ 2 * (t 307 22 - s 307 22) ≤ t 307 18 - s 307 18 ∧ t 307 21 - s 307 21 + pl ≤ t 307 22 - s 307 22 ∧ t 307 20 - s 307 20 ≤ t 307 22 - s 307 22 + dl ∧ s 307 22 + 1 ≤ t 307 22)
theorem FRS.tr {s r t : Sg} (h : FRS s r) (g : FRS r t) (hm : MNS s r) (gm : MNS r t) : FRS s t := by
  have e12 : r 307 12 = s 307 12 := h.k (by omega)
  obtain ⟨m1, m2, m3, _⟩ := hm
  obtain ⟨n1, n2, n3, _⟩ := gm
  refine FRX.tr (r := r) (h.mn (by omega) (by omega) (by omega)) ?_
  have g2 := g
  unfold FRS at g2
  rw [e12] at g2
  exact g2.mn (by omega) (by omega) (by omega)
theorem MNS.tr {s r t : Sg} (h : MNS s r) (g : MNS r t) : MNS s t := by
  obtain ⟨m1, m2, m3, m4⟩ := h
  obtain ⟨n1, n2, n3, n4⟩ := g
  exact ⟨by omega, by omega, by omega, by omega⟩
theorem FRS.at {s : Sg} {x : Int} : FRS s (sset s 307 18 x) := FRX.rf.st (by unfold INX; omega)
theorem MNS.at {s : Sg} {x : Int} (h : s 307 18 ≤ x) : MNS s (sset s 307 18 x) := by
  refine ⟨?_, ?_, ?_, ?_⟩
  · rw [sset_2 (by omega)]; omega
  · rw [sset_2 (by omega)]; omega
  · rw [sset_2 (by omega)]; omega
  · rw [sset_e]; exact h
theorem RB.at {s : Sg} {x : Int} (h : RB s) (hx9 : 0 ≤ x ∧ x ≤ s 307 17) : RB (sset s 307 18 x) := by
  have h2 := h.2.1
  refine h.fr FRS.at ?_ ?_ ?_ ?_
  · rw [sset_e]; exact hx9
  · rw [sset_2 (by omega)]; exact h2.1
  · rw [sset_2 (by omega)]; exact h2.2.1
  · rw [sset_2 (by omega)]; exact h2.2.2
theorem newS_22 {s : Sg} {w : Int} : newS s w 307 22 = s 307 22 + 1 := by
  unfold newS
  rw [sset_1 (by omega), sset_1 (by omega), sset_1 (by omega), sset_e]
theorem newS_k {s : Sg} {w i : Int} (h : i ≠ 22) : newS s w 307 i = s 307 i := by
  unfold newS
  rw [sset_1 (by omega), sset_1 (by omega), sset_1 (by omega), sset_2 h]
theorem newS_fr {s : Sg} {w : Int} : FRS s (newS s w) := by
  intro o i q
  rw [newS_22] at q
  unfold INX at q
  unfold newS sset
  rw [if_neg (by omega), if_neg (by omega), if_neg (by omega), if_neg (by omega)]
theorem newS_mn {s : Sg} {w : Int} : MNS s (newS s w) := by
  refine ⟨?_, ?_, ?_, ?_⟩
  · rw [newS_k (by omega)]; omega
  · rw [newS_k (by omega)]; omega
  · rw [newS_22]; omega
  · rw [newS_k (by omega)]; omega
/-- a command, as the reference reads it: word w, letters up to e -/
theorem rd_cmd_ok {s : Sg} {e w : Int} (hR : RB s) (he : s 307 18 ≤ e ∧ e ≤ s 307 17) : FRS s (wholeS (newS (sset s 307 18 e) w) (60 * s 307 12 + s 307 22) w).2 ∧ MNS s (wholeS (newS (sset s 307 18 e) w) (60 * s 307 12 + s 307 22) w).2 ∧ (wholeS (newS (sset s 307 18 e) w) (60 * s 307 12 + s 307 22) w).2 307 22 = s 307 22 + 1 ∧ (wholeS (newS (sset s 307 18 e) w) (60 * s 307 12 + s 307 22) w).2 307 21 = s 307 21 ∧ (wholeS (newS (sset s 307 18 e) w) (60 * s 307 12 + s 307 22) w).2 307 20 = s 307 20 := by
  obtain ⟨⟨a1, a2, a3⟩, a4, a5, a6⟩ := id hR
  generalize hu : newS (sset s 307 18 e) w = u
  have e12 : (sset s 307 18 e) 307 12 = s 307 12 := sset_2 (by omega)
  have e22 : (sset s 307 18 e) 307 22 = s 307 22 := sset_2 (by omega)
  have u316 : u 316 (60 * s 307 12 + s 307 22) = 0 := by
    rw [← hu]
    unfold newS
    rw [e12, e22, sset_1 (by omega), sset_e]
  have u18 : u 307 18 = e := by rw [← hu, newS_k (by omega), sset_e]
  have u17 : u 307 17 = s 307 17 := by rw [← hu, newS_k (by omega), sset_2 (by omega)]
  have u22 : u 307 22 = s 307 22 + 1 := by rw [← hu, newS_22, e22]
  have u21 : u 307 21 = s 307 21 := by rw [← hu, newS_k (by omega), sset_2 (by omega)]
  have u20 : u 307 20 = s 307 20 := by rw [← hu, newS_k (by omega), sset_2 (by omega)]
  have hf : FRS s u := by
    rw [← hu]
    exact FRS.at.tr newS_fr (MNS.at he.1) newS_mn
  have hm : MNS s u := by
    rw [← hu]
    exact (MNS.at he.1).tr newS_mn
  obtain ⟨w1, w2, w3, w4, w5⟩ := rd_whole_ok (w := w) u316 (by rw [u18, u17]; omega)
  generalize wholeS u (60 * s 307 12 + s 307 22) w = y at w1 w2 w3 w4 w5 ⊢
  have t22 : y.2 307 22 = s 307 22 + 1 := (w1 _ _ (by omega)).trans u22
  have t21 : y.2 307 21 = s 307 21 := (w1 _ _ (by omega)).trans u21
  have t20 : y.2 307 20 = s 307 20 := (w1 _ _ (by omega)).trans u20
  refine ⟨fun o i q => ?_, ⟨by omega, by omega, by omega, by omega⟩, t22, t21, t20⟩
  rw [t22, t21, t20] at q
  rw [w1 o i (by unfold INX at q; omega)]
  refine hf o i ?_
  rw [u22, u21, u20]
  exact q
def LOKR (lr : Int → Sg → Option (Int × Sg)) (deep : Int) : Prop := ∀ s, BDR s deep → ∃ l t, lr deep s = some (l, t) ∧ RQ s t l 1 0 ∧ (0 ≤ l → l = 60 * s 307 12 + s 307 20)
theorem rd_stage_ok {lr : Int → Sg → Option (Int × Sg)} {s : Sg} {fst deep : Int} (hL : deep < 3 → LOKR lr (deep + 1)) (hdp : 0 ≤ deep ∧ deep ≤ 3) (hB : BDR s (deep + 1)) : ∃ x t, stageR lr s fst deep = some (x, t) ∧ RQ s t x 0 1 ∧ (0 ≤ x → x = 60 * s 307 12 + t 307 22 - 1) := by
  obtain ⟨hR, b1, b2, b3⟩ := id hB
  obtain ⟨⟨a1, a2, a3⟩, a4, a5, a6⟩ := id hR
  unfold stageR
  rw [grd_ok hR]
  by_cases c : btS s (s 307 18) = 123 ∧ fst ≠ 0 ∧ deep < 3
  · rw [if_pos c]
    have hlt := bt_lt (s := s) (k := s 307 18) (by omega)
    have f0 : FRS s (sset s 307 18 (s 307 18 + 1)) := FRS.at
    have m0 : MNS s (sset s 307 18 (s 307 18 + 1)) := MNS.at (by omega)
    have hB1 : BDR (sset s 307 18 (s 307 18 + 1)) (deep + 1) := by
      refine ⟨hR.at (by omega), ?_, ?_, ?_⟩
      · rw [sset_2 (by omega), sset_e]; omega
      · rw [sset_2 (by omega), sset_2 (by omega)]; omega
      · rw [sset_2 (by omega), sset_2 (by omega)]; omega
    obtain ⟨l, r, g1, ⟨q1, q2, q3, q4, q5⟩, g3⟩ := hL c.2.2 _ hB1
    have f1 := f0.tr q1 m0 q2
    have m1 := m0.tr q2
    have n22 : (sset s 307 18 (s 307 18 + 1)) 307 22 = s 307 22 := sset_2 (by omega)
    have n21 : (sset s 307 18 (s 307 18 + 1)) 307 21 = s 307 21 := sset_2 (by omega)
    have n20 : (sset s 307 18 (s 307 18 + 1)) 307 20 = s 307 20 := sset_2 (by omega)
    have n18 : (sset s 307 18 (s 307 18 + 1)) 307 18 = s 307 18 + 1 := sset_e
    rw [g1, Option.bind_some]
    dsimp only
    by_cases c1 : l < 0
    · rw [if_pos c1]
      exact ⟨-1, r, rfl, ⟨f1, m1, q3, fun _ => q4 c1, fun z => by omega⟩, fun z => by omega⟩
    · rw [if_neg c1]
      obtain ⟨p1, p2, p3, p4, p5⟩ := q5 (by omega)
      rw [n22, n18] at p2
      rw [n21, n22] at p3
      rw [n20, n22] at p4
      rw [n22] at p5
      have e12 : r 307 12 = s 307 12 := f1.k (by omega)
      have e17 : r 307 17 = s 307 17 := f1.k (by omega)
      obtain ⟨r1, r2, r3, r4⟩ := id m1
      have hr18 := p1.1.2.1
      rw [grd_ok p1]
      by_cases c2 : btS r (r 307 18) ≠ 125
      · rw [if_pos c2]
        refine ⟨-1, _, rfl, ⟨?_, ⟨?_, ?_, ?_, ?_⟩, ?_, fun _ => ?_, fun z => by omega⟩, fun z => by omega⟩
        · intro o i q
          rw [sset_2 (by omega), sset_2 (by omega), sset_2 (by omega)] at q
          have q' := q
          unfold INX at q'
          unfold sset
          rw [if_neg (by omega)]
          exact f1 o i q
        · rw [sset_2 (by omega)]; exact r1
        · rw [sset_2 (by omega)]; exact r2
        · rw [sset_2 (by omega)]; exact r3
        · rw [sset_2 (by omega)]; exact r4
        · rw [sset_2 (by omega)]; exact q3
        · rw [sset_e, sset_2 (by omega)]; omega
      · rw [if_neg c2]
        have hlt2 := bt_lt (s := r) (k := r 307 18) (by omega)
        have fa : FRS r (sset r 307 18 (r 307 18 + 1)) := FRS.at
        have ma : MNS r (sset r 307 18 (r 307 18 + 1)) := MNS.at (by omega)
        have fb : FRS r (newS (sset r 307 18 (r 307 18 + 1)) 14) := fa.tr newS_fr ma newS_mn
        have mb : MNS r (newS (sset r 307 18 (r 307 18 + 1)) 14) := ma.tr newS_mn
        generalize hu : newS (sset r 307 18 (r 307 18 + 1)) 14 = u at fb mb ⊢
        have u18 : u 307 18 = r 307 18 + 1 := by rw [← hu, newS_k (by omega), sset_e]
        have u22 : u 307 22 = r 307 22 + 1 := by rw [← hu, newS_22, sset_2 (by omega)]
        have u21 : u 307 21 = r 307 21 := by rw [← hu, newS_k (by omega), sset_2 (by omega)]
        have u20 : u 307 20 = r 307 20 := by rw [← hu, newS_k (by omega), sset_2 (by omega)]
        have fc : FRS s u := f1.tr fb m1 mb
        have mc : MNS s u := m1.tr mb
        have ek : ∀ i, (sset u 315 (60 * r 307 12 + r 307 22) l) 307 i = u 307 i := fun i => sset_1 (by omega)
        have fd : FRS s (sset u 315 (60 * r 307 12 + r 307 22) l) := by
          unfold FRS
          rw [ek, ek, ek]
          refine FRX.st fc ?_
          unfold INX
          omega
        refine ⟨_, _, rfl, ⟨fd, ⟨?_, ?_, ?_, ?_⟩, ?_, fun z => by omega, fun _ => ⟨?_, ?_, ?_, ?_, ?_⟩⟩, fun _ => ?_⟩
        · rw [ek]; exact mc.1
        · rw [ek]; exact mc.2.1
        · rw [ek]; exact mc.2.2.1
        · rw [ek]; exact mc.2.2.2
        · rw [ek]; omega
        · refine hR.fr fd ?_ ?_ ?_ ?_
          · rw [ek]; omega
          · rw [ek]; omega
          · rw [ek]; omega
          · rw [ek]; omega
        · rw [ek, ek]; omega
        · rw [ek, ek]; omega
        · rw [ek, ek]; omega
        · rw [ek]; omega
        · rw [ek]; omega
  · rw [if_neg c]
    have hle := letN_b (s := s) a1.2 101 (s 307 18) a2.2
    have hwb := wof_b (s := s) (f := s 307 18) (t := letN s 101 (s 307 18))
    have hwl := fun z => wof_len (s := s) (f := s 307 18) (t := letN s 101 (s 307 18)) z
    generalize letN s 101 (s 307 18) = e at hle hwb hwl ⊢
    generalize wofS s (s 307 18) e = w at hwb hwl ⊢
    by_cases c1 : w < 0 ∨ (11 ≤ w ∧ fst = 0)
    · rw [if_pos c1]
      refine ⟨-1, _, rfl, ⟨?_, ⟨?_, ?_, ?_, ?_⟩, ?_, fun _ => ?_, fun z => by omega⟩, fun z => by omega⟩
      · intro o i q
        unfold INX at q
        unfold sset
        rw [if_neg (by omega), if_neg (by omega)]
      · rw [sset_2 (by omega), sset_2 (by omega)]; omega
      · rw [sset_2 (by omega), sset_2 (by omega)]; omega
      · rw [sset_2 (by omega), sset_2 (by omega)]; omega
      · rw [sset_2 (by omega), sset_e]; omega
      · rw [sset_2 (by omega), sset_e]; omega
      · rw [sset_e, sset_2 (by omega), sset_e]; omega
    · rw [if_neg c1]
      have hwl2 := hwl (by omega)
      clear hwl
      obtain ⟨z1, z2, z3, z4, z5⟩ := rd_cmd_ok (w := w) hR hle
      have u316 : (newS (sset s 307 18 e) w) 316 (60 * s 307 12 + s 307 22) = 0 := by
        have e12 : (sset s 307 18 e) 307 12 = s 307 12 := sset_2 (by omega)
        have e22 : (sset s 307 18 e) 307 22 = s 307 22 := sset_2 (by omega)
        unfold newS
        rw [e12, e22, sset_1 (by omega), sset_e]
      have u18 : (newS (sset s 307 18 e) w) 307 18 = e := by rw [newS_k (by omega), sset_e]
      have u17 : (newS (sset s 307 18 e) w) 307 17 = s 307 17 := by rw [newS_k (by omega), sset_2 (by omega)]
      obtain ⟨w1, w2, w3, w4, w5⟩ := rd_whole_ok (w := w) u316 (by rw [u18, u17]; omega)
      generalize wholeS (newS (sset s 307 18 e) w) (60 * s 307 12 + s 307 22) w = y at z1 z2 z3 z4 z5 w1 w2 w3 w4 w5 ⊢
      rw [u18] at w2
      rw [u17] at w5
      refine ⟨_, _, rfl, ⟨z1, z2, by omega, fun z => ?_, fun z => ?_⟩, fun z => ?_⟩
      · have hf : y.1 = false := by
          cases hq : y.1 with
          | false => rfl
          | true => rw [hq, if_pos rfl] at z; omega
        have := w4 hf
        omega
      · have ht : y.1 = true := by
          cases hq : y.1 with
          | true => rfl
          | false => rw [hq, if_neg Bool.false_ne_true] at z; omega
        obtain ⟨v1, v2, v3, v4, v5, v6⟩ := w5 ht
        rw [u18] at v6
        have hge : s 307 18 + 2 ≤ y.2 307 18 := by
          rcases (show (w = 7 ∨ w = 9) ∨ (w ≠ 7 ∧ w ≠ 9) by omega) with q | q
          · have := hwl2.2 q
            omega
          · have := v6 q
            have := hwl2.1
            omega
        refine ⟨hR.fr z1 (by omega) (by omega) (by omega) (by omega), by omega, by omega, by omega, by omega⟩
      · have ht : y.1 = true := by
          cases hq : y.1 with
          | true => rfl
          | false => rw [hq, if_neg Bool.false_ne_true] at z; omega
        rw [ht, if_pos rfl]
        omega
theorem rd_pipe_ok {lr : Int → Sg → Option (Int × Sg)} {deep : Int} (hL : deep < 3 → LOKR lr (deep + 1)) (hdp : 0 ≤ deep ∧ deep ≤ 3) : ∀ (m : Nat) (s : Sg) (n f : Int), 7 ≤ (m : Int) + n → (0 ≤ n ∧ n ≤ 5) → BDR s (deep + 1) → ∃ x t, pipeL lr deep m s n f = some (x, t) ∧ RQ s t x 0 0 ∧ (0 ≤ x → x = 60 * s 307 12 + t 307 21 - 1 ∧ s 307 21 + 1 ≤ t 307 21) := by
  intro m
  induction m with
  | zero => intro s n f h1 h2 h3; omega
  | succ m ih =>
    intro s n f hm hn9 hB
    obtain ⟨hR, b1, b2, b3⟩ := id hB
    obtain ⟨⟨a1, a2, a3⟩, a4, a5, a6⟩ := id hR
    obtain ⟨y, r, g1, ⟨q1, q2, q3, q4, q5⟩, g3⟩ := rd_stage_ok (fst := if n = 0 then 1 else 0) hL hdp hB
    unfold pipeL
    rw [g1, Option.bind_some]
    dsimp only
    by_cases c1 : y < 0
    · rw [if_pos c1]
      exact ⟨-1, r, rfl, ⟨q1, q2, q3, fun _ => q4 c1, fun z => by omega⟩, fun z => by omega⟩
    · rw [if_neg c1]
      obtain ⟨p1, p2, p3, p4, p5⟩ := q5 (by omega)
      have e12 : r 307 12 = s 307 12 := q1.k (by omega)
      have e17 : r 307 17 = s 307 17 := q1.k (by omega)
      obtain ⟨r1, r2, r3, r4⟩ := id q2
      have hr18 := p1.1.2.1
      rw [grd_ok ⟨p1, by omega⟩]
      by_cases c2 : btS r (r 307 18) ≠ 124
      · rw [if_pos c2]
        generalize hf9 : (if n = 0 then y else f) = f9
        have ek : ∀ i, i ≠ 21 → (sset (sset (sset r 307 21 (r 307 21 + 1)) 312 (60 * r 307 12 + r 307 21) f9) 313 (60 * r 307 12 + r 307 21) (n + 1)) 307 i = r 307 i := fun i hi => by
          rw [sset_1 (by omega), sset_1 (by omega), sset_2 hi]
        have e21 : (sset (sset (sset r 307 21 (r 307 21 + 1)) 312 (60 * r 307 12 + r 307 21) f9) 313 (60 * r 307 12 + r 307 21) (n + 1)) 307 21 = r 307 21 + 1 := by
          rw [sset_1 (by omega), sset_1 (by omega), sset_e]
        have hfr : FRS s (sset (sset (sset r 307 21 (r 307 21 + 1)) 312 (60 * r 307 12 + r 307 21) f9) 313 (60 * r 307 12 + r 307 21) (n + 1)) := by
          unfold FRS
          rw [e21, ek 22 (by omega), ek 20 (by omega)]
          refine FRX.st (FRX.st (FRX.st (FRX.mn q1 (by omega) (by omega) (by omega)) (by unfold INX; omega)) (by unfold INX; omega)) (by unfold INX; omega)
        generalize (sset (sset (sset r 307 21 (r 307 21 + 1)) 312 (60 * r 307 12 + r 307 21) f9) 313 (60 * r 307 12 + r 307 21) (n + 1)) = t at ek e21 hfr ⊢
        have t18 := ek 18 (by omega)
        have t20 := ek 20 (by omega)
        have t22 := ek 22 (by omega)
        refine ⟨_, t, rfl, ⟨hfr, ⟨by omega, by omega, by omega, by omega⟩, by omega, fun z => by omega, fun _ => ⟨hR.fr hfr (by omega) (by omega) (by omega) (by omega), by omega, by omega, by omega, by omega⟩⟩, fun _ => ⟨by omega, by omega⟩⟩
      · rw [if_neg c2]
        have hlt := bt_lt (s := r) (k := r 307 18) (by omega)
        by_cases c3 : n + 1 = 6
        · rw [if_pos c3]
          refine ⟨-1, _, rfl, ⟨?_, ⟨?_, ?_, ?_, ?_⟩, ?_, fun _ => ?_, fun z => by omega⟩, fun z => by omega⟩
          · unfold FRS
            rw [sset_2 (by omega), sset_2 (by omega), sset_2 (by omega)]
            exact FRX.st q1 (by unfold INX; omega)
          · rw [sset_2 (by omega)]; exact r1
          · rw [sset_2 (by omega)]; exact r2
          · rw [sset_2 (by omega)]; exact r3
          · rw [sset_2 (by omega)]; exact r4
          · rw [sset_2 (by omega)]; exact q3
          · rw [sset_e, sset_2 (by omega)]; omega
        · rw [if_neg c3]
          have fa : FRS r (sset r 307 18 (r 307 18 + 1)) := FRS.at
          have ma : MNS r (sset r 307 18 (r 307 18 + 1)) := MNS.at (by omega)
          have n22 : (sset r 307 18 (r 307 18 + 1)) 307 22 = r 307 22 := sset_2 (by omega)
          have n21 : (sset r 307 18 (r 307 18 + 1)) 307 21 = r 307 21 := sset_2 (by omega)
          have n20 : (sset r 307 18 (r 307 18 + 1)) 307 20 = r 307 20 := sset_2 (by omega)
          have n18 : (sset r 307 18 (r 307 18 + 1)) 307 18 = r 307 18 + 1 := sset_e
          have n12 : (sset r 307 18 (r 307 18 + 1)) 307 12 = r 307 12 := sset_2 (by omega)
          obtain ⟨x, t, i1, ⟨j1, j2, j3, j4, j5⟩, i3⟩ := ih (sset r 307 18 (r 307 18 + 1)) (n + 1) (if n = 0 then y else f) (by omega) (by omega) ⟨p1.at (by omega), by omega, by omega, by omega⟩
          refine ⟨x, t, i1, ⟨(q1.tr fa q2 ma).tr j1 (q2.tr ma) j2, (q2.tr ma).tr j2, j3, j4, fun z => ?_⟩, fun z => ?_⟩
          · obtain ⟨k1, k2, k3, k4, k5⟩ := j5 z
            exact ⟨k1, by omega, by omega, by omega, by omega⟩
          · have := i3 z
            exact ⟨by omega, by omega⟩
/-- what the rest of a list may write: la the last pipe ahead (below 0: none), li the list -/
def LFR (la li : Int) (s t : Sg) : Prop := ∀ o i, ¬ INX (60 * s 307 12 + s 307 21) (60 * s 307 12 + t 307 21) (60 * s 307 12 + s 307 22) (60 * s 307 12 + t 307 22) (60 * s 307 12 + s 307 20) (60 * s 307 12 + t 307 20) o i → ¬ (0 ≤ la ∧ o = 310 ∧ i = la) → ¬ (la < 0 ∧ o = 309 ∧ i = li) → t o i = s o i
/-- a pipe of a list, linked -/
def lnkS (r : Sg) (la li y ah : Int) : Sg := if la < 0 then sset (sset (sset r 311 y ah) 310 y (-1)) 309 li y else sset (sset (sset r 311 y ah) 310 y (-1)) 310 la y
theorem lnk_k {r : Sg} {la li y ah i : Int} : lnkS r la li y ah 307 i = r 307 i := by
  unfold lnkS
  split
  · rw [sset_1 (by omega), sset_1 (by omega), sset_1 (by omega)]
  · rw [sset_1 (by omega), sset_1 (by omega), sset_1 (by omega)]
theorem lnk_o {r : Sg} {la li y ah o i : Int} (h1 : ¬ ((o = 310 ∨ o = 311) ∧ i = y)) (h2 : ¬ (0 ≤ la ∧ o = 310 ∧ i = la)) (h3 : ¬ (la < 0 ∧ o = 309 ∧ i = li)) : lnkS r la li y ah o i = r o i := by
  unfold lnkS
  split
  · unfold sset
    rw [if_neg (by omega), if_neg (by omega), if_neg (by omega)]
  · unfold sset
    rw [if_neg (by omega), if_neg (by omega), if_neg (by omega)]
theorem rd_list_ok {lr : Int → Sg → Option (Int × Sg)} {deep li : Int} (hL : deep < 3 → LOKR lr (deep + 1)) (hdp : 0 ≤ deep ∧ deep ≤ 3) (h0 : 0 ≤ li) : ∀ (m : Nat) (s : Sg) (la ah : Int), s 307 17 - s 307 18 < m → BDR s (deep + 1) → li < 60 * s 307 12 + s 307 20 → la < 60 * s 307 12 + s 307 21 → ∃ l t, listL lr deep li m s la ah = some (l, t) ∧ LFR la li s t ∧ MNS s t ∧ t 307 18 ≤ 110 ∧ (l < 0 → 0 ≤ t 307 19 ∧ t 307 19 ≤ t 307 18) ∧
    (0 ≤ l → l = li ∧ RB t ∧ 2 * (t 307 22 - s 307 22) ≤ t 307 18 - s 307 18 ∧ t 307 21 - s 307 21 ≤ t 307 22 - s 307 22 ∧ t 307 20 - s 307 20 ≤ t 307 22 - s 307 22 ∧ s 307 22 + 1 ≤ t 307 22) := by
  intro m
  induction m with
  | zero =>
    intro s la ah h1 h2 h3 h4
    have := h2.1.1.2.1
    omega
  | succ m ih =>
    intro s la ah hm hB hb hla
    obtain ⟨hR, b1, b2, b3⟩ := id hB
    obtain ⟨⟨a1, a2, a3⟩, a4, a5, a6⟩ := id hR
    obtain ⟨y, r, g1, ⟨q1, q2, q3, q4, q5⟩, g3⟩ := rd_pipe_ok hL hdp 7 s 0 (-1) (by omega) (by omega) hB
    unfold listL
    rw [g1, Option.bind_some]
    dsimp only
    obtain ⟨r1, r2, r3, r4⟩ := id q2
    by_cases c1 : y < 0
    · rw [if_pos c1]
      exact ⟨-1, r, rfl, fun o i z _ _ => q1 o i z, q2, q3, fun _ => q4 c1, fun z => by omega⟩
    · rw [if_neg c1]
      obtain ⟨p1, p2, p3, p4, p5⟩ := q5 (by omega)
      obtain ⟨hy, hy2⟩ := g3 (by omega)
      have e12 : r 307 12 = s 307 12 := q1.k (by omega)
      have e17 : r 307 17 = s 307 17 := q1.k (by omega)
      have hr18 := p1.1.2.1
      have hr22 := p1.2.1
      rw [grd_ok ⟨p1, by omega, by omega, by omega, by omega⟩]
      have hu0 : (if la < 0 then sset (sset (sset r 311 y ah) 310 y (-1)) 309 li y else sset (sset (sset r 311 y ah) 310 y (-1)) 310 la y) = lnkS r la li y ah := rfl
      rw [hu0]
      clear hu0
      have ek : ∀ i, lnkS r la li y ah 307 i = r 307 i := fun i => lnk_k
      have eo : ∀ o i, ¬ ((o = 310 ∨ o = 311) ∧ i = y) → ¬ (0 ≤ la ∧ o = 310 ∧ i = la) → ¬ (la < 0 ∧ o = 309 ∧ i = li) → lnkS r la li y ah o i = r o i := fun o i => lnk_o
      generalize lnkS r la li y ah = u at ek eo ⊢
      have u12 := ek 12
      have u17 := ek 17
      have u18 := ek 18
      have u20 := ek 20
      have u21 := ek 21
      have u22 := ek 22
      have hfr : LFR la li s u := by
        intro o i z1 z2 z3
        rw [u20, u21, u22] at z1
        rw [eo o i (fun z => z1 (Or.inl (by omega))) z2 z3]
        exact q1 o i z1
      have hRu : RB u := by
        refine ⟨⟨by omega, by omega, by omega⟩, ⟨by omega, by omega, by omega⟩, fun k k1 k2 => ?_, fun j j1 j2 => ?_⟩
        · rw [eo _ _ (by omega) (by omega) (by omega)]
          rw [u17] at k2
          exact p1.2.2.1 k k1 k2
        · rw [eo _ _ (by omega) (by omega) (by omega)]
          exact p1.2.2.2 j j1 j2
      by_cases c2 : btS r (r 307 18) ≠ 59 ∧ btS r (r 307 18) ≠ 38 ∧ btS r (r 307 18) ≠ 47
      · rw [if_pos c2]
        exact ⟨li, u, rfl, hfr, ⟨by omega, by omega, by omega, by omega⟩, by omega, fun z => by omega, fun _ => ⟨rfl, hRu, by omega, by omega, by omega, by omega⟩⟩
      · rw [if_neg c2]
        have hlt := bt_lt (s := r) (k := r 307 18) (by omega)
        have n22 : (sset u 307 18 (r 307 18 + 1)) 307 22 = r 307 22 := (sset_2 (by omega)).trans u22
        have n21 : (sset u 307 18 (r 307 18 + 1)) 307 21 = r 307 21 := (sset_2 (by omega)).trans u21
        have n20 : (sset u 307 18 (r 307 18 + 1)) 307 20 = r 307 20 := (sset_2 (by omega)).trans u20
        have n18 : (sset u 307 18 (r 307 18 + 1)) 307 18 = r 307 18 + 1 := sset_e
        have n17 : (sset u 307 18 (r 307 18 + 1)) 307 17 = r 307 17 := (sset_2 (by omega)).trans u17
        have n12 : (sset u 307 18 (r 307 18 + 1)) 307 12 = r 307 12 := (sset_2 (by omega)).trans u12
        obtain ⟨l, t, i1, j1, j2, j3, j4, j5⟩ := ih (sset u 307 18 (r 307 18 + 1)) y (btS r (r 307 18)) (by omega) ⟨hRu.at (by omega), by omega, by omega, by omega⟩ (by omega) (by omega)
        obtain ⟨k1, k2, k3, k4⟩ := id j2
        refine ⟨l, t, i1, fun o i z1 z2 z3 => ?_, ⟨by omega, by omega, by omega, by omega⟩, j3, j4, fun z => ?_⟩
        · rw [j1 o i (fun z => z1 (z.mn ⟨by omega, by omega⟩ ⟨by omega, by omega⟩ ⟨by omega, by omega⟩)) (fun z => z1 (Or.inl (by omega))) (fun z => by omega), show (sset u 307 18 (r 307 18 + 1)) o i = u o i from if_neg (fun z => z1 (Or.inr (Or.inr (Or.inr (Or.inr (by omega))))))]
          exact hfr o i (fun z => z1 (z.mn ⟨by omega, by omega⟩ ⟨by omega, by omega⟩ ⟨by omega, by omega⟩)) z2 z3
        · obtain ⟨l1, l2, l3, l4, l5, l6⟩ := j5 z
          exact ⟨l1, l2, by omega, by omega, by omega, by omega⟩
theorem rd_listR_ok : ∀ (n : Nat) (deep : Int), (0 ≤ deep ∧ deep ≤ 3) → 4 ≤ (n : Int) + deep → LOKR (listR n) deep
  | 0, deep, h1, h2 => by omega
  | n + 1, deep, h1, h2 => by
    intro s hB
    obtain ⟨hR, b1, b2, b3⟩ := id hB
    obtain ⟨⟨a1, a2, a3⟩, a4, a5, a6⟩ := id hR
    have hL : deep < 3 → LOKR (listR n) (deep + 1) := fun q => rd_listR_ok n (deep + 1) (by omega) (by omega)
    unfold listR
    rw [grd_ok ⟨hR, by omega⟩]
    have hf : ∀ q0 q1 s0 s1 l0 l1, FRX q0 q1 s0 s1 l0 l1 s (sset (sset s 307 23 (max (s 307 23) deep)) 307 20 (s 307 20 + 1)) := fun q0 q1 s0 s1 l0 l1 => FRX.st (FRX.st FRX.rf (by unfold INX; omega)) (by unfold INX; omega)
    have n20 : (sset (sset s 307 23 (max (s 307 23) deep)) 307 20 (s 307 20 + 1)) 307 20 = s 307 20 + 1 := sset_e
    have nk : ∀ i, i ≠ 20 → i ≠ 23 → (sset (sset s 307 23 (max (s 307 23) deep)) 307 20 (s 307 20 + 1)) 307 i = s 307 i := fun i h1 h2 => by rw [sset_2 h1, sset_2 h2]
    have e12 := nk 12 (by omega) (by omega)
    have e17 := nk 17 (by omega) (by omega)
    have e18 := nk 18 (by omega) (by omega)
    have e21 := nk 21 (by omega) (by omega)
    have e22 := nk 22 (by omega) (by omega)
    have hR1 : RB (sset (sset s 307 23 (max (s 307 23) deep)) 307 20 (s 307 20 + 1)) := hR.fr (hf 0 0 0 0 0 0) (by omega) (by omega) (by omega) (by omega)
    obtain ⟨l, t, i1, j1, j2, j3, j4, j5⟩ := rd_list_ok (li := 60 * s 307 12 + s 307 20) hL h1 (by omega) 101 _ (-1) 59 (by omega) ⟨hR1, by omega, by omega, by omega⟩ (by omega) (by omega)
    obtain ⟨k1, k2, k3, k4⟩ := id j2
    refine ⟨l, t, i1, ⟨fun o i q => ?_, ⟨by omega, by omega, by omega, by omega⟩, j3, j4, fun z => ?_⟩, fun z => ?_⟩
    · have q' := q
      unfold INX at q'
      rw [j1 o i (by unfold INX; omega) (by omega) (by omega)]
      exact hf _ _ _ _ _ _ o i q
    · obtain ⟨l1, l2, l3, l4, l5, l6⟩ := j5 z
      exact ⟨l2, by omega, by omega, by omega, by omega⟩
    · exact (j5 z).1
