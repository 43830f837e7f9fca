/-! ===== lists, pipe by pipe; numbers stay ints ===== -/
theorem CHR.nil {V T : Sg} {P : Int → Int → Prop} : ∀ {m : Nat}, CHR V T P m 0 (-1)
  | 0 => ⟨rfl, rfl⟩
  | _ + 1 => Or.inl ⟨rfl, rfl⟩
theorem RJ.nil {A : AHp} {v s : Sg} {e : Nat} {po y : Int} (h1 : v po 3 = 0) (h2 : s 310 y = -1) : RJ A A v s s e po y := by
  intro C w u _ _ _ h3 h4
  rw [h3, h1, h4, h2]
  exact CHR.nil
theorem RJ.cons {B0 B1 B2 : AHp} {v1 v3 s0 s1 r u2 t : Sg} {e : Nat} {po y po2 y2 c li : Int} (hP : PJ B0 B1 v1 s1 r e po2 y2) (hR : RJ B1 B2 v3 u2 t e po2 y2) (hO1 : OLD B0 B1) (hO2 : OLD B1 B2) (hA : 350 ≤ hn B0) (hpo : 350 ≤ po ∧ po < hn B0) (hpo2 : hn B0 ≤ po2 ∧ po2 < hn B1)
    (h12 : s1 307 12 = s0 307 12 ∧ r 307 12 = s0 307 12) (hc : s1 307 20 = s0 307 20 ∧ s1 307 21 = s0 307 21 ∧ s1 307 22 = s0 307 22) (hm : MNS s1 r) (hy : 0 ≤ y ∧ y < 60 * s0 307 12 + s0 307 21) (hy2 : y2 = 60 * s0 307 12 + r 307 21 - 1 ∧ s0 307 21 + 1 ≤ r 307 21)
    (hv : ∀ o k, o < hn B1 → ¬ (o = 61 ∧ 3 ≤ k ∧ k ≤ 6) → ¬ (o = po2 ∧ k = 3) → v3 o k = (sset (sset v1 po2 2 c) po 3 po2) o k) (hu2 : u2 = lnkS r y li y2 c) (hF : LFR y2 li u2 t) (hM : MNS u2 t) : RJ B0 B2 v3 s0 t e po y := by
  intro C w z hO hw hz h3 h310
  have hle1 := hO1.1
  have hle2 := hO2.1
  have uk : ∀ i, u2 307 i = r 307 i := fun i => by rw [hu2]; exact lnk_k
  have u12 := uk 12
  have u20 := uk 20
  have u21 := uk 21
  have u22 := uk 22
  obtain ⟨m1, m2, m3, m4⟩ := hm
  obtain ⟨n1, n2, n3, n4⟩ := hM
  have e3 : v3 po 3 = po2 := by
    rw [hv po 3 (by omega) (by omega) (by omega), sset_e]
  have e310 : t 310 y = y2 := by
    rw [hF 310 y (by unfold INX; omega) (by omega) (by omega), hu2]
    unfold lnkS
    rw [if_neg (by omega), sset_e]
  have er : ∀ o i, INS s1 r o i → ¬ ((o = 310 ∨ o = 311) ∧ i = y2) → t o i = r o i := fun o i q q2 => by
    have q3 : ¬ INX (60 * u2 307 12 + u2 307 21) (60 * u2 307 12 + t 307 21) (60 * u2 307 12 + u2 307 22) (60 * u2 307 12 + t 307 22) (60 * u2 307 12 + u2 307 20) (60 * u2 307 12 + t 307 20) o i := fun z => by
      unfold INS at q
      unfold INX at z
      rcases q with q | q | q | q <;> omega
    have q4 : ¬ (0 ≤ y ∧ o = 310 ∧ i = y) := fun z => by
      unfold INS at q
      rcases q with q | q | q | q <;> omega
    rw [hF o i q3 (fun z => q2 ⟨Or.inl z.2.1, z.2.2⟩) (fun z => by omega), hu2]
    exact lnk_o q2 q4 (fun z => by omega)
  rw [h3, e3, h310, e310]
  obtain ⟨K, hK⟩ : ∃ K, (t 307 21 - s0 307 21).toNat = K + 1 := ⟨(t 307 21 - s0 307 21).toNat - 1, by omega⟩
  rw [hK]
  have hR2 := hR C w z hO (fun o k a b => hw o k (by omega) b) (fun o i q => hz o i (q.mn (by omega) ⟨by omega, by omega⟩ ⟨by omega, by omega⟩ ⟨by omega, by omega⟩)) (hw po2 3 (by omega) (by omega)) (hz 310 y2 (by unfold INS; omega))
  rw [u12, h12.2] at hR2
  have hP2 := hP C w z (old_tr hO2 hO)
  rw [h12.1] at hP2
  refine Or.inr ⟨⟨by omega, by omega⟩, hP2 (fun o k a b q => ?_) (fun o i q q2 => ?_) ?_, CHR.le (m := (t 307 21 - u2 307 21).toNat) (by omega) hR2⟩
  · rw [hw o k a (by omega), hv o k b (by omega) (fun z => q ⟨z.1, Or.inr z.2⟩)]
    unfold sset
    rw [if_neg (by omega), if_neg (fun z => q ⟨z.1, Or.inl z.2⟩)]
  · rw [hz o i (q.mn (by omega) ⟨by omega, by omega⟩ ⟨by omega, by omega⟩ ⟨by omega, by omega⟩)]
    exact er o i q q2
  · have a1 : w po2 2 = c := by
      rw [hw po2 2 (by omega) (by omega), hv po2 2 (by omega) (by omega) (by omega), sset_1 (by omega), sset_e]
    have a2 : z 311 y2 = c := by
      rw [hz 311 y2 (by unfold INS; omega), hF 311 y2 (by unfold INX; omega) (by omega) (by omega), hu2]
      unfold lnkS
      rw [if_neg (by omega), sset_1 (by omega), sset_1 (by omega), sset_e]
    rw [a1, a2]
theorem LJ.of {A B1 B2 : AHp} {v1 v3 s s1 r u2 t : Sg} {e : Nat} {po y li : Int} (hP : PJ A B1 v1 s1 r e po y) (hR : RJ B1 B2 v3 u2 t e po y) (hO1 : OLD A B1) (hO2 : OLD B1 B2) (hA : 350 ≤ hn A) (hpo : hn A ≤ po ∧ po < hn B1)
    (h12 : s1 307 12 = s 307 12 ∧ r 307 12 = s 307 12) (hc : s1 307 20 = s 307 20 + 1 ∧ s1 307 21 = s 307 21 ∧ s1 307 22 = s 307 22) (hm : MNS s1 r) (hli : li = 60 * s 307 12 + s 307 20) (hli0 : 0 ≤ li) (hy : y = 60 * s 307 12 + r 307 21 - 1 ∧ s 307 21 + 1 ≤ r 307 21) (hy0 : 0 ≤ y) (h60 : t 307 21 < 60 ∧ 0 ≤ s 307 21)
    (hv : ∀ o k, o < hn B1 → ¬ (o = 61 ∧ 3 ≤ k ∧ k ≤ 6) → ¬ (o = po ∧ k = 3) → v3 o k = v1 o k) (hj : v1 po 2 = 59) (hu2 : u2 = lnkS r (-1) li y 59) (hF : LFR y li u2 t) (hM : MNS u2 t) : LJ A B2 v3 s t e po li := by
  intro C w z hO hw hz
  have hle1 := hO1.1
  have hle2 := hO2.1
  have uk : ∀ i, u2 307 i = r 307 i := fun i => by rw [hu2]; exact lnk_k
  have u12 := uk 12
  have u20 := uk 20
  have u21 := uk 21
  have u22 := uk 22
  obtain ⟨m1, m2, m3, m4⟩ := hm
  obtain ⟨n1, n2, n3, n4⟩ := hM
  have e309 : z 309 li = y := by
    rw [hz 309 li (by unfold INS; omega), hF 309 li (by unfold INX; omega) (by omega) (by omega), hu2]
    unfold lnkS
    rw [if_pos (by omega), sset_e]
  have er : ∀ o i, INS s1 r o i → ¬ ((o = 310 ∨ o = 311) ∧ i = y) → t o i = r o i := fun o i q q2 => by
    have q3 : ¬ INX (60 * u2 307 12 + u2 307 21) (60 * u2 307 12 + t 307 21) (60 * u2 307 12 + u2 307 22) (60 * u2 307 12 + t 307 22) (60 * u2 307 12 + u2 307 20) (60 * u2 307 12 + t 307 20) o i := fun z => by
      unfold INS at q
      unfold INX at z
      rcases q with q | q | q | q <;> omega
    have q4 : ¬ ((-1 : Int) < 0 ∧ o = 309 ∧ i = li) := fun z => by
      unfold INS at q
      rcases q with q | q | q | q <;> omega
    rw [hF o i q3 (fun z => q2 ⟨Or.inl z.2.1, z.2.2⟩) (fun z => by omega), hu2]
    exact lnk_o q2 (fun z => by omega) q4
  refine ⟨by omega, ?_⟩
  rw [e309]
  have hR2 := hR C w z hO (fun o k a b => hw o k (by omega) b) (fun o i q => hz o i (q.mn (by omega) ⟨by omega, by omega⟩ ⟨by omega, by omega⟩ ⟨by omega, by omega⟩)) (hw po 3 (by omega) (by omega)) (hz 310 y (by unfold INS; omega))
  rw [u12, h12.2] at hR2
  have hP2 := hP C w z (old_tr hO2 hO)
  rw [h12.1] at hP2
  refine Or.inr ⟨⟨by omega, by omega⟩, hP2 (fun o k a b q => ?_) (fun o i q q2 => ?_) ?_, CHR.le (m := (t 307 21 - u2 307 21).toNat) (n := 59) (by omega) hR2⟩
  · rw [hw o k a (by omega), hv o k b (by omega) (fun z => q ⟨z.1, Or.inr z.2⟩)]
  · rw [hz o i (q.mn (by omega) ⟨by omega, by omega⟩ ⟨by omega, by omega⟩ ⟨by omega, by omega⟩)]
    exact er o i q q2
  · have a1 : w po 2 = 59 := by
      rw [hw po 2 (by omega) (by omega), hv po 2 (by omega) (by omega) (by omega), hj]
    have a2 : z 311 y = 59 := by
      rw [hz 311 y (by unfold INS; omega), hF 311 y (by unfold INX; omega) (by omega) (by omega), hu2]
      unfold lnkS
      rw [if_pos (by omega), sset_1 (by omega), sset_1 (by omega), sset_e]
    rw [a1, a2]
/-- a command, as the reference reads it -/
noncomputable def cmdS (s : Sg) (fst : Int) : Int × Sg :=
  if wofS s (s 307 18) (letN s 101 (s 307 18)) < 0 ∨ (11 ≤ wofS s (s 307 18) (letN s 101 (s 307 18)) ∧ fst = 0) then (-1, sset (sset s 307 18 (letN s 101 (s 307 18))) 307 19 (s 307 18)) else
    (if (wholeS (newS (sset s 307 18 (letN s 101 (s 307 18))) (wofS s (s 307 18) (letN s 101 (s 307 18)))) (60 * s 307 12 + s 307 22) (wofS s (s 307 18) (letN s 101 (s 307 18)))).1 = true then 60 * s 307 12 + s 307 22 else -1,
      (wholeS (newS (sset s 307 18 (letN s 101 (s 307 18))) (wofS s (s 307 18) (letN s 101 (s 307 18)))) (60 * s 307 12 + s 307 22) (wofS s (s 307 18) (letN s 101 (s 307 18)))).2)
theorem stage_cmd {lr : Int → Sg → Option (Int × Sg)} {s : Sg} {fst deep : Int} (hR : RB s) (h : ¬ (btS s (s 307 18) = 123 ∧ fst ≠ 0 ∧ deep < 3)) : stageR lr s fst deep = some (cmdS s fst) := by
  unfold stageR cmdS
  rw [grd_ok hR, if_neg h]
  split <;> rfl
theorem stage_brc {lr : Int → Sg → Option (Int × Sg)} {s t : Sg} {fst deep x : Int} (h9 : btS s (s 307 18) = 123 ∧ fst ≠ 0 ∧ deep < 3) (h : stageR lr s fst deep = some (x, t)) : ∃ l r, lr (deep + 1) (sset s 307 18 (s 307 18 + 1)) = some (l, r) ∧ ((l < 0 ∧ x = -1 ∧ t = r) ∨ (0 ≤ l ∧ RB r ∧ btS r (r 307 18) ≠ 125 ∧ x = -1 ∧ t = sset r 307 19 (r 307 18)) ∨ (0 ≤ l ∧ RB r ∧ btS r (r 307 18) = 125 ∧ x = 60 * r 307 12 + r 307 22 ∧ t = sset (newS (sset r 307 18 (r 307 18 + 1)) 14) 315 (60 * r 307 12 + r 307 22) l)) := by
  unfold stageR at h
  obtain ⟨hR, h⟩ := grd_some h
  rw [if_pos h9] at h
  obtain ⟨⟨l, r⟩, g1, g2⟩ := Option.bind_eq_some_iff.mp h
  dsimp only at g2
  refine ⟨l, r, g1, ?_⟩
  by_cases c : l < 0
  · rw [if_pos c, Option.some.injEq, Prod.mk.injEq] at g2
    exact Or.inl ⟨c, g2.1.symm, g2.2.symm⟩
  · rw [if_neg c] at g2
    obtain ⟨hRr, g2⟩ := grd_some g2
    by_cases c2 : btS r (r 307 18) ≠ 125
    · rw [if_pos c2, Option.some.injEq, Prod.mk.injEq] at g2
      exact Or.inr (Or.inl ⟨by omega, hRr, c2, g2.1.symm, g2.2.symm⟩)
    · rw [if_neg c2, Option.some.injEq, Prod.mk.injEq] at g2
      exact Or.inr (Or.inr ⟨by omega, hRr, Classical.not_not.mp c2, g2.1.symm, g2.2.symm⟩)
def N7 (s : Sg) : Prop := ∀ j, in32 (s 317 j)
theorem N7.o {s : Sg} {o i x : Int} (h : N7 s) (ho : o ≠ 317) : N7 (sset s o i x) := fun j => by
  rw [sset_1 (by omega)]
  exact h j
theorem numS_n7 {s : Sg} {st : Int} (h : N7 s) : N7 (numS s st) := by
  intro j
  unfold numS putN
  split
  · next e =>
    have e2 : (sset s 307 18 (numR s (s 307 18 + 1)).2.1) 316 st = s 316 st := sset_1 (by omega)
    rw [e2, sset_1 (o := 316) (by omega)]
    unfold sset
    split
    · have := numR_ok e
      unfold in32
      omega
    · rw [if_neg (by omega)]
      exact h j
  · unfold sset
    rw [if_neg (by omega), if_neg (by omega)]
    exact h j
theorem ech_n7 {st w : Int} : ∀ (m : Nat) (g : Bool) (s : Sg), N7 s → N7 (echS st w m g s).2
  | 0, _, _, h => h
  | m + 1, g, s, h => by
    unfold echS
    split
    · exact ech_n7 m _ _ (numS_n7 h)
    · exact h
theorem whole_n7 {s : Sg} {st w : Int} (h : N7 s) : N7 (wholeS s st w).2 := by
  unfold wholeS
  split
  · exact h
  · split
    · exact h.o (by omega)
    · split
      · split
        · exact ((h.o (by omega)).o (by omega)).o (by omega)
        · exact ((h.o (by omega)).o (by omega)).o (by omega)
      · exact ech_n7 _ _ _ (numS_n7 h)
theorem newS_n7 {s : Sg} {w : Int} (h : N7 s) : N7 (newS s w) := (((h.o (by omega)).o (by omega)).o (by omega)).o (by omega)
theorem cmd_n7 {s : Sg} {f : Int} (h : N7 s) : N7 (cmdS s f).2 := by
  unfold cmdS
  split
  · exact (h.o (by omega)).o (by omega)
  · exact whole_n7 (newS_n7 (h.o (by omega)))
theorem stage_n7 {lr : Int → Sg → Option (Int × Sg)} {s t : Sg} {fst deep x : Int} (hL : ∀ s l t, lr (deep + 1) s = some (l, t) → N7 s → N7 t) (h : stageR lr s fst deep = some (x, t)) (hN : N7 s) : N7 t := by
  have hR : RB s := by
    unfold stageR at h
    exact (grd_some h).1
  by_cases c : btS s (s 307 18) = 123 ∧ fst ≠ 0 ∧ deep < 3
  · obtain ⟨l, r, g1, g2⟩ := stage_brc c h
    have hr := hL _ _ _ g1 (hN.o (by omega))
    rcases g2 with ⟨_, _, g⟩ | ⟨_, _, _, _, g⟩ | ⟨_, _, _, _, g⟩
    · rw [g]; exact hr
    · rw [g]; exact hr.o (by omega)
    · rw [g]; exact (newS_n7 (hr.o (by omega))).o (by omega)
  · rw [stage_cmd hR c, Option.some.injEq] at h
    have := cmd_n7 (f := fst) hN
    rw [h] at this
    exact this
theorem pipe_n7 {lr : Int → Sg → Option (Int × Sg)} {deep : Int} (hL : ∀ s l t, lr (deep + 1) s = some (l, t) → N7 s → N7 t) : ∀ (m : Nat) (s t : Sg) (n f x : Int), pipeL lr deep m s n f = some (x, t) → N7 s → N7 t
  | 0, s, t, n, f, x, h, _ => by simp [pipeL] at h
  | m + 1, s, t, n, f, x, h, hN => by
    obtain ⟨m', y, r, e, g1, g2⟩ := pipeL_s h
    have hm : m' = m := by omega
    subst hm
    have hr := stage_n7 hL g1 hN
    rcases g2 with ⟨_, _, g⟩ | ⟨_, _, g⟩
    · rw [g]; exact hr
    · rcases g with ⟨_, _, g⟩ | ⟨_, _, _, g⟩ | ⟨_, _, g⟩
      · rw [g]; exact ((hr.o (by omega)).o (by omega)).o (by omega)
      · rw [g]; exact hr.o (by omega)
      · exact pipe_n7 hL m' _ _ _ _ _ g (hr.o (by omega))
theorem lnk_n7 {r : Sg} {la li y ah : Int} (h : N7 r) : N7 (lnkS r la li y ah) := by
  unfold lnkS
  split
  · exact ((h.o (by omega)).o (by omega)).o (by omega)
  · exact ((h.o (by omega)).o (by omega)).o (by omega)
theorem list_n7 {lr : Int → Sg → Option (Int × Sg)} {deep li : Int} (hL : ∀ s l t, lr (deep + 1) s = some (l, t) → N7 s → N7 t) : ∀ (m : Nat) (s t : Sg) (la ah x : Int), listL lr deep li m s la ah = some (x, t) → N7 s → N7 t
  | 0, s, t, la, ah, x, h, _ => by simp [listL] at h
  | m + 1, s, t, la, ah, x, h, hN => by
    obtain ⟨m', y, r, u, e, g1, gu, g2⟩ := listL_s h
    have hm : m' = m := by omega
    subst hm
    have hr := pipe_n7 hL 7 _ _ _ _ _ g1 hN
    have hu : N7 u := by
      rw [gu]
      exact lnk_n7 hr
    rcases g2 with ⟨_, _, g⟩ | ⟨_, _, g⟩
    · rw [g]; exact hr
    · rcases g with ⟨_, _, g⟩ | ⟨_, g⟩
      · rw [g]; exact hu
      · exact list_n7 hL m' _ _ _ _ _ g (hu.o (by omega))
theorem listR_n7 : ∀ (n : Nat) (deep : Int) (s : Sg) (l : Int) (t : Sg), listR n deep s = some (l, t) → N7 s → N7 t
  | 0, deep, s, l, t, h, _ => by simp [listR] at h
  | n + 1, deep, s, l, t, h, hN => by
    unfold listR at h
    exact list_n7 (fun s l t => listR_n7 n (deep + 1) s l t) 101 _ _ _ _ _ (grd_some h).2 ((hN.o (by omega)).o (by omega))
