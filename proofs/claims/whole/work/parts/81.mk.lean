/-! ===== what the readers make: facts that hold on, whatever comes later ===== -/
def INS (s t : Sg) (o i : Int) : Prop := (310 ≤ o ∧ o ≤ 313 ∧ 60 * s 307 12 + s 307 21 ≤ i ∧ i < 60 * s 307 12 + t 307 21) ∨ (314 ≤ o ∧ o ≤ 316 ∧ 60 * s 307 12 + s 307 22 ≤ i ∧ i < 60 * s 307 12 + t 307 22) ∨ (o = 317 ∧ 4 * (60 * s 307 12 + s 307 22) ≤ i ∧ i < 4 * (60 * s 307 12 + t 307 22)) ∨ (o = 309 ∧ 60 * s 307 12 + s 307 20 ≤ i ∧ i < 60 * s 307 12 + t 307 20)
theorem INS.mn {s t s2 t2 : Sg} {o i : Int} (h : INS s t o i) (h12 : s 307 12 = s2 307 12) (h20 : s2 307 20 ≤ s 307 20 ∧ t 307 20 ≤ t2 307 20) (h21 : s2 307 21 ≤ s 307 21 ∧ t 307 21 ≤ t2 307 21) (h22 : s2 307 22 ≤ s 307 22 ∧ t 307 22 ≤ t2 307 22) : INS s2 t2 o i := by
  unfold INS at h ⊢
  rw [h12] at h
  rcases h with h | h | h | h
  · exact Or.inl ⟨h.1, h.2.1, by omega, by omega⟩
  · exact Or.inr (Or.inl ⟨h.1, h.2.1, by omega, by omega⟩)
  · exact Or.inr (Or.inr (Or.inl ⟨h.1, by omega, by omega⟩))
  · exact Or.inr (Or.inr (Or.inr ⟨h.1, by omega, by omega⟩))
/-- what is written later than t leaves all that was made up to t -/
theorem INS.old {s t u : Sg} {o i : Int} (h : INS s t o i) (hF : FRS t u) (h12 : t 307 12 = s 307 12) : u o i = t o i := by
  refine hF o i (fun z => ?_)
  unfold INS at h
  unfold INX at z
  rw [h12] at z
  rcases h with h | h | h | h <;> omega
def AGV (A B : AHp) (v w : Sg) : Prop := ∀ o k, hn A ≤ o → o < hn B → w o k = v o k
def AGT (s t u : Sg) : Prop := ∀ o i, INS s t o i → u o i = t o i
/-- nothing of the class's below the end of A is written, but for what a reader keeps -/
def XFR (A : AHp) (v w : Sg) : Prop := ∀ o k, o < hn A → ¬ (o = 61 ∧ 3 ≤ k ∧ k ≤ 6) → w o k = v o k
/-- a heap that grew -/
def GRO (A B : AHp) : Prop := OLD A B ∧ (hs B : Int) + 6 * hn A ≤ (hs A : Int) + 6 * hn B
theorem GRO.rf {A : AHp} : GRO A A := ⟨old_rfl A, by omega⟩
theorem GRO.tr {A B C : AHp} (h : GRO A B) (g : GRO B C) : GRO A C := ⟨old_tr h.1 g.1, by have := h.2; have := g.2; omega⟩
theorem XFR.rf {A : AHp} {v : Sg} : XFR A v v := fun _ _ _ _ => rfl
theorem XFR.tr {A B : AHp} {v w x : Sg} (h : XFR A v w) (g : XFR B w x) (hO : OLD A B) : XFR A v x := fun o k a b => (g o k (Int.lt_of_lt_of_le a hO.1) b).trans (h o k a b)
theorem XFR.at {A : AHp} {v : Sg} {k x : Int} (hk9 : 3 ≤ k ∧ k ≤ 6) : XFR A v (sset v 61 k x) := fun o j a b => by
  unfold sset
  rw [if_neg (by omega)]
theorem XFR.up {A : AHp} {v w : Sg} {o k x : Int} (h : XFR A v w) (ho : hn A ≤ o) : XFR A v (sset w o k x) := fun o' j a b => by
  unfold sset
  rw [if_neg (by omega)]
  exact h o' j a b
theorem TSM.eq {v w s t : Sg} (h : TSM v s) (h1 : w 61 2 = v 61 2) (h2 : ∀ k, w 63 k = v 63 k) (h3 : ∀ k, w 62 k = v 62 k) (h4 : t 307 17 = s 307 17) (h5 : ∀ k, t 322 k = s 322 k) : TSM w t := by
  obtain ⟨⟨a1, a2, a3⟩, a4, a5⟩ := h
  have eb : ∀ k, btS t k = btS s k := fun k => by unfold btS; rw [h4, h5]
  have ex : ∀ k, btX w k = btX v k := fun k => by unfold btX; rw [h1, h2]
  exact ⟨⟨by rw [h1]; exact a1, fun k hk => by rw [ex, eb]; exact a2 k hk, fun k hk => by rw [eb]; exact a3 k hk⟩, by rw [h1, h4]; exact a4, fun j j1 j2 => by rw [h3]; exact a5 j j1 j2⟩
theorem TSM.xf {A : AHp} {v w s : Sg} (h : TSM v s) (hA : 350 ≤ hn A) (hX : XFR A v w) : TSM w s :=
  h.eq (hX _ _ (by omega) (by omega)) (fun k => hX _ _ (by omega) (by omega)) (fun k => hX _ _ (by omega) (by omega)) rfl (fun _ => rfl)
theorem TSM.fr {v s t : Sg} (h : TSM v s) (hF : FRS s t) : TSM v t :=
  h.eq rfl (fun _ => rfl) (fun _ => rfl) (hF.k (by omega)) (fun k => hF 322 k (by unfold INX; omega))
theorem bt_fr {s t : Sg} {k : Int} (hF : FRS s t) : btS t k = btS s k := by
  unfold btS
  rw [hF.k (i := 17) (by omega), hF 322 k (by unfold INX; omega)]
/-- a pipe, class and reference, with all that is in it; e: how deep lists go in it at most -/
def GP (A : AHp) (V T : Sg) : Nat → Int → Int → Prop
  | 0, po, p => PC A V T po p ∧ PW T p ∧ T 314 (T 312 p) ≠ 14
  | e + 1, po, p => PC A V T po p ∧ PW T p ∧ (T 314 (T 312 p) = 14 → (350 ≤ V (V (hp A po 0) 0) 3 ∧ 0 ≤ T 315 (T 312 p) ∧ T 315 (T 312 p) < 480) ∧ CHR V T (GP A V T e) 60 (V (V (hp A po 0) 0) 3) (T 309 (T 315 (T 312 p))))
def SI (A : AHp) (V T : Sg) : Nat → Int → Int → Prop
  | 0, _, st => T 314 st ≠ 14
  | e + 1, so, st => T 314 st = 14 → (350 ≤ V so 3 ∧ 0 ≤ T 315 st ∧ T 315 st < 480) ∧ CHR V T (GP A V T e) 60 (V so 3) (T 309 (T 315 st))
theorem GP.mk {A : AHp} {V T : Sg} {po p : Int} : ∀ {e : Nat}, PC A V T po p → PW T p → SI A V T e (V (hp A po 0) 0) (T 312 p) → GP A V T e po p
  | 0, h1, h2, h3 => ⟨h1, h2, h3⟩
  | _ + 1, h1, h2, h3 => ⟨h1, h2, h3⟩
theorem SI.no {A : AHp} {V T : Sg} {so st : Int} : ∀ {e : Nat}, T 314 st ≠ 14 → SI A V T e so st
  | 0, h => h
  | _ + 1, h => fun z => absurd z h
theorem CHR.map {V T : Sg} {P R : Int → Int → Prop} (h : ∀ po p, P po p → R po p) : ∀ {m : Nat} {po p : Int}, CHR V T P m po p → CHR V T R m po p
  | 0, _, _, q => q
  | _ + 1, _, _, q => q.elim Or.inl (fun q => Or.inr ⟨q.1, h _ _ q.2.1, CHR.map h q.2.2⟩)
theorem CHR.le {V T : Sg} {P : Int → Int → Prop} : ∀ {m n : Nat} {po p : Int}, m ≤ n → CHR V T P m po p → CHR V T P n po p
  | 0, 0, _, _, _, q => q
  | 0, _ + 1, _, _, _, q => Or.inl q
  | _ + 1, 0, _, _, h, _ => absurd h (by omega)
  | _ + 1, _ + 1, _, _, h, q => q.elim Or.inl (fun q => Or.inr ⟨q.1, q.2.1, CHR.le (by omega) q.2.2⟩)
theorem CHR.ch {V T : Sg} {P : Int → Int → Prop} {R : Int → Prop} (h : ∀ po p, P po p → p < 480 ∧ R p) : ∀ {m : Nat} {po p : Int}, CHR V T P m po p → CH T R m p
  | 0, _, _, q => q.2
  | _ + 1, _, _, q => q.elim (fun q => Or.inl q.2) (fun q => Or.inr ⟨⟨q.1.2, (h _ _ q.2.1).1⟩, (h _ _ q.2.1).2, CHR.ch h q.2.2⟩)
theorem CH.le {T : Sg} {R : Int → Prop} : ∀ {m n : Nat} {p : Int}, m ≤ n → CH T R m p → CH T R n p
  | 0, 0, _, _, q => q
  | 0, _ + 1, _, _, q => Or.inl q
  | _ + 1, 0, _, h, _ => absurd h (by omega)
  | _ + 1, _ + 1, _, h, q => q.elim Or.inl (fun q => Or.inr ⟨q.1, q.2.1, CH.le (by omega) q.2.2⟩)
theorem GP.pw {A : AHp} {V T : Sg} {e : Nat} {po p : Int} (h : GP A V T e po p) : PC A V T po p ∧ PW T p := by
  cases e with
  | zero => exact ⟨h.1, h.2.1⟩
  | succ e => exact ⟨h.1, h.2.1⟩
theorem GP.pr {A : AHp} {V T : Sg} : ∀ {e : Nat} {po p : Int}, GP A V T e po p → PR A V T e po p
  | 0, _, _, h => ⟨h.1, h.2.2⟩
  | _ + 1, _, _, h => ⟨h.1, fun z => ⟨(h.2.2 z).1.1, CHR.map (fun _ _ q => GP.pr q) (h.2.2 z).2⟩⟩
theorem GP.pok {A : AHp} {V T : Sg} : ∀ {e : Nat} {po p : Int}, GP A V T e po p → POK T e p
  | 0, _, _, h => ⟨h.2.1, h.2.2⟩
  | _ + 1, _, _, h => ⟨h.2.1, fun z => ⟨(h.2.2 z).1.2, CH.le (by omega) (CHR.ch (fun _ _ q => ⟨q.pw.2.1.2.1, GP.pok q⟩) (h.2.2 z).2)⟩⟩
/-- a pipe's numbers, and its stages', lie in the part of the tables of line ln -/
def RNG (T : Sg) (ln p : Int) : Prop := (60 * ln ≤ p ∧ p < 60 * ln + 60) ∧ 60 * ln ≤ T 312 p ∧ T 312 p + T 313 p ≤ 60 * ln + 60
def GQ (A : AHp) (V T : Sg) (ln : Int) (e : Nat) (po p : Int) : Prop := GP A V T e po p ∧ RNG T ln p
/-- what the tables say of a stage -/
def STF (T : Sg) (st : Int) : Prop := (0 ≤ T 316 st ∧ T 316 st ≤ 4) ∧ (0 ≤ T 314 st ∧ T 314 st ≤ 14) ∧ (∀ i, 0 ≤ i → i < T 316 st → -6 ≤ T 317 (4 * st + i)) ∧ (T 314 st = 8 → 0 ≤ T 315 st ∧ T 315 st < 5)
theorem ST.tr {B C : AHp} {v w t u : Sg} {so st : Int} (hO : OLD B C) (h : ST B v t so st) (hm : t 316 st ≤ 4) (h2 : w so 2 = v so 2) (ha : ∀ i, w (hp B so 1) i = v (hp B so 1) i) (e4 : u 314 st = t 314 st) (e5 : u 315 st = t 315 st) (e6 : u 316 st = t 316 st) (e7 : ∀ i, 0 ≤ i → i < 4 → u 317 (4 * st + i) = t 317 (4 * st + i)) : ST C w u so st := by
  obtain ⟨q, h1, h3, h4, h5⟩ := h
  have hl9 := isO_lt q.2.1
  have ep0 := old_hp (k := 0) hO hl9
  have ep1 := old_hp (k := 1) hO hl9
  have qC : STG C w so := by
    obtain ⟨q0, q1, q2, q3, q4, q5, q6⟩ := q
    refine ⟨q0, old_O hO q1, by rw [ep0]; exact q2, by rw [ep1]; exact q3, by rw [ep1]; exact old_A hO q4, by rw [h2]; exact q5, ?_⟩
    rw [ep1]
    intro i a b
    rw [ha i]
    exact q6 i a b
  refine ⟨qC, by rw [ep0, e4]; exact h1, fun z => ?_, fun z => ?_, fun z => ?_⟩
  · rw [e4] at z
    obtain ⟨g1, g2⟩ := h3 z
    refine ⟨by rw [h2, e6]; exact g1, fun i i1 i2 => ?_⟩
    rw [e6] at i2
    rw [ep1, ha i, e7 i i1 (by omega)]
    exact g2 i i1 i2
  · rw [e4] at z
    obtain ⟨g1, g2⟩ := h4 z
    exact ⟨by rw [e6]; exact g1, by rw [ep1, ha 0, e5]; exact g2⟩
  · rw [e4] at z
    rw [e6]
    exact h5 z
theorem STF.tr {t u : Sg} {st : Int} (h : STF t st) (e4 : u 314 st = t 314 st) (e5 : u 315 st = t 315 st) (e6 : u 316 st = t 316 st) (e7 : ∀ i, 0 ≤ i → i < 4 → u 317 (4 * st + i) = t 317 (4 * st + i)) : STF u st := by
  obtain ⟨h1, h2, h3, h4⟩ := h
  refine ⟨by rw [e6]; exact h1, by rw [e4]; exact h2, fun i i1 i2 => ?_, fun z => ?_⟩
  · rw [e6] at i2
    rw [e7 i i1 (by omega)]
    exact h3 i i1 i2
  · rw [e4] at z
    rw [e5]
    exact h4 z
/-- a stage that was made between A and B, s and t -/
def SJ (A B : AHp) (v s t : Sg) (e : Nat) (so st : Int) : Prop := ∀ (C : AHp) (w u : Sg), OLD B C → AGV A B v w → AGT s t u → ST C w u so st ∧ STF u st ∧ SI C w u e so st ∧ u 314 st = t 314 st
/-- a pipe that was made (but for how it is joined, and what is behind it) -/
def PJ (A B : AHp) (v s t : Sg) (e : Nat) (po p : Int) : Prop := ∀ (C : AHp) (w u : Sg), OLD B C → (∀ o k, hn A ≤ o → o < hn B → ¬ (o = po ∧ (k = 2 ∨ k = 3)) → w o k = v o k) → (∀ o i, INS s t o i → ¬ ((o = 310 ∨ o = 311) ∧ i = p) → u o i = t o i) → w po 2 = u 311 p → GQ C w u (s 307 12) e po p
/-- a list that was made -/
def LJ (A B : AHp) (v s t : Sg) (e : Nat) (po l : Int) : Prop := ∀ (C : AHp) (w u : Sg), OLD B C → AGV A B v w → AGT s t u → 350 ≤ po ∧ CHR w u (GQ C w u (s 307 12) e) 60 po (u 309 l)
/-- the first n stages of a pipe that is being made -/
def PL (A B : AHp) (v s r : Sg) (e : Nat) (po ar f n : Int) : Prop := ∀ (C : AHp) (w u : Sg), OLD B C → (∀ o k, hn A ≤ o → o < hn B → o ≠ po → o ≠ ar → w o k = v o k) → AGT s r u → ∀ k, 0 ≤ k → k < n → ST C w u (v ar k) (f + k) ∧ STF u (f + k) ∧ (k = 0 → SI C w u e (v ar k) f) ∧ (0 < k → u 314 (f + k) < 11)
/-- the rest of a list, behind a pipe -/
def RJ (A B : AHp) (v s t : Sg) (e : Nat) (po y : Int) : Prop := ∀ (C : AHp) (w u : Sg), OLD B C → AGV A B v w → AGT s t u → w po 3 = v po 3 → u 310 y = t 310 y → CHR w u (GQ C w u (s 307 12) e) (t 307 21 - s 307 21).toNat (w po 3) (u 310 y)
theorem SJ.cmd {A B : AHp} {v s t : Sg} {e : Nat} {so st : Int} (hST : ST B v t so st) (hF : STF t st) (h14 : t 314 st ≠ 14) (hso : hn A ≤ so) (hta : hn A ≤ hp B so 1) (hst : 60 * s 307 12 + s 307 22 ≤ st ∧ st < 60 * s 307 12 + t 307 22) : SJ A B v s t e so st := by
  intro C w u hO hv hu
  have hl1 := isO_lt hST.1.2.1
  have hl2 := isA_lt hST.1.2.2.2.2.1
  have e4 : u 314 st = t 314 st := hu _ _ (by unfold INS; omega)
  have e5 : u 315 st = t 315 st := hu _ _ (by unfold INS; omega)
  have e6 : u 316 st = t 316 st := hu _ _ (by unfold INS; omega)
  have e7 : ∀ i, 0 ≤ i → i < 4 → u 317 (4 * st + i) = t 317 (4 * st + i) := fun i a b => hu _ _ (by unfold INS; omega)
  exact ⟨ST.tr hO hST hF.1.2 (hv _ _ hso hl1) (fun i => hv _ _ hta hl2) e4 e5 e6 e7, hF.tr e4 e5 e6 e7, SI.no (by rw [e4]; exact h14), e4⟩
/-- the class's stage of a list in braces -/
theorem SJ.brc {A A2 B : AHp} {v v2 s s2 r t : Sg} {e : Nat} {so st l pi9 : Int} (hJ : LJ A2 B v2 s2 r e pi9 l) (hO : OLD A A2) (hso : hn A ≤ so ∧ so < hn A2) (hta : hn A ≤ hp B so 1 ∧ hp B so 1 < hn A2) (hST : ST B v t so st) (hF : STF t st) (h3 : v so 3 = pi9) (hl9 : t 315 st = l ∧ 0 ≤ l ∧ l < 480)
    (hv : ∀ o k, hn A2 ≤ o → o < hn B → v o k = v2 o k) (hu : ∀ o i, INS s2 r o i → t o i = r o i) (hin : ∀ o i, INS s2 r o i → INS s t o i) (hst : 60 * s 307 12 + s 307 22 ≤ st ∧ st < 60 * s 307 12 + t 307 22) (hB : OLD A2 B) : SJ A B v s t (e + 1) so st := by
  intro C w u hO2 hv2 hu2
  have hl1 := isO_lt hST.1.2.1
  have hl2 := isA_lt hST.1.2.2.2.2.1
  have e4 : u 314 st = t 314 st := hu2 _ _ (by unfold INS; omega)
  have e5 : u 315 st = t 315 st := hu2 _ _ (by unfold INS; omega)
  have e6 : u 316 st = t 316 st := hu2 _ _ (by unfold INS; omega)
  have e7 : ∀ i, 0 ≤ i → i < 4 → u 317 (4 * st + i) = t 317 (4 * st + i) := fun i a b => hu2 _ _ (by unfold INS; omega)
  refine ⟨ST.tr hO2 hST hF.1.2 (hv2 _ _ hso.1 hl1) (fun i => hv2 _ _ hta.1 hl2) e4 e5 e6 e7, hF.tr e4 e5 e6 e7, ?_, e4⟩
  obtain ⟨j1, j2⟩ := hJ C w u hO2 (fun o k a b => (hv2 o k (Int.le_trans hO.1 a) b).trans (hv o k a b)) (fun o i q => (hu2 o i (hin o i q)).trans (hu o i q))
  have e3 : w so 3 = pi9 := (hv2 _ _ hso.1 hl1).trans h3
  show u 314 st = 14 → (350 ≤ w so 3 ∧ 0 ≤ u 315 st ∧ u 315 st < 480) ∧ CHR w u (GP C w u e) 60 (w so 3) (u 309 (u 315 st))
  intro _
  rw [e3, e5, hl9.1]
  exact ⟨⟨j1, hl9.2⟩, CHR.map (fun _ _ q => q.1) j2⟩
theorem PL.one {A B1 B : AHp} {v1 v s r : Sg} {e : Nat} {po ar f so : Int} (hJ : SJ A B1 v1 s r e so f) (hO : OLD B1 B) (hpo : hn B1 ≤ po ∧ hn B1 ≤ ar) (hv : ∀ o k, hn A ≤ o → o < hn B1 → v o k = v1 o k) (har : v ar 0 = so) : PL A B v s r e po ar f 1 := by
  intro C w u hO2 hw hu k k0 k1
  obtain rfl : k = 0 := by omega
  obtain ⟨j1, j2, j3, j4⟩ := hJ C w u (old_tr hO hO2) (fun o k a b => (hw o k a (Int.lt_of_lt_of_le b hO.1) (by omega) (by omega)).trans (hv o k a b)) hu
  rw [har, Int.add_zero]
  exact ⟨j1, j2, fun _ => j3, fun z => by omega⟩
theorem PL.more {A B B' : AHp} {v v' s r r1 t : Sg} {e : Nat} {po ar f n so : Int} (hP : PL A B v s r e po ar f n) (hA : 350 ≤ hn A ∧ hn A ≤ hn B) (hpo : hn A ≤ po ∧ po < hn B ∧ hn A ≤ ar ∧ ar < hn B) (hne : po ≠ ar) (hn9 : 0 < n) (h12 : r 307 12 = s 307 12) (hm : MNS s r) (hr1 : ∀ i, i ≠ 18 → r1 307 i = r 307 i) (hr2 : ∀ o i, o ≠ 307 → r1 o i = r o i) (hF : FRS r1 t) (hM : MNS r1 t)
    (hJ : SJ B B' v' r1 t 0 so (f + n)) (hO : OLD B B') (hX : XFR B v v') (h11 : t 314 (f + n) < 11) : PL A B' (sset (sset v' ar n so) po 1 (n + 1)) s t e po ar f (n + 1) := by
  intro C w u hO2 hw hu k k0 k1
  have e12 := hr1 12 (by omega)
  have e20 := hr1 20 (by omega)
  have e21 := hr1 21 (by omega)
  have e22 := hr1 22 (by omega)
  obtain ⟨m1, m2, m3, m4⟩ := hm
  obtain ⟨g1, g2, g3, g4⟩ := hM
  have ew : ∀ o k, o ≠ po → o ≠ ar → (sset (sset v' ar n so) po 1 (n + 1)) o k = v' o k := fun o k a b => by
    unfold sset
    rw [if_neg (by omega), if_neg (by omega)]
  have ear : ∀ k, k ≠ n → (sset (sset v' ar n so) po 1 (n + 1)) ar k = v ar k := fun k q => by
    rw [sset_1 (by omega), sset_2 q]
    exact hX _ _ hpo.2.2.2 (by omega)
  have ean : (sset (sset v' ar n so) po 1 (n + 1)) ar n = so := by
    rw [sset_1 (by omega), sset_e]
  by_cases c : k = n
  · subst c
    rw [ean]
    obtain ⟨j1, j2, j3, j4⟩ := hJ C w u hO2 (fun o i a b => (hw o i (by omega) b (by omega) (by omega)).trans (ew o i (by omega) (by omega))) (fun o i q => hu o i (q.mn (by omega) ⟨by omega, by omega⟩ ⟨by omega, by omega⟩ ⟨by omega, by omega⟩))
    exact ⟨j1, j2, fun z => by omega, fun _ => by rw [j4]; exact h11⟩
  · rw [ear k c]
    refine hP C w u (old_tr hO hO2) (fun o i a b c1 c2 => ?_) (fun o i q => ?_) k k0 (by omega)
    · rw [hw o i a (Int.lt_of_lt_of_le b hO.1) c1 c2, ew o i c1 c2]
      exact hX o i b (by omega)
    · have q1 : INS s t o i := q.mn rfl ⟨by omega, by omega⟩ ⟨by omega, by omega⟩ ⟨by omega, by omega⟩
      have q2 : INS s r1 o i := q.mn rfl ⟨by omega, by omega⟩ ⟨by omega, by omega⟩ ⟨by omega, by omega⟩
      have q3 : o ≠ 307 := by unfold INS at q; omega
      rw [hu o i q1, q2.old hF (by omega)]
      exact hr2 o i q3
theorem PL.end {A B : AHp} {v s r t : Sg} {e : Nat} {po ar f n p : Int} (hP : PL A B v s r e po ar f n) (hPo : PIP B po) (har : hp B po 0 = ar) (hpo : hn A ≤ po ∧ hn A ≤ ar) (hne : po ≠ ar) (hn9 : 0 < n ∧ n ≤ 6) (hsz : v po 1 = n) (hp9 : p = 60 * s 307 12 + r 307 21) (hpr : 0 ≤ p ∧ p < 480) (hf : 0 ≤ f ∧ f + n ≤ 480) (ht : t = sset (sset (sset r 307 21 (r 307 21 + 1)) 312 p f) 313 p n) (hm : s 307 21 ≤ r 307 21) (hr : 60 * s 307 12 ≤ f ∧ f + n ≤ 60 * s 307 12 + 60) (hr2 : 0 ≤ r 307 21 ∧ r 307 21 < 60) : PJ A B v s t e po p := by
  intro C w u hO hw hu h2
  have hl1 := isO_lt hPo.2.1
  have hl2 : ar < hn B := by rw [← har]; exact isA_lt hPo.2.2.2
  have t21 : t 307 21 = r 307 21 + 1 := by rw [ht, sset_1 (by omega), sset_1 (by omega), sset_e]
  have tk : ∀ i, i ≠ 21 → t 307 i = r 307 i := fun i q => by rw [ht, sset_1 (by omega), sset_1 (by omega), sset_2 q]
  have to : ∀ o i, o ≠ 307 → ¬ ((o = 312 ∨ o = 313) ∧ i = p) → t o i = r o i := fun o i q1 q2 => by
    rw [ht]
    unfold sset
    rw [if_neg (by omega), if_neg (by omega), if_neg (by omega)]
  have t312 : t 312 p = f := by rw [ht, sset_1 (by omega), sset_e]
  have t313 : t 313 p = n := by rw [ht, sset_e]
  have e312 : u 312 p = f := (hu 312 p (by unfold INS; omega) (by omega)).trans t312
  have e313 : u 313 p = n := (hu 313 p (by unfold INS; omega) (by omega)).trans t313
  have e20 := tk 20 (by omega)
  have e22 := tk 22 (by omega)
  have hK := hP C w u hO (fun o k a b c1 c2 => hw o k a b (by omega)) (fun o i q => by
    have q1 : INS s t o i := q.mn rfl ⟨by omega, by omega⟩ ⟨by omega, by omega⟩ ⟨by omega, by omega⟩
    have q2 : o ≠ 307 ∧ ((310 ≤ o ∧ o ≤ 313) → i < p) := by unfold INS at q; omega
    rw [hu o i q1 (fun z => by have := q2.2 (by omega); omega)]
    exact to o i q2.1 (fun z => by have := q2.2 (by omega); omega))
  have earr : ∀ k, w ar k = v ar k := fun k => hw ar k hpo.2 hl2 (by omega)
  have ehp : hp C po 0 = ar := (old_hp hO hl1).trans har
  refine ⟨GP.mk ⟨old_PIP hO hPo, ?_, h2, fun k k0 k1 => ?_⟩ ⟨⟨hpr.1, hpr.2, by omega, by omega, by omega, by omega, fun k k0 k1 => ?_⟩, fun k k0 k1 => ?_, fun k k0 k1 => ?_⟩ ?_, ⟨by omega, by omega⟩, by omega, by omega⟩
  · rw [hw po 1 hpo.1 hl1 (by omega), e313]; exact hsz
  · rw [e313] at k1
    rw [ehp, earr, e312]
    exact (hK k k0 k1).1
  · rw [e313] at k1
    rw [e312]
    obtain ⟨a1, a2, a3, a4⟩ := (hK k k0 k1).2.1
    exact ⟨a1.1, a1.2, a2.1, a2.2, a3⟩
  · rw [e313] at k1
    rw [e312]
    exact (hK k (by omega) k1).2.2.2 k0
  · rw [e313] at k1
    rw [e312]
    exact (hK k k0 k1).2.1.2.2.2
  · have := (hK 0 (by omega) hn9.1).2.2.1 rfl
    rw [ehp, earr, e312]
    exact this
