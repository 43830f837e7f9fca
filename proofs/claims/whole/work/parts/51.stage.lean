/-! ===== a stage, and the list within it ===== -/
def GLR (V : Sg) (ko : Int) (v s : Sg) : Prop := (∀ o j, UNC ko o j → v o j = V o j) ∧ (v 64 3 = s 307 32 ∧ v 64 4 = s 307 34 ∧ in32 (s 307 34)) ∧ ∀ n, 0 ≤ n → n < 5 → v (ko + 1) n = s 320 n
def OUTR (v s : Sg) (to at9 : Int) : Prop := (at9 < 0 → v to 1 = s 307 36 ∧ ∀ i, 0 ≤ i → i < s 307 36 → v (to + 1) i = s 331 i) ∧ (0 ≤ at9 → v to 1 = s 330 at9 ∧ ∀ i, 0 ≤ i → i < s 330 at9 → v (to + 1) i = s 329 (60 * at9 + i))
def XCG (ko lev to o j : Int) : Prop := o = ko + 1 ∨ (o = 64 ∧ (j = 3 ∨ j = 4)) ∨ o = to ∨ o = to + 1 ∨ (67 + 7 * lev ≤ o ∧ o < 207)
def XG (ko lev to : Int) (v v' : Sg) : Prop := ∀ o j, ¬ XCG ko lev to o j → v' o j = v o j
/-- the lines, the functions, the frames of the class as they stand -/
def STL (A : AHp) (V T : Sg) (ko : Int) : Prop := (0 ≤ V 64 1 ∧ V 64 1 ≤ 8) ∧ (∀ j, 0 ≤ j → j < V 64 1 → isO A (V 65 j) 3 ∧ 350 ≤ hp A (V 65 j) 0 ∧ CHR V T (PR A V T 3) 60 (hp A (V 65 j) 0) (T 309 (60 * j)) ∧ CH T (POK T 3) 100 (T 309 (60 * j))) ∧
  (∀ f, 0 ≤ f → f < 3 → V (ko + 2) f = T 321 f ∧ T 321 f < V 64 1) ∧ ∀ j, 0 ≤ j → j < 20 → V 66 j = 67 + 7 * j
/-- a list goes: class and reference keep step -/
def GLX (d : Nat) (nx : Sg → Int → Int → Option (Int × Sg)) (A : AHp) (V T : Sg) (ko lev c at9 to g : Int) (e : Nat) : Prop :=
  ∀ (v s t : Sg) (l first par z : Int) (Q : Option AV → AHp → Prop), goesS nx l par c at9 s = some (z, t) → GI T s → s 307 33 = g → (0 ≤ l ∧ l < 480) → CH T (POK T e) 100 (T 309 l) → CHR V T (PR A V T e) 60 first (T 309 l) → in32 par → (0 ≤ at9 → 0 ≤ s 330 at9 ∧ s 330 at9 ≤ 60) → GLR V ko v s → OUTR v s to at9 →
    (∀ v', GLR V ko v' t → OUTR v' t to at9 → XG ko lev to v v' → Q (some (vi z)) (cl A v')) → CALL d mX4_goList [vr 64, vr ko, vr first, vi par, vi g, vi lev, vr to] (cl A v) Q
theorem FRL.g {V T : Sg} {ko fo fr p po g : Int} {v s : Sg} {k : Nat} (h : FRL V T ko fo fr p po g v s k) : GLR V ko v s := ⟨h.1, h.2.1, h.2.2.1⟩
theorem GLR.seq {V : Sg} {ko : Int} {v s s' : Sg} (h : GLR V ko v s) (h1 : s' 307 32 = s 307 32) (h2 : s' 307 34 = s 307 34) (h3 : ∀ n, s' 320 n = s 320 n) : GLR V ko v s' :=
  ⟨h.1, by rw [h1, h2]; exact h.2.1, fun n g1 g2 => by rw [h3]; exact h.2.2 n g1 g2⟩
theorem GLR.veq {V : Sg} {ko : Int} {v v' s : Sg} (h : GLR V ko v s) (h0 : ∀ o j, UNC ko o j → v' o j = v o j) (h1 : v' 64 3 = v 64 3) (h2 : v' 64 4 = v 64 4) (h3 : ∀ n, v' (ko + 1) n = v (ko + 1) n) : GLR V ko v' s :=
  ⟨fun o j q => (h0 o j q).trans (h.1 o j q), by rw [h1, h2]; exact h.2.1, fun n g1 g2 => by rw [h3]; exact h.2.2 n g1 g2⟩
theorem inx {d : Nat} {nx : Sg → Int → Int → Option (Int × Sg)} {A : AHp} {V T : Sg} {ko fo lev fr p po g so o : Int} {e k : Nat} (hC : SKX A V T ko fo lev fr p po e k so o) (hk0 : k = 0) (hPR : PR A V T e po p) (hL : STL A V T ko) (hd : 5 ≤ d) (hg4 : 0 ≤ g ∧ g ≤ 4) (hw : 11 ≤ T 314 (T 312 p + k)) (hlv : g < 4 ∨ 0 < e → lev + 1 < 20)
    (hGB : ∀ e', e = e' + 1 → GLX (d - 1) nx A V T ko (lev + 1) (childS fr) fr (fo + 5) g e') (hGF : g < 4 → GLX (d - 1) nx A V T ko (lev + 1) (childS fr) fr (fo + 5) (g + 1) 3)
    {v s u : Sg} {n : Int} {Q : Option AV → AHp → Prop} (hG : GI T s) (hgg : s 307 33 = g) (hn32 : in32 n) (hR : GLR V ko v s) (h1 : v fo 1 = po) (h3 : v fo 3 = s 324 fr) (h4 : v fo 4 = g) (hn : T 314 (T 312 p + k) ≤ 13 → v (fo + 1) (k * 4) = n) (ho5 : v (fo + 5) 1 = 0) (h330 : s 330 fr = 0) (hpl : s 326 (6 * fr) = 0)
    (hI : innerS nx fr (T 312 p) n s = some u)
    (hE : ∀ v', GLR V ko v' u → v' (fo + 5) 1 = u 330 fr → (∀ i, 0 ≤ i → i < u 330 fr → v' (fo + 5 + 1) i = u 329 (60 * fr + i)) → XG ko (lev + 1) (fo + 5) v v' → Q (some (vi (u 328 (6 * fr)))) (cl A v')) :
    CALL d mX4_goInner [vr 64, vr ko, vr fo, vi k, vi (lev + 1)] (cl A v) Q := by
  obtain ⟨hX, hK, hFr, hfo, hko, hlev, hfl, hfr, hPC, hPOK, hTOK⟩ := id hC.1
  obtain ⟨hST, ho⟩ := hC.st
  have hk5 := hC.k5
  have e00 : (T 312 p + (k : Int)) = T 312 p := by omega
  rw [e00] at hw hn hST ho
  have eu : ∀ o j, UNC ko o j → v o j = V o j := hR.1
  have eh : ∀ o j, 350 ≤ o → v o j = V o j := fun o j q => eu o j (Or.inl q)
  have hPo := hPC.1
  have hso : v (hp A po 0) k = so := (eh _ _ hPo.2.2.1).trans hC.2.2.1
  have hStg : STG A v so := hST.1.eq eh
  have hln : 0 ≤ v 64 1 ∧ v 64 1 ≤ 8 := by rw [eu 64 1 (by unfold UNC; omega)]; exact hL.1
  have hls : ∀ j, 0 ≤ j → j < v 64 1 → isO A (v 65 j) 3 := fun j g1 g2 => by
    rw [eu 65 j (by unfold UNC; omega)]
    rw [eu 64 1 (by unfold UNC; omega)] at g2
    exact (hL.2.1 j g1 g2).1
  have hlast := hPOK.w.1.2.2.2.2.2.2 0 (by omega) (by have := hC.2.1; omega)
  rw [Int.add_zero] at hlast
  have h14 := hlast.2.2.2.1
  have ew : s 314 (T 312 p) = T 314 (T 312 p) := hG.1 _ _ (by omega)
  have ef : ∀ j, s 321 j = T 321 j := fun j => hG.1 _ _ (by omega)
  unfold innerS at hI
  rw [if_neg (by omega), ew] at hI
  have hOUT : OUTR v s (fo + 5) fr := ⟨fun q => by omega, fun _ => ⟨by rw [ho5, h330], fun i g1 g2 => by omega⟩⟩
  by_cases c2 : T 314 (T 312 p) = 14
  · rw [if_pos c2] at hI
    obtain ⟨⟨z, r⟩, q1, q2⟩ := Option.bind_eq_some_iff.mp hI
    simp only [Option.some.injEq] at q2
    cases e with
    | zero => exact absurd c2 hPR.2
    | succ e' =>
      obtain ⟨hi1, hi2⟩ := hPR.2 c2
      have hso2 : V (hp A po 0) 0 = so := by
        have := hC.2.2.1
        rw [hk0] at this
        exact this
      rw [hso2] at hi1 hi2
      obtain ⟨hc1, hc2⟩ := hPOK.2 c2
      have ein : v so 3 = V so 3 := eh _ _ hST.1.1
      refine x_goInB (po := po) (so := so) (o := o) (r9 := V so 3) (by omega) hX hK hFr hfo hko (by omega) h1 hPo hso hStg hC.2.2.2 hln hls (by omega) (by omega) (by omega) (fun _ => hlv (Or.inr (by omega))) ein (Or.inr hi1) (fun q => by omega) (fun _ q => by omega) (fun _ _ => ?_)
      rw [h3, h4]
      have e15 : s 315 (T 312 p) = T 315 (T 312 p) := hG.1 _ _ (by omega)
      rw [e15] at q1
      refine hGB e' rfl v s r _ _ _ z _ q1 hG hgg hc1 hc2 hi2 (hG.2.2.2.2.1 _) (fun _ => by omega) hR hOUT (fun v' g1 g2 g3 => ?_)
      refine ⟨z, v', rfl, rfl, ?_⟩
      have := hE v' (g1.seq (by rw [← q2, sset_1 (by omega)]) (by rw [← q2, sset_1 (by omega)]) (fun n => by rw [← q2, sset_1 (by omega)])) (by rw [← q2, sset_1 (by omega)]; exact (g2.2 hfr.1).1) (fun i i1 i2 => by rw [← q2, sset_1 (by omega)] at i2; rw [← q2, sset_1 (by omega)]; exact (g2.2 hfr.1).2 i i1 i2) g3
      rw [← q2, sset_e] at this
      exact this
  · rw [if_neg c2, ef] at hI
    have hf := hL.2.2.1 (T 314 (T 312 p) - 11) (by omega) (by omega)
    have evf : v (ko + 2) (o - 12) = T 321 (T 314 (T 312 p) - 11) := by
      rw [eu _ _ (by unfold UNC; omega), show o - 12 = T 314 (T 312 p) - 11 by omega]
      exact hf.1
    by_cases c3 : T 321 (T 314 (T 312 p) - 11) < 0
    · rw [if_pos c3, Option.some.injEq] at hI
      refine x_goInF (po := po) (so := so) (o := o) (r9 := 0) (by omega) hX hK hFr hfo hko (by omega) h1 hPo hso hStg hC.2.2.2 hln hls (by omega) (by omega) (by omega) (fun q => hlv (Or.inl (by omega))) (by rw [if_neg (by rw [evf]; omega)]) (Or.inl rfl) (fun _ => ?_) (fun q => absurd rfl q) (fun q => absurd rfl q)
      have := hE v (hR.seq (by rw [← hI, sset_1 (by omega)]) (by rw [← hI, sset_1 (by omega)]) (fun n => by rw [← hI, sset_1 (by omega)])) (by rw [← hI, sset_1 (by omega), h330]; exact ho5) (fun i i1 i2 => by rw [← hI, sset_1 (by omega)] at i2; omega) (fun _ _ _ => rfl)
      rw [← hI, sset_e] at this
      exact this
    · rw [if_neg c3, hgg] at hI
      have hlj := hL.2.1 (T 321 (T 314 (T 312 p) - 11)) (by omega) hf.2
      have efst : (if 0 ≤ v (ko + 2) (o - 12) ∧ v (ko + 2) (o - 12) < v 64 1 then hp A (v 65 (v (ko + 2) (o - 12))) 0 else 0) = hp A (V 65 (T 321 (T 314 (T 312 p) - 11))) 0 := by
        rw [evf, eu 64 1 (by unfold UNC; omega), if_pos ⟨by omega, hf.2⟩, eu 65 _ (by unfold UNC; omega)]
      refine x_goInF (po := po) (so := so) (o := o) (by omega) hX hK hFr hfo hko (by omega) h1 hPo hso hStg hC.2.2.2 hln hls (by omega) (by omega) (by omega) (fun q => hlv (Or.inl (by omega))) efst (Or.inr hlj.2.1) (fun q => by omega) (fun _ q => ?_) (fun _ q => ?_)
      · rw [h4] at q
        rw [if_pos (by omega), Option.some.injEq] at hI
        have := hE v (hR.seq (by rw [← hI, sset_1 (by omega)]) (by rw [← hI, sset_1 (by omega)]) (fun n => by rw [← hI, sset_1 (by omega)])) (by rw [← hI, sset_1 (by omega), h330]; exact ho5) (fun i i1 i2 => by rw [← hI, sset_1 (by omega)] at i2; omega) (fun _ _ _ => rfl)
        rw [← hI, sset_e] at this
        exact this
      · rw [h4] at q
        rw [if_neg (by omega)] at hI
        obtain ⟨⟨z, r⟩, q1, q2⟩ := Option.bind_eq_some_iff.mp hI
        simp only [Option.some.injEq] at q2
        have eg : w32 (g + 1) = g + 1 := w32_id (by omega) (by omega)
        rw [h4, hn (by omega)]
        refine hGF (by omega) v _ r _ _ _ z _ q1 (hG.set (by omega) (by omega) (by omega)) (by rw [sset_e, eg]) (by have := hL.1; omega) hlj.2.2.2 hlj.2.2.1 hn32 (fun _ => by rw [sset_1 (by omega)]; omega) (hR.seq (sset_2 (by omega)) (sset_2 (by omega)) (fun n => sset_1 (by omega))) ⟨fun q => by omega, fun _ => ⟨by rw [sset_1 (by omega), ho5, h330], fun i g1 g2 => by rw [sset_1 (by omega)] at g2; omega⟩⟩ (fun v' g1 g2 g3 => ?_)
        refine ⟨z, v', rfl, rfl, ?_⟩
        have := hE v' (g1.seq (by rw [← q2, sset_2 (by omega), sset_1 (by omega)]) (by rw [← q2, sset_2 (by omega), sset_1 (by omega)]) (fun n => by rw [← q2, sset_1 (by omega), sset_1 (by omega)])) (by rw [← q2, sset_1 (by omega), sset_1 (by omega)]; exact (g2.2 hfr.1).1) (fun i i1 i2 => by rw [← q2, sset_1 (by omega), sset_1 (by omega)] at i2; rw [← q2, sset_1 (by omega), sset_1 (by omega)]; exact (g2.2 hfr.1).2 i i1 i2) g3
        rw [← q2, sset_1 (by omega), sset_e] at this
        exact this
