/-! ===== lists: class and reference keep step ===== -/
theorem worth_x {v s : Sg} {ko fo par x : Int} (hk : ∀ n, 0 ≤ n → n < 5 → v (ko + 1) n = s 320 n) (h3 : v fo 3 = par) (hx9 : -6 ≤ x) : worthX v ko fo x = worthS s par x := by
  unfold worthX worthS
  by_cases h0 : 0 ≤ x
  · rw [if_pos h0, if_neg (by omega), if_neg (by omega)]
  · rw [if_neg h0]
    by_cases h1 : x = -6
    · rw [if_neg (by omega), if_pos h1]; exact h3
    · rw [if_pos (by omega), if_neg h1, if_pos (by omega)]
      exact hk _ (by omega) (by omega)
theorem bg0_o {v : Sg} {fo po o j : Int} (h : ¬ ((o = fo ∧ (j = 0 ∨ j = 1 ∨ j = 9)) ∨ (o = 64 ∧ j = 3))) : bg0 v fo po o j = v o j := by
  unfold bg0 sset
  rw [if_neg (by omega), if_neg (by omega), if_neg (by omega), if_neg (by omega)]
theorem statV_eq {w x y : Int} (h : (w = 4 ∨ w = 10) → x = y) : statV w x = statV w y := by
  unfold statV
  by_cases h1 : w = 10
  · rw [if_pos h1, if_pos h1]; exact h (Or.inr h1)
  · rw [if_neg h1, if_neg h1]
    by_cases h2 : w = 4
    · rw [h (Or.inl h2)]
    · simp only [h2, false_and, if_false]
theorem begx {A : AHp} {V T : Sg} {ko fo c p po par g : Int} (hfo : 66 < fo ∧ fo < 300 ∧ (fo < 201 ∨ 266 < fo)) (hko : 206 < ko ∧ ko < 250) (hPC : PC A V T po p) (hPT : PTB T p) (hPW : ∀ k, 0 < k → k < T 313 p → T 314 (T 312 p + k) < 11) {v s u : Sg} (hG : GI T s) (hR : GLR V ko v s) (h3 : v fo 3 = par) (h4 : v fo 4 = g)
    (hB : BGX A (bg0 v fo po) u ko fo po (v po 1)) {K : Nat} (hK : (K : Int) ≤ T 313 p) : FRL V T ko fo c p po g u (beginsS (sset s 307 32 (w32 (s 307 32 - 1))) c p par) K := by
  obtain ⟨hPo, hPs, hPj, hPst⟩ := hPC
  have eT : ∀ o, (309 ≤ o ∧ o ≤ 317) → ∀ j, (sset s 307 32 (w32 (s 307 32 - 1))) o j = T o j := fun o h j => by
    rw [sset_1 (by omega)]; exact hG.1 _ _ (Or.inl h)
  have hPTs : PTB (sset s 307 32 (w32 (s 307 32 - 1))) p := by
    unfold PTB at hPT ⊢
    simp only [eT 312 (by omega), eT 313 (by omega), eT 314 (by omega), eT 316 (by omega), eT 317 (by omega)]
    exact hPT
  obtain ⟨b1, ⟨b2, b3, b4⟩, b5⟩ := begins_v (fr := c) (par := par) hPTs
  rw [eT 313 (by omega)] at b5
  obtain ⟨u1, u2⟩ := hB
  have eu : ∀ o j, ¬ OUT4 fo o j → ¬ ((o = fo ∧ (j = 0 ∨ j = 1 ∨ j = 9)) ∨ (o = 64 ∧ j = 3)) → u o j = v o j := fun o j q1 q2 => (u1 o j q1).trans (bg0_o q2)
  have eV : ∀ o j, 350 ≤ o → v o j = V o j := fun o j q => hR.1 o j (Or.inl q)
  have eb : ∀ o j, 350 ≤ o → bg0 v fo po o j = V o j := fun o j q => (bg0_o (by omega)).trans (eV o j q)
  have eo : ∀ o j, (o < 323 ∨ 330 < o) → beginsS (sset s 307 32 (w32 (s 307 32 - 1))) c p par o j = (sset s 307 32 (w32 (s 307 32 - 1))) o j := fun o j q => b1 o j (by unfold TCB; omega)
  have hvk : ∀ n, 0 ≤ n → n < 5 → bg0 v fo po (ko + 1) n = (sset s 307 32 (w32 (s 307 32 - 1))) 320 n := fun n g1 g2 => by
    rw [bg0_o (by omega), sset_1 (by omega)]
    exact hR.2.2 n g1 g2
  refine ⟨fun o j q => ?_, ⟨?_, ?_, ?_⟩, fun n g1 g2 => ?_, ⟨?_, ?_, ?_⟩, fun j hj => ?_⟩
  · unfold UNC at q
    rw [eu o j (by unfold OUT4; omega) (by omega)]
    exact hR.1 o j (by unfold UNC; omega)
  · rw [u1 _ _ (by unfold OUT4; omega), eo _ _ (by omega), sset_e]
    unfold bg0
    rw [sset_1 (by omega), sset_1 (by omega), sset_e, hR.2.1.1]
  · rw [eu _ _ (by unfold OUT4; omega) (by omega), eo _ _ (by omega), sset_2 (by omega)]; exact hR.2.1.2.1
  · rw [eo _ _ (by omega), sset_2 (by omega)]; exact hR.2.1.2.2
  · rw [eu _ _ (by unfold OUT4; omega) (by omega), eo _ _ (by omega), sset_1 (by omega)]; exact hR.2.2 n g1 g2
  · rw [u1 _ _ (by unfold OUT4; omega)]
    unfold bg0
    rw [sset_2 (by omega), sset_e]
  · rw [eu _ _ (by unfold OUT4; omega) (by omega), b3]; exact h3
  · rw [eu _ _ (by unfold OUT4; omega) (by omega)]; exact h4
  · obtain ⟨c1, c2, c3, c4⟩ := b5 j (by omega) (by omega)
    obtain ⟨d1, d2, d3, d4⟩ := u2 j (by omega) (by rw [eV _ _ hPo.1, hPs]; omega)
    obtain ⟨e1, e2, e3, e4, e5⟩ := hPst j (by omega) (by omega)
    have hm := hPT.2.2.2.2.2.2 j (by omega) (by omega)
    rw [eb _ _ hPo.2.2.1] at d3 d4
    rw [eT 314 (by omega), eT 312 (by omega)] at c3
    rw [eT 316 (by omega), eT 312 (by omega)] at c4
    have hwk : ∀ i, 0 ≤ i → i < T 316 (T 312 p + j) → u (fo + 1) (j * 4 + i) = beginsS (sset s 307 32 (w32 (s 307 32 - 1))) c p par 325 (24 * c + 4 * j + i) := fun i g1 g2 => by
      by_cases w8 : T 314 (T 312 p + j) = 8
      · have := (e4 w8).1
        omega
      · obtain ⟨f1, f2⟩ := e3 w8
        rw [d4 i g1 (by rw [eb _ _ e1.1, f1]; exact g2), c4 i g1 g2, eb _ _ e1.2.2.2.1, f2 i g1 g2, eT 317 (by omega)]
        refine worth_x hvk ?_ (hm.2.2.2.2 i g1 g2)
        rw [bg0_o (by omega)]; exact h3
    refine SR.mk ?_ hwk d2 c2 (fun _ => by rw [c1]; omega) (fun _ => by rw [d1, c1]) (fun _ => d1) (fun w8 => ?_) (fun w9 => Or.inl ⟨?_, c1, b4⟩)
    · rw [d3, c3, e2, show T 314 (T 312 p + (j : Int)) + 1 - 1 = T 314 (T 312 p + j) by omega]
      refine statV_eq (fun q => ?_)
      have := hwk 0 (by omega) (by have := e5 (by omega); omega)
      rw [Int.add_zero, Int.add_zero] at this
      exact this
    · rw [c3, w8]
      rfl
    · rw [u1 _ _ (by unfold OUT4; omega)]
      unfold bg0
      rw [sset_e]
theorem nextx {d : Nat} {nx : Sg → Int → Int → Option (Int × Sg)} {A : AHp} {V T : Sg} {ko fo lev fr p po g : Int} {e K : Nat} (hC : SCX A V T ko fo lev fr p po e) (hK : (K : Int) = T 313 p - 1) (hN : NXK d nx A V T ko fo lev fr p po g K) (hd : 2 ≤ d)
    {v s s' : Sg} {x : Int} {Q : Option AV → AHp → Prop} (hR : FRL V T ko fo fr p po g v s (K + 1)) (hG : GI T s) (hp9 : s 323 fr = p) (hF : FX T s fr p (K + 1)) (hg : s 307 33 = g) (hnx : nx s fr K = some (x, s')) (hNP : NP T s s' fr p K x)
    (hQ : ∀ v', FRL V T ko fo fr p po g v' s' (K + 1) → XF ko fo lev K v v' → Q (some (vl x)) (cl A v')) : CALL d mX4_nextOf [vr 64, vr ko, vr fo, vi lev] (cl A v) Q := by
  obtain ⟨hX, hKp, hFr, hfo, hko, hlev, hfl, hfr, hPC, hPOK, hTOK⟩ := hC
  have hsz := hPOK.w.1.2.2.1
  have hsz6 := hPOK.w.1.2.2.2.1
  have e1 : v po 1 = T 313 p := (hR.1 _ _ (Or.inl hPC.1.1)).trans hPC.2.1
  have hb1 := ptS_bd (T := T) (s := s) (fr := fr) (p := p) (k := K) (fun j hj => hF.2 j (by omega))
  have hb2 := ptA_le hF.2
  have hxa : x ≠ 9223372036854775807 := by
    rcases hNP.2.2.2.2.2 with ⟨q, _⟩ | ⟨q, _⟩
    · omega
    · unfold in32 at q; omega
  have h := hN v s s' x 0 Q hR hG hp9 hF hg hnx hNP (by omega) (by omega) (fun i' v' g1 g2 g3 g4 => by
    rw [hK]
    exact hd_ret ⟨g1, by omega⟩ hxa (hQ v' g3 g4))
  rw [hK] at h
  exact x_nextOf (by omega) hX hFr hR.2.2.2.1.1 hPC.1 (by omega) (by rw [e1]; exact h)
def TOO (ko lev to : Int) : Prop := to = ko + 3 ∨ (66 < to ∧ to + 1 < 67 + 7 * lev) ∨ (266 < to ∧ to < 306)
def WRT (at9 o j : Int) : Prop := (0 ≤ at9 ∧ ((o = 329 ∧ 60 * at9 ≤ j ∧ j < 60 * at9 + 60) ∨ (o = 330 ∧ j = at9))) ∨ (at9 < 0 ∧ (o = 331 ∨ (o = 307 ∧ j = 36)))
theorem writes_w {s : Sg} {at9 v o j : Int} (h : ¬ WRT at9 o j) (hm : 0 ≤ at9 → 0 ≤ s 330 at9) : writesS s at9 v o j = s o j := by
  unfold writesS
  unfold WRT at h
  by_cases e : at9 < 0
  · rw [if_pos e]
    split
    · unfold sset
      rw [if_neg (by omega), if_neg (by omega)]
    · rfl
  · rw [if_neg e]
    split
    · unfold sset
      have := hm (by omega)
      rw [if_neg (by omega), if_neg (by omega)]
    · rfl
theorem add_at {v : Sg} {to n y i : Int} : (sset (sset v (to + 1) n y) to 1 (n + 1)) (to + 1) i = if i = n then y else v (to + 1) i := by
  rw [sset_1 (by omega)]
  by_cases e : i = n
  · subst e; rw [sset_e, if_pos rfl]
  · rw [sset_2 e, if_neg e]
theorem OUTR.add {v s : Sg} {to at9 x : Int} (h : OUTR v s to at9) (h1 : at9 < 0 → 0 ≤ s 307 36) (h2 : 0 ≤ at9 → 0 ≤ s 330 at9) : OUTR (addX v to x) (writesS s at9 (w32 x)) to at9 := by
  unfold addX writesS
  refine ⟨fun q => ?_, fun q => ?_⟩
  · obtain ⟨a1, a2⟩ := h.1 q
    have := h1 q
    rw [a1, if_pos q]
    by_cases c : s 307 36 < 60
    · rw [if_pos c, if_pos c]
      refine ⟨by rw [sset_e, sset_e], fun i g1 g2 => ?_⟩
      rw [sset_e] at g2
      have e2 : (sset (sset s 331 (s 307 36) (w32 x)) 307 36 (s 307 36 + 1)) 331 i = if i = s 307 36 then w32 x else s 331 i := by
        rw [sset_1 (by omega)]
        by_cases e : i = s 307 36
        · rw [e, sset_e, if_pos rfl]
        · rw [sset_2 e, if_neg e]
      rw [add_at, e2]
      by_cases e : i = s 307 36
      · rw [if_pos e, if_pos e]
      · rw [if_neg e, if_neg e]; exact a2 i g1 (by omega)
    · rw [if_neg c, if_neg c]
      exact ⟨a1, a2⟩
  · obtain ⟨a1, a2⟩ := h.2 q
    have := h2 q
    rw [a1, if_neg (show ¬ at9 < 0 by omega)]
    by_cases c : s 330 at9 < 60
    · rw [if_pos c, if_pos c]
      refine ⟨by rw [sset_e, sset_e], fun i g1 g2 => ?_⟩
      rw [sset_e] at g2
      have e2 : (sset (sset s 329 (60 * at9 + s 330 at9) (w32 x)) 330 at9 (s 330 at9 + 1)) 329 (60 * at9 + i) = if i = s 330 at9 then w32 x else s 329 (60 * at9 + i) := by
        rw [sset_1 (by omega)]
        by_cases e : i = s 330 at9
        · rw [e, sset_e, if_pos rfl]
        · rw [sset_2 (by omega), if_neg e]
      rw [add_at, e2]
      by_cases e : i = s 330 at9
      · rw [if_pos e, if_pos e]
      · rw [if_neg e, if_neg e]; exact a2 i g1 (by omega)
    · rw [if_neg c, if_neg c]
      exact ⟨a1, a2⟩
theorem addX_o {v : Sg} {to x o j : Int} (h1 : o ≠ to) (h2 : o ≠ to + 1) : addX v to x o j = v o j := by
  unfold addX
  split
  · rw [sset_1 h1, sset_1 h2]
  · rfl
theorem FRL.addw {V T : Sg} {ko fo fr p po g to at9 x y lev : Int} {v s : Sg} {k : Nat} (hlev : 0 ≤ lev ∧ lev < 20) (hfo : fo = 67 + 7 * lev) (hko : 206 < ko ∧ ko < 250) (hto : TOO ko lev to) (h9 : at9 < 28 ∧ at9 ≠ fr) (hm9 : 0 ≤ at9 → 0 ≤ s 330 at9) (h330 : s 330 fr ≤ 60) (hT : ∀ j : Nat, j < k → T 316 (T 312 p + j) ≤ 4) (h : FRL V T ko fo fr p po g v s k) : FRL V T ko fo fr p po g (addX v to x) (writesS s at9 y) k := by
  have hto2 : ∀ o, (o ≤ 66 ∨ 350 ≤ o ∨ o = ko ∨ o = ko + 1 ∨ o = ko + 2 ∨ (fo ≤ o ∧ o ≤ fo + 6)) → o ≠ to ∧ o ≠ to + 1 := fun o q => by
    unfold TOO at hto
    omega
  have ev : ∀ o j, (o ≤ 66 ∨ 350 ≤ o ∨ o = ko ∨ o = ko + 1 ∨ o = ko + 2 ∨ (fo ≤ o ∧ o ≤ fo + 6)) → addX v to x o j = v o j := fun o j q => addX_o (hto2 o q).1 (hto2 o q).2
  have es : ∀ o j, ¬ WRT at9 o j → writesS s at9 y o j = s o j := fun o j q => writes_w q hm9
  clear hto2
  obtain ⟨h1, ⟨h2, h3, h3b⟩, h4, ⟨h5, h6, h7⟩, h8⟩ := h
  refine ⟨fun o j q => ?_, ⟨?_, ?_, ?_⟩, fun n g1 g2 => ?_, ⟨?_, ?_, ?_⟩, fun j hj => ?_⟩
  · rw [ev o j (by unfold UNC at q; omega)]; exact h1 o j q
  · rw [ev _ _ (by omega), es _ _ (by unfold WRT; omega)]; exact h2
  · rw [ev _ _ (by omega), es _ _ (by unfold WRT; omega)]; exact h3
  · rw [es _ _ (by unfold WRT; omega)]; exact h3b
  · rw [ev _ _ (by omega), es _ _ (by unfold WRT; omega)]; exact h4 n g1 g2
  · rw [ev _ _ (by omega)]; exact h5
  · rw [ev _ _ (by omega), es _ _ (by unfold WRT; omega)]; exact h6
  · rw [ev _ _ (by omega)]; exact h7
  · exact SRw.eq (hT j hj) ⟨fun i => Or.inl (ev _ _ (by omega)), ⟨ev _ _ (by omega), ev _ _ (by omega), ev _ _ (by omega)⟩, ⟨ev _ _ (by omega), ev _ _ (by omega), fun i => ev _ _ (by omega)⟩, fun i => Or.inl (es _ _ (by unfold WRT; omega)), ⟨es _ _ (by unfold WRT; omega), es _ _ (by unfold WRT; omega), es _ _ (by unfold WRT; omega)⟩, es _ _ (by unfold WRT; omega), fun i i1 i2 => es _ _ (by unfold WRT; omega)⟩ (h8 j hj)
