/-! ===== pairs: odds, fits ===== -/
/-- the states of the reference that tries the values f 0, f 1, .. of a name -/
noncomputable def famB (l name : Int) (f : Nat → Int) (v : Sg) : Nat → Sg
  | 0 => sset v 320 name (f 0)
  | i + 1 => sset ((thinksS 139 l (famB l name f v i)).getD v) 320 name (f (i + 1))
noncomputable def famW (l name : Int) (f : Nat → Int) (v : Sg) (i : Nat) : Sg := (thinksS 139 l (famB l name f v i)).getD v
theorem CSI.val {v s : Sg} {name x : Int} (h : CSI v s) (hx9 : in32 x) : CSI v (sset s 320 name x) := by
  obtain ⟨x1, ⟨x2, x3, x4, x5, x6, x7⟩, x8⟩ := h
  refine ⟨fun o k q => ?_, ⟨?_, ?_, fun j => ?_, fun j => ?_, fun j => ?_, fun j => ?_⟩, fun j => ?_⟩
  · rw [sset_1 (by unfold TC2 at q; omega)]; exact x1 o k q
  · rw [sset_1 (by omega)]; exact x2
  · rw [sset_1 (by omega)]; exact x3
  · unfold sset
    split
    · exact hx9
    · exact x4 j
  · rw [sset_1 (by omega)]; exact x5 j
  · rw [sset_1 (by omega)]; exact x6 j
  · rw [sset_1 (by omega)]; exact x7 j
  · rw [sset_1 (by omega)]; exact x8 j
/-- a trial with one value of a name -/
theorem thinkV {A : AHp} {v z s : Sg} {l name x : Int} (h : RR A v) (hz : CZI v z) (hs9 : CSI v s) (hl9 : 0 ≤ l ∧ l < v 64 1) (hv9 : ∀ n, 0 ≤ n → n < 5 → s 320 n = if n = name then x else v 320 n) : ∃ t, thinksS 139 l s = some t ∧ CSI v t ∧ (∀ n, 0 ≤ n → n < 5 → t 320 n = s 320 n) ∧
    ∀ (d : Nat) (Q : Option AV → AHp → Prop), 111 ≤ d → (∀ z', CZI v z' → (z' 238 1 = t 307 36 ∧ ∀ i, 0 ≤ i → i < t 307 36 → z' 239 i = t 331 i) → z' 235 4 = t 307 37 → Q none (cl A z')) → CALL d mX4_runLine [vr 64, vr 235, vi l] (cl A (sset (kcv A z 235) 236 name x)) Q := by
  obtain ⟨k1, k2, k3, k4⟩ := kcv_f (A := A) (z := z) (ko := 235) (by omega)
  obtain ⟨t, g1, g2, g3, _, g4⟩ := think (ko := 235) (z0 := sset (kcv A z 235) 236 name x) h hz hs9 (by omega) hl9 (fun o k q => sset_1 (by omega)) (fun n n0 n1 => by
    rw [hv9 n n0 n1]
    show (sset (kcv A z 235) 236 name x) 236 n = _
    unfold sset
    by_cases c : n = name
    · rw [if_pos ⟨rfl, c⟩, if_pos c]
    · rw [if_neg (fun w => c w.2), if_neg c]
      have e1 : kcv A z 235 236 n = z 208 n := k1 n n0 n1
      rw [e1, hz.1 208 n (by omega)]
      exact h.2.2.2.1.1 n n0 n1)
  exact ⟨t, g1, g2, g3, fun d Q hd hQ => g4 d Q hd (fun z' u1 u2 u3 u4 u5 u6 => hQ z' u1 u2 u3)⟩
theorem fam_ok {A : AHp} {v : Sg} {l name : Int} {f : Nat → Int} (h : RR A v) (hl9 : 0 ≤ l ∧ l < v 64 1) (hnm : 0 ≤ name ∧ name ≤ 4) (hf : ∀ i, in32 (f i)) : ∀ i : Nat, (CSI v (famB l name f v i) ∧ ∀ n, 0 ≤ n → n < 5 → famB l name f v i 320 n = if n = name then f i else v 320 n) ∧ thinksS 139 l (famB l name f v i) = some (famW l name f v i) ∧ CSI v (famW l name f v i) ∧ ∀ n, 0 ≤ n → n < 5 → famW l name f v i 320 n = if n = name then f i else v 320 n := by
  have step : ∀ i, (CSI v (famB l name f v i) ∧ ∀ n, 0 ≤ n → n < 5 → famB l name f v i 320 n = if n = name then f i else v 320 n) → (CSI v (famB l name f v i) ∧ ∀ n, 0 ≤ n → n < 5 → famB l name f v i 320 n = if n = name then f i else v 320 n) ∧ thinksS 139 l (famB l name f v i) = some (famW l name f v i) ∧ CSI v (famW l name f v i) ∧ ∀ n, 0 ≤ n → n < 5 → famW l name f v i 320 n = if n = name then f i else v 320 n := fun i hB => by
    obtain ⟨t, g1, g2, g3, _⟩ := thinkV h (CZI.rf h) hB.1 hl9 hB.2
    have e : famW l name f v i = t := by
      unfold famW
      rw [g1]
      rfl
    rw [e]
    exact ⟨hB, g1, g2, fun n n0 n1 => (g3 n n0 n1).trans (hB.2 n n0 n1)⟩
  intro i
  induction i with
  | zero =>
    refine step 0 ⟨(CSI.rf h).val (hf 0), fun n n0 n1 => ?_⟩
    show (sset v 320 name (f 0)) 320 n = _
    unfold sset
    by_cases c : n = name
    · rw [if_pos ⟨rfl, c⟩, if_pos c]
    · rw [if_neg (fun w => c w.2), if_neg c]
  | succ i ih =>
    obtain ⟨_, _, hW, hWv⟩ := ih
    have e : famB l name f v (i + 1) = sset (famW l name f v i) 320 name (f (i + 1)) := rfl
    refine step (i + 1) ⟨by rw [e]; exact hW.val (hf _), fun n n0 n1 => ?_⟩
    rw [e]
    unfold sset
    by_cases c : n = name
    · rw [if_pos ⟨rfl, c⟩, if_pos c]
    · rw [if_neg (fun w => c w.2), if_neg c, hWv n n0 n1, if_neg c]
theorem fam_fam {A : AHp} {v : Sg} {l name : Int} {f : Nat → Int} (h : RR A v) (hl9 : 0 ≤ l ∧ l < v 64 1) (hnm : 0 ≤ name ∧ name ≤ 4) (hf : ∀ i, in32 (f i)) (c : Nat) : FAM 139 l name f c v (famB l name f v) (famW l name f v) := ⟨rfl, fun i _ => (fam_ok h hl9 hnm hf i).2.1, fun _ _ => rfl⟩
theorem fam_end {A : AHp} {v z : Sg} {l name : Int} {f : Nat → Int} (h : RR A v) (hz : CZI v z) (hl9 : 0 ≤ l ∧ l < v 64 1) (hnm : 0 ≤ name ∧ name ≤ 4) (hf : ∀ i, in32 (f i)) (i : Nat) : RR A (liftV z (sset (famW l name f v i) 320 name (v 320 name))) := by
  obtain ⟨_, _, hW, hWv⟩ := fam_ok h hl9 hnm hf i
  refine h.cz hz (hW.val (h.2.2.2.2.2.2.2.2.2.2.2.1.1 name)) (fun n n0 n1 => ?_)
  unfold sset
  by_cases c : n = name
  · rw [if_pos ⟨rfl, c⟩, c]
  · rw [if_neg (fun w => c w.2), hWv n n0 n1, if_neg c]
theorem p_odds {A : AHp} {v : Sg} {l name p : Int} (h : RR A v) : PAIR A v mX12_odds mX13_odds [vi l, vi name, vi p] := by
  obtain ⟨h0, h1, h2, h3, h4, h5, h6, h7, h8, h9, h10⟩ := id h
  have hX := h0.1.2.1
  have hM := h0.1.2.2
  have hln := h1.1
  have hl12 := h1.2.1
  have hf : ∀ i : Nat, in32 ((fun i : Nat => if i < 10 then (i : Int) else 0) i) := fun i => by
    dsimp only
    unfold in32
    split <;> omega
  have hff : ∀ B W : Nat → Sg, FAM 139 l name (fun i : Nat => if i < 10 then (i : Int) else 0) 10 v B W → FAM 139 l name (fun i => (i : Int)) 10 v B W := fun B W ⟨q1, q2, q3⟩ => ⟨q1, q2, fun i hi => by rw [q3 i hi]; dsimp only; rw [if_pos hi]⟩
  unfold PAIR
  refine x_odds (Inv := CZI v) (b := fun i => decide (famW l name (fun i : Nat => if i < 10 then (i : Int) else 0) v i 307 37 = 0)) (by omega) hX (fun q => ?_) (CZI.rf h) (fun q1 q2 q3 q4 i z hi hz => ⟨hz.ksz h, ?_⟩) (fun q1 q2 q3 q4 q5 z hz => ?_)
  · rw [lift_z (CZI.rf h)]
    exact c_odds (n := 139) (by omega) hM hMinC (by omega) (fun _ => ⟨rfl, A, v, (lift_z (CZI.rf h)).symm, h, GRO.rf, by omega⟩) (fun _ _ _ _ _ _ => by omega)
  · obtain ⟨⟨w1, w2⟩, w3, _⟩ := fam_ok h ⟨q1, q2⟩ ⟨q3, q4⟩ hf i
    have w2' : ∀ n, 0 ≤ n → n < 5 → famB l name (fun i : Nat => if i < 10 then (i : Int) else 0) v i 320 n = if n = name then (i : Int) else v 320 n := fun n n0 n1 => by
      rw [w2 n n0 n1]
      try dsimp only
      rw [if_pos hi]
    obtain ⟨t, g1, g2, g3, g4⟩ := thinkV h hz w1 ⟨q1, q2⟩ w2'
    rw [w3, Option.some.injEq] at g1
    refine g4 _ _ (by omega) (fun z' u1 u2 u3 => ⟨z', rfl, rfl, u1, ?_⟩)
    rw [u3, ← g1]
    exact decide_eq_true_iff.symm
  · rw [lift_z hz]
    exact c_odds (n := 139) (by omega) hM hMinC (by omega) (fun _ => by omega) (fun _ _ _ _ _ _ => ⟨_, _, hff _ _ (fam_fam h ⟨q1, q2⟩ ⟨q3, q4⟩ hf 10), ⟨rfl, A, _, lift_cl, fam_end h hz ⟨q1, q2⟩ ⟨q3, q4⟩ hf 9, GRO.rf, by omega⟩⟩)
theorem cntB_rev {b c : Nat → Bool} : ∀ (n m : Nat), (∀ i, i < n → b i = c (n + m - 1 - i)) → cntB b n + cntB c m = cntB c (n + m)
  | 0, m, _ => by
    rw [Nat.zero_add]
    show (0 : Int) + cntB c m = cntB c m
    omega
  | n + 1, m, h => by
    have e1 : cntB b (n + 1) = cntB b n + if b n then 1 else 0 := rfl
    have e2 : cntB c (m + 1) = cntB c m + if c m then 1 else 0 := rfl
    have e3 : b n = c m := by
      rw [h n (by omega)]
      congr 1
      omega
    have ih := cntB_rev (b := b) (c := c) n (m + 1) (fun i hi => by
      rw [h i (by omega)]
      congr 1
      omega)
    rw [e2, show n + (m + 1) = n + 1 + m by omega] at ih
    rw [e1, e3]
    omega
theorem fstB_is {b : Nat → Bool} : ∀ n : Nat, (fstB b n = -5 ∧ ∀ i, i < n → b i = false) ∨ ∃ k : Nat, k < n ∧ fstB b n = k ∧ b k = true ∧ ∀ i, i < k → b i = false
  | 0 => Or.inl ⟨rfl, fun i hi => by omega⟩
  | n + 1 => by
    have e : fstB b (n + 1) = if fstB b n = -5 then (if b n then (n : Int) else -5) else fstB b n := rfl
    rcases fstB_is (b := b) n with ⟨h1, h2⟩ | ⟨k, h1, h2, h3, h4⟩
    · rw [if_pos h1] at e
      cases hb : b n with
      | true =>
        rw [hb, if_pos rfl] at e
        exact Or.inr ⟨n, by omega, e, hb, h2⟩
      | false =>
        rw [hb, if_neg Bool.false_ne_true] at e
        refine Or.inl ⟨e, fun i hi => ?_⟩
        by_cases c : i = n
        · rw [c]; exact hb
        · exact h2 i (by omega)
    · rw [if_neg (by omega)] at e
      exact Or.inr ⟨k, by omega, e.trans h2, h3, h4⟩
theorem lstB_is {b : Nat → Bool} : ∀ n : Nat, (lstB b n = -5 ∧ ∀ i, i < n → b i = false) ∨ ∃ k : Nat, k < n ∧ lstB b n = 19 - (k : Int) ∧ b k = true ∧ ∀ i, k < i → i < n → b i = false
  | 0 => Or.inl ⟨rfl, fun i hi => by omega⟩
  | n + 1 => by
    have e : lstB b (n + 1) = if b n then 19 - (n : Int) else lstB b n := rfl
    cases hb : b n with
    | true =>
      rw [hb, if_pos rfl] at e
      exact Or.inr ⟨n, by omega, e, hb, fun i h1 h2 => by omega⟩
    | false =>
      rw [hb, if_neg Bool.false_ne_true] at e
      rcases lstB_is (b := b) n with ⟨h1, h2⟩ | ⟨k, h1, h2, h3, h4⟩
      · refine Or.inl ⟨e.trans h1, fun i hi => ?_⟩
        by_cases c : i = n
        · rw [c]; exact hb
        · exact h2 i (by omega)
      · refine Or.inr ⟨k, by omega, e.trans h2, h3, fun i i1 i2 => ?_⟩
        by_cases c : i = n
        · rw [c]; exact hb
        · exact h4 i i1 (by omega)
theorem fst_lst {b c : Nat → Bool} (h : ∀ i, i < 20 → b i = c (19 - i)) : fstB b 20 = lstB c 20 := by
  rcases fstB_is (b := b) 20 with ⟨h1, h2⟩ | ⟨k, h1, h2, h3, h4⟩
  · rcases lstB_is (b := c) 20 with ⟨g1, g2⟩ | ⟨m, g1, g2, g3, g4⟩
    · rw [h1, g1]
    · have e1 := h (19 - m) (by omega)
      rw [h2 _ (by omega), show 19 - (19 - m) = m by omega, g3] at e1
      exact absurd e1 Bool.false_ne_true
  · rcases lstB_is (b := c) 20 with ⟨g1, g2⟩ | ⟨m, g1, g2, g3, g4⟩
    · have e1 := h k h1
      rw [h3, g2 _ (by omega)] at e1
      exact absurd e1.symm Bool.false_ne_true
    · have e1 := h k h1
      rw [h3] at e1
      have e2 := h (19 - m) (by omega)
      rw [show 19 - (19 - m) = m by omega, g3] at e2
      have hkm : k = 19 - m := by
        rcases Nat.lt_trichotomy k (19 - m) with q | q | q
        · have := g4 (19 - k) (by omega) (by omega)
          rw [← e1] at this
          exact absurd this.symm Bool.false_ne_true
        · exact q
        · have := h4 (19 - m) q
          rw [e2] at this
          exact absurd this.symm Bool.false_ne_true
      rw [h2, g2]
      omega
theorem p_fits {A : AHp} {v : Sg} {l name p : Int} (h : RR A v) : PAIR A v mX12_fits mX13_fits [vi l, vi name, vi p] := by
  obtain ⟨h0, h1, h2, h3, h4, h5, h6, h7, h8, h9, h10⟩ := id h
  have hX := h0.1.2.1
  have hM := h0.1.2.2
  have hln := h1.1
  have hl12 := h1.2.1
  obtain ⟨a1, a2, a3⟩ := id h4
  have hf : ∀ i : Nat, in32 ((fun i : Nat => if i < 20 then 19 - (i : Int) else 0) i) := fun i => by
    dsimp only
    unfold in32
    split <;> omega
  have hff : ∀ B W : Nat → Sg, FAM 139 l name (fun i : Nat => if i < 20 then 19 - (i : Int) else 0) 20 v B W → FAM 139 l name (fun i => 19 - (i : Int)) 20 v B W := fun B W ⟨q1, q2, q3⟩ => ⟨q1, q2, fun i hi => by rw [q3 i hi]; dsimp only; rw [if_pos hi]⟩
  have w339 : ∀ {t : Sg}, CSI v t → (t 307 49 = v 307 49 ∧ ∀ j, t 339 j = v 339 j) := fun ht => ⟨ht.1 _ _ (by unfold TC2; omega), fun j => ht.1 _ _ (by unfold TC2; omega)⟩
  unfold PAIR
  refine x_fits (Inv := CZI v) (b := fun i => seenS (famW l name (fun i : Nat => if i < 20 then 19 - (i : Int) else 0) v (19 - i))) (by omega) hX (fun q => ?_) (CZI.rf h) (fun q1 q2 q3 q4 i z hi hz => ⟨hz.ksz h, ?_⟩) (fun q1 q2 q3 q4 q5 q6 z hz => ?_)
  · rw [lift_z (CZI.rf h)]
    exact c_fits (n := 139) (by omega) hM hMinC (by omega) (fun _ => ⟨rfl, A, v, (lift_z (CZI.rf h)).symm, h, GRO.rf, by omega⟩) (fun _ _ _ _ _ _ => by omega)
  · obtain ⟨⟨w1, w2⟩, w3, _⟩ := fam_ok h ⟨q1, q2⟩ ⟨q3, q4⟩ hf (19 - i)
    have w2' : ∀ n, 0 ≤ n → n < 5 → famB l name (fun i : Nat => if i < 20 then 19 - (i : Int) else 0) v (19 - i) 320 n = if n = name then (i : Int) else v 320 n := fun n n0 n1 => by
      have e19 : (if 19 - i < 20 then (19 : Int) - ((19 - i : Nat) : Int) else 0) = (i : Int) := by
        rw [if_pos (by omega)]
        omega
      rw [w2 n n0 n1]
      try dsimp only
      rw [e19]
    obtain ⟨t, g1, g2, g3, g4⟩ := thinkV h hz w1 ⟨q1, q2⟩ w2'
    rw [w3, Option.some.injEq] at g1
    refine g4 _ _ (by omega) (fun z' u1 u2 u3 => ⟨z', rfl, rfl, u1, ?_, ?_⟩)
    · have e12 : z' 212 2 = v 307 49 := (u1.1 212 2 (by omega)).trans a1
      have e13 : ∀ j, z' 213 j = v 213 j := fun j => u1.1 213 j (by omega)
      have e14 : ∀ j, z' 214 j = v 214 j := fun j => u1.1 214 j (by omega)
      refine ⟨by rw [u2.1]; exact g2.2.1.2.1, by rw [e12]; exact a2, fun j j0 j1 => ?_, fun j j0 j1 => ?_⟩
      · rw [e12] at j1
        rw [e13, (a3 j j0 j1).1]
        exact (a3 j j0 j1).2.2.1
      · rw [e12] at j1
        rw [e14, (a3 j j0 j1).2.1]
        exact (a3 j j0 j1).2.2.2
    · rw [g1]
      have e12 : z' 212 2 = v 307 49 := (u1.1 212 2 (by omega)).trans a1
      have e13 : ∀ j, z' 213 j = v 213 j := fun j => u1.1 213 j (by omega)
      have e14 : ∀ j, z' 214 j = v 214 j := fun j => u1.1 214 j (by omega)
      obtain ⟨t49, t339⟩ := w339 g2
      have hd : (seenS t = true) ↔ (∀ j, 0 ≤ j → j < t 307 49 → t 339 (2 * j) < t 307 36 ∧ t 331 (t 339 (2 * j)) = t 339 (2 * j + 1)) := by
        unfold seenS
        simp only [decide_eq_true_eq]
      rw [hd]
      unfold SNX
      rw [e12, t49]
      have hj : ∀ j, 0 ≤ j → j < v 307 49 → ((0 ≤ z' 213 j ∧ z' 213 j < z' 238 1 ∧ z' 239 (z' 213 j) = z' 214 j) ↔ (t 339 (2 * j) < t 307 36 ∧ t 331 (t 339 (2 * j)) = t 339 (2 * j + 1))) := fun j j0 j1 => by
        obtain ⟨b1, b2, ⟨b3, b4⟩, b5⟩ := a3 j j0 j1
        rw [e13, e14, t339, t339, b1, b2, u2.1]
        refine ⟨fun ⟨y1, y2, y3⟩ => ⟨y2, by rw [← u2.2 _ y1 y2]; exact y3⟩, fun ⟨y1, y2⟩ => ⟨b3, y1, by rw [u2.2 _ b3 y1]; exact y2⟩⟩
      exact ⟨fun y j j0 j1 => (hj j j0 j1).mp (y j j0 j1), fun y j j0 j1 => (hj j j0 j1).mpr (y j j0 j1)⟩
  · rw [lift_z hz]
    refine c_fits (n := 139) (by omega) hM hMinC (by omega) (fun _ => by omega) (fun _ _ _ _ _ _ => ⟨_, _, hff _ _ (fam_fam h ⟨q1, q2⟩ ⟨q3, q4⟩ hf 20), fun i hi => ?_, ⟨?_, A, _, lift_cl, fam_end h hz ⟨q1, q2⟩ ⟨q3, q4⟩ hf 19, GRO.rf, by omega⟩⟩)
    · obtain ⟨_, _, hW, _⟩ := fam_ok h ⟨q1, q2⟩ ⟨q3, q4⟩ hf i
      obtain ⟨t49, t339⟩ := w339 hW
      refine ⟨by rw [t49]; exact a2, hW.2.1.2.1.2, fun j j0 j1 => ?_⟩
      rw [t49] at j1
      rw [t339]
      exact (a3 j j0 j1).2.2.1
    · have hc := cntB_rev (b := fun i => seenS (famW l name (fun i : Nat => if i < 20 then 19 - (i : Int) else 0) v (19 - i))) (c := fun i => seenS (famW l name (fun i : Nat => if i < 20 then 19 - (i : Int) else 0) v i)) 20 0 (fun i hi => rfl)
      have hc0 : cntB (fun i => seenS (famW l name (fun i : Nat => if i < 20 then 19 - (i : Int) else 0) v i)) 0 = 0 := rfl
      rw [hc0, Int.add_zero] at hc
      rw [hc, fst_lst (c := fun i => seenS (famW l name (fun i : Nat => if i < 20 then 19 - (i : Int) else 0) v i)) (fun i hi => rfl)]
