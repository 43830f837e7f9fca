/-! ===== runs of a line, from the relation ===== -/
theorem tab_ok {A : AHp} {v z s : Sg} (h1 : G1 A v) (hz : ∀ o k, (o = 64 ∧ k = 1) ∨ o = 65 ∨ 350 ≤ o → z o k = v o k) (hs9 : ∀ o k, 309 ≤ o → o ≤ 317 → s o k = v o k) : (0 ≤ z 64 1 ∧ z 64 1 ≤ 8) ∧ N7 s ∧ ∀ j, 0 ≤ j → j < z 64 1 → isO A (z 65 j) 3 ∧ 350 ≤ hp A (z 65 j) 0 ∧ CHR z s (PR A z s 3) 60 (hp A (z 65 j) 0) (s 309 (60 * j)) ∧ CH s (POK s 3) 100 (s 309 (60 * j)) := by
  obtain ⟨a1, a2, a3, a4⟩ := h1
  have e64 : z 64 1 = v 64 1 := hz _ _ (by omega)
  refine ⟨by rw [e64]; exact a1, fun j => by rw [hs9 317 j (by omega) (by omega)]; exact a3 j, fun j j0 j1 => ?_⟩
  have e65 : z 65 j = v 65 j := hz _ _ (by omega)
  have hL := a4 j j0 (by omega)
  have hC := (hL.2 A z s (old_rfl A) (fun o k a b => hz o k (by omega)) (fun o i q => hs9 o i (by unfold LIN at q; omega) (by unfold LIN at q; omega))).1
  rw [e65]
  exact ⟨hL.1.1, hL.1.2.1, CHR.map (fun _ _ q => q.1.pr) hC, CH.le (by omega) (CHR.ch (fun _ _ q => ⟨q.1.pw.2.1.2.1, q.1.pok⟩) hC)⟩
/-- class slots z (its kept thing at ko) and the reference's s, ready for a run -/
def RS (v z s : Sg) (ko : Int) : Prop := (∀ o k, (o = 64 ∧ k = 1) ∨ o = 65 ∨ o = 66 ∨ 350 ≤ o → z o k = v o k) ∧ (∀ o k, 309 ≤ o → o ≤ 317 → s o k = v o k) ∧ (∀ f, 0 ≤ f → f < 3 → z (ko + 2) f = s 321 f ∧ LNN v (s 321 f)) ∧ (z ko 2 = s 307 15 ∧ LNN v (s 307 15)) ∧ (∀ n, 0 ≤ n → n < 5 → z (ko + 1) n = s 320 n) ∧ ((0 ≤ s 307 32 ∧ s 307 32 ≤ 60) ∧ (0 ≤ s 307 36 ∧ s 307 36 ≤ 60) ∧ (∀ j, in32 (s 320 j)) ∧ (∀ j, in32 (s 324 j)) ∧ (∀ j, in32 (s 325 j)) ∧ ∀ j, in32 (s 329 j)) ∧ I31 s
/-- what a run may write of the reference's -/
def TC2 (o j : Int) : Prop := o = 320 ∨ (o = 307 ∧ (j = 32 ∨ j = 33 ∨ j = 34 ∨ j = 36 ∨ j = 37)) ∨ o = 331 ∨ ((o = 323 ∨ o = 324 ∨ o = 330) ∧ j < 24) ∨ (o = 325 ∧ j < 576) ∨ ((o = 326 ∨ o = 327 ∨ o = 328) ∧ j < 144) ∨ (o = 329 ∧ j < 1440)
theorem tcr_2 {o j : Int} (h : TCR o j) : TC2 o j := by
  unfold TCR TCG TCL at h
  unfold TC2
  omega
theorem run_core {A : AHp} {v z s : Sg} {ko l : Int} (h1 : G1 A v) (h66 : ∀ j, 0 ≤ j → j < 20 → v 66 j = 67 + 7 * j) (hX : XLAY A) (hK : KeptAt A ko) (hko : 206 < ko ∧ ko < 250) (hR : RS v z s ko) (hl9 : 0 ≤ l ∧ l < v 64 1) : ∃ t, runsS 139 l s = some t ∧ GI s t ∧ I31 t ∧ (∀ o j, ¬ TC2 o j → t o j = s o j) ∧
    ∀ (d : Nat) (Q : Option AV → AHp → Prop), 111 ≤ d → (∀ z', GLR z ko z' t → OUTR z' t (ko + 3) (-1) → z' ko 4 = t 307 37 → z' ko 5 = t 307 34 → XRR ko z z' → Q none (cl A z')) → CALL d mX4_runLine [vr 64, vr ko, vi l] (cl A z) Q := by
  obtain ⟨r1, r2, r3, r4, r5, ⟨r6, r7, r8, r9, r10, r11⟩, r12⟩ := hR
  obtain ⟨t1, t2, t3⟩ := tab_ok (z := z) (s := s) h1 (fun o k q => r1 o k (by omega)) r2
  have e64 : z 64 1 = v 64 1 := r1 _ _ (by omega)
  have hGI : GI s s := ⟨fun _ _ _ => rfl, r6, r7, r8, r9, r10, r11⟩
  have hln : ∀ x, LNN v x → x < 0 ∨ (0 ≤ x ∧ x < 8 ∧ CH s (POK s 3) 100 (s 309 (60 * x))) := fun x q => by
    rcases q with q | q
    · omega
    · exact Or.inr ⟨q.1, by omega, (t3 x q.1 (by omega)).2.2.2⟩
  have hTOK : TOK s := by
    refine ⟨fun f f0 f1 => ?_, t2⟩
    rcases hln _ (r3 f f0 f1).2 with q | q
    · exact Or.inl q
    · exact Or.inr q.2
  have hCl := (t3 l hl9.1 (by omega)).2.2.2
  obtain ⟨t, g1, g2, g3⟩ := runs_ok hTOK (n := 139) (by omega) hGI (l := l) (by omega) hCl (by
    rcases hln _ r4.2 with q | q
    · exact Or.inl q
    · exact Or.inr q.2)
  refine ⟨t, g1, g2, runsS_i g1 r12, fun o j q => g3 o j (fun w => q (tcr_2 w)), fun d Q hd hQ => ?_⟩
  have hSTL : STL A z s ko := by
    refine ⟨t1, t3, fun f f0 f1 => ⟨(r3 f f0 f1).1, ?_⟩, fun j j0 j1 => by rw [r1 66 j (by omega)]; exact h66 j j0 j1⟩
    have := (r3 f f0 f1).2
    unfold LNN at this
    omega
  exact runx hX hK hko hTOK hSTL (by omega) hd g1 hGI ⟨hl9.1, by omega⟩ (fun _ _ _ => rfl) r5 r4.1 (by have := r4.2; unfold LNN at this; omega) hQ
theorem G3.eq2 {v w : Sg} (h : G3 v) (h3 : ∀ n, 0 ≤ n → n < 5 → w 320 n = v 320 n) (e : ∀ o k, FP3 o k → o ≠ 320 → w o k = v o k) : G3 w := by
  obtain ⟨a1, a2, a3, a4, a5, a6, a7⟩ := h
  have e0 : w 64 1 = v 64 1 := e _ _ (by unfold FP3; omega) (by omega)
  have e1 : ∀ k, w 208 k = v 208 k := fun k => e _ _ (by unfold FP3; omega) (by omega)
  have e2 : ∀ k, w 209 k = v 209 k := fun k => e _ _ (by unfold FP3; omega) (by omega)
  have e3 : ∀ k, w 211 k = v 211 k := fun k => e _ _ (by unfold FP3; omega) (by omega)
  have e5 : ∀ k, w 321 k = v 321 k := fun k => e _ _ (by unfold FP3; omega) (by omega)
  have e6 : ∀ k, w 332 k = v 332 k := fun k => e _ _ (by unfold FP3; omega) (by omega)
  have e7 : w 207 2 = v 207 2 := e _ _ (by unfold FP3; omega) (by omega)
  have e8 : w 207 4 = v 207 4 := e _ _ (by unfold FP3; omega) (by omega)
  have e9 : w 207 5 = v 207 5 := e _ _ (by unfold FP3; omega) (by omega)
  have e10 : w 210 1 = v 210 1 := e _ _ (by unfold FP3; omega) (by omega)
  have e11 : w 307 15 = v 307 15 := e _ _ (by unfold FP3; omega) (by omega)
  have e12 : w 307 39 = v 307 39 := e _ _ (by unfold FP3; omega) (by omega)
  have e13 : w 307 40 = v 307 40 := e _ _ (by unfold FP3; omega) (by omega)
  have e14 : w 307 41 = v 307 41 := e _ _ (by unfold FP3; omega) (by omega)
  have hle : v 64 1 ≤ w 64 1 := by omega
  refine ⟨fun n n0 n1 => by rw [e1, h3 n n0 n1]; exact a1 n n0 n1, fun f f0 f1 => by rw [e2, e5]; exact ⟨(a2 f f0 f1).1, (a2 f f0 f1).2.le hle⟩, ?_, ?_, fun i i0 i1 => ?_, ?_, ?_⟩
  · rw [e7, e11]; exact ⟨a3.1, a3.2.le hle⟩
  · rw [e10, e12]; exact a4
  · rw [e12] at i1
    rw [e3, e6]; exact a5 i i0 i1
  · rw [e8, e13]; exact a6
  · rw [e9, e14]; exact a7
/-- what a run, or a trial of one, may write beside the now -/
def CW (o k : Int) : Prop := (o = 64 ∧ (k = 3 ∨ k = 4)) ∨ (67 ≤ o ∧ o < 207) ∨ (235 ≤ o ∧ o ≤ 262) ∨ TC2 o k ∨ o = 338 ∨ o = 340 ∨ o = 343 ∨ o = 344
theorem RR.cw {A : AHp} {v W : Sg} (h : RR A v) (e : ∀ o k, ¬ (CW o k ∨ o = 210 ∨ FP3 o k ∧ ¬ (o = 64 ∧ k = 1) ∧ o ≠ 209 ∧ o ≠ 321 ∧ ¬ (o = 207 ∧ k = 2) ∧ ¬ (o = 307 ∧ k = 15)) → W o k = v o k) (g3 : G3 W) (g10 : G10 W) : RR A W := by
  obtain ⟨h0, h1, h2, h3, h4, h5, h6, h7, h8, h9, h10⟩ := h
  refine ⟨h0.eq (fun o k q => e o k ?_), h1.eq (fun o k q => e o k ?_), h2.eq (fun o k q => e o k ?_), g3, h4.eq (fun o k q => e o k ?_), h5.eq (fun o k q => e o k ?_), h6.eq (fun o k q => e o k ?_), h7.eq (fun o k q => e o k ?_), h8.eq h1 (fun o k q => e o k ?_) (fun o k q => e o k ?_), h9.eq (fun o k q => e o k ?_), g10⟩
  · unfold FP0 at q; unfold CW TC2 FP3; omega
  · unfold FP1 at q; unfold CW TC2 FP3; omega
  · unfold FP2 at q; unfold CW TC2 FP3; omega
  · unfold FP4 at q; unfold CW TC2 FP3; omega
  · unfold FP5 at q; unfold CW TC2 FP3; omega
  · unfold FP6 at q; unfold CW TC2 FP3; omega
  · unfold FP7 at q; unfold CW TC2 FP3; omega
  · unfold FP8 at q; unfold CW TC2 FP3; omega
  · unfold FP1 at q; unfold CW TC2 FP3; omega
  · unfold FP9 at q; unfold CW TC2 FP3; omega
theorem hMinC : ∀ (d : Nat) (A : AHp) (a b : Int) (Q : Option AV → AHp → Prop), Q (some (vi (min a b))) A → CALL d mJ9_min_7cf53 [vi a, vi b] A Q := fun _ _ _ _ _ h => c_min (Nat.zero_le _) h
theorem RR.rs {A : AHp} {v : Sg} (h : RR A v) : RS v v v 207 := by
  obtain ⟨h0, h1, h2, h3, h4, h5, h6, h7, h8, h9, h10⟩ := h
  exact ⟨fun _ _ _ => rfl, fun _ _ _ _ => rfl, h3.2.1, h3.2.2.1, h3.1, ⟨h10.1.1, h10.1.2, h10.2.1.1, h10.2.1.2.1, h10.2.1.2.2.1, h10.2.1.2.2.2.1⟩, h10.2.1.2.2.2.2⟩
theorem p_run {A : AHp} {v : Sg} {l : Int} (h : RR A v) : PAIR A v mX12_run mX13_run [vi l] := by
  obtain ⟨h0, h1, h2, h3, h4, h5, h6, h7, h8, h9, h10⟩ := id h
  have hX := h0.1.2.1
  have hM := h0.1.2.2
  have hln := h1.1
  have hl12 := h1.2.1
  unfold PAIR
  have hvv := lift_agree (A := A) (w := v) (v := v) (fun _ _ _ _ => rfl)
  refine x_run (by omega) hX (fun q => ?_) (fun q1 q2 => ?_)
  · rw [hvv]
    exact c_run (n := 139) (by omega) hM hMinC (by omega) (fun _ => ⟨rfl, A, v, hvv.symm, h, GRO.rf, by omega⟩) (fun _ _ => by omega)
  · obtain ⟨t, g1, ⟨g2, g3, g4, g5, g6, g7, g8⟩, g9, g10, g11⟩ := run_core h1 h0.2.2.2.1 hX (XK_now hX) (by omega) h.rs ⟨q1, q2⟩
    refine g11 _ _ (by omega) (fun z' k1 k2 k3 k4 k5 => ⟨z', rfl, rfl, ?_⟩)
    have hzv : ∀ o k, 307 ≤ o → o < 350 → z' o k = v o k := fun o k a b => k5 o k (by omega)
    rw [lift_agree hzv]
    have hrun : runS 139 l v = some (sset (sset (sset (scpy t 331 0 332 0 60) 307 39 (t 307 36)) 307 40 (t 307 37)) 307 41 (t 307 34)) := by
      unfold runS
      rw [g1, Option.bind_some]
    refine c_run (n := 139) (by omega) hM hMinC (by omega) (fun _ => by omega) (fun _ _ => ⟨_, hrun, ?_⟩)
    rw [lift_cl]
    have s39 : (sset (sset (sset (scpy t 331 0 332 0 60) 307 39 (t 307 36)) 307 40 (t 307 37)) 307 41 (t 307 34)) 307 39 = t 307 36 := by rw [sset_2 (by omega), sset_2 (by omega), sset_e]
    have s40 : (sset (sset (sset (scpy t 331 0 332 0 60) 307 39 (t 307 36)) 307 40 (t 307 37)) 307 41 (t 307 34)) 307 40 = t 307 37 := by rw [sset_2 (by omega), sset_e]
    have s41 : (sset (sset (sset (scpy t 331 0 332 0 60) 307 39 (t 307 36)) 307 40 (t 307 37)) 307 41 (t 307 34)) 307 41 = t 307 34 := sset_e
    have s332 : ∀ i, 0 ≤ i → i < 60 → (sset (sset (sset (scpy t 331 0 332 0 60) 307 39 (t 307 36)) 307 40 (t 307 37)) 307 41 (t 307 34)) 332 i = t 331 i := fun i i0 i1 => by
      rw [sset_1 (by omega), sset_1 (by omega), sset_1 (by omega), scpy_i (by omega)]
      congr 1
      omega
    have so : ∀ o k, ¬ (o = 332 ∨ (o = 307 ∧ (k = 39 ∨ k = 40 ∨ k = 41))) → (sset (sset (sset (scpy t 331 0 332 0 60) 307 39 (t 307 36)) 307 40 (t 307 37)) 307 41 (t 307 34)) o k = t o k := fun o k q => by
      rw [sset_ne (by omega), sset_ne (by omega), sset_ne (by omega), scpy_n (by omega)]
    generalize sset (sset (sset (scpy t 331 0 332 0 60) 307 39 (t 307 36)) 307 40 (t 307 37)) 307 41 (t 307 34) = t' at s39 s40 s41 s332 so ⊢
    obtain ⟨u1, ⟨u2, u3, u4⟩, u5⟩ := k1
    have k2' := k2.1 (by omega)
    have w210 : z' 210 1 = t 307 36 := k2'.1
    have w211 : ∀ i, 0 ≤ i → i < t 307 36 → z' 211 i = t 331 i := k2'.2
    have w208 : ∀ n, 0 ≤ n → n < 5 → z' 208 n = t 320 n := u5
    have e : ∀ o k, ¬ (CW o k ∨ o = 210 ∨ FP3 o k ∧ ¬ (o = 64 ∧ k = 1) ∧ o ≠ 209 ∧ o ≠ 321 ∧ ¬ (o = 207 ∧ k = 2) ∧ ¬ (o = 307 ∧ k = 15)) → liftV z' t' o k = v o k := fun o k q => by
      by_cases c : 307 ≤ o ∧ o < 350
      · rw [liftV_i c, so o k (fun w => q (Or.inr (Or.inr (by unfold FP3; omega)))), g10 o k (fun w => q (Or.inl (Or.inr (Or.inr (Or.inr (Or.inl w))))))]
      · rw [liftV_o c]
        exact k5 o k (by unfold CW FP3 TC2 at q; omega)
    refine ⟨by rw [s39, w210], A, liftV z' t', rfl, h.cw e ?_ ?_, GRO.rf, by omega⟩
    · obtain ⟨b1, b2, b3, b4, b5, b6, b7⟩ := id h3
      have e64 : liftV z' t' 64 1 = v 64 1 := e _ _ (by unfold CW TC2 FP3; omega)
      have hle : v 64 1 ≤ liftV z' t' 64 1 := by omega
      refine ⟨fun n n0 n1 => ?_, fun f f0 f1 => ?_, ?_, ?_, fun i i0 i1 => ?_, ?_, ?_⟩
      · rw [liftV_o (by omega), liftV_i (by omega), so _ _ (by omega)]
        exact w208 n n0 n1
      · rw [e 209 f (by unfold CW TC2 FP3; omega), e 321 f (by unfold CW TC2 FP3; omega)]
        exact ⟨(b2 f f0 f1).1, (b2 f f0 f1).2.le hle⟩
      · rw [e 207 2 (by unfold CW TC2 FP3; omega), e 307 15 (by unfold CW TC2 FP3; omega)]
        exact ⟨b3.1, b3.2.le hle⟩
      · rw [liftV_o (by omega), liftV_i (by omega), s39]
        exact ⟨w210, g4⟩
      · rw [liftV_i (by omega), s39] at i1
        rw [liftV_o (by omega), liftV_i (by omega), s332 i i0 (by omega)]
        exact w211 i i0 i1
      · rw [liftV_o (by omega), liftV_i (by omega), s40]
        exact k3
      · rw [liftV_o (by omega), liftV_i (by omega), s41]
        exact k4
    · refine ⟨⟨?_, ?_⟩, ⟨fun j => ?_, fun j => ?_, fun j => ?_, fun j => ?_, fun j => ?_⟩, ?_⟩
      · rw [liftV_i (by omega), so _ _ (by omega)]; exact g3
      · rw [liftV_i (by omega), so _ _ (by omega)]; exact g4
      · rw [liftV_i (by omega), so _ _ (by omega)]; exact g5 j
      · rw [liftV_i (by omega), so _ _ (by omega)]; exact g6 j
      · rw [liftV_i (by omega), so _ _ (by omega)]; exact g7 j
      · rw [liftV_i (by omega), so _ _ (by omega)]; exact g8 j
      · rw [liftV_i (by omega), so _ _ (by omega)]; exact g9 j
      · rw [liftV_o (by omega), u3]; exact u4
