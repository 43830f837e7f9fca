/-! ===== the class's reader: readCommand, whole ===== -/
theorem clN_8 : clN 8 = 4 := by decide +kernel
theorem clN_5 : clN 5 = 4 := by decide +kernel
theorem clN_2 : clN 2 = 4 := by decide +kernel
/-- the heap with a new stage -/
def stH (A : AHp) (w : Int) : AHp := hpset (hpset (hnew (hnew A 9 0 4 (fun _ => 0)) 20 4 4 (fun _ => 0)) (hn A) 1 (hn A + 1)) (hn A) 0 w
def stV (A : AHp) (v : Sg) : Sg := vz (vz v (hn A)) (hn A + 1)
theorem stV_o {A : AHp} {v : Sg} {o k : Int} (h : o ≠ hn A ∧ o ≠ hn A + 1) : stV A v o k = v o k := by
  unfold stV
  rw [vz_ne _ h.2, vz_ne _ h.1]
theorem stV_0 {A : AHp} {v : Sg} {o k : Int} (h : o = hn A ∨ o = hn A + 1) : stV A v o k = 0 := by
  unfold stV
  by_cases c : o = hn A + 1
  · rw [c, vz_at]
  · rw [vz_ne _ c, show o = hn A by omega, vz_at]
theorem stH_old {A : AHp} {w : Int} : OLD A (stH A w) := old_pset (old_pset (old_tr old_new old_new) (by omega)) (by omega)
theorem stH_hn {A : AHp} {w : Int} : hn (stH A w) = hn A + 2 := by
  show hn A + 1 + 1 = hn A + 2
  omega
theorem stH_gro {A : AHp} {w : Int} : GRO A (stH A w) := by
  refine ⟨stH_old, ?_⟩
  rw [stH_hn]
  show ((hs A + 4 + 4 : Nat) : Int) + 6 * hn A ≤ hs A + 6 * (hn A + 2)
  omega
theorem stH_so {A : AHp} {w : Int} (h : 60 ≤ hn A) : isO (stH A w) (hn A) 9 := by
  show isO (hnew (hnew A 9 0 4 (fun _ => 0)) 20 4 4 (fun _ => 0)) (hn A) 9
  exact old_O old_new (new_O h)
theorem stH_ta {A : AHp} {w : Int} (h : 60 ≤ hn A) : isA (stH A w) (hn A + 1) 20 4 := by
  show isA (hnew (hnew A 9 0 4 (fun _ => 0)) 20 4 4 (fun _ => 0)) (hn (hnew A 9 0 4 (fun _ => 0))) 20 4
  exact new_A (by rw [hn_new]; omega)
theorem stH_0 {A : AHp} {w : Int} : hp (stH A w) (hn A) 0 = w := by
  unfold stH
  rw [hp_pset, if_pos ⟨rfl, rfl⟩]
theorem stH_1 {A : AHp} {w : Int} : hp (stH A w) (hn A) 1 = hn A + 1 := by
  unfold stH
  rw [hp_pset, if_neg (by omega), hp_pset, if_pos ⟨rfl, rfl⟩]
theorem x_newStage2 {d : Nat} {A : AHp} {v : Sg} {w : Int} {Q : Option AV → AHp → Prop} (hd : 1 ≤ d) (h60 : 60 ≤ hn A) (hQ : Q none (cl (stH A w) (stV A v))) : CALL d mX9_init [vr (hn A), vr w] (hnew (cl A v) 9 0 4 (fun _ => 0)) Q := by
  rw [cl_new]
  exact x_newStage hd (new_O h60) hQ
theorem cmd_no {s : Sg} {f : Int} (h : wofS s (s 307 18) (letN s 101 (s 307 18)) < 0 ∨ (11 ≤ wofS s (s 307 18) (letN s 101 (s 307 18)) ∧ f = 0)) : cmdS s f = (-1, sset (sset s 307 18 (letN s 101 (s 307 18))) 307 19 (s 307 18)) := by
  unfold cmdS
  rw [if_pos h]
theorem cmd_yes {s : Sg} {f : Int} (h : ¬ (wofS s (s 307 18) (letN s 101 (s 307 18)) < 0 ∨ (11 ≤ wofS s (s 307 18) (letN s 101 (s 307 18)) ∧ f = 0))) : cmdS s f = (if (wholeS (newS (sset s 307 18 (letN s 101 (s 307 18))) (wofS s (s 307 18) (letN s 101 (s 307 18)))) (60 * s 307 12 + s 307 22) (wofS s (s 307 18) (letN s 101 (s 307 18)))).1 = true then 60 * s 307 12 + s 307 22 else -1,
      (wholeS (newS (sset s 307 18 (letN s 101 (s 307 18))) (wofS s (s 307 18) (letN s 101 (s 307 18)))) (60 * s 307 12 + s 307 22) (wofS s (s 307 18) (letN s 101 (s 307 18)))).2) := by
  unfold cmdS
  rw [if_neg h]
theorem lx_cmd {d : Nat} {A : AHp} {v s : Sg} {f so ta st w : Int} {Q : Option AV → AHp → Prop} (hd : 4 ≤ d) (hX : XLAY A) (hO : isO A so 9) (hta : hp A so 1 = ta) (hTA : isA A ta 20 4) (hne : 350 ≤ so ∧ 350 ≤ ta ∧ so ≠ ta) (hT : TSM v s) (h4 : v 61 4 = s 307 18) (h18 : s 307 17 ≤ 100 ∧ 0 ≤ s 307 18 ∧ s 307 18 ≤ s 307 17) (hw : 0 ≤ w ∧ w ≤ 13) (h316 : s 316 st = 0) (h2 : v so 2 = 0) (hz : ∀ j, 0 ≤ j → j < 4 → v ta j = 0)
    (hS : (wholeS s st w).1 = true → ∀ x, XF2 so ta v x → DAT x (wholeS s st w).2 so ta st w → Q (some (vr so)) (cl A x))
    (hFl : (wholeS s st w).1 = false → ∀ x, XF2 so ta v x → x 61 3 = (wholeS s st w).2 307 19 → Q (some (vr 0)) (cl A x)) : AW d mX7_readCommand 34 [some (vr 61), some (vi f), some (vr (1 + w)), some (vr so), some (vi 0)] [] (cl A v) Q := by
  have hB : BSM v s := hT.1
  have hr0 : RCV v s so ta st 0 := ⟨hT, h4, h2, fun j j0 j1 => by omega, fun j j0 j1 => by rw [hz j j0 j1]; omega⟩
  by_cases c1 : w = 7 ∨ w = 9
  · have e : wholeS s st w = (true, s) := by
      unfold wholeS
      rw [if_pos c1]
    rw [e] at hS
    refine lx_rcX (by omega) (by rw [wm_tab (by omega) (by omega), if_neg (by omega), if_pos (by omega)]; omega) ?_
    refine hS rfl v XF2.rf ⟨hT, h4, by omega, hr0.2.2.2.2, fun _ => ⟨by rw [h2]; exact h316.symm, fun i i0 i1 => ?_⟩, fun q => by omega⟩
    have i2 : i < s 316 st := i1
    omega
  · have e0 : btS s (s 307 18) ≠ 32 → wholeS s st w = (false, sset s 307 19 (s 307 18)) := fun q => by
      unfold wholeS
      rw [if_neg c1, if_pos q]
    have hF0 : btS s (s 307 18) ≠ 32 → Q (some (vr 0)) (cl A (sset v 61 3 (s 307 18))) := fun q => by
      rw [e0 q] at hFl
      refine hFl rfl _ (XF2.rf.st (Or.inr (Or.inr (by omega)))) ?_
      show (sset v 61 3 (s 307 18)) 61 3 = sset s 307 19 (s 307 18) 307 19
      rw [sset_e, sset_e]
    by_cases c2 : w = 8
    · subst c2
      rw [show ((1 : Int) + 8) = 9 from rfl]
      refine lx_rcS hd hX hO hta hTA hne hB (by omega) h4 hF0 (fun q1 q2 => ?_) (fun q1 q2 => ?_)
      · have e : wholeS s st 8 = (false, sset (sset (sset s 307 18 (s 307 18 + 1)) 315 st (btS s (s 307 18 + 1) - 97)) 307 19 (s 307 18 + 1)) := by
          unfold wholeS
          rw [if_neg (by omega), if_neg (fun z => z q1), if_pos rfl, if_pos q2]
        rw [e] at hFl
        refine hFl rfl _ ((((XF2.rf.st (Or.inr (Or.inr (by omega)))).st (Or.inr (Or.inr (by omega)))).st (Or.inr (Or.inl rfl))).st (Or.inl rfl)) ?_
        show _ = sset (sset (sset s 307 18 (s 307 18 + 1)) 315 st (btS s (s 307 18 + 1) - 97)) 307 19 (s 307 18 + 1) 307 19
        rw [sset_1 (by omega), sset_1 (by omega), sset_e, sset_e]
      · have e : wholeS s st 8 = (true, sset (sset (sset s 307 18 (s 307 18 + 1)) 315 st (btS s (s 307 18 + 1) - 97)) 307 18 (s 307 18 + 1 + 1)) := by
          unfold wholeS
          rw [if_neg (by omega), if_neg (fun z => z q1), if_pos rfl, if_neg (fun z => z q2)]
        rw [e] at hS
        refine hS rfl _ (((XF2.rf.st (Or.inr (Or.inr (by omega)))).st (Or.inr (Or.inl rfl))).st (Or.inl rfl)) ⟨?_, ?_, ?_, fun j j0 j1 => ?_, fun q => absurd rfl q, fun _ => ?_⟩
        · exact ((hT.at.o (by omega)).o (by omega)).eq rfl (fun _ => rfl) (fun _ => rfl) (by show sset (sset (sset s 307 18 (s 307 18 + 1)) 315 st (btS s (s 307 18 + 1) - 97)) 307 18 (s 307 18 + 1 + 1) 307 17 = s 307 17; rw [sset_2 (by omega), sset_1 (by omega), sset_2 (by omega)]) (fun k => by show sset (sset (sset s 307 18 (s 307 18 + 1)) 315 st (btS s (s 307 18 + 1) - 97)) 307 18 (s 307 18 + 1 + 1) 322 k = s 322 k; rw [sset_1 (by omega), sset_1 (by omega), sset_1 (by omega)])
        · show _ = sset (sset (sset s 307 18 (s 307 18 + 1)) 315 st (btS s (s 307 18 + 1) - 97)) 307 18 (s 307 18 + 1 + 1) 307 18
          rw [sset_1 (by omega), sset_1 (by omega), sset_e, sset_e]
        · rw [sset_e]; omega
        · rw [sset_1 (by omega)]
          by_cases c3 : j = 0
          · rw [c3, sset_e]; omega
          · rw [sset_2 c3, sset_1 (by omega), hz j j0 j1]; omega
        · show _ = -1 - sset (sset (sset s 307 18 (s 307 18 + 1)) 315 st (btS s (s 307 18 + 1) - 97)) 307 18 (s 307 18 + 1 + 1) 315 st
          rw [sset_1 (by omega), sset_e, sset_1 (o := 307) (by omega), sset_e]
    · have e1 : btS s (s 307 18) = 32 → wholeS s st w = echS st w 4 (numR s (s 307 18 + 1)).1 (numS s st) := fun q => by
        unfold wholeS
        rw [if_neg c1, if_neg (fun z => z q), if_neg c2]
      refine lx_rcN hd hX hO hta hTA hne hB (by omega) h4 (by omega) (by rw [wm_tab (by omega) (by omega)]; split; omega; rw [if_neg (by omega)]; omega) (by rw [wl_tab (by omega) (by omega), if_neg (by omega)]) hF0 (fun q hn x9 => ?_) (fun q hn => ?_)
      · rw [e1 q, hn, ech_no (fun z => absurd z.1 Bool.false_ne_true)] at hFl
        refine hFl rfl _ ((((XF2.rf.st (Or.inr (Or.inr (by omega)))).st (Or.inr (Or.inr (by omega)))).st (Or.inr (Or.inl rfl))).st (Or.inl rfl)) ?_
        show _ = numS s st 307 19
        rw [sset_1 (by omega), sset_1 (by omega), sset_e]
        exact (numS_19 hn).symm
      · have hr1 := hr0.num hn h316.symm (by omega) hne (i2 := 1) (by omega)
        have hx1 : XF2 so ta v (sset (sset (sset v 61 4 (numR s (s 307 18 + 1)).2.1) ta 0 (numR s (s 307 18 + 1)).2.2) so 2 1) := ((XF2.rf.st (Or.inr (Or.inr (by omega)))).st (Or.inr (Or.inl rfl))).st (Or.inl rfl)
        have e16 : numS s st 316 st = 1 := by rw [numS_many, if_pos hn, h316]; rfl
        have e18 : numS s st 307 18 = (numR s (s 307 18 + 1)).2.1 := numS_at
        have e17 : numS s st 307 17 = s 307 17 := numS_fr (by omega)
        have hk := numR_ok hn
        rw [e1 q, hn] at hS hFl
        have mk : ∀ (x t : Sg), XF2 so ta v x → RCV x t so ta st (t 316 st) → (0 ≤ t 316 st ∧ t 316 st ≤ 4) → DAT x t so ta st w := fun x t g1 g2 g3 => ⟨g2.1, g2.2.1, by rw [g2.2.2.1]; exact g3, g2.2.2.2.2, fun _ => ⟨g2.2.2.1, g2.2.2.2.1⟩, fun z => absurd z c2⟩
        by_cases c3 : w = 0
        · subst c3
          rw [show ((1 : Int) + 0) = 1 from rfl]
          have hb := rd_ech_ok (st := st) (w := 0) 4 true (numS s st) (by omega) (by omega) (by omega) (by omega) (fun _ => ⟨by omega, fun i i0 i1 => by have := numS_v (st := st) hn; rw [show i = s 316 st by omega, this]; exact hk.2.2⟩) (fun z => absurd z.symm Bool.false_ne_true)
          refine lx_ech hd hX hO hta hTA hne 4 _ (numS s st) 1 hr1 (by omega) (by omega) (by omega) (by omega) (fun z x g1 g2 => hS z x (hx1.tr g1) (mk x _ (hx1.tr g1) g2 ?_)) (fun z x g1 g2 => hFl z x (hx1.tr g1) g2)
          have := hb.2.2.2.1
          omega
        · have e9 : echS st w 4 true (numS s st) = (true, numS s st) := ech_no (fun z => c3 z.2.1)
          rw [e9] at hS
          refine lx_rcX (by omega) (by rw [wm_tab (by omega) (by omega), if_neg (by omega), if_neg (by omega)]; omega) (hS rfl _ hx1 (mk _ _ hx1 ?_ ?_))
          · show RCV _ (numS s st) so ta st (numS s st 316 st)
            rw [e16]
            exact hr1
          · show 0 ≤ numS s st 316 st ∧ numS s st 316 st ≤ 4
            omega
/-- a command that was read is a stage, as both have it -/
theorem cmd_sj {A B : AHp} {v s : Sg} {e : Nat} {ed w so ta st : Int} (hR : RB s) (he : s 307 18 ≤ ed ∧ ed ≤ s 307 17) (hw : 0 ≤ w ∧ w ≤ 13) (hst : st = 60 * s 307 12 + s 307 22) (ht : (wholeS (newS (sset s 307 18 ed) w) st w).1 = true) (hD : DAT v (wholeS (newS (sset s 307 18 ed) w) st w).2 so ta st w) (hO : isO B so 9) (h0 : hp B so 0 = 1 + w) (h1 : hp B so 1 = ta) (hTA : isA B ta 20 4) (hso : hn A ≤ so ∧ hn A ≤ ta ∧ 350 ≤ hn A) : SJ A B v s (wholeS (newS (sset s 307 18 ed) w) st w).2 e so st ∧ (wholeS (newS (sset s 307 18 ed) w) st w).2 314 st = w := by
  subst hst
  obtain ⟨z1, z2, z3, z4, z5⟩ := rd_cmd_ok (w := w) hR he
  have e12 : (sset s 307 18 ed) 307 12 = s 307 12 := sset_2 (by omega)
  have e22 : (sset s 307 18 ed) 307 22 = s 307 22 := sset_2 (by omega)
  have u316 : (newS (sset s 307 18 ed) w) 316 (60 * s 307 12 + s 307 22) = 0 := by
    unfold newS
    rw [e12, e22, sset_1 (by omega), sset_e]
  have u314 : (newS (sset s 307 18 ed) w) 314 (60 * s 307 12 + s 307 22) = w := by
    unfold newS
    rw [e12, e22, sset_1 (by omega), sset_1 (by omega), sset_e]
  have u18 : (newS (sset s 307 18 ed) w) 307 18 = ed := by rw [newS_k (by omega), sset_e]
  have u17 : (newS (sset s 307 18 ed) w) 307 17 = s 307 17 := by rw [newS_k (by omega), sset_2 (by omega)]
  have hR1 := hR.1
  obtain ⟨w1, w2, w3, w4, w5⟩ := rd_whole_ok (w := w) u316 (by rw [u18, u17]; omega)
  generalize wholeS (newS (sset s 307 18 ed) w) (60 * s 307 12 + s 307 22) w = y at z1 z2 z3 z4 z5 w1 w2 w3 w4 w5 ht hD ⊢
  obtain ⟨v1, v2, v3, v4, v5, v6⟩ := w5 ht
  have t314 : y.2 314 (60 * s 307 12 + s 307 22) = w := (w1 _ _ (by omega)).trans u314
  obtain ⟨d1, d2, d3, d4, d5, d6⟩ := hD
  refine ⟨SJ.cmd ⟨⟨by omega, hO, by omega, by omega, by rw [h1]; exact hTA, d3, by rw [h1]; exact d4⟩, by rw [h0, t314]; omega, fun q => ?_, fun q => ?_, fun q => v5 (by omega)⟩ ⟨v2, by omega, fun i i0 i1 => (v3 i i0 i1).1, fun q => ?_⟩ (by omega) hso.1 (by omega) (by omega), t314⟩
  · rw [h1]
    exact d5 (by omega)
  · rw [h1]
    exact ⟨(v4 (by omega)).1, d6 (by omega)⟩
  · exact (v4 (by omega)).2
set_option maxRecDepth 20000 in
theorem x_readCommand {d : Nat} {s : Sg} {f : Int} {A : AHp} {v : Sg} {Q : Option AV → AHp → Prop} (hd : 7 ≤ d) (hX : XLAY A) (hA : 350 ≤ hn A) (hT : TSM v s) (hR : RB s) (h4 : v 61 4 = s 307 18) (h5 : 0 ≤ v 61 5 ∧ v 61 5 ≤ 1000) (hf : f = 0 ∨ f = 1)
  (hFl : (cmdS s f).1 < 0 → ∀ B w, GRO A B → hn B ≤ hn A + 2 → XFR A v w → w 61 3 = (cmdS s f).2 307 19 → Q (some (vr 0)) (cl B w))
  (hS : 0 ≤ (cmdS s f).1 → ∀ B w, GRO A B → hn B = hn A + 2 → XFR A v w → w 61 4 = (cmdS s f).2 307 18 → w 61 5 = v 61 5 + 1 → w 61 6 = v 61 6 → (cmdS s f).1 = 60 * s 307 12 + s 307 22 → isO B (hn A) 9 → (∀ e, SJ A B w s (cmdS s f).2 e (hn A) (60 * s 307 12 + s 307 22)) → (f = 0 → (cmdS s f).2 314 (60 * s 307 12 + s 307 22) < 11) → Q (some (vr (hn A))) (cl B w)) : CALL d mX7_readCommand [vr 61, vi f] (cl A v) Q := by
  refine CALL.of (by decide) (Nat.le_of_ble_eq_true rfl) ?_
  change AW d mX7_readCommand 0 [some (vr 61), some (vi f), none, none, none] [] (cl A v) Q
  obtain ⟨⟨a1, a2, a3⟩, a4, a5, a6⟩ := id hR
  have e62 : v 61 2 = s 307 17 := hT.2.1
  have hwb := wof_b (s := s) (f := s 307 18) (t := letN s 101 (s 307 18))
  have hle := letN_b (s := s) a1.2 101 (s 307 18) a2.2
  refine aw_aload_n (pc' := 1) rfl dX7_readCommand_0 rfl ?_
  refine aw_iload_n (pc' := 2) rfl dX7_readCommand_1 rfl ?_
  refine aw_callV (ci := 6) (d' := d - 1) (as := [_]) (pc' := 5) (by decide) rfl kX7_readWord iX7_readWord sX7_readWord lX7_115 (XO_reader (A := (cl A v)) hX) dX7_readCommand_2 rfl rfl (Nat.le_of_ble_eq_true rfl) (by omega) ?_
  try simp (disch := omega) only [hv_cl, cl_set, sset_e, sset_1, sset_2, sset_ss, btX_4]
  refine x_readWord (s := s) (by omega) hX hT (by omega) hf (fun w0 => ?_) (fun w1 => ?_)
  · rw [h4] at w0
    refine aw_astore_n (pc' := 6) (lv' := [_, _, _, _, _]) dX7_readCommand_5 rfl (by decide) rfl ?_
    refine aw_aload_n (pc' := 7) rfl dX7_readCommand_6 rfl ?_
    refine aw_ifnonnull (pt := 12) (pf := 10) (by omega) dX7_readCommand_7 (by decide) rfl (fun c_7 => ?_) (fun c_7 => ?_)
    · exfalso
      omega
    · replace c_7 := Classical.not_not.mp c_7
      refine aw_null (pc' := 11) dX7_readCommand_10 rfl ?_
      refine AW.ret (some (vr _)) dX7_readCommand_11 trivial ?_
      have e9 := cmd_no w0
      rw [e9] at hFl
      refine hFl (by show (-1 : Int) < 0; omega) A _ GRO.rf (by omega) (XFR.at (by omega)) ?_
      show sset v 61 3 (v 61 4) 61 3 = sset (sset s 307 18 (letN s 101 (s 307 18))) 307 19 (s 307 18) 307 19
      rw [sset_e, sset_e, h4]
  · rw [h4] at w1 ⊢
    refine aw_astore_n (pc' := 6) (lv' := [_, _, _, _, _]) dX7_readCommand_5 rfl (by decide) rfl ?_
    refine aw_aload_n (pc' := 7) rfl dX7_readCommand_6 rfl ?_
    refine aw_ifnonnull (pt := 12) (pf := 10) (by omega) dX7_readCommand_7 (by decide) rfl (fun c_7 => ?_) (fun c_7 => ?_)
    · refine aw_aload_n (pc' := 13) rfl dX7_readCommand_12 rfl ?_
      refine aw_dup (pc' := 14) rfl dX7_readCommand_13 rfl ?_
      refine aw_geti (pc' := 17) (k9 := 5) dX7_readCommand_14 rfl fX7_32 rfl (by decide) rfl (XO_reader (A := (cl A v)) hX) ?_
      try simp (disch := omega) only [hv_cl, cl_set, sset_e, sset_1, sset_2, sset_ss, btX_4]
      refine aw_iconst (pc' := 18) (by decide) dX7_readCommand_17 rfl ?_
      refine aw_iadd (pc' := 19) (by first | exact w32_id (by omega) (by omega) | rfl) dX7_readCommand_18 rfl ?_
      refine aw_puti (pc' := 22) (k9 := 5) dX7_readCommand_19 rfl fX7_32 rfl rfl rfl (XO_reader (A := (cl A v)) hX) ?_
      refine aw_new (ci := 8) (pc' := 25) (by decide) zX7_100 w8_new w8_ini dX7_readCommand_22 rfl ?_
      try simp (disch := omega) only [hv_cl, cl_set, sset_e, sset_1, sset_2, sset_ss, btX_4]
      rw [hn_cl, clN_8]
      refine aw_dup (pc' := 26) rfl dX7_readCommand_25 rfl ?_
      refine aw_aload_n (pc' := 27) rfl dX7_readCommand_26 rfl ?_
      refine aw_callI (d' := d - 1) (as := [_]) (pc' := 30) rfl kX9_init rfl iX9_init lX7_106 (by omega) dX7_readCommand_27 rfl rfl (Nat.le_of_ble_eq_true rfl) (by omega) ?_
      refine x_newStage2 (by omega) (by omega) ?_
      refine aw_astore_n (pc' := 31) (lv' := [_, _, _, _, _]) dX7_readCommand_30 rfl (by decide) rfl ?_
      refine aw_iconst (pc' := 32) (by decide) dX7_readCommand_31 rfl ?_
      refine aw_istore (pc' := 34) (lv' := [_, _, _, _, _]) dX7_readCommand_32 rfl (by decide) rfl ?_
      have e9 := cmd_yes w1
      rw [e9] at hFl hS
      have e12 : (sset s 307 18 (letN s 101 (s 307 18))) 307 12 = s 307 12 := sset_2 (by omega)
      have e22 : (sset s 307 18 (letN s 101 (s 307 18))) 307 22 = s 307 22 := sset_2 (by omega)
      have hw0 : ¬ wofS s (s 307 18) (letN s 101 (s 307 18)) < 0 := fun z => w1 (Or.inl z)
      have hw11 : f = 0 → wofS s (s 307 18) (letN s 101 (s 307 18)) < 11 := fun z => by
        rcases Int.lt_or_le (wofS s (s 307 18) (letN s 101 (s 307 18))) 11 with q | q
        · exact q
        · exact absurd (Or.inr ⟨q, z⟩) w1
      clear w1
      generalize wofS s (s 307 18) (letN s 101 (s 307 18)) = w at *
      generalize letN s 101 (s 307 18) = ed at *
      have u316 : (newS (sset s 307 18 ed) w) 316 (60 * s 307 12 + s 307 22) = 0 := by
        unfold newS
        rw [e12, e22, sset_1 (by omega), sset_e]
      have u18 : (newS (sset s 307 18 ed) w) 307 18 = ed := by rw [newS_k (by omega), sset_e]
      have u17 : (newS (sset s 307 18 ed) w) 307 17 = s 307 17 := by rw [newS_k (by omega), sset_2 (by omega)]
      have hv1 : ∀ o k, o < hn A → ¬ (o = 61 ∧ (k = 4 ∨ k = 5)) → (stV A (sset (sset v 61 4 ed) 61 5 (v 61 5 + 1))) o k = v o k := fun o k q1 q2 => by
        rw [stV_o (by omega)]
        unfold sset
        rw [if_neg (by omega), if_neg (by omega)]
      have hv5 : (stV A (sset (sset v 61 4 ed) 61 5 (v 61 5 + 1))) 61 5 = v 61 5 + 1 := by
        rw [stV_o (by omega), sset_e]
      have hv4 : (stV A (sset (sset v 61 4 ed) 61 5 (v 61 5 + 1))) 61 4 = ed := by
        rw [stV_o (by omega), sset_2 (by omega), sset_e]
      have hT1 : TSM (stV A (sset (sset v 61 4 ed) 61 5 (v 61 5 + 1))) (newS (sset s 307 18 ed) w) := hT.eq (hv1 _ _ (by omega) (by omega)) (fun _ => hv1 _ _ (by omega) (by omega)) (fun _ => hv1 _ _ (by omega) (by omega)) u17 (fun k => by unfold newS; rw [sset_1 (by omega), sset_1 (by omega), sset_1 (by omega), sset_1 (by omega), sset_1 (by omega)])
      have hxf : ∀ x, XF2 (hn A) (hn A + 1) (stV A (sset (sset v 61 4 ed) 61 5 (v 61 5 + 1))) x → XFR A v x := fun x q o k q1 q2 => by
        rw [q o k (by omega) (by omega) (by omega)]
        exact hv1 o k q1 (by omega)
      have hgr := stH_gro (A := A) (w := 1 + w)
      have hgn := stH_hn (A := A) (w := 1 + w)
      refine lx_cmd (st := 60 * s 307 12 + s 307 22) (s := newS (sset s 307 18 ed) w) (by omega) (old_X stH_old hX) (stH_so (by omega)) stH_1 (stH_ta (by omega)) (by omega) hT1 (by rw [hv4, u18]) (by rw [u17, u18]; omega) (by omega) u316 (stV_0 (Or.inl rfl)) (fun j j0 j1 => stV_0 (Or.inr rfl)) (fun ht x g1 g2 => ?_) (fun hf9 x g1 g2 => ?_)
      · obtain ⟨j1, j2⟩ := cmd_sj (A := A) (B := stH A (1 + w)) (e := 0) hR hle (by omega) rfl ht g2 (stH_so (by omega)) stH_0 stH_1 (stH_ta (by omega)) (by omega)
        rw [if_pos ht] at hS
        refine hS (by show 0 ≤ 60 * s 307 12 + s 307 22; omega) _ x hgr hgn (hxf x g1) g2.2.1 ?_ ?_ rfl (stH_so (by omega)) (fun e => (cmd_sj (e := e) hR hle (by omega) rfl ht g2 (stH_so (by omega)) stH_0 stH_1 (stH_ta (by omega)) (by omega)).1) (fun z => by show _ < (11 : Int); rw [j2]; exact hw11 z)
        · rw [g1 61 5 (by omega) (by omega) (by omega), hv5]
        · rw [g1 61 6 (by omega) (by omega) (by omega)]
          exact hv1 _ _ (by omega) (by omega)
      · rw [if_neg (by rw [hf9]; exact Bool.false_ne_true)] at hFl
        exact hFl (by show (-1 : Int) < 0; omega) _ x hgr (by omega) (hxf x g1) g2
    · replace c_7 := Classical.not_not.mp c_7
      exfalso
      omega
