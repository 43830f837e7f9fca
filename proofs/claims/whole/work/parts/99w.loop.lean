/-! ===== the law: its loop, and its start ===== -/
set_option maxRecDepth 20000 in
theorem lw_loop {d : Nat} {S : Int → Int} {n H0 : Int} {Q : Option AV → AHp → Prop} (hd : 900 + 1 ≤ d) (hnn : 0 ≤ n ∧ n ≤ 3072) (hS : ∀ k, in32 (S k)) (hQ : ∀ B w, hn B ≤ 154462 → (hs B : Int) ≤ H0 + 6 * hn B → Q (some (vi 1)) (cl B w)) : ∀ (m : Nat) (i : Int) (A : AHp) (v : Sg), 0 ≤ i → n - i < 6 * (m : Int) + 6 → RR A v → SCR (cl A v) S n → hn A + 301 * (m : Int) ≤ 154462 → (hs A : Int) ≤ H0 + 6 * hn A → AW d mL_law 18 (lwL i) [] (cl A v) Q := by
  intro m
  induction m with
  | zero =>
    intro i A v hi hm h hsc hb hg
    refine aw_iload_n (pc' := 19) rfl dL_law_18 rfl ?_
    refine aw_aload_n (pc' := 20) rfl dL_law_19 rfl ?_
    refine aw_scrL (pc' := 21) hsc.1 dL_law_20 rfl ?_
    rw [hsc.2.1]
    refine aw_bipush (pc' := 23) (by decide +kernel) dL_law_21 rfl ?_
    refine aw_isub (pc' := 24) (z := n - 6) (w32_id (by omega) (by omega)) dL_law_23 rfl ?_
    refine aw_icmp_gt (pt := 1065) (pf := 27) dL_law_24 (by decide) rfl (fun c1 => ?_) (fun c1 => ?_)
    · refine aw_iconst (pc' := 1066) (by decide) dL_law_1065 rfl ?_
      exact AW.ret (some (vi 1)) dL_law_1066 (Or.inr rfl) (hQ A v (by omega) hg)
    · exfalso
      omega
  | succ m ih =>
    intro i A v hi hm h hsc hb hg
    refine aw_iload_n (pc' := 19) rfl dL_law_18 rfl ?_
    refine aw_aload_n (pc' := 20) rfl dL_law_19 rfl ?_
    refine aw_scrL (pc' := 21) hsc.1 dL_law_20 rfl ?_
    rw [hsc.2.1]
    refine aw_bipush (pc' := 23) (by decide +kernel) dL_law_21 rfl ?_
    refine aw_isub (pc' := 24) (z := n - 6) (w32_id (by omega) (by omega)) dL_law_23 rfl ?_
    refine aw_icmp_gt (pt := 1065) (pf := 27) dL_law_24 (by decide) rfl (fun c1 => ?_) (fun c1 => ?_)
    · refine aw_iconst (pc' := 1066) (by decide) dL_law_1065 rfl ?_
      exact AW.ret (some (vi 1)) dL_law_1066 (Or.inr rfl) (hQ A v (by omega) hg)
    refine aw_aload_n (pc' := 28) rfl dL_law_27 rfl ?_
    refine aw_iload_n (pc' := 29) rfl dL_law_28 rfl ?_
    refine aw_scr (pc' := 30) hsc.1 (by omega) (by rw [hsc.2.1]; omega) dL_law_29 rfl ?_
    rw [hsc.2.2]
    refine aw_bipush (pc' := 32) (by decide +kernel) dL_law_30 rfl ?_
    refine aw_iand (pc' := 33) (z := (Int32.ofInt (S i) &&& Int32.ofInt 31).toInt) rfl dL_law_32 rfl ?_
    generalize (Int32.ofInt (S i) &&& Int32.ofInt 31).toInt = z
    have hbd : BND i n := ⟨hi, by omega, by omega⟩
    have kk : ∀ B w, RR B w → GRO A B → hn B ≤ hn A + 301 → SCR (cl B w) S n → AW d mL_law 1059 (lwL i) [] (cl B w) Q := by
      intro B w r2 g2 n2 s2
      refine aw_iinc (pc' := 1062) (y := i + 6) (lv' := lwL (i + 6)) dL_law_1059 rfl rfl (by decide) (w32_id (by omega) (by omega)) rfl ?_
      refine aw_goto (pc' := 18) dL_law_1062 (by decide) ?_
      have g3 := g2.2
      exact ih (i + 6) B w (by omega) (by omega) r2 s2 (by omega) (by omega)
    by_cases c : 0 ≤ z ∧ z ≤ 28
    · have c2 : z = 0 ∨ z = 1 ∨ z = 2 ∨ z = 3 ∨ z = 4 ∨ z = 5 ∨ z = 6 ∨ z = 7 ∨ z = 8 ∨ z = 9 ∨ z = 10 ∨ z = 11 ∨ z = 12 ∨ z = 13 ∨ z = 14 ∨ z = 15 ∨ z = 16 ∨ z = 17 ∨ z = 18 ∨ z = 19 ∨ z = 20 ∨ z = 21 ∨ z = 22 ∨ z = 23 ∨ z = 24 ∨ z = 25 ∨ z = 26 ∨ z = 27 ∨ z = 28 := by omega
      rcases c2 with rfl | rfl | rfl | rfl | rfl | rfl | rfl | rfl | rfl | rfl | rfl | rfl | rfl | rfl | rfl | rfl | rfl | rfl | rfl | rfl | rfl | rfl | rfl | rfl | rfl | rfl | rfl | rfl | rfl
      · exact aw_tabIn (pc' := 164) (off := 131) dL_law_33 (by decide) (by decide) rfl (by decide) (lw_c0 hd h hsc hbd hS kk)
      · exact aw_tabIn (pc' := 187) (off := 154) dL_law_33 (by decide) (by decide) rfl (by decide) (lw_c1 hd h hsc hbd hS kk)
      · exact aw_tabIn (pc' := 200) (off := 167) dL_law_33 (by decide) (by decide) rfl (by decide) (lw_c2 hd h hsc hbd hS kk)
      · exact aw_tabIn (pc' := 233) (off := 200) dL_law_33 (by decide) (by decide) rfl (by decide) (lw_c3 hd h hsc hbd hS kk)
      · exact aw_tabIn (pc' := 266) (off := 233) dL_law_33 (by decide) (by decide) rfl (by decide) (lw_c4 hd h hsc hbd hS kk)
      · exact aw_tabIn (pc' := 289) (off := 256) dL_law_33 (by decide) (by decide) rfl (by decide) (lw_c5 hd h hsc hbd hS kk)
      · exact aw_tabIn (pc' := 323) (off := 290) dL_law_33 (by decide) (by decide) rfl (by decide) (lw_c6 hd h hsc hbd hS kk)
      · exact aw_tabIn (pc' := 346) (off := 313) dL_law_33 (by decide) (by decide) rfl (by decide) (lw_c7 hd h hsc hbd hS kk)
      · exact aw_tabIn (pc' := 370) (off := 337) dL_law_33 (by decide) (by decide) rfl (by decide) (lw_c8 hd h hsc hbd hS kk)
      · exact aw_tabIn (pc' := 393) (off := 360) dL_law_33 (by decide) (by decide) rfl (by decide) (lw_c9 hd h hsc hbd hS kk)
      · exact aw_tabIn (pc' := 417) (off := 384) dL_law_33 (by decide) (by decide) rfl (by decide) (lw_c10 hd h hsc hbd hS kk)
      · exact aw_tabIn (pc' := 440) (off := 407) dL_law_33 (by decide) (by decide) rfl (by decide) (lw_c11 hd h hsc hbd hS kk)
      · exact aw_tabIn (pc' := 474) (off := 441) dL_law_33 (by decide) (by decide) rfl (by decide) (lw_c12 hd h hsc hbd hS kk)
      · exact aw_tabIn (pc' := 507) (off := 474) dL_law_33 (by decide) (by decide) rfl (by decide) (lw_c13 hd h hsc hbd hS kk)
      · exact aw_tabIn (pc' := 550) (off := 517) dL_law_33 (by decide) (by decide) rfl (by decide) (lw_c14 hd h hsc hbd hS kk)
      · exact aw_tabIn (pc' := 583) (off := 550) dL_law_33 (by decide) (by decide) rfl (by decide) (lw_c15 hd h hsc hbd hS kk)
      · exact aw_tabIn (pc' := 627) (off := 594) dL_law_33 (by decide) (by decide) rfl (by decide) (lw_c16 hd h hsc hbd hS kk)
      · exact aw_tabIn (pc' := 661) (off := 628) dL_law_33 (by decide) (by decide) rfl (by decide) (lw_c17 hd h hsc hbd hS kk)
      · exact aw_tabIn (pc' := 694) (off := 661) dL_law_33 (by decide) (by decide) rfl (by decide) (lw_c18 hd h hsc hbd hS kk)
      · exact aw_tabIn (pc' := 718) (off := 685) dL_law_33 (by decide) (by decide) rfl (by decide) (lw_c19 hd h hsc hbd hS kk)
      · exact aw_tabIn (pc' := 751) (off := 718) dL_law_33 (by decide) (by decide) rfl (by decide) (lw_c20 hd h hsc hbd hS kk)
      · exact aw_tabIn (pc' := 764) (off := 731) dL_law_33 (by decide) (by decide) rfl (by decide) (lw_c21 hd h hsc hbd hS kk)
      · exact aw_tabIn (pc' := 797) (off := 764) dL_law_33 (by decide) (by decide) rfl (by decide) (lw_c22 hd h hsc hbd hS kk)
      · exact aw_tabIn (pc' := 810) (off := 777) dL_law_33 (by decide) (by decide) rfl (by decide) (lw_c23 hd h hsc hbd hS kk)
      · exact aw_tabIn (pc' := 823) (off := 790) dL_law_33 (by decide) (by decide) rfl (by decide) (lw_c24 hd h hsc hbd hS kk)
      · exact aw_tabIn (pc' := 846) (off := 813) dL_law_33 (by decide) (by decide) rfl (by decide) (lw_c25 hd h hsc hbd hS kk)
      · exact aw_tabIn (pc' := 889) (off := 856) dL_law_33 (by decide) (by decide) rfl (by decide) (lw_c26 hd h hsc hbd hS kk)
      · exact aw_tabIn (pc' := 962) (off := 929) dL_law_33 (by decide) (by decide) rfl (by decide) (lw_c27 hd h hsc hbd hS kk)
      · exact aw_tabIn (pc' := 996) (off := 963) dL_law_33 (by decide) (by decide) rfl (by decide) (lw_c28 hd h hsc hbd hS kk)
    · exact aw_tabOut (pc' := 1059) dL_law_33 (by omega) (by decide) (kk A v h GRO.rf (by omega) hsc)
theorem clN_10 : clN 10 = 11 := by decide +kernel
theorem clN_11 : clN 11 = 63 := by decide +kernel
set_option maxRecDepth 20000 in
theorem lw_from {d : Nat} {A : AHp} {v : Sg} {S : Int → Int} {n : Int} {Q : Option AV → AHp → Prop} (hd : 900 + 1 ≤ d) (h0 : hn A = 60) (h1 : hs A = 0) (hsc : SCR (cl A v) S n) (hz : ZV v 60) (hnn : 0 ≤ n ∧ n ≤ 3072) (hS : ∀ k, in32 (S k)) (hQ : ∀ B w, hn B ≤ 154462 → (hs B : Int) ≤ 13557 + 6 * hn B → Q (some (vi 1)) (cl B w)) : AW d mL_law 0 [some (vr 33), none, none, none] [] (cl A v) Q := by
  refine aw_new (ci := 10) (pc' := 3) (by decide) zL_7 w10_new w10_ini dL_law_0 rfl ?_
  obtain ⟨B1, e_, g_, h_, s_, hq_⟩ := mkO (A := A) (v := v) (kd := 11) (sl := clN 10) hz (by omega) (by omega)
  rw [e_]
  rw [clN_10] at s_
  simp only [hn_cl, h0]
  rw [h0] at hq_
  refine aw_dup (pc' := 4) rfl dL_law_3 rfl ?_
  refine aw_callI (d' := 900) (as := []) (pc' := 7) rfl kX12_init rfl iX12_init lL_9 (by omega) dL_law_4 rfl rfl (Nat.le_of_ble_eq_true rfl) hd ?_
  refine x_class (A := B1) (v := v) (by omega) (by omega) hq_ (hz.mono (by omega)) (fun B2 w n2 h2 s2 hX hc0 => ?_)
  have hzw : ZV w 307 := fun o z k => c0_z hc0 hz (by omega) (by unfold EX2; omega)
  have w33 : ∀ k, w 33 k = v 33 k := fun k => hc0.2.2.2.2.2 33 k (by omega) (by omega) (by omega) (by omega) (by omega) (by omega) (by omega)
  refine aw_astore_n (pc' := 8) (lv' := [some (vr 33), some (vr 60), none, none]) dL_law_7 rfl (by decide) rfl ?_
  refine aw_new (ci := 11) (pc' := 11) (by decide) zL_10 w11_new w11_ini dL_law_8 rfl ?_
  obtain ⟨B3, e3, g3, h3, s3, q3⟩ := mkO (A := B2) (v := w) (kd := 12) (sl := clN 11) hzw (by omega) (by omega)
  rw [e3]
  rw [clN_11] at s3
  simp only [hn_cl, h2]
  rw [h2] at q3
  refine aw_dup (pc' := 12) rfl dL_law_11 rfl ?_
  refine aw_callI (d' := 900) (as := []) (pc' := 15) rfl kX13_init rfl iX13_init lL_12 (by omega) dL_law_12 rfl rfl (Nat.le_of_ble_eq_true rfl) hd ?_
  refine c_model (A := B3) (v := w) (by omega) (by omega) q3 (hzw.mono (by omega)) (fun B4 n4 h4 s4 hM => ?_)
  have hR : RR B4 (mdw w) := rr_start h4 (old_X (old_nw g3 n4 (by omega)) hX) hM hz hc0
  have hR2 : SCR (cl B4 (mdw w)) S n := by
    obtain ⟨y1, y2, y3⟩ := hsc
    refine ⟨?_, ?_, fun k => ?_⟩
    · exact (n4.2 33 (by omega)).1.trans ((g3.2 33 (by omega)).1.trans ((n2.2 33 (by omega)).1.trans ((g_.2 33 (by omega)).1.trans y1)))
    · exact (n4.2 33 (by omega)).2.1.trans ((g3.2 33 (by omega)).2.1.trans ((n2.2 33 (by omega)).2.1.trans ((g_.2 33 (by omega)).2.1.trans y2)))
    · have e : mdw w 33 k = w 33 k := mdw_o (by unfold EX1; omega)
      exact e.trans ((w33 k).trans (y3 k))
  change AW d mL_law 15 _ _ (cl B4 (mdw w)) Q
  generalize mdw w = u at hR hR2 ⊢
  refine aw_astore_n (pc' := 16) (lv' := [some (vr 33), some (vr 60), some (vr 307), none]) dL_law_15 rfl (by decide) rfl ?_
  refine aw_iconst (pc' := 17) (by decide) dL_law_16 rfl ?_
  refine aw_istore_n (pc' := 18) (lv' := lwL 0) dL_law_17 rfl (by decide) rfl ?_
  exact lw_loop hd hnn hS hQ 512 0 B4 u (by omega) (by omega) hR hR2 (by omega) (by omega)
/-- the heap at the law's entry -/
def A00 (xs : Nat → Int32) (L : Nat) : AHp := (fun o k => if o = 33 then (xs k.toNat).toInt else 0, fun o => if o = 33 then 62 else 0, fun o => if o = 33 then (L : Int) else 0, 60, 0, fun _ _ => 0)
theorem lw_aw {xs : Nat → Int32} {L : Nat} (hL : L ≤ 3072) : AW 901 mL_law 0 [some (vr 33), none, none, none] [] (A00 xs L) (fun r B => r = some (vi 1) ∧ hn B ≤ 154462 ∧ hs B ≤ 1000000) := by
  have e : A00 xs L = cl (A00 xs L) (hv (A00 xs L)) := rfl
  rw [e]
  refine lw_from (S := fun k => (xs k.toNat).toInt) (n := (L : Int)) (by omega) rfl rfl ⟨rfl, rfl, fun k => ?_⟩ (fun o z k => ?_) ⟨by omega, by omega⟩ (fun k => i32_in _) (fun B w b1 b2 => ⟨rfl, b1, ?_⟩)
  · rfl
  · exact if_neg (by omega)
  · have b1' : hn B ≤ 154462 := b1
    have b2' : (hs B : Int) ≤ 13557 + 6 * hn B := b2
    show hs B ≤ 1000000
    omega
