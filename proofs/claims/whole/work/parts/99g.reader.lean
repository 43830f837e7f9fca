/-! ===== the class: reader and machine made ===== -/
def vwd (v : Sg) (a : Int) : Sg := fun o k => if o = a then (if 0 ≤ k ∧ k < 15 then 1 + k else 0) else v o k
theorem vwd_e {v : Sg} {a k : Int} (h : 0 ≤ k ∧ k < 15) : vwd v a a k = 1 + k := by
  unfold vwd
  rw [if_pos rfl, if_pos h]
theorem vwd_o {v : Sg} {a o k : Int} (h : o ≠ a) : vwd v a o k = v o k := if_neg h
theorem old_nw {q : Int} {A B C : AHp} (h : OLD A B) (g : NW q B C) (hq : hn A ≤ q) : OLD A C := by
  refine ⟨Int.le_trans h.1 g.1, fun o z => ?_⟩
  obtain ⟨a1, a2, a3⟩ := h.2 o z
  obtain ⟨b1, b2, b3⟩ := g.2 o (Int.lt_of_lt_of_le z h.1)
  exact ⟨b1.trans a1, b2.trans a2, fun k => (b3 k (by omega)).trans (a3 k)⟩
theorem x_values {d : Nat} {A : AHp} {v : Sg} {Q : Option AV → AHp → Prop} (hd : 3 ≤ d) (h60 : 60 ≤ hn A) (hQ : ∀ B, OLD A B → hn B = hn A + 1 → hs B = hs A + 15 → isA B (hn A) 50 15 → Q (some (vr (hn A))) (cl B (vwd v (hn A)))) : CALL d mX11_values [] (cl A v) Q := by
  refine CALL.of (by decide) (Nat.le_of_ble_eq_true rfl) ?_
  change AW d mX11_values 0 [] [] (cl A v) Q
  refine aw_gsV (pc' := 3) fX11_51 dX11_values_0 rfl ?_
  refine aw_clone (pc' := 6) (by omega) (by first | trivial | exact trivial | simp [WSd]) rfl rfl lX11_55 w_csame w_cnat w_cin w_csel w_ccas dX11_values_3 rfl ?_
  refine aw_cast (kd := 50) (n := 15) (pc' := 9) (by decide) (t0 := 8) (Cn := RX11) (fun _ => rfl) rfl zX11_56 (by exact new_A (A := cl A v) h60) dX11_values_6 rfl ?_
  refine AW.ret (some (vr _)) dX11_values_9 trivial ?_
  exact hQ (hnew A 50 15 15 (fun i => if 0 ≤ i ∧ i < 15 then 1 + i else 0)) old_new rfl rfl (new_A h60)

set_option maxRecDepth 20000 in
theorem x_newReader {d : Nat} {q : Int} {A : AHp} {v : Sg} {Q : Option AV → AHp → Prop} (hd : 4 ≤ d) (hO : isO A q 7) (hq : q + 1 = hn A) (hz : ZV v (hn A)) (hQ : ∀ B, NW q A B → hn B = hn A + 2 → hs B = hs A + 115 → hp B q 0 = q + 1 → hp B q 1 = q + 2 → isA B (q + 1) 50 15 → isA B (q + 2) 22 100 → Q none (cl B (vwd v (q + 1)))) : CALL d mX7_init [vr q] (cl A v) Q := by
  refine CALL.of (by decide) (Nat.le_of_ble_eq_true rfl) ?_
  change AW d mX7_init 0 [some (vr q)] [] (cl A v) Q
  have nb : NW q A A := nw_rfl
  have hb0 : isO A q 7 := hO
  have eh : hn A = hn A + 0 := by omega
  have es : hs A = hs A + 0 := rfl
  have hz9 : ZV v (hn A) := hz
  have h60 := hO.1
  refine aw_aload_n (pc' := 1) rfl dX7_init_0 rfl ?_
  refine aw_obj (pc' := 4) lX7_3 w_oi w_oc (by omega) (Nat.le_of_ble_eq_true rfl) dX7_init_1 rfl hO.1 ?_
  refine aw_aload_n (pc' := 5) rfl dX7_init_4 rfl ?_
  refine aw_callS (d' := d - 1) (as := []) (pc' := 8) kX11_values tX11_values lX7_9 dX7_init_5 rfl rfl (Nat.le_of_ble_eq_true rfl) (by omega) ?_
  refine x_values (by omega) (by omega) (fun B1 g_ h_ s_ i0 => ?_)
  have n_ := nw_old (q := q) g_
  replace hb0 := nw_O n_ hb0
  replace nb := nw_tr nb n_ (Or.inl rfl)
  replace eh : hn B1 = hn A + 1 := by omega
  replace es : hs B1 = hs A + 15 := by omega
  try simp only [hn_cl]
  replace hz9 : ZV (vwd v (hn A)) (hn B1) := fun o z k => by
    rw [vwd_o (by omega)]
    exact hz o (by omega) k
  refine aw_putFr (pc' := 11) (k9 := 0) dX7_init_8 rfl fX7_15 rfl rfl rfl rfl rfl (by first | exact hb0 | exact old_O old_new hb0) ?_
  obtain ⟨B2, e_, n_, h_, s_, p0, o_⟩ := mkP (A := B1) (v := (vwd v (hn A))) (q := q) (k := 0) (x := hn A)
  rw [e_]
  replace i0 := nw_A n_ i0
  replace hb0 := nw_O n_ hb0
  replace nb := nw_tr nb n_ (Or.inl rfl)
  replace eh : hn B2 = hn A + 1 := by omega
  replace es : hs B2 = hs A + 15 := by omega
  try simp only [hn_cl]
  refine aw_aload_n (pc' := 12) rfl dX7_init_11 rfl ?_
  refine aw_bipush (pc' := 14) (by decide +kernel) dX7_init_12 rfl ?_
  refine aw_newa (atype := .byte) (kd := 22) (t0 := 2) (pc' := 16) (fun _ => rfl) (Or.inr (Or.inl ⟨rfl, rfl⟩)) w_abyte dX7_init_14 rfl (by omega) (by omega) ?_
  refine aw_putFr (pc' := 19) (k9 := 1) dX7_init_16 rfl fX7_21 rfl rfl rfl rfl rfl (by first | exact hb0 | exact old_O old_new hb0) ?_
  obtain ⟨B3, e_, n_, h_, s_, p1, o_, i1⟩ := mkA (A := B2) (q := q) (k := 1) (kd := 22) (n := 100) (sl := Int.toNat 100) hz9 (by omega) (by have := hb0.2.1; omega) (by omega)
  rw [e_]
  replace i0 := nw_A n_ i0
  replace p0 := (o_ 0 (by decide)).trans p0
  replace hb0 := nw_O n_ hb0
  replace nb := nw_tr nb n_ (Or.inl rfl)
  replace eh : hn B3 = hn A + 2 := by omega
  replace es : hs B3 = hs A + 115 := by omega
  try simp only [hn_cl]
  refine AW.ret none dX7_init_19 trivial ?_
  rw [← hq]
  refine hQ _ nb eh es (by omega) (by omega) ?_ ?_
  · rw [hq]
    exact i0
  · rw [show q + 2 = hn B2 by omega]
    exact i1

theorem clN_0 : clN 0 = 11 := by decide +kernel
/-- the first i frames are made; their array stands at a, the first of them at a + 1 -/
def MLP (a : Int) (C : AHp) (v : Sg) (i : Int) (B : AHp) (w : Sg) : Prop := OLD C B ∧ hn B = a + 1 + 7 * i ∧ ((hs B : Nat) : Int) = hs C + 115 * i ∧ (∀ j, 0 ≤ j → j < i → FrameAt B (a + 1 + 7 * j)) ∧ (∀ j, 0 ≤ j → j < i → w a j = a + 1 + 7 * j) ∧ (∀ o k, ¬ (o = a ∧ 0 ≤ k ∧ k < i) → w o k = v o k)
theorem mlp_z {a : Int} {C B : AHp} {v w : Sg} {i : Int} (h : MLP a C v i B w) (hz : ZV v (hn C)) (ha : a < hn C) (h0 : 0 ≤ i) : ZV w (hn B) := fun o z k => by
  obtain ⟨g1, g2, g3, g4, g5, g6⟩ := h
  rw [g6 o k (by have := g1.1; omega)]
  exact hz o (by have := g1.1; omega) k
theorem mlp_s {a : Int} {C B B1 B2 : AHp} {v w : Sg} {i : Int} (h : MLP a C v i B w) (hC : hn C = a + 1) (h0 : 0 ≤ i) (g : OLD B B1) (n : NW (hn B) B1 B2) (e : hn B2 = hn B + 7) (s : hs B2 = hs B + 115) (f : FrameAt B2 (hn B)) : MLP a C v (i + 1) B2 (sset w a i (hn B)) := by
  obtain ⟨g1, g2, g3, g4, g5, g6⟩ := h
  have o2 : OLD C B2 := old_nw (old_tr g1 g) n (by omega)
  refine ⟨o2, by omega, by omega, fun j j0 j1 => ?_, fun j j0 j1 => ?_, fun o k z => ?_⟩
  · by_cases c : j = i
    · rw [c, ← g2]
      exact f
    · have q1 : FrameAt B (a + 1 + 7 * j) := g4 j j0 (by omega)
      exact frame_nw n (frame_nw (nw_old (q := hn B) g) q1 (by omega)) (by omega)
  · by_cases c : j = i
    · rw [c, sset_e]
      omega
    · rw [sset_2 c, g5 j j0 (by omega)]
  · by_cases c : o = a ∧ k = i
    · exact absurd ⟨c.1, by omega, by omega⟩ z
    · rw [sset_ne (by omega)]
      exact g6 o k (fun y => z ⟨y.1, y.2.1, by omega⟩)

set_option maxRecDepth 20000 in
theorem lx_frames0 {d : Nat} {q i : Int} {C B : AHp} {v w : Sg} {Q : Option AV → AHp → Prop} (hd : 3 ≤ d) (hq : hn C = q + 3) (h60 : 60 ≤ q) (hz : ZV v (hn C)) (hM : MLP (q + 2) C v i B w) (h0 : 0 ≤ i) (h1 : i < 20) (e2 : hp B q 2 = q + 2) (hq4 : isO B q 4) (i2 : isA B (q + 2) 30 20) (kk : ∀ B2 w2, MLP (q + 2) C v (i + 1) B2 w2 → AW d mX4_init 24 [some (vr q), some (vi (i + 1))] [] (cl B2 w2) Q) : AW d mX4_init 24 [some (vr q), some (vi i)] [] (cl B w) Q := by
  have e9 := hM.2.1
  refine aw_iload_n (pc' := 25) rfl dX4_init_24 rfl ?_
  refine aw_bipush (pc' := 27) (by decide +kernel) dX4_init_25 rfl ?_
  refine aw_icmp_ge (pt := 49) (pf := 30) dX4_init_27 (by decide) rfl (fun c_27 => absurd c_27 (by omega)) (fun _ => ?_)
  refine aw_aload_n (pc' := 31) rfl dX4_init_30 rfl ?_
  refine aw_getp (pc' := 34) (k9 := 2) (p := (q + 2)) dX4_init_31 rfl fX4_19 rfl rfl rfl (by first | exact hq4 | exact old_O old_new hq4) e2 ?_
  refine aw_iload_n (pc' := 35) rfl dX4_init_34 rfl ?_
  refine aw_new (ci := 0) (pc' := 38) (by decide) zX4_17 w0_new w0_ini dX4_init_35 rfl ?_
  obtain ⟨B1, e_, g_, h_, s_, hq_⟩ := mkO (A := B) (kd := 1) (sl := clN 0) (mlp_z hM hz (by omega) h0) (by omega) (by omega)
  rw [e_]
  rw [clN_0] at s_
  replace hq4 := old_O g_ hq4
  replace i2 := old_A g_ i2
  try simp only [hn_cl]
  refine aw_dup (pc' := 39) rfl dX4_init_38 rfl ?_
  refine aw_callIN (d' := d - 1) (as := []) (pc' := 42) rfl kX1_init rfl iX1_init nX4_23 (by omega) dX4_init_39 rfl rfl (Nat.le_of_ble_eq_true rfl) (by omega) ?_
  refine x_frame (q := hn B) (by omega) hq_ (by omega) ((mlp_z hM hz (by omega) h0).mono (by omega)) (fun B2 n_ h2_ s2_ hf_ => ?_)
  replace hq4 := nw_O n_ hq4
  replace i2 := nw_A n_ i2
  refine aw_aast (pc' := 43) (t0 := 4) (ci := 0) (fun _ => rfl) (by decide) (by decide) dX4_init_42 rfl i2 (by omega) (by omega) hf_.1 ?_
  refine aw_iinc (pc' := 46) (lv' := [_, _]) dX4_init_43 rfl rfl (by decide) (by first | exact w32_id (by omega) (by omega) | rfl) rfl ?_
  refine aw_goto (pc' := 24) dX4_init_46 (by decide) ?_
  rw [cl_set]
  exact kk _ _ (mlp_s hM (by omega) h0 g_ n_ (by omega) (by omega) hf_)

set_option maxRecDepth 20000 in
theorem lx_frames1 {d : Nat} {q : Int} {B : AHp} {w : Sg} {Q : Option AV → AHp → Prop} (hQ : Q none (cl B w)) : AW d mX4_init 24 [some (vr q), some (vi 20)] [] (cl B w) Q := by
  refine aw_iload_n (pc' := 25) rfl dX4_init_24 rfl ?_
  refine aw_bipush (pc' := 27) (by decide +kernel) dX4_init_25 rfl ?_
  refine aw_icmp_ge (pt := 49) (pf := 30) dX4_init_27 (by decide) rfl (fun _ => ?_) (fun c_27 => absurd (by decide) c_27)
  refine AW.ret none dX4_init_49 trivial ?_
  exact hQ

theorem lx_frames {d : Nat} {q : Int} {C : AHp} {v : Sg} {Q : Option AV → AHp → Prop} (hd : 3 ≤ d) (hq : hn C = q + 3) (h60 : 60 ≤ q) (hz : ZV v (hn C)) (c2 : hp C q 2 = q + 2) (c4 : isO C q 4) (ci : isA C (q + 2) 30 20) (hQ : ∀ B w, MLP (q + 2) C v 20 B w → Q none (cl B w)) : ∀ (m : Nat) (i : Int) (B : AHp) (w : Sg), 20 - i ≤ m → 0 ≤ i → i ≤ 20 → MLP (q + 2) C v i B w → AW d mX4_init 24 [some (vr q), some (vi i)] [] (cl B w) Q
  | 0, i, B, w, z, h0, h1, hM => by
    have e : i = 20 := by omega
    subst e
    exact lx_frames1 (hQ B w hM)
  | m + 1, i, B, w, z, h0, h1, hM => by
    by_cases e : i = 20
    · subst e
      exact lx_frames1 (hQ B w hM)
    · exact lx_frames0 hd hq h60 hz hM h0 (by omega) ((old_hp hM.1 (by omega)).trans c2) (old_O hM.1 c4) (old_A hM.1 ci) (fun B2 w2 hM2 => lx_frames hd hq h60 hz c2 c4 ci hQ m (i + 1) B2 w2 (by omega) (by omega) (by omega) hM2)
set_option maxRecDepth 20000 in
theorem x_newMachine {d : Nat} {q : Int} {A : AHp} {v : Sg} {Q : Option AV → AHp → Prop} (hd : 4 ≤ d) (hO : isO A q 4) (hq : q + 1 = hn A) (hz : ZV v (hn A)) (hQ : ∀ B w, NW q A B → hn B = hn A + 142 → hs B = hs A + 2328 → hp B q 0 = q + 1 → hp B q 2 = q + 2 → isA B (q + 1) 32 8 → isA B (q + 2) 30 20 → (∀ j, 0 ≤ j → j < 20 → FrameAt B (q + 3 + 7 * j)) → (∀ j, 0 ≤ j → j < 20 → w (q + 2) j = q + 3 + 7 * j) → (∀ o k, ¬ (o = q + 2 ∧ 0 ≤ k ∧ k < 20) → w o k = v o k) → Q none (cl B w)) : CALL d mX4_init [vr q] (cl A v) Q := by
  refine CALL.of (by decide) (Nat.le_of_ble_eq_true rfl) ?_
  change AW d mX4_init 0 [some (vr q), none] [] (cl A v) Q
  have nb : NW q A A := nw_rfl
  have hb0 : isO A q 4 := hO
  have eh : hn A = hn A + 0 := by omega
  have es : hs A = hs A + 0 := rfl
  have hz9 : ZV v (hn A) := hz
  have h60 := hO.1
  refine aw_aload_n (pc' := 1) rfl dX4_init_0 rfl ?_
  refine aw_obj (pc' := 4) lX4_3 w_oi w_oc (by omega) (Nat.le_of_ble_eq_true rfl) dX4_init_1 rfl hO.1 ?_
  refine aw_aload_n (pc' := 5) rfl dX4_init_4 rfl ?_
  refine aw_bipush (pc' := 7) (by decide +kernel) dX4_init_5 rfl ?_
  refine aw_newq (kd := 32) (t0 := 5) (pc' := 10) (fun _ => rfl) (by decide) zX4_9 (by decide) dX4_init_7 rfl (by omega) (by omega) ?_
  refine aw_putFr (pc' := 13) (k9 := 0) dX4_init_10 rfl fX4_11 rfl rfl rfl rfl rfl (by first | exact hb0 | exact old_O old_new hb0) ?_
  obtain ⟨B1, e_, n_, h_, s_, p0, o_, i0⟩ := mkA (A := A) (q := q) (k := 0) (kd := 32) (n := 8) (sl := Int.toNat 8) hz9 (by omega) (by have := hb0.2.1; omega) (by omega)
  rw [e_]
  replace hb0 := nw_O n_ hb0
  replace nb := nw_tr nb n_ (Or.inl rfl)
  replace eh : hn B1 = hn A + 1 := by omega
  replace es : hs B1 = hs A + 8 := by omega
  try simp only [hn_cl]
  refine aw_aload_n (pc' := 14) rfl dX4_init_13 rfl ?_
  refine aw_bipush (pc' := 16) (by decide +kernel) dX4_init_14 rfl ?_
  refine aw_newq (kd := 30) (t0 := 4) (pc' := 19) (fun _ => rfl) (by decide) zX4_17 (by decide) dX4_init_16 rfl (by omega) (by omega) ?_
  refine aw_putFr (pc' := 22) (k9 := 2) dX4_init_19 rfl fX4_19 rfl rfl rfl rfl rfl (by first | exact hb0 | exact old_O old_new hb0) ?_
  obtain ⟨B2, e_, n_, h_, s_, p2, o_, i2⟩ := mkA (A := B1) (q := q) (k := 2) (kd := 30) (n := 20) (sl := Int.toNat 20) hz9 (by omega) (by have := hb0.2.1; omega) (by omega)
  rw [e_]
  replace p0 := (o_ 0 (by decide)).trans p0
  replace i0 := nw_A n_ i0
  replace hb0 := nw_O n_ hb0
  replace nb := nw_tr nb n_ (Or.inl rfl)
  replace eh : hn B2 = hn A + 2 := by omega
  replace es : hs B2 = hs A + 28 := by omega
  try simp only [hn_cl]
  refine aw_iconst (pc' := 23) (by decide) dX4_init_22 rfl ?_
  refine aw_istore_n (pc' := 24) (lv' := [_, _]) dX4_init_23 rfl (by decide) rfl ?_
  have c2 : hp B2 q 2 = q + 2 := by omega
  have ci : isA B2 (q + 2) 30 20 := by
    rw [show q + 2 = hn B1 by omega]
    exact i2
  have cl0 : isA B2 (q + 1) 32 8 := by
    rw [show q + 1 = hn A by omega]
    exact i0
  refine lx_frames (C := B2) (by omega) (by omega) (by omega) (hz9.mono (by omega)) c2 hb0 ci (fun B w hM => ?_) 20 0 B2 v (by omega) (by omega) (by omega) ⟨old_rfl _, by omega, by omega, fun j j0 j1 => by omega, fun j j0 j1 => by omega, fun o k _ => rfl⟩
  obtain ⟨g1, g2, g3, g4, g5, g6⟩ := hM
  refine hQ B w (nw_tr nb (nw_old (q := q) g1) (Or.inl rfl)) (by omega) (by omega) ((old_hp g1 hb0.2.1).trans (by omega)) ((old_hp g1 hb0.2.1).trans c2) (old_A g1 cl0) (old_A g1 ci) (fun j j0 j1 => ?_) (fun j j0 j1 => ?_) g6
  · rw [show q + 3 + 7 * j = q + 2 + 1 + 7 * j by omega]
    exact g4 j j0 j1
  · rw [g5 j j0 j1]
    omega
