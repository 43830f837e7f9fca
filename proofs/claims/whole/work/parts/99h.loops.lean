/-! ===== the class: the object itself made ===== -/
def kpv (v : Sg) (a : Int) : Sg := sset (sset (sset (sset v a 2 (-5)) (a + 2) 0 (-5)) (a + 2) 1 (-5)) (a + 2) 2 (-5)
theorem kpv_o {v : Sg} {a o k : Int} (h : ¬ (o = a ∧ k = 2)) (g : ¬ (o = a + 2 ∧ 0 ≤ k ∧ k ≤ 2)) : kpv v a o k = v o k := by
  unfold kpv
  rw [sset_ne (by omega), sset_ne (by omega), sset_ne (by omega), sset_ne (by omega)]
theorem kpv_e {v : Sg} {a o k : Int} (h : (o = a ∧ k = 2) ∨ (o = a + 2 ∧ 0 ≤ k ∧ k ≤ 2)) : kpv v a o k = -5 := by
  unfold kpv sset
  split
  · rfl
  · split
    · rfl
    · split
      · rfl
      · split
        · rfl
        · exfalso
          omega
theorem zv_kpv {v : Sg} {a n : Int} (h : ZV v n) (q : a + 2 < n) : ZV (kpv v a) n := fun o z k => by
  rw [kpv_o (by omega) (by omega)]
  exact h o z k
theorem x_newKept2 {d : Nat} {q : Int} {A : AHp} {v : Sg} {Q : Option AV → AHp → Prop} (hd : 2 ≤ d) (hO : isO A q 2) (hq : q + 1 = hn A) (hz : ZV v (hn A)) (hQ : ∀ B, NW q A B → hn B = hn A + 13 → hs B = hs A + 125 → KeptAt B q → Q none (cl B (kpv v q))) : CALL d mX2_init [vr q] (cl A v) Q :=
  x_newKept hd hO hq hz hQ
theorem clN_6 : clN 6 = 7 := by decide +kernel
theorem clN_3 : clN 3 = 5 := by decide +kernel
theorem clN_1 : clN 1 = 9 := by decide +kernel
theorem clN_9 : clN 9 = 3 := by decide +kernel
/-- the first i jobs' frames are made -/
def JLP (C : AHp) (v : Sg) (i : Int) (B : AHp) (w : Sg) : Prop := OLD C B ∧ hn B = 267 + 7 * i ∧ ((hs B : Nat) : Int) = hs C + 115 * i ∧ (∀ j, 0 ≤ j → j < i → FrameAt B (267 + 7 * j)) ∧ (∀ j, 0 ≤ j → j < i → w 263 j = 267 + 7 * j ∧ w 264 j = -5) ∧ (∀ o k, ¬ ((o = 263 ∨ o = 264) ∧ 0 ≤ k ∧ k < i) → w o k = v o k)
theorem jlp_z {C B : AHp} {v w : Sg} {i : Int} (h : JLP C v i B w) (hz : ZV v (hn C)) (ha : hn C = 267) (h0 : 0 ≤ i) : ZV w (hn B) := fun o z k => by
  obtain ⟨g1, g2, g3, g4, g5, g6⟩ := h
  rw [g6 o k (by omega)]
  exact hz o (by omega) k
theorem jlp_s {C B B1 B2 : AHp} {v w : Sg} {i : Int} (h : JLP C v i B w) (hC : hn C = 267) (h0 : 0 ≤ i) (g : OLD B B1) (n : NW (hn B) B1 B2) (e : hn B2 = hn B + 7) (s : hs B2 = hs B + 115) (f : FrameAt B2 (hn B)) : JLP C v (i + 1) B2 (sset (sset w 263 i (hn B)) 264 i (-5)) := by
  obtain ⟨g1, g2, g3, g4, g5, g6⟩ := h
  have o2 : OLD C B2 := old_nw (old_tr g1 g) n (by omega)
  refine ⟨o2, by omega, by omega, fun j j0 j1 => ?_, fun j j0 j1 => ?_, fun o k z => ?_⟩
  · by_cases c : j = i
    · rw [c, ← g2]
      exact f
    · have q1 : FrameAt B (267 + 7 * j) := g4 j j0 (by omega)
      exact frame_nw n (frame_nw (nw_old (q := hn B) g) q1 (by omega)) (by omega)
  · by_cases c : j = i
    · rw [c, sset_e, sset_1 (by omega), sset_e]
      omega
    · rw [sset_1 (by omega), sset_2 c, sset_2 c, sset_1 (by omega)]
      exact g5 j j0 (by omega)
  · rw [sset_ne (by omega), sset_ne (by omega)]
    exact g6 o k (by omega)
/-- the first i tapes are made -/
def TLP (C : AHp) (v : Sg) (i : Int) (B : AHp) (w : Sg) : Prop := OLD C B ∧ hn B = 295 + 2 * i ∧ ((hs B : Nat) : Int) = hs C + 63 * i ∧ (∀ j, 0 ≤ j → j < i → TapeAt B (295 + 2 * j)) ∧ (∀ j, 0 ≤ j → j < i → w 266 j = 295 + 2 * j ∧ w (295 + 2 * j) 0 = -1) ∧ (∀ o k, ¬ (o = 266 ∧ 0 ≤ k ∧ k < i) → ¬ (295 ≤ o ∧ o < 295 + 2 * i ∧ (o - 295) % 2 = 0 ∧ k = 0) → w o k = v o k)
theorem tlp_z {C B : AHp} {v w : Sg} {i : Int} (h : TLP C v i B w) (hz : ZV v (hn C)) (ha : hn C = 295) (h0 : 0 ≤ i) : ZV w (hn B) := fun o z k => by
  obtain ⟨g1, g2, g3, g4, g5, g6⟩ := h
  rw [g6 o k (by omega) (by omega)]
  exact hz o (by omega) k
theorem tlp_s {C B B1 B2 : AHp} {v w : Sg} {i : Int} (h : TLP C v i B w) (hC : hn C = 295) (h0 : 0 ≤ i) (g : OLD B B1) (n : NW (hn B) B1 B2) (e : hn B2 = hn B + 2) (s : hs B2 = hs B + 63) (f : TapeAt B2 (hn B)) : TLP C v (i + 1) B2 (sset (sset w (hn B) 0 (-1)) 266 i (hn B)) := by
  obtain ⟨g1, g2, g3, g4, g5, g6⟩ := h
  have o2 : OLD C B2 := old_nw (old_tr g1 g) n (by omega)
  refine ⟨o2, by omega, by omega, fun j j0 j1 => ?_, fun j j0 j1 => ?_, fun o k z y => ?_⟩
  · by_cases c : j = i
    · rw [c, ← g2]
      exact f
    · have q1 : TapeAt B (295 + 2 * j) := g4 j j0 (by omega)
      exact tape_nw n (tape_nw (nw_old (q := hn B) g) q1 (by omega)) (by omega)
  · by_cases c : j = i
    · rw [c, sset_e, sset_1 (by omega), show (295 + 2 * i : Int) = hn B by omega, sset_e]
      omega
    · rw [sset_2 c, sset_1 (by omega), sset_1 (by omega), sset_1 (by omega)]
      exact g5 j j0 (by omega)
  · rw [sset_ne (by omega), sset_ne (by omega)]
    exact g6 o k (by omega) (by omega)

set_option maxRecDepth 20000 in
theorem lx_jobs0 {d : Nat} {i : Int} {C B : AHp} {v w : Sg} {Q : Option AV → AHp → Prop} (hd : 3 ≤ d) (hC : hn C = 267) (hz : ZV v (hn C)) (hM : JLP C v i B w) (h0 : 0 ≤ i) (h1 : i < 4) (e7 : hp B 60 7 = 263) (e8 : hp B 60 8 = 264) (hq4 : isO B 60 11) (i7 : isA B 263 30 4) (i8 : isA B 264 20 4) (kk : ∀ B2 w2, JLP C v (i + 1) B2 w2 → AW d mX12_init 103 [some (vr 60), some (vi (i + 1))] [] (cl B2 w2) Q) : AW d mX12_init 103 [some (vr 60), some (vi i)] [] (cl B w) Q := by
  have e9 := hM.2.1
  refine aw_iload_n (pc' := 104) rfl dX12_init_103 rfl ?_
  refine aw_iconst (pc' := 105) (by decide) dX12_init_104 rfl ?_
  refine aw_icmp_ge (pt := 135) (pf := 108) dX12_init_105 (by decide) rfl (fun c_105 => absurd c_105 (by omega)) (fun _ => ?_)
  refine aw_aload_n (pc' := 109) rfl dX12_init_108 rfl ?_
  refine aw_getp (pc' := 112) (k9 := 7) (p := 263) dX12_init_109 rfl fX12_43 rfl rfl rfl (by first | exact hq4 | exact old_O old_new hq4) e7 ?_
  refine aw_iload_n (pc' := 113) rfl dX12_init_112 rfl ?_
  refine aw_new (ci := 0) (pc' := 116) (by decide) zX12_41 w0_new w0_ini dX12_init_113 rfl ?_
  obtain ⟨B1, e_, g_, h_, s_, hq_⟩ := mkO (A := B) (kd := 1) (sl := clN 0) (jlp_z hM hz hC h0) (by omega) (by omega)
  rw [e_]
  rw [clN_0] at s_
  replace hq4 := old_O g_ hq4
  replace i7 := old_A g_ i7
  replace i8 := old_A g_ i8
  replace e8 := (old_hp g_ (by omega)).trans e8
  try simp only [hn_cl]
  refine aw_dup (pc' := 117) rfl dX12_init_116 rfl ?_
  refine aw_callIN (d' := d - 1) (as := []) (pc' := 120) rfl kX1_init rfl iX1_init nX12_60 (by omega) dX12_init_117 rfl rfl (Nat.le_of_ble_eq_true rfl) (by omega) ?_
  refine x_frame (q := hn B) (by omega) hq_ (by omega) ((jlp_z hM hz hC h0).mono (by omega)) (fun B2 n_ h2_ s2_ hf_ => ?_)
  replace hq4 := nw_O n_ hq4
  replace i7 := nw_A n_ i7
  replace i8 := nw_A n_ i8
  replace e8 := (nw_hp n_ (by omega) (by omega)).trans e8
  refine aw_aast (pc' := 121) (t0 := 4) (ci := 0) (fun _ => rfl) (by decide) (by decide) dX12_init_120 rfl i7 (by omega) (by omega) hf_.1 ?_
  refine aw_aload_n (pc' := 122) rfl dX12_init_121 rfl ?_
  refine aw_getp (pc' := 125) (k9 := 8) (p := 264) dX12_init_122 rfl fX12_47 rfl rfl rfl (by first | exact hq4 | exact old_O old_new hq4) e8 ?_
  refine aw_iload_n (pc' := 126) rfl dX12_init_125 rfl ?_
  refine aw_bipush (pc' := 128) (by decide +kernel) dX12_init_126 rfl ?_
  refine aw_iast (pc' := 129) dX12_init_128 rfl i8 (by omega) (by omega) ?_
  refine aw_iinc (pc' := 132) (lv' := [_, _]) dX12_init_129 rfl rfl (by decide) (by first | exact w32_id (by omega) (by omega) | rfl) rfl ?_
  refine aw_goto (pc' := 103) dX12_init_132 (by decide) ?_
  rw [cl_set, cl_set]
  exact kk _ _ (jlp_s hM hC h0 g_ n_ (by omega) (by omega) hf_)

set_option maxRecDepth 20000 in
theorem lx_tapes0 {d : Nat} {i : Int} {C B : AHp} {v w : Sg} {Q : Option AV → AHp → Prop} (hd : 3 ≤ d) (hC : hn C = 295) (hz : ZV v (hn C)) (hM : TLP C v i B w) (h0 : 0 ≤ i) (h1 : i < 6) (e10 : hp B 60 10 = 266) (hq4 : isO B 60 11) (i10 : isA B 266 39 6) (kk : ∀ B2 w2, TLP C v (i + 1) B2 w2 → AW d mX12_init 137 [some (vr 60), some (vi (i + 1))] [] (cl B2 w2) Q) : AW d mX12_init 137 [some (vr 60), some (vi i)] [] (cl B w) Q := by
  have e9 := hM.2.1
  refine aw_iload_n (pc' := 138) rfl dX12_init_137 rfl ?_
  refine aw_bipush (pc' := 140) (by decide +kernel) dX12_init_138 rfl ?_
  refine aw_icmp_ge (pt := 162) (pf := 143) dX12_init_140 (by decide) rfl (fun c_140 => absurd c_140 (by omega)) (fun _ => ?_)
  refine aw_aload_n (pc' := 144) rfl dX12_init_143 rfl ?_
  refine aw_getp (pc' := 147) (k9 := 10) (p := 266) dX12_init_144 rfl fX12_56 rfl rfl rfl (by first | exact hq4 | exact old_O old_new hq4) e10 ?_
  refine aw_iload_n (pc' := 148) rfl dX12_init_147 rfl ?_
  refine aw_new (ci := 9) (pc' := 151) (by decide) zX12_54 w9_new w9_ini dX12_init_148 rfl ?_
  obtain ⟨B1, e_, g_, h_, s_, hq_⟩ := mkO (A := B) (kd := 10) (sl := clN 9) (tlp_z hM hz hC h0) (by omega) (by omega)
  rw [e_]
  rw [clN_9] at s_
  replace hq4 := old_O g_ hq4
  replace i10 := old_A g_ i10
  try simp only [hn_cl]
  refine aw_dup (pc' := 152) rfl dX12_init_151 rfl ?_
  refine aw_callIN (d' := d - 1) (as := []) (pc' := 155) rfl kX10_init rfl iX10_init nX12_61 (by omega) dX12_init_152 rfl rfl (Nat.le_of_ble_eq_true rfl) (by omega) ?_
  refine x_ntape (q := hn B) (by omega) hq_ (by omega) ((tlp_z hM hz hC h0).mono (by omega)) (fun B2 n_ h2_ s2_ hf_ => ?_)
  replace hq4 := nw_O n_ hq4
  replace i10 := nw_A n_ i10
  refine aw_aast (pc' := 156) (t0 := 7) (ci := 9) (fun _ => rfl) (by decide) (by decide) dX12_init_155 rfl i10 (by omega) (by omega) hf_.1 ?_
  refine aw_iinc (pc' := 159) (lv' := [_, _]) dX12_init_156 rfl rfl (by decide) (by first | exact w32_id (by omega) (by omega) | rfl) rfl ?_
  refine aw_goto (pc' := 137) dX12_init_159 (by decide) ?_
  rw [cl_set]
  exact kk _ _ (tlp_s hM hC h0 g_ n_ (by omega) (by omega) hf_)

set_option maxRecDepth 20000 in
theorem lx_jobs1 {d : Nat} {B : AHp} {w : Sg} {Q : Option AV → AHp → Prop} (kk : AW d mX12_init 137 [some (vr 60), some (vi 0)] [] (cl B w) Q) : AW d mX12_init 103 [some (vr 60), some (vi 4)] [] (cl B w) Q := by
  refine aw_iload_n (pc' := 104) rfl dX12_init_103 rfl ?_
  refine aw_iconst (pc' := 105) (by decide) dX12_init_104 rfl ?_
  refine aw_icmp_ge (pt := 135) (pf := 108) dX12_init_105 (by decide) rfl (fun _ => ?_) (fun c_105 => absurd (by decide) c_105)
  refine aw_iconst (pc' := 136) (by decide) dX12_init_135 rfl ?_
  refine aw_istore_n (pc' := 137) (lv' := [_, _]) dX12_init_136 rfl (by decide) rfl ?_
  exact kk

set_option maxRecDepth 20000 in
theorem lx_tapes1 {d : Nat} {B : AHp} {w : Sg} {Q : Option AV → AHp → Prop} (hQ : Q none (cl B w)) : AW d mX12_init 137 [some (vr 60), some (vi 6)] [] (cl B w) Q := by
  refine aw_iload_n (pc' := 138) rfl dX12_init_137 rfl ?_
  refine aw_bipush (pc' := 140) (by decide +kernel) dX12_init_138 rfl ?_
  refine aw_icmp_ge (pt := 162) (pf := 143) dX12_init_140 (by decide) rfl (fun _ => ?_) (fun c_140 => absurd (by decide) c_140)
  refine AW.ret none dX12_init_162 trivial ?_
  exact hQ

theorem lx_tapes {d : Nat} {C : AHp} {v : Sg} {Q : Option AV → AHp → Prop} (hd : 3 ≤ d) (hC : hn C = 295) (hz : ZV v (hn C)) (c10 : hp C 60 10 = 266) (c4 : isO C 60 11) (ci : isA C 266 39 6) (hQ : ∀ B w, TLP C v 6 B w → Q none (cl B w)) : ∀ (m : Nat) (i : Int) (B : AHp) (w : Sg), 6 - i ≤ m → 0 ≤ i → i ≤ 6 → TLP C v i B w → AW d mX12_init 137 [some (vr 60), some (vi i)] [] (cl B w) Q
  | 0, i, B, w, z, h0, h1, hM => by
    have e : i = 6 := by omega
    subst e
    exact lx_tapes1 (hQ B w hM)
  | m + 1, i, B, w, z, h0, h1, hM => by
    by_cases e : i = 6
    · subst e
      exact lx_tapes1 (hQ B w hM)
    · exact lx_tapes0 hd hC hz hM h0 (by omega) ((old_hp hM.1 (by omega)).trans c10) (old_O hM.1 c4) (old_A hM.1 ci) (fun B2 w2 hM2 => lx_tapes hd hC hz c10 c4 ci hQ m (i + 1) B2 w2 (by omega) (by omega) (by omega) hM2)
theorem lx_jobs {d : Nat} {C : AHp} {v : Sg} {Q : Option AV → AHp → Prop} (hd : 3 ≤ d) (hC : hn C = 267) (hz : ZV v (hn C)) (c7 : hp C 60 7 = 263) (c8 : hp C 60 8 = 264) (c4 : isO C 60 11) (i7 : isA C 263 30 4) (i8 : isA C 264 20 4) (kk : ∀ B w, JLP C v 4 B w → AW d mX12_init 137 [some (vr 60), some (vi 0)] [] (cl B w) Q) : ∀ (m : Nat) (i : Int) (B : AHp) (w : Sg), 4 - i ≤ m → 0 ≤ i → i ≤ 4 → JLP C v i B w → AW d mX12_init 103 [some (vr 60), some (vi i)] [] (cl B w) Q
  | 0, i, B, w, z, h0, h1, hM => by
    have e : i = 4 := by omega
    subst e
    exact lx_jobs1 (kk B w hM)
  | m + 1, i, B, w, z, h0, h1, hM => by
    by_cases e : i = 4
    · subst e
      exact lx_jobs1 (kk B w hM)
    · exact lx_jobs0 hd hC hz hM h0 (by omega) ((old_hp hM.1 (by omega)).trans c7) ((old_hp hM.1 (by omega)).trans c8) (old_O hM.1 c4) (old_A hM.1 i7) (old_A hM.1 i8) (fun B2 w2 hM2 => lx_jobs hd hC hz c7 c8 c4 i7 i8 kk m (i + 1) B2 w2 (by omega) (by omega) (by omega) hM2)