/-! ===== the class's reader: readPipe ===== -/
/-- the heap with a new pipe; its slots -/
def ppH (A : AHp) : AHp := hpset (hnew (hnew A 6 0 4 (fun _ => 0)) 38 6 6 (fun _ => 0)) (hn A) 0 (hn A + 1)
def ppV (A : AHp) (v : Sg) (so : Int) : Sg := sset (sset (sset (stV A v) (hn A) 1 1) (hn A) 2 59) (hn A + 1) 0 so
theorem ppH_old {A : AHp} : OLD A (ppH A) := old_pset (old_tr old_new old_new) (by omega)
theorem ppH_hn {A : AHp} : hn (ppH A) = hn A + 2 := by
  show hn A + 1 + 1 = hn A + 2
  omega
theorem ppH_gro {A : AHp} : GRO A (ppH A) := by
  refine ⟨ppH_old, ?_⟩
  rw [ppH_hn]
  show ((hs A + 4 + 6 : Nat) : Int) + 6 * hn A ≤ hs A + 6 * (hn A + 2)
  omega
theorem ppH_0 {A : AHp} : hp (ppH A) (hn A) 0 = hn A + 1 := by
  unfold ppH
  rw [hp_pset, if_pos ⟨rfl, rfl⟩]
theorem ppH_po {A : AHp} (h : 60 ≤ hn A) : isO (ppH A) (hn A) 6 := by
  show isO (hnew (hnew A 6 0 4 (fun _ => 0)) 38 6 6 (fun _ => 0)) (hn A) 6
  exact old_O old_new (new_O h)
theorem ppH_ar {A : AHp} (h : 60 ≤ hn A) : isA (ppH A) (hn A + 1) 38 6 := by
  show isA (hnew (hnew A 6 0 4 (fun _ => 0)) 38 6 6 (fun _ => 0)) (hn (hnew A 6 0 4 (fun _ => 0))) 38 6
  exact new_A (by rw [hn_new]; omega)
theorem ppH_pip {A : AHp} (h : 350 ≤ hn A) : PIP (ppH A) (hn A) := ⟨h, ppH_po (by omega), by rw [ppH_0]; omega, by rw [ppH_0]; exact ppH_ar (by omega)⟩
theorem ppV_o {A : AHp} {v : Sg} {so o k : Int} (h : o ≠ hn A ∧ o ≠ hn A + 1) : ppV A v so o k = v o k := by
  unfold ppV
  rw [sset_1 (by omega), sset_1 (by omega), sset_1 (by omega), stV_o h]
theorem x_newPipe2 {d : Nat} {A : AHp} {v : Sg} {so : Int} {Q : Option AV → AHp → Prop} (hd : 1 ≤ d) (h60 : 60 ≤ hn A) (hW : isO A so 9) (hQ : Q none (cl (ppH A) (ppV A v so))) : CALL d mX6_init [vr (hn A), vr so] (hnew (cl A v) 6 0 4 (fun _ => 0)) Q := by
  rw [cl_new]
  exact x_newPipe hd (by rw [hn_new]; omega) (new_O h60) (old_O old_new hW) hQ
theorem num_k {s : Sg} {st i : Int} (h : i ≠ 18 ∧ i ≠ 19) : numS s st 307 i = s 307 i := numS_o (Or.inr h) (by omega) (by omega)
theorem ech_k {st w i : Int} (h : i ≠ 18 ∧ i ≠ 19) : ∀ (m : Nat) (g : Bool) (s : Sg), (echS st w m g s).2 307 i = s 307 i
  | 0, _, _ => rfl
  | m + 1, g, s => by
    unfold echS
    split
    · exact (ech_k h m _ _).trans (num_k h)
    · rfl
theorem whole_k {s : Sg} {st w i : Int} (h : i ≠ 18 ∧ i ≠ 19) : (wholeS s st w).2 307 i = s 307 i := by
  unfold wholeS
  split
  · rfl
  · split
    · exact sset_2 h.2
    · split
      · split
        · exact (sset_2 h.2).trans ((sset_1 (by omega)).trans (sset_2 h.1))
        · exact (sset_2 h.1).trans ((sset_1 (by omega)).trans (sset_2 h.1))
      · exact (ech_k h _ _ _).trans (num_k h)
theorem cmd_k {s : Sg} {f i : Int} (h : i ≠ 18 ∧ i ≠ 19 ∧ i ≠ 22) : (cmdS s f).2 307 i = s 307 i := by
  unfold cmdS
  split
  · exact (sset_2 h.2.1).trans (sset_2 h.1)
  · exact (whole_k ⟨h.1, h.2.1⟩).trans ((newS_k h.2.2).trans (sset_2 h.1))
/-- a pipe that is being read: class and reference, n stages in -/
def PIV (A B : AHp) (v u s r : Sg) (e : Nat) (deep po ar f n : Int) : Prop :=
  (XLAY B ∧ GRO A B ∧ hn B = hn A + 2 * (r 307 22 - s 307 22) + 2 * (r 307 21 - s 307 21) + 2 ∧ XFR A v u ∧ 350 ≤ hn A) ∧ (TSM u r ∧ BDR r (deep + 1) ∧ FRS s r ∧ MNS s r) ∧ (u 61 4 = r 307 18 ∧ u 61 5 = r 307 22 + deep ∧ u 61 6 = r 307 23) ∧ (PIP B po ∧ hp B po 0 = ar ∧ (hn A ≤ po ∧ po < hn B) ∧ (hn A ≤ ar ∧ ar < hn B) ∧ po ≠ ar) ∧ (u po 1 = n ∧ u po 2 = 59 ∧ u po 3 = 0) ∧ PL A B u s r e po ar f n ∧ ((1 ≤ n ∧ n ≤ 6) ∧ f + n = 60 * r 307 12 + r 307 22 ∧ 0 ≤ f ∧ 60 * s 307 12 ≤ f)
/-- what is left of pipeL then -/
def PRM (lr : Int → Sg → Option (Int × Sg)) (deep : Int) (m : Nat) (r t : Sg) (f n x : Int) : Prop :=
  (btS r (r 307 18) ≠ 124 ∧ x = 60 * r 307 12 + r 307 21 ∧ t = sset (sset (sset r 307 21 (r 307 21 + 1)) 312 (60 * r 307 12 + r 307 21) f) 313 (60 * r 307 12 + r 307 21) n) ∨ (btS r (r 307 18) = 124 ∧ n = 6 ∧ x = -1 ∧ t = sset r 307 19 (r 307 18)) ∨ (btS r (r 307 18) = 124 ∧ n ≠ 6 ∧ pipeL lr deep m (sset r 307 18 (r 307 18 + 1)) n f = some (x, t))
def PFL (A : AHp) (v s t : Sg) (x deep : Int) (Q : Option AV → AHp → Prop) : Prop := x < 0 → ∀ B w r, GRO A B → hn B ≤ hn A + 2 * (60 - s 307 22) + 2 * (60 - s 307 21) + 4 * (4 - deep) → XFR A v w → FAILR A B w t r → Q (some (vr r)) (cl B w)
def PSU (A : AHp) (v s t : Sg) (e : Nat) (x deep : Int) (Q : Option AV → AHp → Prop) : Prop := 0 ≤ x → ∀ B w po, GRO A B → hn B = hn A + 2 * (t 307 22 - s 307 22) + 2 * (t 307 21 - s 307 21) → XFR A v w → w 61 4 = t 307 18 → w 61 5 = t 307 22 + deep → w 61 6 = t 307 23 → PIP B po → (hn A ≤ po ∧ po < hn B) → w po 2 = 59 → w po 3 = 0 → PJ A B w s t e po x → Q (some (vr po)) (cl B w)
theorem bt_19 {s : Sg} {y k : Int} : btS (sset s 307 19 y) k = btS s k := by
  unfold btS
  rw [sset_2 (by omega), sset_1 (by omega)]
theorem lx_ppR {A B : AHp} {v u s r t : Sg} {e m : Nat} {lr : Int → Sg → Option (Int × Sg)} {deep po ar f n x : Int} {Q : Option AV → AHp → Prop} (hI : PIV A B v u s r e deep po ar f n) (hM : PRM lr deep m r t f n x) (hdp : 0 ≤ deep ∧ deep ≤ 3) (h6 : n = 6 ∨ btS r (r 307 18) ≠ 124) (hFl : PFL A v s t x deep Q) (hS : PSU A v s t e x deep Q) : Q (some (vr po)) (cl B u) := by
  obtain ⟨⟨i1, i2, i3, i4, i5⟩, ⟨j1, j2, j3, j4⟩, ⟨k1, k2, k3⟩, ⟨l1, l2, l3, l4, l5⟩, ⟨m1, m2, m3⟩, n1, ⟨n2, n3, n4⟩⟩ := hI
  obtain ⟨b1, b2, b3, b4⟩ := j2
  have c12 := b1.1.2.2
  have c21 := b1.2.1
  have e12 : r 307 12 = s 307 12 := j3.k (by omega)
  obtain ⟨o1, o2, o3, o4⟩ := j4
  rcases hM with ⟨q1, q2, q3⟩ | ⟨q1, q2, q3, q4⟩ | ⟨q1, q2, q3⟩
  · have t21 : t 307 21 = r 307 21 + 1 := by rw [q3, sset_1 (by omega), sset_1 (by omega), sset_e]
    have tk : ∀ i, i ≠ 21 → t 307 i = r 307 i := fun i q => by rw [q3, sset_1 (by omega), sset_1 (by omega), sset_2 q]
    refine hS (by omega) B u po i2 (by rw [tk 22 (by omega), t21]; omega) i4 (by rw [tk 18 (by omega)]; exact k1) (by rw [tk 22 (by omega)]; exact k2) (by rw [tk 23 (by omega)]; exact k3) l1 l3 m2 m3 ?_
    exact n1.end l1 l2 ⟨l3.1, l4.1⟩ l5 (by omega) m1 (by rw [q2, e12]) (by omega) (by omega) (by rw [q2]; exact q3) (by omega) ⟨by omega, by omega⟩ ⟨by omega, by omega⟩
  · refine hFl (by omega) B u po i2 (by omega) i4 (Or.inr ⟨⟨l3.1, by omega⟩, l1.2.1, ?_, ?_⟩)
    · rw [q4, sset_e]; exact k1
    · rw [q4, sset_e, bt_19]; exact q1
  · rcases h6 with h6 | h6
    · exact absurd h6 q2
    · exact absurd q1 h6
theorem PIV.next {A B B2 : AHp} {v u w s r r2 : Sg} {e : Nat} {deep po ar f n y : Int} (hI : PIV A B v u s r e deep po ar f n) (hdp : 0 ≤ deep ∧ deep ≤ 3) (hn9 : n < 6) (hat : r 307 18 < r 307 17) (ec : cmdS (sset r 307 18 (r 307 18 + 1)) 0 = (y, r2)) (hq : RQ (sset r 307 18 (r 307 18 + 1)) r2 y 0 1) (hy : 0 ≤ y) (hy2 : y = 60 * r 307 12 + r2 307 22 - 1) (hy3 : y = 60 * r 307 12 + r 307 22)
    (hG : GRO B B2) (hH : hn B2 = hn B + 2) (hX : XFR B (sset u 61 4 (u 61 4 + 1)) w) (w4 : w 61 4 = r2 307 18) (w5 : w 61 5 = u 61 5 + 1) (w6 : w 61 6 = u 61 6) (hJ : SJ B B2 w (sset r 307 18 (r 307 18 + 1)) r2 0 (hn B) (60 * r 307 12 + r 307 22)) (h11 : r2 314 (60 * r 307 12 + r 307 22) < 11) : PIV A B2 v (sset (sset w ar n (hn B)) po 1 (n + 1)) s r2 e deep po ar f (n + 1) := by
  obtain ⟨⟨i1, i2, i3, i4, i5⟩, ⟨j1, j2, j3, j4⟩, ⟨k1, k2, k3⟩, ⟨l1, l2, l3, l4, l5⟩, ⟨m1, m2, m3⟩, n1, ⟨n2, n3, n4⟩⟩ := hI
  obtain ⟨b1, b2, b3, b4⟩ := id j2
  obtain ⟨q1, q2, q3, q4, q5⟩ := hq
  obtain ⟨p1, p2, p3, p4, p5⟩ := q5 hy
  have s22 : (sset r 307 18 (r 307 18 + 1)) 307 22 = r 307 22 := sset_2 (by omega)
  have s21 : (sset r 307 18 (r 307 18 + 1)) 307 21 = r 307 21 := sset_2 (by omega)
  have s20 : (sset r 307 18 (r 307 18 + 1)) 307 20 = r 307 20 := sset_2 (by omega)
  have s18 : (sset r 307 18 (r 307 18 + 1)) 307 18 = r 307 18 + 1 := sset_e
  have s12 : (sset r 307 18 (r 307 18 + 1)) 307 12 = r 307 12 := sset_2 (by omega)
  have e23 : r2 307 23 = r 307 23 := by
    have := cmd_k (s := sset r 307 18 (r 307 18 + 1)) (f := 0) (i := 23) (by omega)
    rw [ec] at this
    exact this.trans (sset_2 (by omega))
  have e12 : r2 307 12 = r 307 12 := (q1.k (by omega)).trans s12
  have e12s : r 307 12 = s 307 12 := j3.k (by omega)
  have g1 : FRS r (sset r 307 18 (r 307 18 + 1)) := FRS.at
  have g2 : MNS r (sset r 307 18 (r 307 18 + 1)) := MNS.at (by omega)
  obtain ⟨u1, u2, u3, u4⟩ := id q2
  obtain ⟨x1, x2, x3, x4⟩ := id j4
  have hle := hG.1.1
  have ew : ∀ o k, o ≠ po → o ≠ ar → (sset (sset w ar n (hn B)) po 1 (n + 1)) o k = w o k := fun o k a b => by
    unfold sset
    rw [if_neg (by omega), if_neg (by omega)]
  have hXu : XFR B u w := fun o k a b => by
    rw [hX o k a b]
    unfold sset
    rw [if_neg (by omega)]
  have hxf : XFR A v (sset (sset w ar n (hn B)) po 1 (n + 1)) := fun o k a b => by
    rw [ew o k (by omega) (by omega), hXu o k (by omega) b]
    exact i4 o k a b
  have hT2 : TSM (sset (sset w ar n (hn B)) po 1 (n + 1)) r2 := ((((j1.xf (by omega) hXu).o (by omega)).o (by omega)).fr g1).fr q1
  have wpo : ∀ k, k ≠ 1 → (sset (sset w ar n (hn B)) po 1 (n + 1)) po k = u po k := fun k hk => by
    rw [sset_2 hk, sset_1 (by omega)]
    exact hXu _ _ l3.2 (by omega)
  refine ⟨⟨old_X hG.1 i1, i2.tr hG, by omega, hxf, i5⟩, ⟨hT2, ⟨p1, by omega, by omega, by omega⟩, (j3.tr g1 j4 g2).tr q1 (j4.tr g2) q2, (j4.tr g2).tr q2⟩, ⟨?_, ?_, ?_⟩, ⟨old_PIP hG.1 l1, (old_hp hG.1 l3.2).trans l2, ⟨l3.1, by omega⟩, ⟨l4.1, by omega⟩, l5⟩, ⟨sset_e, ?_, ?_⟩, ?_, ⟨⟨by omega, by omega⟩, by omega, n4⟩⟩
  · rw [ew _ _ (by omega) (by omega)]; exact w4
  · rw [ew _ _ (by omega) (by omega), w5, k2]; omega
  · rw [ew _ _ (by omega) (by omega), w6, k3, e23]
  · rw [wpo 2 (by omega)]; exact m2
  · rw [wpo 3 (by omega)]; exact m3
  · have ef : f + n = 60 * r 307 12 + r 307 22 := n3
    exact PL.more n1 ⟨i5, by omega⟩ ⟨l3.1, l3.2, l4.1, l4.2⟩ l5 (by omega) e12s j4 (fun i hi => sset_2 hi) (fun o i ho => sset_1 ho) q1 q2 (by rw [ef]; exact hJ) hG.1 hXu (by rw [ef]; exact h11)
theorem PIV.first {A B : AHp} {v w s r : Sg} {e : Nat} {deep so y : Int} (hXA : XLAY A) (hA : 350 ≤ hn A) (hT : TSM v s) (hB : BDR s (deep + 1)) (hdp : 0 ≤ deep ∧ deep ≤ 3) (hq : RQ s r y 0 1) (hy : 0 ≤ y) (hy2 : y = 60 * s 307 12 + r 307 22 - 1) (hG : GRO A B) (hH : hn B = hn A + 2 * (r 307 22 - s 307 22) + 2 * (r 307 21 - s 307 21)) (hX : XFR A v w) (w4 : w 61 4 = r 307 18) (w5 : w 61 5 = r 307 22 + deep) (w6 : w 61 6 = r 307 23) (hJ : SJ A B w s r e so y) : PIV A (ppH B) v (ppV B w so) s r e deep (hn B) (hn B + 1) y 1 := by
  obtain ⟨b1, b2, b3, b4⟩ := id hB
  obtain ⟨q1, q2, q3, q4, q5⟩ := hq
  obtain ⟨p1, p2, p3, p4, p5⟩ := q5 hy
  have e12 : r 307 12 = s 307 12 := q1.k (by omega)
  obtain ⟨x1, x2, x3, x4⟩ := id q2
  have hle := hG.1.1
  have hgn := ppH_hn (A := B)
  have c12 := b1.1.2.2
  have c22 := b1.2.1
  have hxf : XFR A v (ppV B w so) := fun o k a b => by
    rw [ppV_o (by omega)]
    exact hX o k a b
  refine ⟨⟨old_X ppH_old (old_X hG.1 hXA), hG.tr ppH_gro, by omega, hxf, hA⟩, ⟨(hT.xf hA hxf).fr q1, ⟨p1, by omega, by omega, by omega⟩, q1, q2⟩, ⟨by rw [ppV_o (by omega)]; exact w4, by rw [ppV_o (by omega)]; exact w5, by rw [ppV_o (by omega)]; exact w6⟩, ⟨ppH_pip (by omega), ppH_0, ⟨by omega, by omega⟩, ⟨by omega, by omega⟩, by omega⟩, ⟨?_, ?_, ?_⟩, PL.one hJ ppH_old ⟨by omega, by omega⟩ (fun o k a b => ppV_o (by omega)) ?_, ⟨⟨by omega, by omega⟩, by omega, hy, by omega⟩⟩
  · unfold ppV
    rw [sset_1 (by omega), sset_2 (by omega), sset_e]
  · unfold ppV
    rw [sset_1 (by omega), sset_e]
  · unfold ppV
    rw [sset_1 (by omega), sset_2 (by omega), sset_2 (by omega)]
    exact stV_0 (Or.inl rfl)
  · unfold ppV
    rw [sset_e]
set_option maxRecDepth 20000 in
theorem lx_ppl {d : Nat} {A : AHp} {lr : Int → Sg → Option (Int × Sg)} {v s t : Sg} {e : Nat} {deep x : Int} (hd : 8 ≤ d) (hdp : 0 ≤ deep ∧ deep ≤ 3) (hLK : deep < 3 → LOKR lr (deep + 1))  {Q : Option AV → AHp → Prop} : ∀ (m : Nat) (B : AHp) (u r : Sg) (po ar f n : Int) (L2 L5 : Option AV), PFL A v s t x deep Q → PSU A v s t e x deep Q → PIV A B v u s r e deep po ar f n → PRM lr deep m r t f n x → AW d mX7_readPipe 41 [some (vr 61), some (vi deep), L2, some (vr po), some (vi n), L5] [] (cl B u) Q := by
  intro m
  induction m using Nat.strongRecOn with
  | _ m ih =>
    intro B u r po ar f n L2 L5 hFl hS hI hM
    obtain ⟨⟨i1, i2, i3, i4, i5⟩, ⟨j1, j2, j3, j4⟩, ⟨k1, k2, k3⟩, ⟨l1, l2, l3, l4, l5⟩, ⟨m1, m2, m3⟩, n1, ⟨n2, n3, n4⟩⟩ := id hI
    obtain ⟨b1, b2, b3, b4⟩ := id j2
    have c17 := b1.1.1
    have c18 := b1.1.2.1
    have c12 := b1.1.2.2
    have c22 := b1.2.1
    have hX := i1
    have e12s : r 307 12 = s 307 12 := j3.k (by omega)
    have e62 : u 61 2 = r 307 17 := j1.2.1
    obtain ⟨o1, o2, o3, o4⟩ := id j4
    refine aw_iload (pc' := 43) rfl dX7_readPipe_41 rfl ?_
    refine aw_bipush (pc' := 45) (by decide +kernel) dX7_readPipe_43 rfl ?_
    refine aw_icmp_ge (pt := 94) (pf := 48) dX7_readPipe_45 (by decide) rfl (fun c_45 => ?_) (fun c_45 => ?_)
    · refine aw_aload_n (pc' := 95) rfl dX7_readPipe_94 rfl ?_
      refine AW.ret (some (vr _)) dX7_readPipe_95 trivial ?_
      try simp (disch := omega) only [hv_cl, cl_set, sset_e, sset_1, sset_2, sset_ss, btX_4]
      refine lx_ppR hI hM hdp ?_ hFl hS
      first
      | exact Or.inr t0
      | exact Or.inl (by omega)
    · refine aw_aload_n (pc' := 49) rfl dX7_readPipe_48 rfl ?_
      refine aw_bipush (pc' := 51) (by decide +kernel) dX7_readPipe_49 rfl ?_
      refine aw_callV (ci := 6) (d' := d - 1) (as := [_]) (pc' := 54) (by decide) rfl kX7_takes iX7_takes sX7_takes lX7_85 (XO_reader (A := (cl B u)) hX) dX7_readPipe_51 rfl rfl (Nat.le_of_ble_eq_true rfl) (by omega) ?_
      try simp (disch := omega) only [hv_cl, cl_set, sset_e, sset_1, sset_2, sset_ss, btX_4]
      refine x_takes (s := r) (by omega) hX j1.1 (by omega) (fun t1 => ?_) (fun t0 => ?_)
      · rw [k1] at t1
        refine aw_if_eq (pt := 94) (pf := 57) dX7_readPipe_54 (by decide) rfl (fun c_54 => absurd c_54 (by decide)) (fun _ => ?_)
        refine aw_aload_n (pc' := 58) rfl dX7_readPipe_57 rfl ?_
        refine aw_iconst (pc' := 59) (by decide) dX7_readPipe_58 rfl ?_
        refine aw_callV (ci := 6) (d' := d - 1) (as := [_]) (pc' := 62) (by decide) rfl kX7_readCommand iX7_readCommand sX7_readCommand lX7_78 (XO_reader (A := (cl B u)) hX) dX7_readPipe_59 rfl rfl (Nat.le_of_ble_eq_true rfl) (by omega) ?_
        have hlt := bt_lt (s := r) (k := r 307 18) (by omega)
        obtain ⟨hn6, hrec⟩ : n ≠ 6 ∧ pipeL lr deep m (sset r 307 18 (r 307 18 + 1)) n f = some (x, t) := by
          rcases hM with ⟨z, _⟩ | ⟨_, z, _⟩ | ⟨_, z1, z2⟩
          · exact absurd t1 z
          · omega
          · exact ⟨z1, z2⟩
        obtain ⟨m2, y, r2, hm2, g1, g2⟩ := pipeL_s hrec
        rw [if_neg (show ¬ n = 0 by omega)] at g1
        rw [if_neg (show ¬ n = 0 by omega)] at g2
        have s20 : (sset r 307 18 (r 307 18 + 1)) 307 20 = r 307 20 := sset_2 (by omega)
        have s21 : (sset r 307 18 (r 307 18 + 1)) 307 21 = r 307 21 := sset_2 (by omega)
        have s22 : (sset r 307 18 (r 307 18 + 1)) 307 22 = r 307 22 := sset_2 (by omega)
        have s18 : (sset r 307 18 (r 307 18 + 1)) 307 18 = r 307 18 + 1 := sset_e
        have s12 : (sset r 307 18 (r 307 18 + 1)) 307 12 = r 307 12 := sset_2 (by omega)
        have hR1 : RB (sset r 307 18 (r 307 18 + 1)) := b1.at (by omega)
        obtain ⟨y3, r3, gl, hq, hy2⟩ := rd_stage_ok (lr := lr) (fst := 0) (deep := deep) hLK hdp (s := sset r 307 18 (r 307 18 + 1)) ⟨hR1, by omega, by omega, by omega⟩
        rw [g1, Option.some.injEq, Prod.mk.injEq] at gl
        obtain ⟨gl1, gl2⟩ := gl
        subst gl1
        subst gl2
        rw [stage_cmd hR1 (fun z => z.2.1 rfl), Option.some.injEq] at g1
        have ec := g1
        have h4' : (sset u 61 4 (u 61 4 + 1)) 61 4 = (sset r 307 18 (r 307 18 + 1)) 307 18 := by rw [sset_e, s18, k1]
        have h5' : (sset u 61 4 (u 61 4 + 1)) 61 5 = u 61 5 := sset_2 (by omega)
        have h6' : (sset u 61 4 (u 61 4 + 1)) 61 6 = u 61 6 := sset_2 (by omega)
        refine x_readCommand (s := sset r 307 18 (r 307 18 + 1)) (by omega) hX (by omega) (j1.at.fr FRS.at) hR1 h4' (by omega) (Or.inl rfl) (fun hy B2 w hG2 hH2 hXf2 w3 => ?_) (fun hy B2 w hG2 hH2 hXf2 w4 w5 w6 hx9 hO9 hJ9 hf9 => ?_)
        · rw [ec] at hy w3
          have hy : y < 0 := hy
          have w3 : w 61 3 = r2 307 19 := w3
          refine aw_astore (pc' := 64) (lv' := [_, _, _, _, _, _]) dX7_readPipe_62 rfl (by decide) rfl ?_
          refine aw_aload (pc' := 66) rfl dX7_readPipe_64 rfl ?_
          refine aw_ifnonnull (pt := 71) (pf := 69) (by omega) dX7_readPipe_66 (by decide) rfl (fun c_66 => ?_) (fun c_66 => ?_)
          · exfalso
            omega
          · replace c_66 := Classical.not_not.mp c_66
            refine aw_null (pc' := 70) dX7_readPipe_69 rfl ?_
            refine AW.ret (some (vr _)) dX7_readPipe_70 trivial ?_
            try simp (disch := omega) only [hv_cl, cl_set, sset_e, sset_1, sset_2, sset_ss, btX_4]
            obtain ⟨hx9, ht9⟩ : x = -1 ∧ t = r2 := by
              rcases g2 with ⟨_, z1, z2⟩ | ⟨z, _⟩
              · exact ⟨z1, z2⟩
              · omega
            refine hFl (by omega) B2 w 0 (i2.tr hG2) (by omega) (fun o k a b => ?_) (Or.inl ⟨rfl, by rw [ht9]; exact w3⟩)
            rw [hXf2 o k (by omega) b]
            unfold sset
            rw [if_neg (by omega)]
            exact i4 o k a b
        · rw [ec, s12, s22] at hx9
          rw [ec] at hy w4
          have hy : 0 ≤ y := hy
          have w4 : w 61 4 = r2 307 18 := w4
          rw [ec, s12, s22] at hJ9 hf9
          rw [h5'] at w5
          rw [h6'] at w6
          have hy3 : y = 60 * r 307 12 + r 307 22 := hx9
          have hPOf : isO B2 po 6 := old_O hG2.1 l1.2.1
          have har2 : hp B2 po 0 = ar := (old_hp hG2.1 l3.2).trans l2
          have hAr : isA B2 ar 38 6 := by
            have := old_A hG2.1 l1.2.2.2
            rw [l2] at this
            exact this
          rw [s12] at hy2
          have hy2 := hy2 hy
          have hM2 : PRM lr deep m2 r2 t f (n + 1) x := by
            rcases g2 with ⟨z, _⟩ | ⟨_, _, z⟩
            · omega
            · exact z
          refine aw_astore (pc' := 64) (lv' := [_, _, _, _, _, _]) dX7_readPipe_62 rfl (by decide) rfl ?_
          refine aw_aload (pc' := 66) rfl dX7_readPipe_64 rfl ?_
          refine aw_ifnonnull (pt := 71) (pf := 69) (by omega) dX7_readPipe_66 (by decide) rfl (fun c_66 => ?_) (fun c_66 => ?_)
          · refine aw_aload_n (pc' := 72) rfl dX7_readPipe_71 rfl ?_
            refine aw_getp (pc' := 75) (k9 := 0) (p := ar) dX7_readPipe_72 rfl fX7_88 rfl rfl rfl hPOf har2 ?_
            refine aw_iload (pc' := 77) rfl dX7_readPipe_75 rfl ?_
            refine aw_aload (pc' := 79) rfl dX7_readPipe_77 rfl ?_
            refine aw_aast (pc' := 80) (t0 := 6) (ci := 8) (fun _ => rfl) (by decide) (by decide) dX7_readPipe_79 rfl hAr (by omega) (by omega) hO9 ?_
            refine aw_aload_n (pc' := 81) rfl dX7_readPipe_80 rfl ?_
            refine aw_iload (pc' := 83) rfl dX7_readPipe_81 rfl ?_
            refine aw_iconst (pc' := 84) (by decide) dX7_readPipe_83 rfl ?_
            refine aw_iadd (pc' := 85) (by first | exact w32_id (by omega) (by omega) | rfl) dX7_readPipe_84 rfl ?_
            refine aw_puti (pc' := 88) (k9 := 1) dX7_readPipe_85 rfl fX7_91 rfl rfl rfl hPOf ?_
            refine aw_iinc (pc' := 91) (lv' := [_, _, _, _, _, _]) dX7_readPipe_88 rfl rfl (by decide) (by first | exact w32_id (by omega) (by omega) | rfl) rfl ?_
            refine aw_goto (pc' := 41) dX7_readPipe_91 (by decide) ?_
            refine ih m2 (by omega) B2 _ r2 po ar f (n + 1) _ _ hFl hS (hI.next hdp (by omega) hlt ec hq hy hy2 hy3 hG2 hH2 hXf2 w4 w5 w6 (hJ9 0) (hf9 rfl)) hM2
          · replace c_66 := Classical.not_not.mp c_66
            exfalso
            omega
      · rw [k1] at t0
        refine aw_if_eq (pt := 94) (pf := 57) dX7_readPipe_54 (by decide) rfl (fun _ => ?_) (fun c_54 => absurd (by decide) c_54)
        refine aw_aload_n (pc' := 95) rfl dX7_readPipe_94 rfl ?_
        refine AW.ret (some (vr _)) dX7_readPipe_95 trivial ?_
        try simp (disch := omega) only [hv_cl, cl_set, sset_e, sset_1, sset_2, sset_ss, btX_4]
        refine lx_ppR hI hM hdp ?_ hFl hS
        first
        | exact Or.inr t0
        | exact Or.inl (by omega)

set_option maxRecDepth 20000 in
theorem x_readPipe {d : Nat} {lr : Int → Sg → Option (Int × Sg)} {s t : Sg} {e K : Nat} {deep x : Int} {A : AHp} {v : Sg} {Q : Option AV → AHp → Prop} (hd : K + 2 ≤ d) (hX : XLAY A) (hA : 350 ≤ hn A) (hT : TSM v s) (hB : BDR s (deep + 1)) (hdp : 0 ≤ deep ∧ deep ≤ 3) (hde : (e : Int) + deep = 3) (hK : 8 ≤ K) (hLK : deep < 3 → LOKR lr (deep + 1)) (hRL : ∀ e1 : Nat, (e1 : Int) + (deep + 1) = 3 → RLC lr e1 (deep + 1) K) (h4 : v 61 4 = s 307 18) (h5 : v 61 5 = s 307 22 + deep) (h6 : v 61 6 = s 307 23) (h : pipeL lr deep 7 s 0 (-1) = some (x, t)) (hFl : PFL A v s t x deep Q) (hS : PSU A v s t e x deep Q) : CALL d mX7_readPipe [vr 61, vi deep] (cl A v) Q := by
  refine CALL.of (by decide) (Nat.le_of_ble_eq_true rfl) ?_
  change AW d mX7_readPipe 0 [some (vr 61), some (vi deep), none, none, none, none] [] (cl A v) Q
  obtain ⟨b1, b2, b3, b4⟩ := id hB
  have c17 := b1.1.1
  have c18 := b1.1.2.1
  have c12 := b1.1.2.2
  have c22 := b1.2.1
  have e62 : v 61 2 = s 307 17 := hT.2.1
  obtain ⟨m2, y, r, hm2, g1, g2⟩ := pipeL_s h
  rw [if_pos rfl] at g1
  rw [if_pos rfl] at g2
  obtain ⟨y3, r3, gl, hq, hy2⟩ := rd_stage_ok (lr := lr) (fst := 1) (deep := deep) hLK hdp hB
  rw [g1, Option.some.injEq, Prod.mk.injEq] at gl
  obtain ⟨gl1, gl2⟩ := gl
  subst gl1
  subst gl2
  obtain ⟨u1, u2, u3, u4⟩ := id hq.2.1
  refine aw_aload_n (pc' := 1) rfl dX7_readPipe_0 rfl ?_
  refine aw_callV (ci := 6) (d' := d - 1) (as := []) (pc' := 4) (by decide) rfl kX7_peek iX7_peek sX7_peek lX7_64 (XO_reader (A := (cl A v)) hX) dX7_readPipe_1 rfl rfl (Nat.le_of_ble_eq_true rfl) (by omega) ?_
  try simp (disch := omega) only [hv_cl, cl_set, sset_e, sset_1, sset_2, sset_ss, btX_4]
  refine x_peek (s := s) (by omega) hX hT.1 (by omega) ?_
  rw [h4]
  refine aw_bipush (pc' := 6) (by decide +kernel) dX7_readPipe_4 rfl ?_
  refine aw_icmp_ne (pt := 17) (pf := 9) dX7_readPipe_6 (by decide) rfl (fun c_6 => ?_) (fun c_6 => ?_)
  · refine aw_aload_n (pc' := 18) rfl dX7_readPipe_17 rfl ?_
    refine aw_iconst (pc' := 19) (by decide) dX7_readPipe_18 rfl ?_
    refine aw_callV (ci := 6) (d' := d - 1) (as := [_]) (pc' := 22) (by decide) rfl kX7_readCommand iX7_readCommand sX7_readCommand lX7_78 (XO_reader (A := (cl A v)) hX) dX7_readPipe_19 rfl rfl (Nat.le_of_ble_eq_true rfl) (by omega) ?_
    have ec : cmdS s 1 = (y, r) := by
      rw [stage_cmd b1 (fun z => c_6 z.1), Option.some.injEq] at g1
      exact g1
    refine x_readCommand (s := s) (by omega) hX hA hT b1 h4 (by omega) (Or.inr rfl) (fun hy B w hG hH hXf w3 => ?_) (fun hy B w hG hH hXf w4 w5 w6 hx9 hO9 hJ0 hf9 => ?_)
    · rw [ec] at hy w3
      have hy : y < 0 := hy
      have w3 : w 61 3 = r 307 19 := w3
      refine aw_astore_n (pc' := 23) (lv' := [_, _, _, _, _, _]) dX7_readPipe_22 rfl (by decide) rfl ?_
      refine aw_aload_n (pc' := 24) rfl dX7_readPipe_23 rfl ?_
      refine aw_ifnonnull (pt := 29) (pf := 27) (by omega) dX7_readPipe_24 (by decide) rfl (fun c_24 => ?_) (fun c_24 => ?_)
      · exfalso
        omega
      · replace c_24 := Classical.not_not.mp c_24
        refine aw_null (pc' := 28) dX7_readPipe_27 rfl ?_
        refine AW.ret (some (vr _)) dX7_readPipe_28 trivial ?_
        try simp (disch := omega) only [hv_cl, cl_set, sset_e, sset_1, sset_2, sset_ss, btX_4]
        obtain ⟨hx9, ht9⟩ : x = -1 ∧ t = r := by
          rcases g2 with ⟨_, z1, z2⟩ | ⟨z, _⟩
          · exact ⟨z1, z2⟩
          · omega
        exact hFl (by omega) B w 0 hG (by omega) hXf (Or.inl ⟨rfl, by rw [ht9]; exact w3⟩)
    · rw [ec] at hy w4 hx9
      have hx9 : y = 60 * s 307 12 + s 307 22 := hx9
      have hy : 0 ≤ y := hy
      have w4 : w 61 4 = r 307 18 := w4
      rw [ec] at hJ0
      have e21 : r 307 21 = s 307 21 := by
        have := cmd_k (s := s) (f := 1) (i := 21) (by omega)
        rw [ec] at this
        exact this
      have e23 : r 307 23 = s 307 23 := by
        have := cmd_k (s := s) (f := 1) (i := 23) (by omega)
        rw [ec] at this
        exact this
      have hy2 := hy2 hy
      have hM2 : PRM lr deep m2 r t y (0 + 1) x := by
        rcases g2 with ⟨z, _⟩ | ⟨_, _, z⟩
        · omega
        · exact z
      rw [Int.zero_add] at hM2
      have hJ : SJ A B w s r e (hn A) y := by
        rw [hx9]
        exact hJ0 e
      have w5 : w 61 5 = r 307 22 + deep := by omega
      have w6 : w 61 6 = r 307 23 := by omega
      have hH : hn B = hn A + 2 * (r 307 22 - s 307 22) + 2 * (r 307 21 - s 307 21) := by omega
      refine aw_astore_n (pc' := 23) (lv' := [_, _, _, _, _, _]) dX7_readPipe_22 rfl (by decide) rfl ?_
      refine aw_aload_n (pc' := 24) rfl dX7_readPipe_23 rfl ?_
      refine aw_ifnonnull (pt := 29) (pf := 27) (by omega) dX7_readPipe_24 (by decide) rfl (fun c_24 => ?_) (fun c_24 => ?_)
      · refine aw_new (ci := 5) (pc' := 32) (by decide) zX7_56 w5_new w5_ini dX7_readPipe_29 rfl ?_
        rw [hn_cl, clN_5]
        refine aw_dup (pc' := 33) rfl dX7_readPipe_32 rfl ?_
        refine aw_aload_n (pc' := 34) rfl dX7_readPipe_33 rfl ?_
        refine aw_callI (d' := d - 1) (as := [_]) (pc' := 37) rfl kX6_init rfl iX6_init lX7_82 (by omega) dX7_readPipe_34 rfl rfl (Nat.le_of_ble_eq_true rfl) (by omega) ?_
        have hle := hG.1.1
        refine x_newPipe2 (by omega) (by omega) hO9 ?_
        refine aw_astore_n (pc' := 38) (lv' := [_, _, _, _, _, _]) dX7_readPipe_37 rfl (by decide) rfl ?_
        refine aw_iconst (pc' := 39) (by decide) dX7_readPipe_38 rfl ?_
        refine aw_istore (pc' := 41) (lv' := [_, _, _, _, _, _]) dX7_readPipe_39 rfl (by decide) rfl ?_
        exact lx_ppl (by omega) hdp hLK m2 (ppH B) (ppV B w _) r (hn B) (hn B + 1) y 1 _ _ hFl hS (PIV.first hX hA hT hB hdp hq hy hy2 hG hH hXf w4 w5 w6 hJ) hM2
      · replace c_24 := Classical.not_not.mp c_24
        exfalso
        omega
  · replace c_6 := Classical.not_not.mp c_6
    refine aw_aload_n (pc' := 10) rfl dX7_readPipe_9 rfl ?_
    refine aw_iload_n (pc' := 11) rfl dX7_readPipe_10 rfl ?_
    refine aw_callV (ci := 6) (d' := d - 1) (as := [_]) (pc' := 14) (by decide) rfl kX7_readBraces iX7_readBraces sX7_readBraces lX7_74 (XO_reader (A := (cl A v)) hX) dX7_readPipe_11 rfl rfl (Nat.le_of_ble_eq_true rfl) (by omega) ?_
    refine x_readBraces (K := K) (by omega) hX hA hT hB hdp hde hK hLK hRL h4 h5 h6 c_6 g1 (fun hy B w hG hH hXf w3 => ?_) (fun hy B w so hG hH hXf w4 w5 w6 hO9 hso hJ => ?_)
    · refine aw_goto (pc' := 22) dX7_readPipe_14 (by decide) ?_
      refine aw_astore_n (pc' := 23) (lv' := [_, _, _, _, _, _]) dX7_readPipe_22 rfl (by decide) rfl ?_
      refine aw_aload_n (pc' := 24) rfl dX7_readPipe_23 rfl ?_
      refine aw_ifnonnull (pt := 29) (pf := 27) (by omega) dX7_readPipe_24 (by decide) rfl (fun c_24 => ?_) (fun c_24 => ?_)
      · exfalso
        omega
      · replace c_24 := Classical.not_not.mp c_24
        refine aw_null (pc' := 28) dX7_readPipe_27 rfl ?_
        refine AW.ret (some (vr _)) dX7_readPipe_28 trivial ?_
        try simp (disch := omega) only [hv_cl, cl_set, sset_e, sset_1, sset_2, sset_ss, btX_4]
        obtain ⟨hx9, ht9⟩ : x = -1 ∧ t = r := by
          rcases g2 with ⟨_, z1, z2⟩ | ⟨z, _⟩
          · exact ⟨z1, z2⟩
          · omega
        exact hFl (by omega) B w 0 hG (by omega) hXf (Or.inl ⟨rfl, by rw [ht9]; exact w3⟩)
    · have hy2 := hy2 hy
      have hM2 : PRM lr deep m2 r t y (0 + 1) x := by
        rcases g2 with ⟨z, _⟩ | ⟨_, _, z⟩
        · omega
        · exact z
      rw [Int.zero_add] at hM2
      refine aw_goto (pc' := 22) dX7_readPipe_14 (by decide) ?_
      refine aw_astore_n (pc' := 23) (lv' := [_, _, _, _, _, _]) dX7_readPipe_22 rfl (by decide) rfl ?_
      refine aw_aload_n (pc' := 24) rfl dX7_readPipe_23 rfl ?_
      refine aw_ifnonnull (pt := 29) (pf := 27) (by omega) dX7_readPipe_24 (by decide) rfl (fun c_24 => ?_) (fun c_24 => ?_)
      · refine aw_new (ci := 5) (pc' := 32) (by decide) zX7_56 w5_new w5_ini dX7_readPipe_29 rfl ?_
        rw [hn_cl, clN_5]
        refine aw_dup (pc' := 33) rfl dX7_readPipe_32 rfl ?_
        refine aw_aload_n (pc' := 34) rfl dX7_readPipe_33 rfl ?_
        refine aw_callI (d' := d - 1) (as := [_]) (pc' := 37) rfl kX6_init rfl iX6_init lX7_82 (by omega) dX7_readPipe_34 rfl rfl (Nat.le_of_ble_eq_true rfl) (by omega) ?_
        have hle := hG.1.1
        refine x_newPipe2 (by omega) (by omega) hO9 ?_
        refine aw_astore_n (pc' := 38) (lv' := [_, _, _, _, _, _]) dX7_readPipe_37 rfl (by decide) rfl ?_
        refine aw_iconst (pc' := 39) (by decide) dX7_readPipe_38 rfl ?_
        refine aw_istore (pc' := 41) (lv' := [_, _, _, _, _, _]) dX7_readPipe_39 rfl (by decide) rfl ?_
        exact lx_ppl (by omega) hdp hLK m2 (ppH B) (ppV B w _) r (hn B) (hn B + 1) y 1 _ _ hFl hS (PIV.first hX hA hT hB hdp hq hy hy2 hG hH hXf w4 w5 w6 hJ) hM2
      · replace c_24 := Classical.not_not.mp c_24
        exfalso
        omega
