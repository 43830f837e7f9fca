/-! ===== the class's reader: readList ===== -/
/-- a list that is being read, behind the pipe po (y) -/
def LIV (B : AHp) (u r : Sg) (deep po y i : Int) : Prop :=
  (XLAY B ∧ 350 ≤ hn B ∧ TSM u r ∧ BDR r (deep + 1)) ∧ (u 61 4 = r 307 18 ∧ u 61 5 = r 307 22 + deep ∧ u 61 6 = r 307 23) ∧ (PIP B po ∧ u po 3 = 0 ∧ r 310 y = -1) ∧ (0 ≤ y ∧ y < 60 * r 307 12 + r 307 21) ∧ 0 ≤ i ∧ i + 2 ≤ r 307 18
def LRM (lr : Int → Sg → Option (Int × Sg)) (deep li : Int) (m : Nat) (r t : Sg) (y l : Int) : Prop :=
  ((btS r (r 307 18) ≠ 59 ∧ btS r (r 307 18) ≠ 38 ∧ btS r (r 307 18) ≠ 47) ∧ l = li ∧ t = r) ∨ (¬ (btS r (r 307 18) ≠ 59 ∧ btS r (r 307 18) ≠ 38 ∧ btS r (r 307 18) ≠ 47) ∧ listL lr deep li m (sset r 307 18 (r 307 18 + 1)) y (btS r (r 307 18)) = some (l, t))
/-- as XFR, but for what is behind a pipe -/
def XF3 (B : AHp) (po : Int) (u w : Sg) : Prop := ∀ o k, o < hn B → ¬ (o = 61 ∧ 3 ≤ k ∧ k ≤ 6) → ¬ (o = po ∧ k = 3) → w o k = u o k
def LFL (B : AHp) (u r t : Sg) (po fi l deep : Int) (Q : Option AV → AHp → Prop) : Prop := l < 0 → ∀ C w x, GRO B C → hn C ≤ hn B + 2 * (60 - r 307 22) + 2 * (60 - r 307 21) + 4 * (4 - deep) → XF3 B po u w → ((x = 0 ∧ w 61 3 = t 307 19) ∨ (x = fi ∧ w 61 4 = t 307 19 ∧ btS t (t 307 19) = 124)) → Q (some (vr x)) (cl C w)
def LSU (B : AHp) (u r t : Sg) (e : Nat) (po y fi l li deep : Int) (Q : Option AV → AHp → Prop) : Prop := 0 ≤ l → ∀ C w, GRO B C → hn C = hn B + 2 * (t 307 22 - r 307 22) + 2 * (t 307 21 - r 307 21) → XF3 B po u w → w 61 4 = t 307 18 → w 61 5 = t 307 22 + deep → w 61 6 = t 307 23 → RJ B C w r t e po y → LFR y li r t → MNS r t → Q (some (vr fi)) (cl C w)
set_option maxRecDepth 20000 in
theorem lx_llF {d : Nat} {A : AHp} {w t : Sg} {dp fi la i y : Int} {L5 L6 : Option AV} {Q : Option AV → AHp → Prop} (hd : 1 ≤ d) (hX : XLAY A) (hT : TSM w t) (hj : (la = 0) ∨ (350 ≤ la ∧ w 61 4 = y ∧ btS t y = 124 ∧ 0 ≤ y ∧ y ≤ 110)) (hQ : Q (some (vr fi)) (cl A w)) : AW d mX7_readList 11 [some (vr 61), some (vi dp), some (vr fi), some (vr la), some (vi i), L5, L6] [] (cl A w) Q := by
  refine aw_iload (pc' := 13) rfl dX7_readList_11 rfl ?_
  refine aw_bipush (pc' := 15) (by decide +kernel) dX7_readList_13 rfl ?_
  refine aw_icmp_ge (pt := 84) (pf := 18) dX7_readList_15 (by decide) rfl (fun c_15 => ?_) (fun c_15 => ?_)
  · refine aw_aload_n (pc' := 85) rfl dX7_readList_84 rfl ?_
    refine AW.ret (some (vr _)) dX7_readList_85 trivial ?_
    try simp (disch := omega) only [hv_cl, cl_set, sset_e, sset_1, sset_2, sset_ss, btX_4]
    exact hQ
  · refine aw_aload_n (pc' := 19) rfl dX7_readList_18 rfl ?_
    refine aw_ifnull (pt := 84) (pf := 22) (by rcases hj with q | q <;> omega) dX7_readList_19 (by decide) rfl (fun c_19 => ?_) (fun c_19 => ?_)
    · refine aw_aload_n (pc' := 85) rfl dX7_readList_84 rfl ?_
      refine AW.ret (some (vr _)) dX7_readList_85 trivial ?_
      try simp (disch := omega) only [hv_cl, cl_set, sset_e, sset_1, sset_2, sset_ss, btX_4]
      exact hQ
    · refine aw_aload_n (pc' := 23) rfl dX7_readList_22 rfl ?_
      refine aw_callV (ci := 6) (d' := d - 1) (as := []) (pc' := 26) (by decide) rfl kX7_peek iX7_peek sX7_peek lX7_64 (XO_reader (A := (cl A w)) hX) dX7_readList_23 rfl rfl (Nat.le_of_ble_eq_true rfl) (by omega) ?_
      have hjj : 350 ≤ la ∧ w 61 4 = y ∧ btS t y = 124 ∧ 0 ≤ y ∧ y ≤ 110 := by
        rcases hj with q | q
        · exact absurd q c_19
        · exact q
      obtain ⟨j1, j2, j3, j4, j5⟩ := hjj
      refine x_peek (s := t) (by omega) hX hT.1 (by omega) ?_
      rw [j2, j3]
      refine aw_callS (d' := d - 1) (as := [_]) (pc' := 29) kX7_isJoin tX7_isJoin lX7_68 dX7_readList_26 rfl rfl (Nat.le_of_ble_eq_true rfl) (by omega) ?_
      refine x_isJoin (by omega) (fun t1 => ?_) (fun t0 => ?_)
      · refine aw_if_eq (pt := 84) (pf := 32) dX7_readList_29 (by decide) rfl (fun c_29 => absurd c_29 (by decide)) (fun _ => ?_)
        exact absurd t1 (by omega)
      · refine aw_if_eq (pt := 84) (pf := 32) dX7_readList_29 (by decide) rfl (fun _ => ?_) (fun c_29 => absurd (by decide) c_29)
        refine aw_aload_n (pc' := 85) rfl dX7_readList_84 rfl ?_
        refine AW.ret (some (vr _)) dX7_readList_85 trivial ?_
        try simp (disch := omega) only [hv_cl, cl_set, sset_e, sset_1, sset_2, sset_ss, btX_4]
        exact hQ

theorem XF3.tr {B C : AHp} {po po2 : Int} {u w1 w2 : Sg} (h : XF3 B po u w1) (g : XF3 C po2 w1 w2) (hO : OLD B C) (hp : hn B ≤ po2) : XF3 B po u w2 := fun o k a b c => by
  rw [g o k (Int.lt_of_lt_of_le a hO.1) b (by omega)]
  exact h o k a b c
theorem RJ.nilL {B : AHp} {u r : Sg} {e : Nat} {po y : Int} (h1 : u po 3 = 0) (h2 : r 310 y = -1) : RJ B B u r r e po y := RJ.nil h1 h2
theorem LFR.rf {la li : Int} {s : Sg} : LFR la li s s := fun _ _ _ _ _ => rfl
theorem MNS.rf {s : Sg} : MNS s s := ⟨Int.le_refl _, Int.le_refl _, Int.le_refl _, Int.le_refl _⟩
theorem TSM.ln {u r : Sg} {la li y ah : Int} (h : TSM u r) : TSM u (lnkS r la li y ah) := h.eq rfl (fun _ => rfl) (fun _ => rfl) lnk_k (fun k => lnk_o (by omega) (by omega) (by omega))
theorem bt_ln {r : Sg} {la li y ah k : Int} : btS (lnkS r la li y ah) k = btS r k := by
  unfold btS
  rw [lnk_k, lnk_o (by omega) (by omega) (by omega)]
theorem RB.ln {r : Sg} {la li y ah : Int} (h : RB r) : RB (lnkS r la li y ah) := by
  unfold RB
  simp only [lnk_k]
  refine ⟨h.1, h.2.1, fun k k1 k2 => ?_, fun j j1 j2 => ?_⟩
  · rw [lnk_o (by omega) (by omega) (by omega)]; exact h.2.2.1 k k1 k2
  · rw [lnk_o (by omega) (by omega) (by omega)]; exact h.2.2.2 j j1 j2
theorem BDR.ln {r : Sg} {la li y ah c : Int} (h : BDR r c) : BDR (lnkS r la li y ah) c := by
  unfold BDR
  simp only [lnk_k]
  exact ⟨h.1.ln, h.2⟩
theorem listL_s2 {lr : Int → Sg → Option (Int × Sg)} {deep li la ah x : Int} {m : Nat} {s t : Sg} (h : listL lr deep li m s la ah = some (x, t)) : ∃ m' y r, m = m' + 1 ∧ pipeL lr deep 7 s 0 (-1) = some (y, r) ∧ ((y < 0 ∧ x = -1 ∧ t = r) ∨ (0 ≤ y ∧ LRM lr deep li m' (lnkS r la li y ah) t y x)) := by
  obtain ⟨m', y, r, u, e, g1, gu, g2⟩ := listL_s h
  have gu2 : u = lnkS r la li y ah := gu
  subst gu2
  refine ⟨m', y, r, e, g1, ?_⟩
  rcases g2 with g | ⟨g0, _, g⟩
  · exact Or.inl g
  · refine Or.inr ⟨g0, ?_⟩
    unfold LRM
    simp only [bt_ln, lnk_k]
    exact g
theorem LIV.next {B C : AHp} {u w r r2 : Sg} {deep po y po2 y2 i c li : Int} (hI : LIV B u r deep po y i) (hlt : r 307 18 < r 307 17) (hq : RQ (sset r 307 18 (r 307 18 + 1)) r2 y2 0 0) (hy : 0 ≤ y2) (hy2 : y2 = 60 * r 307 12 + r2 307 21 - 1) (hy3 : r 307 21 + 1 ≤ r2 307 21) (hG : GRO B C) (hX : XFR B (sset u 61 4 (u 61 4 + 1)) w) (w4 : w 61 4 = r2 307 18) (w5 : w 61 5 = r2 307 22 + deep) (w6 : w 61 6 = r2 307 23) (hP : PIP C po2) (hpo2 : hn B ≤ po2) (w3 : w po2 3 = 0) : LIV C (sset (sset w po2 2 c) po 3 po2) (lnkS r2 y li y2 c) deep po2 y2 (i + 1) := by
  obtain ⟨⟨i1, i2, i3, i4⟩, ⟨j1, j2, j3⟩, ⟨k1, k2, k3⟩, ⟨l1, l2⟩, l3, l4⟩ := hI
  obtain ⟨b1, b2, b3, b4⟩ := id i4
  obtain ⟨q1, q2, q3, q4, q5⟩ := hq
  obtain ⟨p1, p2, p3, p4, p5⟩ := q5 hy
  have s22 : (sset r 307 18 (r 307 18 + 1)) 307 22 = r 307 22 := sset_2 (by omega)
  have s21 : (sset r 307 18 (r 307 18 + 1)) 307 21 = r 307 21 := sset_2 (by omega)
  have s20 : (sset r 307 18 (r 307 18 + 1)) 307 20 = r 307 20 := sset_2 (by omega)
  have s18 : (sset r 307 18 (r 307 18 + 1)) 307 18 = r 307 18 + 1 := sset_e
  have s12 : (sset r 307 18 (r 307 18 + 1)) 307 12 = r 307 12 := sset_2 (by omega)
  have e12 : r2 307 12 = r 307 12 := (q1.k (by omega)).trans s12
  have hle := hG.1.1
  have hpl := isO_lt k1.2.1
  have hXu : XFR B u w := fun o k a b => by
    rw [hX o k a b]
    unfold sset
    rw [if_neg (by omega)]
  have ew : ∀ k, (sset (sset w po2 2 c) po 3 po2) 61 k = w 61 k := fun k => by
    have := k1.1
    rw [sset_1 (by omega), sset_1 (by omega)]
  have g1 : FRS r (sset r 307 18 (r 307 18 + 1)) := FRS.at
  refine ⟨⟨old_X hG.1 i1, by omega, ((((i3.xf i2 hXu).fr g1).fr q1).ln.o (by omega)).o (by have := k1.1; omega), BDR.ln ⟨p1, by omega, by omega, by omega⟩⟩, ⟨?_, ?_, ?_⟩, ⟨hP, ?_, ?_⟩, ⟨hy, ?_⟩, by omega, ?_⟩
  · rw [ew, lnk_k]; exact w4
  · rw [ew, lnk_k]; exact w5
  · rw [ew, lnk_k]; exact w6
  · rw [sset_1 (by omega), sset_2 (by omega)]; exact w3
  · unfold lnkS
    rw [if_neg (by omega), sset_2 (by omega), sset_e]
  · rw [lnk_k, lnk_k]; omega
  · rw [lnk_k]; omega
theorem LFR.cons {r r2 t : Sg} {y y2 li c : Int} (hq1 : FRS (sset r 307 18 (r 307 18 + 1)) r2) (hm : MNS (sset r 307 18 (r 307 18 + 1)) r2) (hF : LFR y2 li (lnkS r2 y li y2 c) t) (hM : MNS (lnkS r2 y li y2 c) t) (hy : 0 ≤ y) (hy2 : y2 = 60 * r 307 12 + r2 307 21 - 1 ∧ r 307 21 + 1 ≤ r2 307 21) (hy0 : 0 ≤ y2) : LFR y li r t ∧ MNS r t := by
  have s22 : (sset r 307 18 (r 307 18 + 1)) 307 22 = r 307 22 := sset_2 (by omega)
  have s21 : (sset r 307 18 (r 307 18 + 1)) 307 21 = r 307 21 := sset_2 (by omega)
  have s20 : (sset r 307 18 (r 307 18 + 1)) 307 20 = r 307 20 := sset_2 (by omega)
  have s18 : (sset r 307 18 (r 307 18 + 1)) 307 18 = r 307 18 + 1 := sset_e
  have s12 : (sset r 307 18 (r 307 18 + 1)) 307 12 = r 307 12 := sset_2 (by omega)
  have e12 : r2 307 12 = r 307 12 := (hq1.k (by omega)).trans s12
  obtain ⟨m1, m2, m3, m4⟩ := hm
  obtain ⟨n1, n2, n3, n4⟩ := hM
  rw [lnk_k] at n1 n2 n3 n4
  refine ⟨fun o i z1 z2 z3 => ?_, by omega, by omega, by omega, by omega⟩
  unfold LFR at hF
  simp only [lnk_k] at hF
  rw [hF o i (fun z => z1 (z.mn ⟨by omega, by omega⟩ ⟨by omega, by omega⟩ ⟨by omega, by omega⟩)) (fun z => z1 (Or.inl (by omega))) (fun z => by omega), lnk_o (fun z => z1 (Or.inl (by omega))) z2 (fun z => by omega), hq1 o i (fun z => z1 (z.mn ⟨by omega, by omega⟩ ⟨by omega, by omega⟩ ⟨by omega, by omega⟩))]
  show (sset r 307 18 (r 307 18 + 1)) o i = r o i
  unfold sset
  rw [if_neg (fun z => z1 (Or.inr (Or.inr (Or.inr (Or.inr (by omega))))))]
set_option maxRecDepth 20000 in
theorem lx_llG {d : Nat} {A : AHp} {w t : Sg} {dp fi la i j9 r9 y : Int} {L6 : Option AV} {Q : Option AV → AHp → Prop} (hd : 1 ≤ d) (hX : XLAY A) (hT : TSM w t) (hi : 0 ≤ i ∧ i ≤ 1000) (hLA : isO A la 6) (hla : 350 ≤ la) (hj : (r9 = 0) ∨ (350 ≤ r9 ∧ isO A r9 6 ∧ w 61 4 = y ∧ btS t y = 124 ∧ 0 ≤ y ∧ y ≤ 110)) (h0 : r9 = 0 → Q (some (vr 0)) (cl A w)) (h1 : r9 ≠ 0 → Q (some (vr fi)) (cl A (sset (sset w r9 2 j9) la 3 r9))) : AW d mX7_readList 53 [some (vr 61), some (vi dp), some (vr fi), some (vr la), some (vi i), some (vi j9), L6] [vr r9] (cl A w) Q := by
  refine aw_astore (pc' := 55) (lv' := [_, _, _, _, _, _, _]) dX7_readList_53 rfl (by decide) rfl ?_
  refine aw_aload (pc' := 57) rfl dX7_readList_55 rfl ?_
  refine aw_ifnonnull (pt := 62) (pf := 60) (by rcases hj with q | q <;> omega) dX7_readList_57 (by decide) rfl (fun c_57 => ?_) (fun c_57 => ?_)
  · obtain ⟨j1, hO9, j2, j3, j4, j5⟩ : 350 ≤ r9 ∧ isO A r9 6 ∧ w 61 4 = y ∧ btS t y = 124 ∧ 0 ≤ y ∧ y ≤ 110 := by
      rcases hj with q | q
      · exact absurd q c_57
      · exact q
    refine aw_aload (pc' := 64) rfl dX7_readList_62 rfl ?_
    refine aw_iload (pc' := 66) rfl dX7_readList_64 rfl ?_
    refine aw_puti (pc' := 69) (k9 := 2) dX7_readList_66 rfl fX7_71 rfl rfl rfl hO9 ?_
    refine aw_aload_n (pc' := 70) rfl dX7_readList_69 rfl ?_
    refine aw_aload (pc' := 72) rfl dX7_readList_70 rfl ?_
    refine aw_putr (pc' := 75) (k9 := 3) dX7_readList_72 rfl fX7_55 rfl rfl rfl hLA ?_
    refine aw_aload (pc' := 77) rfl dX7_readList_75 rfl ?_
    refine aw_astore_n (pc' := 78) (lv' := [_, _, _, _, _, _, _]) dX7_readList_77 rfl (by decide) rfl ?_
    refine aw_iinc (pc' := 81) (lv' := [_, _, _, _, _, _, _]) dX7_readList_78 rfl rfl (by decide) (by first | exact w32_id (by omega) (by omega) | rfl) rfl ?_
    refine aw_goto (pc' := 11) dX7_readList_81 (by decide) ?_
    try simp (disch := omega) only [hv_cl, cl_set, sset_e, sset_1, sset_2, sset_ss, btX_4]
    exact lx_llF (t := t) (y := y) (by omega) hX ((hT.o (by omega)).o (by omega)) (Or.inr ⟨j1, by rw [sset_1 (by omega), sset_1 (by omega)]; exact j2, j3, j4, j5⟩) (h1 c_57)
  · replace c_57 := Classical.not_not.mp c_57
    refine aw_null (pc' := 61) dX7_readList_60 rfl ?_
    refine AW.ret (some (vr _)) dX7_readList_61 trivial ?_
    try simp (disch := omega) only [hv_cl, cl_set, sset_e, sset_1, sset_2, sset_ss, btX_4]
    exact h0 c_57

set_option maxRecDepth 20000 in
theorem lx_ll {d : Nat} {lr : Int → Sg → Option (Int × Sg)} {t : Sg} {e K : Nat} {deep li l fi : Int} (hli : 0 ≤ li) (hd : K + 3 ≤ d) (hdp : 0 ≤ deep ∧ deep ≤ 3) (hde : (e : Int) + deep = 3) (hK : 8 ≤ K) (hLK : deep < 3 → LOKR lr (deep + 1)) (hRL : ∀ e1 : Nat, (e1 : Int) + (deep + 1) = 3 → RLC lr e1 (deep + 1) K) {Q : Option AV → AHp → Prop} : ∀ (m : Nat) (B : AHp) (u r : Sg) (po y i : Int) (L5 L6 : Option AV), LIV B u r deep po y i → LRM lr deep li m r t y l → LFL B u r t po fi l deep Q → LSU B u r t e po y fi l li deep Q → AW d mX7_readList 11 [some (vr 61), some (vi deep), some (vr fi), some (vr po), some (vi i), L5, L6] [] (cl B u) Q := by
  intro m
  induction m using Nat.strongRecOn with
  | _ m ih =>
    intro B u r po y i L5 L6 hI hM hFl hS
    obtain ⟨⟨i1, i2, i3, i4⟩, ⟨j1, j2, j3⟩, ⟨k1, k2, k3⟩, ⟨l1, l2⟩, l3, l4⟩ := id hI
    obtain ⟨b1, b2, b3, b4⟩ := id i4
    have c17 := b1.1.1
    have c18 := b1.1.2.1
    have c12 := b1.1.2.2
    have c22 := b1.2.1
    have hX := i1
    have e62 : u 61 2 = r 307 17 := i3.2.1
    have hpo := k1.1
    refine aw_iload (pc' := 13) rfl dX7_readList_11 rfl ?_
    refine aw_bipush (pc' := 15) (by decide +kernel) dX7_readList_13 rfl ?_
    refine aw_icmp_ge (pt := 84) (pf := 18) dX7_readList_15 (by decide) rfl (fun c_15 => ?_) (fun c_15 => ?_)
    · exfalso
      omega
    · refine aw_aload_n (pc' := 19) rfl dX7_readList_18 rfl ?_
      refine aw_ifnull (pt := 84) (pf := 22) (by omega) dX7_readList_19 (by decide) rfl (fun c_19 => ?_) (fun c_19 => ?_)
      · exfalso
        omega
      · refine aw_aload_n (pc' := 23) rfl dX7_readList_22 rfl ?_
        refine aw_callV (ci := 6) (d' := d - 1) (as := []) (pc' := 26) (by decide) rfl kX7_peek iX7_peek sX7_peek lX7_64 (XO_reader (A := (cl B u)) hX) dX7_readList_23 rfl rfl (Nat.le_of_ble_eq_true rfl) (by omega) ?_
        try simp (disch := omega) only [hv_cl, cl_set, sset_e, sset_1, sset_2, sset_ss, btX_4]
        refine x_peek (s := r) (by omega) hX i3.1 (by omega) ?_
        rw [j1]
        refine aw_callS (d' := d - 1) (as := [_]) (pc' := 29) kX7_isJoin tX7_isJoin lX7_68 dX7_readList_26 rfl rfl (Nat.le_of_ble_eq_true rfl) (by omega) ?_
        refine x_isJoin (by omega) (fun t1 => ?_) (fun t0 => ?_)
        · refine aw_if_eq (pt := 84) (pf := 32) dX7_readList_29 (by decide) rfl (fun c_29 => absurd c_29 (by decide)) (fun _ => ?_)
          refine aw_aload_n (pc' := 33) rfl dX7_readList_32 rfl ?_
          refine aw_callV (ci := 6) (d' := d - 1) (as := []) (pc' := 36) (by decide) rfl kX7_peek iX7_peek sX7_peek lX7_64 (XO_reader (A := (cl B u)) hX) dX7_readList_33 rfl rfl (Nat.le_of_ble_eq_true rfl) (by omega) ?_
          try simp (disch := omega) only [hv_cl, cl_set, sset_e, sset_1, sset_2, sset_ss, btX_4]
          refine x_peek (s := r) (by omega) hX i3.1 (by omega) ?_
          rw [j1]
          refine aw_istore (pc' := 38) (lv' := [_, _, _, _, _, _, _]) dX7_readList_36 rfl (by decide) rfl ?_
          refine aw_aload_n (pc' := 39) rfl dX7_readList_38 rfl ?_
          refine aw_dup (pc' := 40) rfl dX7_readList_39 rfl ?_
          refine aw_geti (pc' := 43) (k9 := 4) dX7_readList_40 rfl fX7_29 rfl (by decide) rfl (XO_reader (A := (cl B u)) hX) ?_
          try simp (disch := omega) only [hv_cl, cl_set, sset_e, sset_1, sset_2, sset_ss, btX_4]
          refine aw_iconst (pc' := 44) (by decide) dX7_readList_43 rfl ?_
          refine aw_iadd (pc' := 45) (by first | exact w32_id (by omega) (by omega) | rfl) dX7_readList_44 rfl ?_
          refine aw_puti (pc' := 48) (k9 := 4) dX7_readList_45 rfl fX7_29 rfl rfl rfl (XO_reader (A := (cl B u)) hX) ?_
          refine aw_aload_n (pc' := 49) rfl dX7_readList_48 rfl ?_
          refine aw_iload_n (pc' := 50) rfl dX7_readList_49 rfl ?_
          refine aw_callV (ci := 6) (d' := d - 1) (as := [_]) (pc' := 53) (by decide) rfl kX7_readPipe iX7_readPipe sX7_readPipe lX7_61 (XO_reader (A := (cl B u)) hX) dX7_readList_50 rfl rfl (Nat.le_of_ble_eq_true rfl) (by omega) ?_
          try simp (disch := omega) only [hv_cl, cl_set, sset_e, sset_1, sset_2, sset_ss, btX_4]
          have hlt := bt_lt (s := r) (k := r 307 18) (by omega)
          have hrec : listL lr deep li m (sset r 307 18 (r 307 18 + 1)) y (btS r (r 307 18)) = some (l, t) := by
            rcases hM with ⟨⟨z1, z2, z3⟩, _⟩ | ⟨_, z⟩
            · omega
            · exact z
          obtain ⟨m2, y2, r2, hm2, g1, g2⟩ := listL_s2 hrec
          have s20 : (sset r 307 18 (r 307 18 + 1)) 307 20 = r 307 20 := sset_2 (by omega)
          have s21 : (sset r 307 18 (r 307 18 + 1)) 307 21 = r 307 21 := sset_2 (by omega)
          have s22 : (sset r 307 18 (r 307 18 + 1)) 307 22 = r 307 22 := sset_2 (by omega)
          have s23 : (sset r 307 18 (r 307 18 + 1)) 307 23 = r 307 23 := sset_2 (by omega)
          have s18 : (sset r 307 18 (r 307 18 + 1)) 307 18 = r 307 18 + 1 := sset_e
          have s12 : (sset r 307 18 (r 307 18 + 1)) 307 12 = r 307 12 := sset_2 (by omega)
          have hB1 : BDR (sset r 307 18 (r 307 18 + 1)) (deep + 1) := ⟨b1.at (by omega), by omega, by omega, by omega⟩
          obtain ⟨y3, r3, gl, hq, hy3⟩ := rd_pipe_ok hLK hdp 7 (sset r 307 18 (r 307 18 + 1)) 0 (-1) (by omega) (by omega) hB1
          rw [g1, Option.some.injEq, Prod.mk.injEq] at gl
          obtain ⟨gl1, gl2⟩ := gl
          subst gl1
          subst gl2
          rw [s12, s21] at hy3
          have hXx : ∀ w : Sg, XFR B (sset u 61 4 (u 61 4 + 1)) w → XFR B u w := fun w q o k a b => by
            rw [q o k a b]
            unfold sset
            rw [if_neg (by omega)]
          refine x_readPipe (K := K) (by omega) hX i2 (i3.at.fr FRS.at) hB1 hdp hde hK hLK hRL (by rw [sset_e, s18, j1]) (by rw [sset_2 (by omega), s22, j2]) (by rw [sset_2 (by omega), s23, j3]) g1 (fun hy2 C w r9 hG hH hXf hfr => ?_) (fun hy2 C w po9 hG hH hXf w4 w5 w6 hP9 hpo9 w2 w3 hJ9 => ?_)
          · rw [s22, s21] at hH
            obtain ⟨hl9, ht9⟩ : l = -1 ∧ t = r2 := by
              rcases g2 with ⟨_, z1, z2⟩ | ⟨z, _⟩
              · exact ⟨z1, z2⟩
              · omega
            have hle := hG.1.1
            have hTw : TSM w t := by
              rw [ht9]
              exact (((i3.xf i2 (hXx w hXf)).fr FRS.at).fr hq.1)
            have hpl := isO_lt k1.2.1
            have h110 := hq.2.2.1
            have hfb := hq.2.2.2.1 hy2
            rw [← ht9] at h110 hfb hfr
            refine lx_llG (la := po) (y := t 307 19) (j9 := btS r (r 307 18)) (by omega) (old_X hG.1 hX) hTw ⟨by omega, by omega⟩ (old_O hG.1 k1.2.1) hpo (by rcases hfr with z | z; exact Or.inl z.1; exact Or.inr ⟨z.1.2, z.2.1, z.2.2.1, z.2.2.2, by omega, by omega⟩) (fun z => ?_) (fun z => ?_)
            · have hw3 : w 61 3 = t 307 19 := by
                rcases hfr with q | q
                · exact q.2
                · omega
              exact hFl (by omega) C w 0 hG (by omega) (fun o k a b _ => hXx w hXf o k a b) (Or.inl ⟨rfl, hw3⟩)
            · have hw4 : (hn B ≤ r9 ∧ 350 ≤ r9) ∧ w 61 4 = t 307 19 ∧ btS t (t 307 19) = 124 := by
                rcases hfr with q | q
                · omega
                · exact ⟨q.1, q.2.2.1, q.2.2.2⟩
              refine hFl (by omega) C _ fi hG (by omega) (fun o k a b c => ?_) (Or.inr ⟨rfl, ?_, hw4.2.2⟩)
              · unfold sset
                rw [if_neg (by omega), if_neg (by omega)]
                exact hXx w hXf o k a b
              · rw [sset_1 (by omega), sset_1 (by omega)]
                exact hw4.2.1
          rw [s22, s21] at hH
          have hle := hG.1.1
          have hPOf : isO C po 6 := old_O hG.1 k1.2.1
          have hO9 : isO C po9 6 := hP9.2.1
          have hp9 := hP9.1
          have e12 : r2 307 12 = r 307 12 := (hq.1.k (by omega)).trans s12
          have hpl := isO_lt k1.2.1
          obtain ⟨n1, n2, n3, n4⟩ := id hq.2.1
          have hy3 := hy3 hy2
          have hM2 : LRM lr deep li m2 (lnkS r2 y li y2 (btS r (r 307 18))) t y2 l := by
            rcases g2 with ⟨z, _⟩ | ⟨_, z⟩
            · omega
            · exact z
          have hx3 : XF3 B po u (sset (sset w po9 2 (btS r (r 307 18))) po 3 po9) := fun o k a b c => by
            unfold sset
            rw [if_neg (by omega), if_neg (by omega)]
            exact hXx w hXf o k a b
          refine aw_astore (pc' := 55) (lv' := [_, _, _, _, _, _, _]) dX7_readList_53 rfl (by decide) rfl ?_
          refine aw_aload (pc' := 57) rfl dX7_readList_55 rfl ?_
          refine aw_ifnonnull (pt := 62) (pf := 60) (by omega) dX7_readList_57 (by decide) rfl (fun c_57 => ?_) (fun c_57 => ?_)
          · refine aw_aload (pc' := 64) rfl dX7_readList_62 rfl ?_
            refine aw_iload (pc' := 66) rfl dX7_readList_64 rfl ?_
            refine aw_puti (pc' := 69) (k9 := 2) dX7_readList_66 rfl fX7_71 rfl rfl rfl hO9 ?_
            refine aw_aload_n (pc' := 70) rfl dX7_readList_69 rfl ?_
            refine aw_aload (pc' := 72) rfl dX7_readList_70 rfl ?_
            refine aw_putr (pc' := 75) (k9 := 3) dX7_readList_72 rfl fX7_55 rfl rfl rfl hPOf ?_
            refine aw_aload (pc' := 77) rfl dX7_readList_75 rfl ?_
            refine aw_astore_n (pc' := 78) (lv' := [_, _, _, _, _, _, _]) dX7_readList_77 rfl (by decide) rfl ?_
            refine aw_iinc (pc' := 81) (lv' := [_, _, _, _, _, _, _]) dX7_readList_78 rfl rfl (by decide) (by first | exact w32_id (by omega) (by omega) | rfl) rfl ?_
            refine aw_goto (pc' := 11) dX7_readList_81 (by decide) ?_
            refine ih m2 (by omega) C _ (lnkS r2 y li y2 (btS r (r 307 18))) _ y2 (i + 1) _ _ (hI.next hlt hq hy2 hy3.1 hy3.2 hG hXf w4 w5 w6 hP9 hpo9.1 w3) hM2 (fun z D w' x hG2 hH2 hX2 hx => ?_) (fun z D w' hG2 hH2 hX2 z4 z5 z6 hRJ hF2 hMn => ?_)
            · refine hFl z D w' x (hG.tr hG2) (by rw [lnk_k, lnk_k] at hH2; omega) (XF3.tr hx3 hX2 hG.1 hpo9.1) hx
            · have hq1 := hq.1
              have hq2 := hq.2.1
              rw [lnk_k, lnk_k] at hH2
              refine hS z D w' (hG.tr hG2) (by omega) (XF3.tr hx3 hX2 hG.1 hpo9.1) z4 z5 z6 ?_ ?_ ?_
              · exact RJ.cons (r := r2) (s1 := sset r 307 18 (r 307 18 + 1)) (v1 := w) (c := btS r (r 307 18)) (li := li) hJ9 hRJ hG.1 hG2.1 i2 ⟨hpo, isO_lt k1.2.1⟩ hpo9 ⟨s12, e12⟩ ⟨s20, s21, s22⟩ hq2 ⟨l1, l2⟩ ⟨hy3.1, by omega⟩ hX2 rfl hF2 hMn
              · exact (LFR.cons hq1 hq2 hF2 hMn l1 hy3 hy2).1
              · exact (LFR.cons hq1 hq2 hF2 hMn l1 hy3 hy2).2
          · replace c_57 := Classical.not_not.mp c_57
            exfalso
            omega
        · refine aw_if_eq (pt := 84) (pf := 32) dX7_readList_29 (by decide) rfl (fun _ => ?_) (fun c_29 => absurd (by decide) c_29)
          refine aw_aload_n (pc' := 85) rfl dX7_readList_84 rfl ?_
          refine AW.ret (some (vr _)) dX7_readList_85 trivial ?_
          try simp (disch := omega) only [hv_cl, cl_set, sset_e, sset_1, sset_2, sset_ss, btX_4]
          have hfin : l = li ∧ t = r := by
            rcases hM with ⟨_, z1, z2⟩ | ⟨z, _⟩
            · exact ⟨z1, z2⟩
            · exact absurd ⟨fun q => t0 (Or.inl q), fun q => t0 (Or.inr (Or.inl q)), fun q => t0 (Or.inr (Or.inr q))⟩ z
          obtain ⟨hl9, ht9⟩ := hfin
          subst ht9
          by_cases hl0 : l < 0
          · exact absurd hl0 (by omega)
          exact hS (by omega) B u GRO.rf (by omega) (fun _ _ _ _ _ => rfl) j1 j2 j3 (RJ.nil k2 k3) LFR.rf MNS.rf

theorem LIV.first {A C : AHp} {v w s1 r : Sg} {deep po y li : Int} (hXA : XLAY A) (hA : 350 ≤ hn A) (hT : TSM v s1) (hdp : 0 ≤ deep ∧ deep ≤ 3) (hB : BDR s1 (deep + 1)) (hq : RQ s1 r y 0 0) (hy : 0 ≤ y) (hy2 : y = 60 * s1 307 12 + r 307 21 - 1) (hG : GRO A C) (hX : XFR A v w) (w4 : w 61 4 = r 307 18) (w5 : w 61 5 = r 307 22 + deep) (w6 : w 61 6 = r 307 23) (hP : PIP C po) (w3 : w po 3 = 0) : LIV C w (lnkS r (-1) li y 59) deep po y 0 := by
  obtain ⟨b1, b2, b3, b4⟩ := hB
  obtain ⟨q1, q2, q3, q4, q5⟩ := hq
  obtain ⟨p1, p2, p3, p4, p5⟩ := q5 hy
  have e12 : r 307 12 = s1 307 12 := q1.k (by omega)
  have hle := hG.1.1
  have b18 := b1.1.2.1
  refine ⟨⟨old_X hG.1 hXA, by omega, ((hT.xf hA hX).fr q1).ln, BDR.ln ⟨p1, by omega, by omega, by omega⟩⟩, ⟨by rw [lnk_k]; exact w4, by rw [lnk_k]; exact w5, by rw [lnk_k]; exact w6⟩, ⟨hP, w3, ?_⟩, ⟨hy, by rw [lnk_k, lnk_k]; omega⟩, by omega, by rw [lnk_k]; omega⟩
  unfold lnkS
  rw [if_pos (by omega), sset_1 (by omega), sset_e]
set_option maxRecDepth 20000 in
theorem x_readList {d : Nat} {s t : Sg} {e K n : Nat} {deep l : Int} {A : AHp} {v : Sg} {Q : Option AV → AHp → Prop} (hd : K + 3 ≤ d) (hX : XLAY A) (hA : 350 ≤ hn A) (hT : TSM v s) (hB : BDR s deep) (hdp : 0 ≤ deep ∧ deep ≤ 3) (hde : (e : Int) + deep = 3) (hK : 8 ≤ K) (hn9 : 4 ≤ ((n + 1 : Nat) : Int) + deep) (hLK : deep < 3 → LOKR (listR n) (deep + 1)) (hRL : ∀ e1 : Nat, (e1 : Int) + (deep + 1) = 3 → RLC (listR n) e1 (deep + 1) K) (h4 : v 61 4 = s 307 18) (h5 : v 61 5 = s 307 22 + deep) (h6 : v 61 6 = max (s 307 23) deep) (h : listR (n + 1) deep s = some (l, t))
  (hFl : l < 0 → ∀ B w r, GRO A B → hn B ≤ hn A + 2 * (60 - s 307 22) + 2 * (60 - s 307 21) + 4 * (4 - deep) → XFR A v w → FAILR A B w t r → Q (some (vr r)) (cl B w))
  (hS : 0 ≤ l → ∀ B w po, GRO A B → hn B = hn A + 2 * (t 307 22 - s 307 22) + 2 * (t 307 21 - s 307 21) → XFR A v w → w 61 4 = t 307 18 → w 61 5 = t 307 22 + deep → w 61 6 = t 307 23 → LJ A B w s t e po l → 350 ≤ po → Q (some (vr po)) (cl B w)) : CALL d mX7_readList [vr 61, vi deep] (cl A v) Q := by
  refine CALL.of (by decide) (Nat.le_of_ble_eq_true rfl) ?_
  change AW d mX7_readList 0 [some (vr 61), some (vi deep), none, none, none, none, none] [] (cl A v) Q
  obtain ⟨b1, b2, b3, b4⟩ := id hB
  have c17 := b1.1.1
  have c18 := b1.1.2.1
  have c12 := b1.1.2.2
  have c22 := b1.2.1
  obtain ⟨l9, t9, gl, hqL, hlL⟩ := rd_listR_ok (n + 1) deep hdp (by omega) s hB
  rw [h, Option.some.injEq, Prod.mk.injEq] at gl
  obtain ⟨gl1, gl2⟩ := gl
  subst gl1
  subst gl2
  unfold listR at h
  have h := (grd_some h).2
  have n20 : (sset (sset s 307 23 (max (s 307 23) deep)) 307 20 (s 307 20 + 1)) 307 20 = s 307 20 + 1 := sset_e
  have nk : ∀ i, i ≠ 20 → i ≠ 23 → (sset (sset s 307 23 (max (s 307 23) deep)) 307 20 (s 307 20 + 1)) 307 i = s 307 i := fun i h1 h2 => by rw [sset_2 h1, sset_2 h2]
  have n12 := nk 12 (by omega) (by omega)
  have n17 := nk 17 (by omega) (by omega)
  have n18 := nk 18 (by omega) (by omega)
  have n21 := nk 21 (by omega) (by omega)
  have n22 := nk 22 (by omega) (by omega)
  have n23 : (sset (sset s 307 23 (max (s 307 23) deep)) 307 20 (s 307 20 + 1)) 307 23 = max (s 307 23) deep := by
    rw [sset_2 (by omega), sset_e]
  have hT1 : TSM v (sset (sset s 307 23 (max (s 307 23) deep)) 307 20 (s 307 20 + 1)) := hT.eq rfl (fun _ => rfl) (fun _ => rfl) n17 (fun k => by rw [sset_1 (by omega), sset_1 (by omega)])
  have hf1 : ∀ q0 q1 r0 r1 k0 k1, FRX q0 q1 r0 r1 k0 k1 s (sset (sset s 307 23 (max (s 307 23) deep)) 307 20 (s 307 20 + 1)) := fun q0 q1 r0 r1 k0 k1 => FRX.st (FRX.st FRX.rf (by unfold INX; omega)) (by unfold INX; omega)
  have hR1 : RB (sset (sset s 307 23 (max (s 307 23) deep)) 307 20 (s 307 20 + 1)) := b1.fr (hf1 0 0 0 0 0 0) (by omega) (by omega) (by omega) (by omega)
  generalize sset (sset s 307 23 (max (s 307 23) deep)) 307 20 (s 307 20 + 1) = s1 at h n20 nk n12 n17 n18 n21 n22 n23 hT1 hR1
  clear nk hf1
  obtain ⟨m2, y, r, hm2, g1, g2⟩ := listL_s2 h
  have hB1 : BDR s1 (deep + 1) := ⟨hR1, by omega, by omega, by omega⟩
  obtain ⟨y3, r3, gl, hq, hy3⟩ := rd_pipe_ok hLK hdp 7 s1 0 (-1) (by omega) (by omega) hB1
  rw [g1, Option.some.injEq, Prod.mk.injEq] at gl
  obtain ⟨gl1, gl2⟩ := gl
  subst gl1
  subst gl2
  refine aw_aload_n (pc' := 1) rfl dX7_readList_0 rfl ?_
  refine aw_iload_n (pc' := 2) rfl dX7_readList_1 rfl ?_
  refine aw_callV (ci := 6) (d' := d - 1) (as := [_]) (pc' := 5) (by decide) rfl kX7_readPipe iX7_readPipe sX7_readPipe lX7_61 (XO_reader (A := (cl A v)) hX) dX7_readList_2 rfl rfl (Nat.le_of_ble_eq_true rfl) (by omega) ?_
  refine x_readPipe (K := K) (by omega) hX hA hT1 hB1 hdp hde hK hLK hRL (by rw [n18]; exact h4) (by rw [n22]; exact h5) (by rw [n23]; exact h6) g1 (fun hy2 C w r9 hG hH hXf hfr => ?_) (fun hy2 C w po9 hG hH hXf w4 w5 w6 hP9 hpo9 w2 w3 hJ9 => ?_)
  · refine aw_astore_n (pc' := 6) (lv' := [_, _, _, _, _, _, _]) dX7_readList_5 rfl (by decide) rfl ?_
    refine aw_aload_n (pc' := 7) rfl dX7_readList_6 rfl ?_
    refine aw_astore_n (pc' := 8) (lv' := [_, _, _, _, _, _, _]) dX7_readList_7 rfl (by decide) rfl ?_
    refine aw_iconst (pc' := 9) (by decide) dX7_readList_8 rfl ?_
    refine aw_istore (pc' := 11) (lv' := [_, _, _, _, _, _, _]) dX7_readList_9 rfl (by decide) rfl ?_
    obtain ⟨hl9, ht9⟩ : l = -1 ∧ t = r := by
      rcases g2 with ⟨_, z1, z2⟩ | ⟨z, _⟩
      · exact ⟨z1, z2⟩
      · omega
    have hTw : TSM w t := by
      rw [ht9]
      exact (hT1.xf hA hXf).fr hq.1
    have h110 := hq.2.2.1
    have hfb := hq.2.2.2.1 hy2
    rw [← ht9] at h110 hfb hfr
    rw [n21, n22] at hH
    refine lx_llF (t := t) (y := t 307 19) (by omega) (old_X hG.1 hX) hTw ?_ (hFl (by omega) C w r9 hG hH hXf hfr)
    rcases hfr with z | z
    · exact Or.inl z.1
    · exact Or.inr ⟨z.1.2, z.2.2.1, z.2.2.2, by omega, by omega⟩
  · refine aw_astore_n (pc' := 6) (lv' := [_, _, _, _, _, _, _]) dX7_readList_5 rfl (by decide) rfl ?_
    refine aw_aload_n (pc' := 7) rfl dX7_readList_6 rfl ?_
    refine aw_astore_n (pc' := 8) (lv' := [_, _, _, _, _, _, _]) dX7_readList_7 rfl (by decide) rfl ?_
    refine aw_iconst (pc' := 9) (by decide) dX7_readList_8 rfl ?_
    refine aw_istore (pc' := 11) (lv' := [_, _, _, _, _, _, _]) dX7_readList_9 rfl (by decide) rfl ?_
    rw [n21, n22] at hH
    rw [n12, n21] at hy3
    have hy3 := hy3 hy2
    have hM2 : LRM (listR n) deep (60 * s 307 12 + s 307 20) m2 (lnkS r (-1) (60 * s 307 12 + s 307 20) y 59) t y l := by
      rcases g2 with ⟨z, _⟩ | ⟨_, z⟩
      · omega
      · exact z
    have hle := hG.1.1
    have hp9 := hP9.1
    have e12 : r 307 12 = s 307 12 := (hq.1.k (by omega)).trans n12
    obtain ⟨u1, u2, u3, u4⟩ := id hq.2.1
    have hLI : LIV C w (lnkS r (-1) (60 * s 307 12 + s 307 20) y 59) deep po9 y 0 := LIV.first hX hA hT1 hdp hB1 hq hy2 (by rw [n12]; exact hy3.1) hG hXf w4 w5 w6 hP9 w3
    refine lx_ll (fi := po9) (K := K) (by omega) hd hdp hde hK hLK hRL m2 C w _ po9 y 0 _ _ hLI hM2 (fun z D w' x hG2 hH2 hX2 hx => ?_) (fun z D w' hG2 hH2 hX2 z4 z5 z6 hRJ hF2 hMn => ?_)
    · rw [lnk_k, lnk_k] at hH2
      refine hFl z D w' x (hG.tr hG2) (by omega) (fun o k a b => ?_) ?_
      · rw [hX2 o k (by omega) b (by omega)]
        exact hXf o k a b
      · rcases hx with ⟨x1, x2⟩ | ⟨x1, x2, x3⟩
        · exact Or.inl ⟨x1, x2⟩
        · exact Or.inr ⟨⟨by omega, by omega⟩, by rw [x1]; exact old_O hG2.1 hP9.2.1, x2, x3⟩
    · rw [lnk_k, lnk_k] at hH2
      obtain ⟨t1, t2, t3, t4, t5⟩ := hqL.2.2.2.2 z
      have t60 := t1.2.1
      refine hS z D w' po9 (hG.tr hG2) (by omega) (fun o k a b => ?_) z4 z5 z6 ?_ hp9
      · rw [hX2 o k (by omega) b (by omega)]
        exact hXf o k a b
      · rw [hlL z]
        exact LJ.of (r := r) (s1 := s1) (v1 := w) hJ9 hRJ hG.1 hG2.1 hA hpo9 ⟨n12, e12⟩ ⟨n20, n21, n22⟩ hq.2.1 rfl (by omega) ⟨hy3.1, by omega⟩ hy2 ⟨by omega, by omega⟩ hX2 w2 rfl hF2 hMn

theorem x_lists : ∀ (n e : Nat) (deep : Int), (0 ≤ deep ∧ deep ≤ 3) → (e : Int) + deep = 3 → 4 ≤ (n : Int) + deep → RLC (listR n) e deep (8 + 3 * n)
  | 0, _, _, _, _, h => by omega
  | n + 1, e, deep, h1, h2, h3 => fun d A v s l t Q hd hX hA hT hB h4 h5 h6 h hFl hS =>
    x_readList (K := 8 + 3 * n) (by omega) hX hA hT hB h1 h2 (by omega) h3 (fun q => rd_listR_ok n (deep + 1) (by omega) (by omega)) (fun e1 q => x_lists n e1 (deep + 1) (by omega) q (by omega)) h4 h5 h6 h hFl hS