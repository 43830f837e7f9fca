/-! ===== the class: readLine, line, of ===== -/
/-- the heap with a new line -/
def lnH (A : AHp) (po a b c : Int) : AHp := hpset (hpset (hpset (hpset (hnew A 3 0 4 (fun _ => 0)) (hn A) 0 po) (hn A) 1 a) (hn A) 2 b) (hn A) 3 c
theorem lnH_old {A : AHp} {po a b c : Int} : OLD A (lnH A po a b c) := old_pset (old_pset (old_pset (old_pset old_new (by omega)) (by omega)) (by omega)) (by omega)
theorem lnH_gro {A : AHp} {po a b c : Int} : GRO A (lnH A po a b c) := by
  refine ⟨lnH_old, ?_⟩
  show ((hs A + 4 : Nat) : Int) + 6 * hn A ≤ hs A + 6 * (hn A + 1)
  omega
theorem lnH_hn {A : AHp} {po a b c : Int} : hn (lnH A po a b c) = hn A + 1 := rfl
theorem lnH_q {A : AHp} {po a b c : Int} (h : 60 ≤ hn A) : isO (lnH A po a b c) (hn A) 3 := by
  show isO (hnew A 3 0 4 (fun _ => 0)) (hn A) 3
  exact new_O h
theorem lnH_p {A : AHp} {po a b c : Int} : hp (lnH A po a b c) (hn A) 0 = po ∧ hp (lnH A po a b c) (hn A) 1 = a ∧ hp (lnH A po a b c) (hn A) 2 = b ∧ hp (lnH A po a b c) (hn A) 3 = c := by
  unfold lnH
  refine ⟨?_, ?_, ?_, ?_⟩
  · rw [hp_pset, if_neg (by omega), hp_pset, if_neg (by omega), hp_pset, if_neg (by omega), hp_pset, if_pos ⟨rfl, rfl⟩]
  · rw [hp_pset, if_neg (by omega), hp_pset, if_neg (by omega), hp_pset, if_pos ⟨rfl, rfl⟩]
  · rw [hp_pset, if_neg (by omega), hp_pset, if_pos ⟨rfl, rfl⟩]
  · rw [hp_pset, if_pos ⟨rfl, rfl⟩]
def XFL (A : AHp) (v w : Sg) : Prop := ∀ o k, o < hn A → ¬ (o = 61 ∧ 2 ≤ k ∧ k ≤ 6) → w o k = v o k
theorem bdr_rd0 {s : Sg} (h17 : 0 ≤ s 307 17 ∧ s 307 17 ≤ 100) (h12 : 0 ≤ s 307 12 ∧ s 307 12 < 8) (ht : ∀ k, 0 ≤ k → k < s 307 17 → 0 ≤ s 322 k ∧ s 322 k ≤ 127) (hw : ∀ j, 0 ≤ j → j < 14 → s 308 j = 16 + j) : BDR (rd0 s) 0 := by
  have e17 : rd0 s 307 17 = s 307 17 := by
    unfold rd0
    rw [sset_2 (by omega), sset_2 (by omega), sset_2 (by omega), sset_2 (by omega), sset_2 (by omega)]
  have e12 : rd0 s 307 12 = s 307 12 := by
    unfold rd0
    rw [sset_2 (by omega), sset_2 (by omega), sset_2 (by omega), sset_2 (by omega), sset_2 (by omega)]
  have e18 : rd0 s 307 18 = 0 := by
    unfold rd0
    rw [sset_2 (by omega), sset_2 (by omega), sset_2 (by omega), sset_2 (by omega), sset_e]
  have e20 : rd0 s 307 20 = 0 := by
    unfold rd0
    rw [sset_2 (by omega), sset_2 (by omega), sset_2 (by omega), sset_e]
  have e21 : rd0 s 307 21 = 0 := by
    unfold rd0
    rw [sset_2 (by omega), sset_2 (by omega), sset_e]
  have e22 : rd0 s 307 22 = 0 := by
    unfold rd0
    rw [sset_2 (by omega), sset_e]
  refine ⟨⟨⟨by omega, by omega, by omega⟩, ⟨by omega, by omega, by omega⟩, fun k k1 k2 => ?_, fun j j1 j2 => ?_⟩, by omega, by omega, by omega⟩
  · rw [e17] at k2
    unfold rd0
    rw [sset_1 (by omega), sset_1 (by omega), sset_1 (by omega), sset_1 (by omega), sset_1 (by omega)]
    exact ht k k1 k2
  · unfold rd0
    rw [sset_1 (by omega), sset_1 (by omega), sset_1 (by omega), sset_1 (by omega), sset_1 (by omega)]
    exact hw j j1 j2
theorem rd0_k {s : Sg} {i : Int} (h : i ≠ 18 ∧ i ≠ 20 ∧ i ≠ 21 ∧ i ≠ 22 ∧ i ≠ 23) : rd0 s 307 i = s 307 i := by
  unfold rd0
  rw [sset_2 (by omega), sset_2 (by omega), sset_2 (by omega), sset_2 (by omega), sset_2 (by omega)]
theorem rd0_o {s : Sg} {o i : Int} (h : o ≠ 307) : rd0 s o i = s o i := by
  unfold rd0
  rw [sset_1 h, sset_1 h, sset_1 h, sset_1 h, sset_1 h]
theorem rd0_z {s : Sg} {i : Int} (h : i = 18 ∨ i = 20 ∨ i = 21 ∨ i = 22 ∨ i = 23) : rd0 s 307 i = 0 := by
  unfold rd0
  rcases h with rfl | rfl | rfl | rfl | rfl
  · rw [sset_2 (by omega), sset_2 (by omega), sset_2 (by omega), sset_2 (by omega), sset_e]
  · rw [sset_2 (by omega), sset_2 (by omega), sset_2 (by omega), sset_e]
  · rw [sset_2 (by omega), sset_2 (by omega), sset_e]
  · rw [sset_2 (by omega), sset_e]
  · rw [sset_e]
theorem LJ.up {A B C : AHp} {v w s t : Sg} {e : Nat} {po l : Int} (h : LJ A B v s t e po l) (hO : OLD B C) (hw : ∀ o k, hn A ≤ o → o < hn B → w o k = v o k) : LJ A C w s t e po l := fun D x u o1 o2 o3 => h D x u (old_tr hO o1) (fun o k a b => (o2 o k a (Int.lt_of_lt_of_le b hO.1)).trans (hw o k a b)) o3
set_option maxRecDepth 20000 in
theorem x_readLine {d : Nat} {s t : Sg} {l : Int} {A : AHp} {v : Sg} {Q : Option AV → AHp → Prop} (hd : 21 ≤ d) (hX : XLAY A) (hA : 350 ≤ hn A) (hT : TSM v s) (hB : BDR (rd0 s) 0) (h : listR 4 0 (rd0 s) = some (l, t))
  (hN : (l < 0 ∨ t 307 18 < t 307 17) → ∀ B w, GRO A B → hn B ≤ hn A + 300 → XFL A v w → w 61 2 = 0 → w 61 3 = (if l < 0 then t 307 19 else t 307 18) → Q (some (vr 0)) (cl B w))
  (hS : 0 ≤ l → ¬ t 307 18 < t 307 17 → ∀ B w q po, GRO A B → hn B ≤ hn A + 300 → XFL A v w → w 61 2 = 0 → 350 ≤ q → isO B q 3 → hp B q 0 = po → hp B q 1 = cnT t 60 (t 309 l) → hp B q 2 = t 307 22 → hp B q 3 = t 307 23 → LJ A B w (rd0 s) t 3 po l → Q (some (vr q)) (cl B w)) : CALL d mX7_readLine [vr 61] (cl A v) Q := by
  refine CALL.of (by decide) (Nat.le_of_ble_eq_true rfl) ?_
  change AW d mX7_readLine 0 [some (vr 61), none] [] (cl A v) Q
  obtain ⟨b1, b2, b3, b4⟩ := id hB
  obtain ⟨l9, t9, gl, ⟨q1, q2, q3, q4, q5⟩, hlL⟩ := rd_listR_ok 4 0 (by omega) (by omega) _ hB
  rw [h, Option.some.injEq, Prod.mk.injEq] at gl
  obtain ⟨gl1, gl2⟩ := gl
  subst gl1
  subst gl2
  have e62 : v 61 2 = s 307 17 := hT.2.1
  have e17 : t 307 17 = s 307 17 := (q1.k (by omega)).trans (rd0_k (by omega))
  have hl100 := hT.1.1
  have z18 := rd0_z (s := s) (i := 18) (by omega)
  have z20 := rd0_z (s := s) (i := 20) (by omega)
  have z21 := rd0_z (s := s) (i := 21) (by omega)
  have z22 := rd0_z (s := s) (i := 22) (by omega)
  have z23 := rd0_z (s := s) (i := 23) (by omega)
  obtain ⟨m1, m2, m3, m4⟩ := id q2
  refine aw_aload_n (pc' := 1) rfl dX7_readLine_0 rfl ?_
  refine aw_iconst (pc' := 2) (by decide) dX7_readLine_1 rfl ?_
  refine aw_puti (pc' := 5) (k9 := 4) dX7_readLine_2 rfl fX7_29 rfl rfl rfl (XO_reader (A := (cl A v)) hX) ?_
  refine aw_aload_n (pc' := 6) rfl dX7_readLine_5 rfl ?_
  refine aw_iconst (pc' := 7) (by decide) dX7_readLine_6 rfl ?_
  refine aw_puti (pc' := 10) (k9 := 5) dX7_readLine_7 rfl fX7_32 rfl rfl rfl (XO_reader (A := (cl A v)) hX) ?_
  refine aw_aload_n (pc' := 11) rfl dX7_readLine_10 rfl ?_
  refine aw_iconst (pc' := 12) (by decide) dX7_readLine_11 rfl ?_
  refine aw_puti (pc' := 15) (k9 := 6) dX7_readLine_12 rfl fX7_35 rfl rfl rfl (XO_reader (A := (cl A v)) hX) ?_
  refine aw_aload_n (pc' := 16) rfl dX7_readLine_15 rfl ?_
  refine aw_iconst (pc' := 17) (by decide) dX7_readLine_16 rfl ?_
  refine aw_callV (ci := 6) (d' := d - 1) (as := [_]) (pc' := 20) (by decide) rfl kX7_readList iX7_readList sX7_readList lX7_38 (XO_reader (A := (cl A v)) hX) dX7_readLine_17 rfl rfl (Nat.le_of_ble_eq_true rfl) (by omega) ?_
  try simp (disch := omega) only [hv_cl, cl_set, sset_e, sset_1, sset_2, sset_ss, btX_4]
  have v0k : ∀ o k, ¬ (o = 61 ∧ 4 ≤ k ∧ k ≤ 6) → (sset (sset (sset v 61 4 0) 61 5 0) 61 6 0) o k = v o k := fun o k q => by
    unfold sset
    rw [if_neg (by omega), if_neg (by omega), if_neg (by omega)]
  have hT0 : TSM (sset (sset (sset v 61 4 0) 61 5 0) 61 6 0) (rd0 s) := hT.eq (v0k _ _ (by omega)) (fun _ => v0k _ _ (by omega)) (fun _ => v0k _ _ (by omega)) (rd0_k (by omega)) (fun _ => rd0_o (by omega))
  have hXL : ∀ w, XFR A (sset (sset (sset v 61 4 0) 61 5 0) 61 6 0) w → XFL A v w := fun w q o k a b => by
    rw [q o k a (by omega)]
    exact v0k o k (by omega)
  refine x_lists 4 3 0 (by omega) (by omega) (by omega) (d - 1) A _ (rd0 s) l t _ (by omega) hX hA hT0 hB (by rw [sset_2 (by omega), sset_2 (by omega), sset_e, z18]) (by rw [sset_2 (by omega), sset_e, z22]; rfl) (by rw [sset_e, z23]; rfl) h (fun hl0 B w r9 hG hH hXf hfr => ?_) (fun hl0 B w po hG hH hXf w4 w5 w6 hJ hpo => ?_)
  · have hX2 := old_X hG.1 hX
    have hfb := q4 hl0
    have hx62 : w 61 2 = v 61 2 := (hXf _ _ (by omega) (by omega)).trans (v0k _ _ (by omega))
    have hlt9 : r9 ≠ 0 → w 61 4 = t 307 19 ∧ t 307 19 < v 61 2 := fun q => by
      rcases hfr with z | z
      · exact absurd z.1 q
      · have := bt_lt (s := t) (k := t 307 19) (by rw [z.2.2.2]; omega)
        exact ⟨z.2.2.1, by omega⟩
    have h349 : r9 ≠ 34 := by
      rcases hfr with z | z <;> omega
    have hw3 : r9 = 0 → w 61 3 = t 307 19 := fun q => by
      rcases hfr with z | z
      · exact z.2
      · omega
    have hle := hG.1.1
    refine aw_astore_n (pc' := 21) (lv' := [_, _]) dX7_readLine_20 rfl (by decide) rfl ?_
    refine aw_aload_n (pc' := 22) rfl dX7_readLine_21 rfl ?_
    refine aw_ifnull (pt := 47) (pf := 25) h349 dX7_readLine_22 (by decide) rfl (fun c_22 => ?_) (fun c_22 => ?_)
    · refine aw_aload_n (pc' := 48) rfl dX7_readLine_47 rfl ?_
      refine aw_iconst (pc' := 49) (by decide) dX7_readLine_48 rfl ?_
      refine aw_puti (pc' := 52) (k9 := 2) dX7_readLine_49 rfl fX7_25 rfl rfl rfl (XO_reader (A := (cl B w)) hX2) ?_
      refine aw_aload_n (pc' := 53) rfl dX7_readLine_52 rfl ?_
      refine aw_ifnonnull (pt := 60) (pf := 56) (by first | exact h349 | omega) dX7_readLine_53 (by decide) rfl (fun c_53 => ?_) (fun c_53 => ?_)
      · exfalso
        omega
      · replace c_53 := Classical.not_not.mp c_53
        refine aw_null (pc' := 57) dX7_readLine_56 rfl ?_
        refine aw_goto (pc' := 80) dX7_readLine_57 (by decide) ?_
        refine AW.ret (some (vr _)) dX7_readLine_80 trivial ?_
        try simp (disch := omega) only [hv_cl, cl_set, sset_e, sset_1, sset_2, sset_ss, btX_4]
        first
        | (have hz9 := hw3 c_22
           refine hN (Or.inl hl0) B _ hG (by omega) (fun o k a b => ?_) ?_ ?_
           · rw [show (sset w 61 2 0) o k = w o k from if_neg (by omega)]
             exact hXL w hXf o k a b
           · rw [sset_e]
           · rw [sset_2 (by omega), hz9, if_pos hl0])
        | (have hz9 := hlt9 c_22
           refine hN (Or.inl hl0) B _ hG (by omega) (fun o k a b => ?_) ?_ ?_
           · rw [show (sset (sset w 61 3 (w 61 4)) 61 2 0) o k = w o k from by unfold sset; rw [if_neg (by omega), if_neg (by omega)]]
             exact hXL w hXf o k a b
           · rw [sset_e]
           · rw [sset_2 (by omega), sset_e, hz9.1, if_pos hl0])
    · refine aw_aload_n (pc' := 26) rfl dX7_readLine_25 rfl ?_
      refine aw_geti (pc' := 29) (k9 := 4) dX7_readLine_26 rfl fX7_29 rfl (by decide) rfl (XO_reader (A := (cl B w)) hX2) ?_
      try simp (disch := omega) only [hv_cl, cl_set, sset_e, sset_1, sset_2, sset_ss, btX_4]
      refine aw_aload_n (pc' := 30) rfl dX7_readLine_29 rfl ?_
      refine aw_geti (pc' := 33) (k9 := 2) dX7_readLine_30 rfl fX7_25 rfl (by decide) rfl (XO_reader (A := (cl B w)) hX2) ?_
      try simp (disch := omega) only [hv_cl, cl_set, sset_e, sset_1, sset_2, sset_ss, btX_4]
      refine aw_icmp_ge (pt := 47) (pf := 36) dX7_readLine_33 (by decide) rfl (fun c_33 => ?_) (fun c_33 => ?_)
      · have hq9 := hlt9 c_22 -- DONE
        exfalso
        omega
      · refine aw_aload_n (pc' := 37) rfl dX7_readLine_36 rfl ?_
        refine aw_aload_n (pc' := 38) rfl dX7_readLine_37 rfl ?_
        refine aw_geti (pc' := 41) (k9 := 4) dX7_readLine_38 rfl fX7_29 rfl (by decide) rfl (XO_reader (A := (cl B w)) hX2) ?_
        try simp (disch := omega) only [hv_cl, cl_set, sset_e, sset_1, sset_2, sset_ss, btX_4]
        refine aw_callV (ci := 6) (d' := d - 1) (as := [_]) (pc' := 44) (by decide) rfl kX7_faultAt iX7_faultAt sX7_faultAt lX7_42 (XO_reader (A := (cl B w)) hX2) dX7_readLine_41 rfl rfl (Nat.le_of_ble_eq_true rfl) (by omega) ?_
        try simp (disch := omega) only [hv_cl, cl_set, sset_e, sset_1, sset_2, sset_ss, btX_4]
        refine x_faultAt (by omega) hX2 ?_
        refine aw_pop (pc' := 45) rfl dX7_readLine_44 rfl ?_
        refine aw_null (pc' := 46) dX7_readLine_45 rfl ?_
        refine aw_astore_n (pc' := 47) (lv' := [_, _]) dX7_readLine_46 rfl (by decide) rfl ?_
        refine aw_aload_n (pc' := 48) rfl dX7_readLine_47 rfl ?_
        refine aw_iconst (pc' := 49) (by decide) dX7_readLine_48 rfl ?_
        refine aw_puti (pc' := 52) (k9 := 2) dX7_readLine_49 rfl fX7_25 rfl rfl rfl (XO_reader (A := (cl B w)) hX2) ?_
        refine aw_aload_n (pc' := 53) rfl dX7_readLine_52 rfl ?_
        refine aw_ifnonnull (pt := 60) (pf := 56) (by first | exact h349 | omega) dX7_readLine_53 (by decide) rfl (fun c_53 => ?_) (fun c_53 => ?_)
        · exfalso
          omega
        · replace c_53 := Classical.not_not.mp c_53
          refine aw_null (pc' := 57) dX7_readLine_56 rfl ?_
          refine aw_goto (pc' := 80) dX7_readLine_57 (by decide) ?_
          refine AW.ret (some (vr _)) dX7_readLine_80 trivial ?_
          try simp (disch := omega) only [hv_cl, cl_set, sset_e, sset_1, sset_2, sset_ss, btX_4]
          first
          | (have hz9 := hw3 c_22
             refine hN (Or.inl hl0) B _ hG (by omega) (fun o k a b => ?_) ?_ ?_
             · rw [show (sset w 61 2 0) o k = w o k from if_neg (by omega)]
               exact hXL w hXf o k a b
             · rw [sset_e]
             · rw [sset_2 (by omega), hz9, if_pos hl0])
          | (have hz9 := hlt9 c_22
             refine hN (Or.inl hl0) B _ hG (by omega) (fun o k a b => ?_) ?_ ?_
             · rw [show (sset (sset w 61 3 (w 61 4)) 61 2 0) o k = w o k from by unfold sset; rw [if_neg (by omega), if_neg (by omega)]]
               exact hXL w hXf o k a b
             · rw [sset_e]
             · rw [sset_2 (by omega), sset_e, hz9.1, if_pos hl0])
  · have hX2 := old_X hG.1 hX
    have h349 : po ≠ 34 := by omega
    have hle := hG.1.1
    have hx62 : w 61 2 = v 61 2 := (hXf _ _ (by omega) (by omega)).trans (v0k _ _ (by omega))
    obtain ⟨y1, y2, y3, y4, y5⟩ := q5 hl0
    have hy1 := y1.2.1
    refine aw_astore_n (pc' := 21) (lv' := [_, _]) dX7_readLine_20 rfl (by decide) rfl ?_
    refine aw_aload_n (pc' := 22) rfl dX7_readLine_21 rfl ?_
    refine aw_ifnull (pt := 47) (pf := 25) h349 dX7_readLine_22 (by decide) rfl (fun c_22 => ?_) (fun c_22 => ?_)
    · exfalso
      omega
    · refine aw_aload_n (pc' := 26) rfl dX7_readLine_25 rfl ?_
      refine aw_geti (pc' := 29) (k9 := 4) dX7_readLine_26 rfl fX7_29 rfl (by decide) rfl (XO_reader (A := (cl B w)) hX2) ?_
      try simp (disch := omega) only [hv_cl, cl_set, sset_e, sset_1, sset_2, sset_ss, btX_4]
      refine aw_aload_n (pc' := 30) rfl dX7_readLine_29 rfl ?_
      refine aw_geti (pc' := 33) (k9 := 2) dX7_readLine_30 rfl fX7_25 rfl (by decide) rfl (XO_reader (A := (cl B w)) hX2) ?_
      try simp (disch := omega) only [hv_cl, cl_set, sset_e, sset_1, sset_2, sset_ss, btX_4]
      refine aw_icmp_ge (pt := 47) (pf := 36) dX7_readLine_33 (by decide) rfl (fun c_33 => ?_) (fun c_33 => ?_)
      · refine aw_aload_n (pc' := 48) rfl dX7_readLine_47 rfl ?_
        refine aw_iconst (pc' := 49) (by decide) dX7_readLine_48 rfl ?_
        refine aw_puti (pc' := 52) (k9 := 2) dX7_readLine_49 rfl fX7_25 rfl rfl rfl (XO_reader (A := (cl B w)) hX2) ?_
        refine aw_aload_n (pc' := 53) rfl dX7_readLine_52 rfl ?_
        refine aw_ifnonnull (pt := 60) (pf := 56) (by first | exact h349 | omega) dX7_readLine_53 (by decide) rfl (fun c_53 => ?_) (fun c_53 => ?_)
        · refine aw_new (ci := 2) (pc' := 63) (by decide) zX7_46 w2_new w2_ini dX7_readLine_60 rfl ?_
          try simp (disch := omega) only [hv_cl, cl_set, sset_e, sset_1, sset_2, sset_ss, btX_4]
          rw [hn_cl, clN_2]
          refine aw_dup (pc' := 64) rfl dX7_readLine_63 rfl ?_
          refine aw_aload_n (pc' := 65) rfl dX7_readLine_64 rfl ?_
          refine aw_aload_n (pc' := 66) rfl dX7_readLine_65 rfl ?_
          refine aw_callS (d' := d - 1) (as := [_]) (pc' := 69) kX7_sizeOf tX7_sizeOf lX7_48 dX7_readLine_66 rfl rfl (Nat.le_of_ble_eq_true rfl) (by omega) ?_
          try simp (disch := omega) only [hv_cl, cl_set, sset_e, sset_1, sset_2, sset_ss, btX_4]
          rw [cl_new]
          obtain ⟨_, hch⟩ := hJ (hnew B (2 + 1) 0 4 (fun _ => 0)) (vz (sset w 61 2 0) (hn B)) t old_new (fun o k a b => by rw [vz_ne _ (by omega), sset_1 (by omega)]) (fun _ _ _ => rfl)
          refine x_sizeOf (T := t) (P := GQ (hnew B (2 + 1) 0 4 (fun _ => 0)) (vz (sset w 61 2 0) (hn B)) t (rd0 s 307 12) 3) (p := t 309 l) (m := 60) (by omega) (fun po p hp9 => hp9.1.pw.1.1) hch (by omega) ?_
          have e5 : (vz (sset w 61 2 0) (hn B)) 61 5 = t 307 22 := by rw [vz_ne _ (by omega), sset_2 (by omega), w5]; omega
          have e6 : (vz (sset w 61 2 0) (hn B)) 61 6 = t 307 23 := by rw [vz_ne _ (by omega), sset_2 (by omega), w6]
          have hX3 : XLAY (hnew B (2 + 1) 0 4 (fun _ => 0)) := old_X old_new hX2
          refine aw_aload_n (pc' := 70) rfl dX7_readLine_69 rfl ?_
          refine aw_geti (pc' := 73) (k9 := 5) dX7_readLine_70 rfl fX7_32 rfl (by decide) rfl (XO_reader (A := (cl (hnew B (2 + 1) 0 4 (fun _ => 0)) w)) hX3) ?_
          try simp (disch := omega) only [hv_cl, cl_set, sset_e, sset_1, sset_2, sset_ss, btX_4]
          rw [e5]
          refine aw_aload_n (pc' := 74) rfl dX7_readLine_73 rfl ?_
          refine aw_geti (pc' := 77) (k9 := 6) dX7_readLine_74 rfl fX7_35 rfl (by decide) rfl (XO_reader (A := (cl (hnew B (2 + 1) 0 4 (fun _ => 0)) w)) hX3) ?_
          try simp (disch := omega) only [hv_cl, cl_set, sset_e, sset_1, sset_2, sset_ss, btX_4]
          rw [e6]
          refine aw_callI (d' := d - 1) (as := [_, _, _, _]) (pc' := 80) rfl kX3_init rfl iX3_init lX7_52 (by omega) dX7_readLine_77 rfl rfl (Nat.le_of_ble_eq_true rfl) (by omega) ?_
          refine x_newLine (by omega) (new_O (by omega)) ?_
          refine AW.ret (some (vr _)) dX7_readLine_80 trivial ?_
          try simp (disch := omega) only [hv_cl, cl_set, sset_e, sset_1, sset_2, sset_ss, btX_4]
          have hp9 := lnH_p (A := B) (po := po) (a := cnT t 60 (t 309 l)) (b := t 307 22) (c := t 307 23)
          refine hS hl0 (by omega) (lnH B po (cnT t 60 (t 309 l)) (t 307 22) (t 307 23)) (vz (sset w 61 2 0) (hn B)) (hn B) po (hG.tr lnH_gro) (by rw [lnH_hn]; omega) (fun o k a b => ?_) ?_ (by omega) (lnH_q (by omega)) hp9.1 hp9.2.1 hp9.2.2.1 hp9.2.2.2 (hJ.up lnH_old (fun o k a b => ?_))
          · rw [vz_ne _ (by omega), show (sset w 61 2 0) o k = w o k from if_neg (by omega)]
            exact hXL w hXf o k a b
          · rw [vz_ne _ (by omega), sset_e]
          · rw [vz_ne _ (by omega), sset_1 (by omega)]
        · replace c_53 := Classical.not_not.mp c_53
          exfalso
          omega
      · refine aw_aload_n (pc' := 37) rfl dX7_readLine_36 rfl ?_
        refine aw_aload_n (pc' := 38) rfl dX7_readLine_37 rfl ?_
        refine aw_geti (pc' := 41) (k9 := 4) dX7_readLine_38 rfl fX7_29 rfl (by decide) rfl (XO_reader (A := (cl B w)) hX2) ?_
        try simp (disch := omega) only [hv_cl, cl_set, sset_e, sset_1, sset_2, sset_ss, btX_4]
        refine aw_callV (ci := 6) (d' := d - 1) (as := [_]) (pc' := 44) (by decide) rfl kX7_faultAt iX7_faultAt sX7_faultAt lX7_42 (XO_reader (A := (cl B w)) hX2) dX7_readLine_41 rfl rfl (Nat.le_of_ble_eq_true rfl) (by omega) ?_
        try simp (disch := omega) only [hv_cl, cl_set, sset_e, sset_1, sset_2, sset_ss, btX_4]
        refine x_faultAt (by omega) hX2 ?_
        refine aw_pop (pc' := 45) rfl dX7_readLine_44 rfl ?_
        refine aw_null (pc' := 46) dX7_readLine_45 rfl ?_
        refine aw_astore_n (pc' := 47) (lv' := [_, _]) dX7_readLine_46 rfl (by decide) rfl ?_
        refine aw_aload_n (pc' := 48) rfl dX7_readLine_47 rfl ?_
        refine aw_iconst (pc' := 49) (by decide) dX7_readLine_48 rfl ?_
        refine aw_puti (pc' := 52) (k9 := 2) dX7_readLine_49 rfl fX7_25 rfl rfl rfl (XO_reader (A := (cl B w)) hX2) ?_
        refine aw_aload_n (pc' := 53) rfl dX7_readLine_52 rfl ?_
        refine aw_ifnonnull (pt := 60) (pf := 56) (by first | exact h349 | omega) dX7_readLine_53 (by decide) rfl (fun c_53 => ?_) (fun c_53 => ?_)
        · exfalso
          omega
        · replace c_53 := Classical.not_not.mp c_53
          refine aw_null (pc' := 57) dX7_readLine_56 rfl ?_
          refine aw_goto (pc' := 80) dX7_readLine_57 (by decide) ?_
          refine AW.ret (some (vr _)) dX7_readLine_80 trivial ?_
          try simp (disch := omega) only [hv_cl, cl_set, sset_e, sset_1, sset_2, sset_ss, btX_4]
          refine hN (Or.inr (by omega)) B _ hG (by omega) (fun o k a b => ?_) ?_ ?_
          · rw [show (sset (sset w 61 3 (w 61 4)) 61 2 0) o k = w o k from by unfold sset; rw [if_neg (by omega), if_neg (by omega)]]
            exact hXL w hXf o k a b
          · rw [sset_e]
          · rw [sset_2 (by omega), sset_e, w4, if_neg (by omega)]

set_option maxRecDepth 20000 in
theorem x_line {d : Nat} {s t : Sg} {l : Int} {A : AHp} {v : Sg} {Q : Option AV → AHp → Prop} (hd : 22 ≤ d) (hX : XLAY A) (hA : 350 ≤ hn A) (hln : 0 ≤ v 64 1 ∧ v 64 1 ≤ 8) (hls : ∀ j, 0 ≤ j → j < v 64 1 → isO A (v 65 j) 3) (hF : 8 ≤ v 64 1 → Q (some (vi (-4))) (cl A v)) (hT : v 64 1 < 8 → TSM v s ∧ BDR (rd0 s) 0 ∧ listR 4 0 (rd0 s) = some (l, t) ∧ (l < 0 → 0 ≤ t 307 19 ∧ t 307 19 ≤ 1000) ∧ 0 ≤ t 307 18 ∧ t 307 18 ≤ 1000)
  (hN : v 64 1 < 8 → (l < 0 ∨ t 307 18 < t 307 17) → ∀ B w, GRO A B → hn B ≤ hn A + 300 → XFL A v w → w 61 2 = 0 → Q (some (vi (-10 - (if l < 0 then t 307 19 else t 307 18)))) (cl B w))
  (hS : v 64 1 < 8 → 0 ≤ l → ¬ t 307 18 < t 307 17 → ∀ B w q po, GRO A B → hn B ≤ hn A + 300 → XFL A v w → w 61 2 = 0 → 350 ≤ q → isO B q 3 → hp B q 0 = po → hp B q 1 = cnT t 60 (t 309 l) → hp B q 2 = t 307 22 → hp B q 3 = t 307 23 → LJ A B w (rd0 s) t 3 po l → Q (some (vi (v 64 1))) (cl B (sset (sset w 65 (v 64 1) q) 64 1 (v 64 1 + 1)))) : CALL d mX12_line [vr 60] (cl A v) Q := by
  refine CALL.of (by decide) (Nat.le_of_ble_eq_true rfl) ?_
  change AW d mX12_line 0 [some (vr 60), none] [] (cl A v) Q
  refine aw_aload_n (pc' := 1) rfl dX12_line_0 rfl ?_
  refine aw_getp (pc' := 4) (k9 := 1) (p := 64) dX12_line_1 rfl fX12_21 rfl rfl rfl (XO (A := (cl A v)) hX) (X_machine (A := (cl A v)) hX) ?_
  refine aw_geti (pc' := 7) (k9 := 1) dX12_line_4 rfl fX12_70 rfl (by decide) rfl (XO_machine (A := (cl A v)) hX) ?_
  try simp (disch := omega) only [hv_cl, cl_set, sset_e, sset_1, sset_2, sset_ss, btX_4]
  refine aw_bipush (pc' := 9) (by decide +kernel) dX12_line_7 rfl ?_
  refine aw_icmp_lt (pt := 15) (pf := 12) dX12_line_9 (by decide) rfl (fun c_9 => ?_) (fun c_9 => ?_)
  · refine aw_aload_n (pc' := 16) rfl dX12_line_15 rfl ?_
    refine aw_getp (pc' := 19) (k9 := 0) (p := 61) dX12_line_16 rfl fX12_14 rfl rfl rfl (XO (A := (cl A v)) hX) (X_reader (A := (cl A v)) hX) ?_
    refine aw_callV (ci := 6) (d' := d - 1) (as := []) (pc' := 22) (by decide) rfl kX7_readLine iX7_readLine sX7_readLine lX12_73 (XO_reader (A := (cl A v)) hX) dX12_line_19 rfl rfl (Nat.le_of_ble_eq_true rfl) (by omega) ?_
    obtain ⟨g1, g2, g3, g4, g5⟩ := hT (by omega)
    refine x_readLine (by omega) hX hA g1 g2 g3 (fun h1 B w hG hH hXl w2 w3 => ?_) (fun h1 h2 B w q po hG hH hXl w2 hq9 hO p0 p1 p2 p3 hJ => ?_)
    · have hX2 := old_X hG.1 hX
      have hfb : 0 ≤ (if l < 0 then t 307 19 else t 307 18) ∧ (if l < 0 then t 307 19 else t 307 18) ≤ 1000 := by
        split
        · next z => exact g4 z
        · exact g5
      refine aw_astore_n (pc' := 23) (lv' := [_, _]) dX12_line_22 rfl (by decide) rfl ?_
      refine aw_aload_n (pc' := 24) rfl dX12_line_23 rfl ?_
      refine aw_ifnonnull (pt := 40) (pf := 27) (by omega) dX12_line_24 (by decide) rfl (fun c_24 => ?_) (fun c_24 => ?_)
      · exfalso
        omega
      · replace c_24 := Classical.not_not.mp c_24
        refine aw_bipush (pc' := 29) (by decide +kernel) dX12_line_27 rfl ?_
        refine aw_aload_n (pc' := 30) rfl dX12_line_29 rfl ?_
        refine aw_getp (pc' := 33) (k9 := 0) (p := 61) dX12_line_30 rfl fX12_14 rfl rfl rfl (XO (A := (cl B w)) hX2) (X_reader (A := (cl B w)) hX2) ?_
        refine aw_geti (pc' := 36) (k9 := 3) dX12_line_33 rfl fX12_77 rfl (by decide) rfl (XO_reader (A := (cl B w)) hX2) ?_
        try simp (disch := omega) only [hv_cl, cl_set, sset_e, sset_1, sset_2, sset_ss, btX_4]
        rw [w3]
        refine aw_isub (pc' := 37) (by first | exact w32_id (by omega) (by omega) | rfl) dX12_line_36 rfl ?_
        refine aw_goto (pc' := 48) dX12_line_37 (by decide) ?_
        refine AW.ret (some (vi _)) dX12_line_48 trivial ?_
        try simp (disch := omega) only [hv_cl, cl_set, sset_e, sset_1, sset_2]
        exact hN (by omega) h1 B w hG hH hXl w2
    · have hX2 := old_X hG.1 hX
      have hle := hG.1.1
      have e64 : w 64 1 = v 64 1 := hXl _ _ (by omega) (by omega)
      have e65 : ∀ j, w 65 j = v 65 j := fun j => hXl _ _ (by omega) (by omega)
      refine aw_astore_n (pc' := 23) (lv' := [_, _]) dX12_line_22 rfl (by decide) rfl ?_
      refine aw_aload_n (pc' := 24) rfl dX12_line_23 rfl ?_
      refine aw_ifnonnull (pt := 40) (pf := 27) (by omega) dX12_line_24 (by decide) rfl (fun c_24 => ?_) (fun c_24 => ?_)
      · refine aw_aload_n (pc' := 41) rfl dX12_line_40 rfl ?_
        refine aw_getp (pc' := 44) (k9 := 1) (p := 64) dX12_line_41 rfl fX12_21 rfl rfl rfl (XO (A := (cl B w)) hX2) (X_machine (A := (cl B w)) hX2) ?_
        refine aw_aload_n (pc' := 45) rfl dX12_line_44 rfl ?_
        refine aw_callV (ci := 3) (d' := d - 1) (as := [_]) (pc' := 48) (by decide) rfl kX4_add iX4_add sX4_add lX12_80 (XO_machine (A := (cl B w)) hX2) dX12_line_45 rfl rfl (Nat.le_of_ble_eq_true rfl) (by omega) ?_
        try simp (disch := omega) only [hv_cl, cl_set, sset_e, sset_1, sset_2]
        refine x_addLine (by omega) hX2 (by rw [e64]; exact hln) (fun j j0 j1 => by rw [e65]; rw [e64] at j1; exact old_O hG.1 (hls j j0 j1)) hO (fun z => by omega) (fun z => ?_)
        rw [e64]
        refine AW.ret (some (vi _)) dX12_line_48 trivial ?_
        try simp (disch := omega) only [hv_cl, cl_set, sset_e, sset_1, sset_2]
        exact hS (by omega) h1 h2 B w q po hG hH hXl w2 hq9 hO p0 p1 p2 p3 hJ
      · replace c_24 := Classical.not_not.mp c_24
        exfalso
        omega
  · refine aw_bipush (pc' := 14) (by decide +kernel) dX12_line_12 rfl ?_
    refine AW.ret (some (vi _)) dX12_line_14 trivial ?_
    try simp (disch := omega) only [hv_cl, cl_set, sset_e, sset_1, sset_2]
    exact hF (by omega)

set_option maxRecDepth 20000 in
theorem x_of {d : Nat} {l w : Int} {A : AHp} {v : Sg} {Q : Option AV → AHp → Prop} (hd : 1 ≤ d) (hX : XLAY A) (hln : 0 ≤ v 64 1 ∧ v 64 1 ≤ 8) (hls : ∀ j, 0 ≤ j → j < v 64 1 → isO A (v 65 j) 3) (hN : ¬ (0 ≤ l ∧ l < v 64 1 ∧ 0 ≤ w ∧ w ≤ 2) → Q (some (vi (-1))) (cl A v)) (h0 : 0 ≤ l → l < v 64 1 → w = 0 → Q (some (vi (hp A (v 65 l) 1))) (cl A v)) (h1 : 0 ≤ l → l < v 64 1 → w = 1 → Q (some (vi (hp A (v 65 l) 2))) (cl A v)) (h2 : 0 ≤ l → l < v 64 1 → w = 2 → Q (some (vi (hp A (v 65 l) 3))) (cl A v)) : CALL d mX12_of [vr 60, vi l, vi w] (cl A v) Q := by
  refine CALL.of (by decide) (Nat.le_of_ble_eq_true rfl) ?_
  change AW d mX12_of 0 [some (vr 60), some (vi l), some (vi w), none] [] (cl A v) Q
  refine aw_aload_n (pc' := 1) rfl dX12_of_0 rfl ?_
  refine aw_iload_n (pc' := 2) rfl dX12_of_1 rfl ?_
  refine aw_callV (ci := 10) (d' := d - 1) (as := [_]) (pc' := 5) (by decide) rfl kX12_isLine iX12_isLine sX12_isLine lX12_83 (XO (A := (cl A v)) hX) dX12_of_2 rfl rfl (Nat.le_of_ble_eq_true rfl) (by omega) ?_
  refine x_isLine (by omega) hX (fun e1_2 e2_2 => ?_) (fun e0_2 => ?_)
  · rw [hv_cl] at e2_2
    refine aw_if_ne (pt := 10) (pf := 8) dX12_of_5 (by decide) rfl (fun _ => ?_) (fun c_5 => absurd (by decide) c_5)
    refine aw_aload_n (pc' := 11) rfl dX12_of_10 rfl ?_
    refine aw_getp (pc' := 14) (k9 := 1) (p := 64) dX12_of_11 rfl fX12_21 rfl rfl rfl (XO (A := (cl A v)) hX) (X_machine (A := (cl A v)) hX) ?_
    refine aw_getp (pc' := 17) (k9 := 0) (p := 65) dX12_of_14 rfl fX12_86 rfl rfl rfl (XO_machine (A := (cl A v)) hX) (X_lines (A := (cl A v)) hX) ?_
    refine aw_iload_n (pc' := 18) rfl dX12_of_17 rfl ?_
    refine aw_aald (pc' := 19) (t0 := 5) (fun _ => rfl) (by decide) dX12_of_18 rfl (XA_lines (A := (cl A v)) hX) (by omega) (by omega) ?_
    try simp (disch := omega) only [hv_cl, cl_set, sset_e, sset_1, sset_2]
    try simp (disch := omega) only [hv_cl, cl_set, sset_e, sset_1, sset_2, sset_ss, btX_4]
    refine aw_astore_n (pc' := 20) (lv' := [_, _, _, _]) dX12_of_19 rfl (by decide) rfl ?_
    refine aw_iload_n (pc' := 21) rfl dX12_of_20 rfl ?_
    by_cases z_21_0 : w = 0
    · refine aw_tabIn (pc' := 48) dX12_of_21 (by omega) (by omega) (off := 27) (by rw [z_21_0]; rfl) (by decide) ?_
      refine aw_aload_n (pc' := 49) rfl dX12_of_48 rfl ?_
      refine aw_getfi (pc' := 52) (k9 := 1) dX12_of_49 rfl fX12_90 rfl (by decide) rfl (hls l (by omega) (by omega)) ?_
      try simp (disch := omega) only [hv_cl, cl_set, sset_e, sset_1, sset_2, sset_ss, btX_4]
      refine AW.ret (some (vi _)) dX12_of_52 trivial ?_
      first | exact h0 (by omega) (by omega) (by omega) | exact h1 (by omega) (by omega) (by omega) | exact h2 (by omega) (by omega) (by omega) | exact hN (by omega)
    by_cases z_21_1 : w = 1
    · refine aw_tabIn (pc' := 53) dX12_of_21 (by omega) (by omega) (off := 32) (by rw [z_21_1]; rfl) (by decide) ?_
      refine aw_aload_n (pc' := 54) rfl dX12_of_53 rfl ?_
      refine aw_getfi (pc' := 57) (k9 := 2) dX12_of_54 rfl fX12_95 rfl (by decide) rfl (hls l (by omega) (by omega)) ?_
      try simp (disch := omega) only [hv_cl, cl_set, sset_e, sset_1, sset_2, sset_ss, btX_4]
      refine AW.ret (some (vi _)) dX12_of_57 trivial ?_
      first | exact h0 (by omega) (by omega) (by omega) | exact h1 (by omega) (by omega) (by omega) | exact h2 (by omega) (by omega) (by omega) | exact hN (by omega)
    by_cases z_21_2 : w = 2
    · refine aw_tabIn (pc' := 58) dX12_of_21 (by omega) (by omega) (off := 37) (by rw [z_21_2]; rfl) (by decide) ?_
      refine aw_aload_n (pc' := 59) rfl dX12_of_58 rfl ?_
      refine aw_getfi (pc' := 62) (k9 := 3) dX12_of_59 rfl fX12_98 rfl (by decide) rfl (hls l (by omega) (by omega)) ?_
      try simp (disch := omega) only [hv_cl, cl_set, sset_e, sset_1, sset_2, sset_ss, btX_4]
      refine AW.ret (some (vi _)) dX12_of_62 trivial ?_
      first | exact h0 (by omega) (by omega) (by omega) | exact h1 (by omega) (by omega) (by omega) | exact h2 (by omega) (by omega) (by omega) | exact hN (by omega)
    refine aw_tabOut (pc' := 63) dX12_of_21 (by omega) (by decide) ?_
    refine aw_iconst (pc' := 64) (by decide) dX12_of_63 rfl ?_
    refine AW.ret (some (vi _)) dX12_of_64 trivial ?_
    first | exact h0 (by omega) (by omega) (by omega) | exact h1 (by omega) (by omega) (by omega) | exact h2 (by omega) (by omega) (by omega) | exact hN (by omega)
  · rw [hv_cl] at e0_2
    refine aw_if_ne (pt := 10) (pf := 8) dX12_of_5 (by decide) rfl (fun c_5 => absurd c_5 (by decide)) (fun _ => ?_)
    refine aw_iconst (pc' := 9) (by decide) dX12_of_8 rfl ?_
    refine AW.ret (some (vi _)) dX12_of_9 trivial ?_
    first | exact h0 (by omega) (by omega) (by omega) | exact h1 (by omega) (by omega) (by omega) | exact h2 (by omega) (by omega) (by omega) | exact hN (by omega)
