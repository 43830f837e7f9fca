/-! ===== the class's reader: readBraces ===== -/
/-- what comes back of a reading that fails: null and the fault; or (a seventh stage) a thing, with the fault where the reader stands -/
def FAILR (A B : AHp) (w t : Sg) (r : Int) : Prop := (r = 0 ∧ w 61 3 = t 307 19) ∨ ((hn A ≤ r ∧ 350 ≤ r) ∧ isO B r 6 ∧ w 61 4 = t 307 19 ∧ btS t (t 307 19) = 124)
/-- the contract of readList at a depth -/
def RLC (lr : Int → Sg → Option (Int × Sg)) (e : Nat) (deep : Int) (K : Nat) : Prop := ∀ (d : Nat) (A : AHp) (v s : Sg) (l : Int) (t : Sg) (Q : Option AV → AHp → Prop), K ≤ d → XLAY A → 350 ≤ hn A → TSM v s → BDR s deep → v 61 4 = s 307 18 → v 61 5 = s 307 22 + deep → v 61 6 = max (s 307 23) deep → lr deep s = some (l, t) →
  (l < 0 → ∀ B w r, GRO A B → hn B ≤ hn A + 2 * (60 - s 307 22) + 2 * (60 - s 307 21) + 4 * (4 - deep) → XFR A v w → FAILR A B w t r → Q (some (vr r)) (cl B w)) →
  (0 ≤ l → ∀ B w po, GRO A B → hn B = hn A + 2 * (t 307 22 - s 307 22) + 2 * (t 307 21 - s 307 21) → XFR A v w → w 61 4 = t 307 18 → w 61 5 = t 307 22 + deep → w 61 6 = t 307 23 → LJ A B w s t e po l → 350 ≤ po → Q (some (vr po)) (cl B w)) → CALL d mX7_readList [vr 61, vi deep] (cl A v) Q
theorem brc_t {r t : Sg} {l : Int} (ht : t = sset (newS (sset r 307 18 (r 307 18 + 1)) 14) 315 (60 * r 307 12 + r 307 22) l) : (t 307 22 = r 307 22 + 1 ∧ t 307 21 = r 307 21 ∧ t 307 20 = r 307 20 ∧ t 307 18 = r 307 18 + 1 ∧ t 307 23 = r 307 23) ∧ t 314 (60 * r 307 12 + r 307 22) = 14 ∧ t 316 (60 * r 307 12 + r 307 22) = 0 ∧ t 315 (60 * r 307 12 + r 307 22) = l ∧ FRS r t := by
  have e12 : (sset r 307 18 (r 307 18 + 1)) 307 12 = r 307 12 := sset_2 (by omega)
  have e22 : (sset r 307 18 (r 307 18 + 1)) 307 22 = r 307 22 := sset_2 (by omega)
  have h22 : t 307 22 = r 307 22 + 1 := by rw [ht, sset_1 (by omega), newS_22, e22]
  have hk : ∀ i, i ≠ 22 → i ≠ 18 → t 307 i = r 307 i := fun i h1 h2 => by rw [ht, sset_1 (by omega), newS_k h1, sset_2 h2]
  refine ⟨⟨h22, hk _ (by omega) (by omega), hk _ (by omega) (by omega), by rw [ht, sset_1 (by omega), newS_k (by omega), sset_e], hk _ (by omega) (by omega)⟩, ?_, ?_, by rw [ht, sset_e], fun o i q => ?_⟩
  · rw [ht, sset_1 (by omega)]
    unfold newS
    rw [e12, e22, sset_1 (by omega), sset_1 (by omega), sset_e]
  · rw [ht, sset_1 (by omega)]
    unfold newS
    rw [e12, e22, sset_1 (by omega), sset_e]
  · rw [h22, hk 21 (by omega) (by omega), hk 20 (by omega) (by omega)] at q
    unfold INX at q
    rw [ht]
    unfold newS
    rw [e12, e22]
    unfold sset
    rw [if_neg (by omega), if_neg (by omega), if_neg (by omega), if_neg (by omega), if_neg (by omega), if_neg (by omega)]
set_option maxRecDepth 20000 in
theorem x_readBraces {d : Nat} {lr : Int → Sg → Option (Int × Sg)} {s t : Sg} {e K : Nat} {deep x : Int} {A : AHp} {v : Sg} {Q : Option AV → AHp → Prop} (hd : K + 1 ≤ d) (hX : XLAY A) (hA : 350 ≤ hn A) (hT : TSM v s) (hB : BDR s (deep + 1)) (hdp : 0 ≤ deep ∧ deep ≤ 3) (hde : (e : Int) + deep = 3) (hK : 8 ≤ K) (hLK : deep < 3 → LOKR lr (deep + 1)) (hRL : ∀ e1 : Nat, (e1 : Int) + (deep + 1) = 3 → RLC lr e1 (deep + 1) K) (h4 : v 61 4 = s 307 18) (h5 : v 61 5 = s 307 22 + deep) (h6 : v 61 6 = s 307 23) (h123 : btS s (s 307 18) = 123) (h : stageR lr s 1 deep = some (x, t))
  (hFl : x < 0 → ∀ B w, GRO A B → hn B ≤ hn A + 2 * (60 - s 307 22) + 2 * (60 - s 307 21) + 4 * (4 - deep) - 2 → XFR A v w → w 61 3 = t 307 19 → Q (some (vr 0)) (cl B w))
  (hS : 0 ≤ x → ∀ B w so, GRO A B → hn B = hn A + 2 * (t 307 22 - s 307 22) + 2 * (t 307 21 - s 307 21) → XFR A v w → w 61 4 = t 307 18 → w 61 5 = t 307 22 + deep → w 61 6 = t 307 23 → isO B so 9 → 350 ≤ so → SJ A B w s t e so x → Q (some (vr so)) (cl B w)) : CALL d mX7_readBraces [vr 61, vi deep] (cl A v) Q := by
  refine CALL.of (by decide) (Nat.le_of_ble_eq_true rfl) ?_
  change AW d mX7_readBraces 0 [some (vr 61), some (vi deep), none] [] (cl A v) Q
  obtain ⟨hR, b1, b2, b3⟩ := id hB
  obtain ⟨⟨a1, a2, a3⟩, a4, a5, a6⟩ := id hR
  have e62 : v 61 2 = s 307 17 := hT.2.1
  refine aw_iload_n (pc' := 1) rfl dX7_readBraces_0 rfl ?_
  refine aw_iconst (pc' := 2) (by decide) dX7_readBraces_1 rfl ?_
  refine aw_icmp_lt (pt := 16) (pf := 5) dX7_readBraces_2 (by decide) rfl (fun c_2 => ?_) (fun c_2 => ?_)
  · obtain ⟨l, r, g1, g2⟩ := stage_brc ⟨h123, by omega, by omega⟩ h
    obtain ⟨e1, he1⟩ : ∃ e1, e = e1 + 1 := ⟨e - 1, by omega⟩
    subst he1
    have hlt := bt_lt (s := s) (k := s 307 18) (by omega)
    have k20 : (sset s 307 18 (s 307 18 + 1)) 307 20 = s 307 20 := sset_2 (by omega)
    have k21 : (sset s 307 18 (s 307 18 + 1)) 307 21 = s 307 21 := sset_2 (by omega)
    have k22 : (sset s 307 18 (s 307 18 + 1)) 307 22 = s 307 22 := sset_2 (by omega)
    have k23 : (sset s 307 18 (s 307 18 + 1)) 307 23 = s 307 23 := sset_2 (by omega)
    have k12 : (sset s 307 18 (s 307 18 + 1)) 307 12 = s 307 12 := sset_2 (by omega)
    have k18 : (sset s 307 18 (s 307 18 + 1)) 307 18 = s 307 18 + 1 := sset_e
    have hB1 : BDR (sset s 307 18 (s 307 18 + 1)) (deep + 1) := ⟨hR.at (by omega), by omega, by omega, by omega⟩
    obtain ⟨l2, r2, gl, ⟨q1, q2, q3, q4, q5⟩, hl9⟩ := hLK (by omega) _ hB1
    rw [g1, Option.some.injEq, Prod.mk.injEq] at gl
    obtain ⟨gl1, gl2⟩ := gl
    subst gl1
    subst gl2
    have hgn := stH_hn (A := A) (w := 15)
    have hX2 := old_X (stH_old (A := A) (w := 15)) hX
    obtain ⟨n1, n2, n3, n4⟩ := id q2
    refine aw_aload_n (pc' := 17) rfl dX7_readBraces_16 rfl ?_
    refine aw_dup (pc' := 18) rfl dX7_readBraces_17 rfl ?_
    refine aw_geti (pc' := 21) (k9 := 4) dX7_readBraces_18 rfl fX7_29 rfl (by decide) rfl (XO_reader (A := (cl A v)) hX) ?_
    try simp (disch := omega) only [hv_cl, cl_set, sset_e, sset_1, sset_2, sset_ss, btX_4]
    refine aw_iconst (pc' := 22) (by decide) dX7_readBraces_21 rfl ?_
    refine aw_iadd (pc' := 23) (by first | exact w32_id (by omega) (by omega) | rfl) dX7_readBraces_22 rfl ?_
    refine aw_puti (pc' := 26) (k9 := 4) dX7_readBraces_23 rfl fX7_29 rfl rfl rfl (XO_reader (A := (cl A v)) hX) ?_
    refine aw_aload_n (pc' := 27) rfl dX7_readBraces_26 rfl ?_
    refine aw_dup (pc' := 28) rfl dX7_readBraces_27 rfl ?_
    refine aw_geti (pc' := 31) (k9 := 5) dX7_readBraces_28 rfl fX7_32 rfl (by decide) rfl (XO_reader (A := (cl A v)) hX) ?_
    try simp (disch := omega) only [hv_cl, cl_set, sset_e, sset_1, sset_2, sset_ss, btX_4]
    refine aw_iconst (pc' := 32) (by decide) dX7_readBraces_31 rfl ?_
    refine aw_iadd (pc' := 33) (by first | exact w32_id (by omega) (by omega) | rfl) dX7_readBraces_32 rfl ?_
    refine aw_puti (pc' := 36) (k9 := 5) dX7_readBraces_33 rfl fX7_32 rfl rfl rfl (XO_reader (A := (cl A v)) hX) ?_
    refine aw_aload_n (pc' := 37) rfl dX7_readBraces_36 rfl ?_
    refine aw_aload_n (pc' := 38) rfl dX7_readBraces_37 rfl ?_
    refine aw_geti (pc' := 41) (k9 := 6) dX7_readBraces_38 rfl fX7_35 rfl (by decide) rfl (XO_reader (A := (cl A v)) hX) ?_
    try simp (disch := omega) only [hv_cl, cl_set, sset_e, sset_1, sset_2, sset_ss, btX_4]
    refine aw_iload_n (pc' := 42) rfl dX7_readBraces_41 rfl ?_
    refine aw_iconst (pc' := 43) (by decide) dX7_readBraces_42 rfl ?_
    refine aw_iadd (pc' := 44) (by first | exact w32_id (by omega) (by omega) | rfl) dX7_readBraces_43 rfl ?_
    refine aw_callS (d' := d - 1) (as := [_, _]) (pc' := 47) kJ9_max_7cf53 tJ9_max_7cf53 lX7_94 dX7_readBraces_44 rfl rfl (Nat.le_of_ble_eq_true rfl) (by omega) ?_
    refine c_max (by omega) ?_
    refine aw_puti (pc' := 50) (k9 := 6) dX7_readBraces_47 rfl fX7_35 rfl rfl rfl (XO_reader (A := (cl A v)) hX) ?_
    refine aw_new (ci := 8) (pc' := 53) (by decide) zX7_100 w8_new w8_ini dX7_readBraces_50 rfl ?_
    try simp (disch := omega) only [hv_cl, cl_set, sset_e, sset_1, sset_2, sset_ss, btX_4]
    rw [hn_cl, clN_8]
    refine aw_dup (pc' := 54) rfl dX7_readBraces_53 rfl ?_
    refine aw_gsW (j := 14) (pc' := 57) (by decide) fX7_102 dX7_readBraces_54 rfl ?_
    refine aw_callI (d' := d - 1) (as := [_]) (pc' := 60) rfl kX9_init rfl iX9_init lX7_106 (by omega) dX7_readBraces_57 rfl rfl (Nat.le_of_ble_eq_true rfl) (by omega) ?_
    refine x_newStage2 (by omega) (by omega) ?_
    refine aw_astore_n (pc' := 61) (lv' := [_, _, _]) dX7_readBraces_60 rfl (by decide) rfl ?_
    refine aw_aload_n (pc' := 62) rfl dX7_readBraces_61 rfl ?_
    refine aw_aload_n (pc' := 63) rfl dX7_readBraces_62 rfl ?_
    refine aw_iload_n (pc' := 64) rfl dX7_readBraces_63 rfl ?_
    refine aw_iconst (pc' := 65) (by decide) dX7_readBraces_64 rfl ?_
    refine aw_iadd (pc' := 66) (by first | exact w32_id (by omega) (by omega) | rfl) dX7_readBraces_65 rfl ?_
    refine aw_callV (ci := 6) (d' := d - 1) (as := [_]) (pc' := 69) (by decide) rfl kX7_readList iX7_readList sX7_readList lX7_38 (XO_reader (A := (cl (stH A 15) v)) hX2) dX7_readBraces_66 rfl rfl (Nat.le_of_ble_eq_true rfl) (by omega) ?_
    have hv1 : ∀ o k, o < hn A → ¬ (o = 61 ∧ 3 ≤ k ∧ k ≤ 6) → (stV A (sset (sset (sset v 61 4 (v 61 4 + 1)) 61 5 (v 61 5 + 1)) 61 6 (max (v 61 6) (deep + 1)))) o k = v o k := fun o k q1 q2 => by
      rw [stV_o (by omega)]
      unfold sset
      rw [if_neg (by omega), if_neg (by omega), if_neg (by omega)]
    have hv1x : ∀ k, (stV A (sset (sset (sset v 61 4 (v 61 4 + 1)) 61 5 (v 61 5 + 1)) 61 6 (max (v 61 6) (deep + 1)))) 61 k = (sset (sset (sset v 61 4 (v 61 4 + 1)) 61 5 (v 61 5 + 1)) 61 6 (max (v 61 6) (deep + 1))) 61 k := fun k => stV_o (by omega)
    have hT1 : TSM (stV A (sset (sset (sset v 61 4 (v 61 4 + 1)) 61 5 (v 61 5 + 1)) 61 6 (max (v 61 6) (deep + 1)))) (sset s 307 18 (s 307 18 + 1)) := hT.eq (hv1 _ _ (by omega) (by omega)) (fun _ => hv1 _ _ (by omega) (by omega)) (fun _ => hv1 _ _ (by omega) (by omega)) (sset_2 (by omega)) (fun _ => sset_1 (by omega))
    have hz0 : ∀ k, (stV A (sset (sset (sset v 61 4 (v 61 4 + 1)) 61 5 (v 61 5 + 1)) 61 6 (max (v 61 6) (deep + 1)))) (hn A) k = 0 := fun k => stV_0 (Or.inl rfl)
    have hz1 : ∀ k, (stV A (sset (sset (sset v 61 4 (v 61 4 + 1)) 61 5 (v 61 5 + 1)) 61 6 (max (v 61 6) (deep + 1)))) (hn A + 1) k = 0 := fun k => stV_0 (Or.inr rfl)
    have p4 : (stV A (sset (sset (sset v 61 4 (v 61 4 + 1)) 61 5 (v 61 5 + 1)) 61 6 (max (v 61 6) (deep + 1)))) 61 4 = s 307 18 + 1 := by
      rw [hv1x, sset_2 (by omega), sset_2 (by omega), sset_e, h4]
    have p5 : (stV A (sset (sset (sset v 61 4 (v 61 4 + 1)) 61 5 (v 61 5 + 1)) 61 6 (max (v 61 6) (deep + 1)))) 61 5 = s 307 22 + (deep + 1) := by
      rw [hv1x, sset_2 (by omega), sset_e, h5]; omega
    have p6 : (stV A (sset (sset (sset v 61 4 (v 61 4 + 1)) 61 5 (v 61 5 + 1)) 61 6 (max (v 61 6) (deep + 1)))) 61 6 = max (s 307 23) (deep + 1) := by
      rw [hv1x, sset_e, h6]
    generalize stV A (sset (sset (sset v 61 4 (v 61 4 + 1)) 61 5 (v 61 5 + 1)) 61 6 (max (v 61 6) (deep + 1))) = v1 at hv1 hT1 hz0 hz1 p4 p5 p6 ⊢
    clear hv1x
    refine hRL e1 (by omega) (d - 1) (stH A 15) v1 (sset s 307 18 (s 307 18 + 1)) l r _ (by omega) hX2 (by omega) hT1 hB1 (by rw [p4, k18]) (by rw [p5, k22]) (by rw [p6, k23]) g1 (fun hl0 B w r9 hG hH hXf hfr => ?_) (fun hl0 B w pi9 hG hH hXf w4 w5 w6 hJ hpi => ?_)
    · have hO9 : isO B (hn A) 9 := old_O hG.1 (stH_so (by omega))
      have hX3 := old_X hG.1 hX2
      obtain ⟨hx9, ht9⟩ : x = -1 ∧ t = r := by
        rcases g2 with ⟨_, z1, z2⟩ | ⟨z, _⟩ | ⟨z, _⟩
        · exact ⟨z1, z2⟩
        · omega
        · omega
      rw [← ht9] at q1 q2 q3 q4 hfr
      rw [k22, k21, hgn] at hH
      have hfb := q4 hl0
      have hB9 : BSM (sset w (hn A) 3 r9) t := (((hT1.xf (by omega) hXf).fr q1).o (by omega)).1
      have e49 : (sset w (hn A) 3 r9) 61 4 = w 61 4 := sset_1 (by omega)
      refine aw_putr (pc' := 72) (k9 := 3) dX7_readBraces_69 rfl fX7_109 rfl rfl rfl (by first | assumption | skip) ?_
      refine aw_aload_n (pc' := 73) rfl dX7_readBraces_72 rfl ?_
      refine aw_getr (pc' := 76) (k9 := 3) dX7_readBraces_73 rfl fX7_109 rfl rfl rfl (by first | assumption | skip) ?_
      try simp (disch := omega) only [hv_cl, cl_set, sset_e, sset_1, sset_2, sset_ss, btX_4]
      refine aw_ifnull (pt := 92) (pf := 79) (by first | (rcases hfr with q | q <;> omega) | omega) dX7_readBraces_76 (by decide) rfl (fun c_76 => ?_) (fun c_76 => ?_)
      · refine aw_null (pc' := 93) dX7_readBraces_92 rfl ?_
        refine AW.ret (some (vr _)) dX7_readBraces_93 trivial ?_
        try simp (disch := omega) only [hv_cl, cl_set, sset_e, sset_1, sset_2, sset_ss, btX_4]
        first
        | (refine hFl (by omega) B _ ((stH_gro).tr hG) (by omega) (fun o k z1 z2 => by unfold sset; rw [if_neg (by omega), hXf o k (by omega) z2]; exact hv1 o k z1 z2) ?_
           rcases hfr with q | q
           · rw [sset_1 (by omega)]; exact q.2
           · omega)
        | (refine hFl (by omega) B _ ((stH_gro).tr hG) (by omega) (fun o k z1 z2 => by unfold sset; rw [if_neg (by omega), if_neg (by omega), hXf o k (by omega) z2]; exact hv1 o k z1 z2) ?_
           rcases hfr with q | q
           · omega
           · rw [sset_e]; exact q.2.2.1)
        | (have hlo : t = sset r 307 19 (r 307 18) ∧ x = -1 := by
             rcases g2 with ⟨z, _⟩ | ⟨_, _, _, z1, z2⟩ | ⟨_, _, z, _⟩
             · omega
             · exact ⟨z2, z1⟩
             · exact absurd (by rw [w4]; exact z) t0
           refine hFl (by omega) B _ ((stH_gro).tr hG) (by omega) (fun o k z1 z2 => by unfold sset; rw [if_neg (by omega), if_neg (by omega), hXf o k (by omega) z2]; exact hv1 o k z1 z2) ?_
           rw [hlo.1, sset_e, sset_e, w4])
        | (exfalso; omega)
      · refine aw_aload_n (pc' := 80) rfl dX7_readBraces_79 rfl ?_
        refine aw_bipush (pc' := 82) (by decide +kernel) dX7_readBraces_80 rfl ?_
        refine aw_callV (ci := 6) (d' := d - 1) (as := [_]) (pc' := 85) (by decide) rfl kX7_takesOrFaults iX7_takesOrFaults sX7_takesOrFaults lX7_112 (XO_reader (A := (cl B w)) hX3) dX7_readBraces_82 rfl rfl (Nat.le_of_ble_eq_true rfl) (by omega) ?_
        try simp (disch := omega) only [hv_cl, cl_set, sset_e, sset_1, sset_2, sset_ss, btX_4]
        refine x_takesF (s := _) (by omega) hX3 hB9 (by rw [e49]; first | (rcases hfr with q | q <;> omega) | omega) (fun t1 => ?_) (fun t0 => ?_)
        · rw [e49] at t1 ⊢
          refine aw_if_eq (pt := 92) (pf := 88) dX7_readBraces_85 (by decide) rfl (fun c_85 => absurd c_85 (by decide)) (fun _ => ?_)
          refine aw_aload_n (pc' := 89) rfl dX7_readBraces_88 rfl ?_
          refine aw_goto (pc' := 93) dX7_readBraces_89 (by decide) ?_
          refine AW.ret (some (vr _)) dX7_readBraces_93 trivial ?_
          exfalso
          rcases hfr with q | q
          · omega
          · rw [q.2.2.1, q.2.2.2] at t1
            omega
        · rw [e49] at t0 ⊢
          refine aw_if_eq (pt := 92) (pf := 88) dX7_readBraces_85 (by decide) rfl (fun _ => ?_) (fun c_85 => absurd (by decide) c_85)
          refine aw_null (pc' := 93) dX7_readBraces_92 rfl ?_
          refine AW.ret (some (vr _)) dX7_readBraces_93 trivial ?_
          try simp (disch := omega) only [hv_cl, cl_set, sset_e, sset_1, sset_2, sset_ss, btX_4]
          first
          | (refine hFl (by omega) B _ ((stH_gro).tr hG) (by omega) (fun o k z1 z2 => by unfold sset; rw [if_neg (by omega), hXf o k (by omega) z2]; exact hv1 o k z1 z2) ?_
             rcases hfr with q | q
             · rw [sset_1 (by omega)]; exact q.2
             · omega)
          | (refine hFl (by omega) B _ ((stH_gro).tr hG) (by omega) (fun o k z1 z2 => by unfold sset; rw [if_neg (by omega), if_neg (by omega), hXf o k (by omega) z2]; exact hv1 o k z1 z2) ?_
             rcases hfr with q | q
             · omega
             · rw [sset_e]; exact q.2.2.1)
          | (have hlo : t = sset r 307 19 (r 307 18) ∧ x = -1 := by
               rcases g2 with ⟨z, _⟩ | ⟨_, _, _, z1, z2⟩ | ⟨_, _, z, _⟩
               · omega
               · exact ⟨z2, z1⟩
               · exact absurd (by rw [w4]; exact z) t0
             refine hFl (by omega) B _ ((stH_gro).tr hG) (by omega) (fun o k z1 z2 => by unfold sset; rw [if_neg (by omega), if_neg (by omega), hXf o k (by omega) z2]; exact hv1 o k z1 z2) ?_
             rw [hlo.1, sset_e, sset_e, w4])
          | (exfalso; omega)
    · have hO9 : isO B (hn A) 9 := old_O hG.1 (stH_so (by omega))
      have hX3 := old_X hG.1 hX2
      obtain ⟨y1, y2, y3, y4, y5⟩ := q5 hl0
      have hl10 := hl9 hl0
      have e12r : r 307 12 = s 307 12 := (q1.k (by omega)).trans k12
      have e17r : r 307 17 = s 307 17 := (q1.k (by omega)).trans (sset_2 (by omega))
      have hy18 := y1.1.2.1
      rw [k22, k21, hgn] at hH
      have hB9 : BSM (sset w (hn A) 3 pi9) r := (((hT1.xf (by omega) hXf).fr q1).o (by omega)).1
      have e49 : (sset w (hn A) 3 pi9) 61 4 = w 61 4 := sset_1 (by omega)
      have hgt := y1.2.1
      refine aw_putr (pc' := 72) (k9 := 3) dX7_readBraces_69 rfl fX7_109 rfl rfl rfl (by first | assumption | skip) ?_
      refine aw_aload_n (pc' := 73) rfl dX7_readBraces_72 rfl ?_
      refine aw_getr (pc' := 76) (k9 := 3) dX7_readBraces_73 rfl fX7_109 rfl rfl rfl (by first | assumption | skip) ?_
      try simp (disch := omega) only [hv_cl, cl_set, sset_e, sset_1, sset_2, sset_ss, btX_4]
      refine aw_ifnull (pt := 92) (pf := 79) (by first | (rcases hfr with q | q <;> omega) | omega) dX7_readBraces_76 (by decide) rfl (fun c_76 => ?_) (fun c_76 => ?_)
      · refine aw_null (pc' := 93) dX7_readBraces_92 rfl ?_
        refine AW.ret (some (vr _)) dX7_readBraces_93 trivial ?_
        try simp (disch := omega) only [hv_cl, cl_set, sset_e, sset_1, sset_2, sset_ss, btX_4]
        first
        | (refine hFl (by omega) B _ ((stH_gro).tr hG) (by omega) (fun o k z1 z2 => by unfold sset; rw [if_neg (by omega), hXf o k (by omega) z2]; exact hv1 o k z1 z2) ?_
           rcases hfr with q | q
           · rw [sset_1 (by omega)]; exact q.2
           · omega)
        | (refine hFl (by omega) B _ ((stH_gro).tr hG) (by omega) (fun o k z1 z2 => by unfold sset; rw [if_neg (by omega), if_neg (by omega), hXf o k (by omega) z2]; exact hv1 o k z1 z2) ?_
           rcases hfr with q | q
           · omega
           · rw [sset_e]; exact q.2.2.1)
        | (have hlo : t = sset r 307 19 (r 307 18) ∧ x = -1 := by
             rcases g2 with ⟨z, _⟩ | ⟨_, _, _, z1, z2⟩ | ⟨_, _, z, _⟩
             · omega
             · exact ⟨z2, z1⟩
             · exact absurd (by rw [w4]; exact z) t0
           refine hFl (by omega) B _ ((stH_gro).tr hG) (by omega) (fun o k z1 z2 => by unfold sset; rw [if_neg (by omega), if_neg (by omega), hXf o k (by omega) z2]; exact hv1 o k z1 z2) ?_
           rw [hlo.1, sset_e, sset_e, w4])
        | (exfalso; omega)
      · refine aw_aload_n (pc' := 80) rfl dX7_readBraces_79 rfl ?_
        refine aw_bipush (pc' := 82) (by decide +kernel) dX7_readBraces_80 rfl ?_
        refine aw_callV (ci := 6) (d' := d - 1) (as := [_]) (pc' := 85) (by decide) rfl kX7_takesOrFaults iX7_takesOrFaults sX7_takesOrFaults lX7_112 (XO_reader (A := (cl B w)) hX3) dX7_readBraces_82 rfl rfl (Nat.le_of_ble_eq_true rfl) (by omega) ?_
        try simp (disch := omega) only [hv_cl, cl_set, sset_e, sset_1, sset_2, sset_ss, btX_4]
        refine x_takesF (s := _) (by omega) hX3 hB9 (by rw [e49]; first | (rcases hfr with q | q <;> omega) | omega) (fun t1 => ?_) (fun t0 => ?_)
        · rw [e49] at t1 ⊢
          refine aw_if_eq (pt := 92) (pf := 88) dX7_readBraces_85 (by decide) rfl (fun c_85 => absurd c_85 (by decide)) (fun _ => ?_)
          refine aw_aload_n (pc' := 89) rfl dX7_readBraces_88 rfl ?_
          refine aw_goto (pc' := 93) dX7_readBraces_89 (by decide) ?_
          refine AW.ret (some (vr _)) dX7_readBraces_93 trivial ?_
          try simp (disch := omega) only [hv_cl, cl_set, sset_e, sset_1, sset_2, sset_ss, btX_4]
          have hlo : t = sset (newS (sset r 307 18 (r 307 18 + 1)) 14) 315 (60 * r 307 12 + r 307 22) l ∧ x = 60 * r 307 12 + r 307 22 := by
            rcases g2 with ⟨z, _⟩ | ⟨_, _, z, _⟩ | ⟨_, _, _, z1, z2⟩
            · omega
            · exact absurd (by rw [← w4]; exact t1) z
            · exact ⟨z2, z1⟩
          obtain ⟨ht9, hx9⟩ := hlo
          obtain ⟨⟨u22, u21, u20, u18, u23⟩, u314, u316, u315, uF⟩ := brc_t ht9
          clear ht9
          subst hx9
          have ew : ∀ o k, o ≠ hn A → ¬ (o = 61 ∧ k = 4) → (sset (sset w (hn A) 3 pi9) 61 4 (w 61 4 + 1)) o k = w o k := fun o k z1 z2 => by
            unfold sset
            rw [if_neg (by omega), if_neg (by omega)]
          have hle0 := hG.1.1
          have w2 : ∀ k, k ≠ 3 → (sset (sset w (hn A) 3 pi9) 61 4 (w 61 4 + 1)) (hn A) k = 0 := fun k hk => by
            rw [sset_1 (by omega), sset_2 hk, hXf _ _ (by omega) (by omega)]
            exact hz0 k
          have wt : ∀ k, (sset (sset w (hn A) 3 pi9) 61 4 (w 61 4 + 1)) (hn A + 1) k = 0 := fun k => by
            rw [ew _ _ (by omega) (by omega), hXf _ _ (by omega) (by omega)]
            exact hz1 k
          have w3 : (sset (sset w (hn A) 3 pi9) 61 4 (w 61 4 + 1)) (hn A) 3 = pi9 := by
            rw [sset_1 (by omega), sset_e]
          have hp0 : hp B (hn A) 0 = 15 := (old_hp hG.1 (by omega)).trans stH_0
          have hp1 : hp B (hn A) 1 = hn A + 1 := (old_hp hG.1 (by omega)).trans stH_1
          have hTa : isA B (hn A + 1) 20 4 := old_A hG.1 (stH_ta (by omega))
          have hxf : XFR A v (sset (sset w (hn A) 3 pi9) 61 4 (w 61 4 + 1)) := fun o k z1 z2 => by
            rw [ew o k (by omega) (by omega), hXf o k (by omega) z2]
            exact hv1 o k z1 z2
          refine hS (by omega) B _ (hn A) ((stH_gro).tr hG) (by omega) hxf (by rw [sset_e, w4, u18]) (by rw [ew _ _ (by omega) (by omega), w5, u22]; omega) (by rw [ew _ _ (by omega) (by omega), w6, u23]) hO9 hA ?_
          refine SJ.brc hJ stH_old ⟨by omega, by omega⟩ ⟨by omega, by omega⟩ ⟨⟨by omega, hO9, by omega, by omega, by rw [hp1]; exact hTa, by rw [w2 2 (by omega)]; omega, fun i i0 i1 => by rw [hp1, wt]; omega⟩, by rw [hp0, u314]; omega, fun z => ⟨by rw [w2 2 (by omega), u316], fun i i0 i1 => by omega⟩, fun z => by omega, fun z => by omega⟩ ⟨by omega, by omega, fun i i0 i1 => by omega, fun z => by omega⟩ w3 ⟨u315, by omega, by omega⟩ (fun o k z1 z2 => ew o k (by omega) (by omega)) (fun o i z => z.old uF (by omega)) (fun o i z => z.mn (by omega) ⟨by omega, by omega⟩ ⟨by omega, by omega⟩ ⟨by omega, by omega⟩) ⟨by omega, by omega⟩ hG.1
        · rw [e49] at t0 ⊢
          refine aw_if_eq (pt := 92) (pf := 88) dX7_readBraces_85 (by decide) rfl (fun _ => ?_) (fun c_85 => absurd (by decide) c_85)
          refine aw_null (pc' := 93) dX7_readBraces_92 rfl ?_
          refine AW.ret (some (vr _)) dX7_readBraces_93 trivial ?_
          try simp (disch := omega) only [hv_cl, cl_set, sset_e, sset_1, sset_2, sset_ss, btX_4]
          first
          | (refine hFl (by omega) B _ ((stH_gro).tr hG) (by omega) (fun o k z1 z2 => by unfold sset; rw [if_neg (by omega), hXf o k (by omega) z2]; exact hv1 o k z1 z2) ?_
             rcases hfr with q | q
             · rw [sset_1 (by omega)]; exact q.2
             · omega)
          | (refine hFl (by omega) B _ ((stH_gro).tr hG) (by omega) (fun o k z1 z2 => by unfold sset; rw [if_neg (by omega), if_neg (by omega), hXf o k (by omega) z2]; exact hv1 o k z1 z2) ?_
             rcases hfr with q | q
             · omega
             · rw [sset_e]; exact q.2.2.1)
          | (have hlo : t = sset r 307 19 (r 307 18) ∧ x = -1 := by
               rcases g2 with ⟨z, _⟩ | ⟨_, _, _, z1, z2⟩ | ⟨_, _, z, _⟩
               · omega
               · exact ⟨z2, z1⟩
               · exact absurd (by rw [w4]; exact z) t0
             refine hFl (by omega) B _ ((stH_gro).tr hG) (by omega) (fun o k z1 z2 => by unfold sset; rw [if_neg (by omega), if_neg (by omega), hXf o k (by omega) z2]; exact hv1 o k z1 z2) ?_
             rw [hlo.1, sset_e, sset_e, w4])
          | (exfalso; omega)
  · refine aw_aload_n (pc' := 6) rfl dX7_readBraces_5 rfl ?_
    refine aw_aload_n (pc' := 7) rfl dX7_readBraces_6 rfl ?_
    refine aw_geti (pc' := 10) (k9 := 4) dX7_readBraces_7 rfl fX7_29 rfl (by decide) rfl (XO_reader (A := (cl A v)) hX) ?_
    try simp (disch := omega) only [hv_cl, cl_set, sset_e, sset_1, sset_2, sset_ss, btX_4]
    refine aw_callV (ci := 6) (d' := d - 1) (as := [_]) (pc' := 13) (by decide) rfl kX7_faultAt iX7_faultAt sX7_faultAt lX7_42 (XO_reader (A := (cl A v)) hX) dX7_readBraces_10 rfl rfl (Nat.le_of_ble_eq_true rfl) (by omega) ?_
    try simp (disch := omega) only [hv_cl, cl_set, sset_e, sset_1, sset_2, sset_ss, btX_4]
    refine x_faultAt (by omega) hX ?_
    refine aw_pop (pc' := 14) rfl dX7_readBraces_13 rfl ?_
    refine aw_null (pc' := 15) dX7_readBraces_14 rfl ?_
    refine AW.ret (some (vr _)) dX7_readBraces_15 trivial ?_
    try simp (disch := omega) only [hv_cl, cl_set, sset_e, sset_1, sset_2, sset_ss, btX_4]
    have hc9 : ¬ (btS s (s 307 18) = 123 ∧ (1 : Int) ≠ 0 ∧ deep < 3) := fun z => by omega
    rw [stage_cmd hR hc9, Option.some.injEq] at h
    have hle := letN_b (s := s) a1.2 101 (s 307 18) a2.2
    have hlet : letN s 101 (s 307 18) = s 307 18 := by
      show (if 97 ≤ btS s (s 307 18) ∧ btS s (s 307 18) ≤ 122 then letN s 100 (s 307 18 + 1) else s 307 18) = s 307 18
      rw [if_neg (by omega)]
    have hw9 : wofS s (s 307 18) (letN s 101 (s 307 18)) < 0 := by
      rcases Int.lt_or_le (wofS s (s 307 18) (letN s 101 (s 307 18))) 0 with q | q
      · exact q
      · have := wof_len q
        omega
    rw [cmd_no (Or.inl hw9), Prod.mk.injEq] at h
    obtain ⟨hx9, ht9⟩ := h
    refine hFl (by omega) A _ GRO.rf (by omega) (XFR.at (by omega)) ?_
    rw [← ht9, sset_e, sset_e, h4]
