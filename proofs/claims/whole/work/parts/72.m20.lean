/-! ===== the reference's reader: pipes, lists, lines ===== -/
noncomputable def pipeL (lr : Int → Sg → Option (Int × Sg)) (deep : Int) : Nat → Sg → Int → Int → Option (Int × Sg)
  | 0, _, _, _ => none
  | m + 1, s, n, f => (stageR lr s (if n = 0 then 1 else 0) deep).bind fun r => if r.1 < 0 then some (-1, r.2) else grd (RB r.2 ∧ n ≤ 6) <|
      if btS r.2 (r.2 307 18) ≠ 124 then some (60 * r.2 307 12 + r.2 307 21, sset (sset (sset r.2 307 21 (r.2 307 21 + 1)) 312 (60 * r.2 307 12 + r.2 307 21) (if n = 0 then r.1 else f)) 313 (60 * r.2 307 12 + r.2 307 21) (n + 1)) else
      if n + 1 = 6 then some (-1, sset r.2 307 19 (r.2 307 18)) else pipeL lr deep m (sset r.2 307 18 (r.2 307 18 + 1)) (n + 1) (if n = 0 then r.1 else f)
noncomputable def listL (lr : Int → Sg → Option (Int × Sg)) (deep li : Int) : Nat → Sg → Int → Int → Option (Int × Sg)
  | 0, _, _, _ => none
  | m + 1, s, la, ah => (pipeL lr deep 7 s 0 (-1)).bind fun r => if r.1 < 0 then some (-1, r.2) else grd (RB r.2 ∧ r.1 < 480 ∧ la < 480 ∧ 0 ≤ li ∧ li < 480) <|
      (fun u : Sg => if btS r.2 (r.2 307 18) ≠ 59 ∧ btS r.2 (r.2 307 18) ≠ 38 ∧ btS r.2 (r.2 307 18) ≠ 47 then some (li, u) else listL lr deep li m (sset u 307 18 (r.2 307 18 + 1)) r.1 (btS r.2 (r.2 307 18)))
        (if la < 0 then sset (sset (sset r.2 311 r.1 ah) 310 r.1 (-1)) 309 li r.1 else sset (sset (sset r.2 311 r.1 ah) 310 r.1 (-1)) 310 la r.1)
noncomputable def listR : Nat → Int → Sg → Option (Int × Sg)
  | 0, _, _ => none
  | n + 1, deep, s => grd (RB s ∧ s 307 20 < 59) <| listL (listR n) deep (60 * s 307 12 + s 307 20) 101 (sset (sset s 307 23 (max (s 307 23) deep)) 307 20 (s 307 20 + 1)) (-1) 59
theorem pipeL_s {lr : Int → Sg → Option (Int × Sg)} {deep n f x : Int} {m : Nat} {s t : Sg} (h : pipeL lr deep m s n f = some (x, t)) : ∃ m' y r, m = m' + 1 ∧ stageR lr s (if n = 0 then 1 else 0) deep = some (y, r) ∧ ((y < 0 ∧ x = -1 ∧ t = r) ∨ (0 ≤ y ∧ (RB r ∧ n ≤ 6) ∧
    ((btS r (r 307 18) ≠ 124 ∧ x = 60 * r 307 12 + r 307 21 ∧ t = sset (sset (sset r 307 21 (r 307 21 + 1)) 312 (60 * r 307 12 + r 307 21) (if n = 0 then y else f)) 313 (60 * r 307 12 + r 307 21) (n + 1)) ∨
     (btS r (r 307 18) = 124 ∧ n + 1 = 6 ∧ x = -1 ∧ t = sset r 307 19 (r 307 18)) ∨ (btS r (r 307 18) = 124 ∧ n + 1 ≠ 6 ∧ pipeL lr deep m' (sset r 307 18 (r 307 18 + 1)) (n + 1) (if n = 0 then y else f) = some (x, t))))) := by
  cases m with
  | zero => simp [pipeL] at h
  | succ m =>
    unfold pipeL at h
    obtain ⟨⟨y, r⟩, h1, h2⟩ := Option.bind_eq_some_iff.mp h
    refine ⟨m, y, r, rfl, h1, ?_⟩
    dsimp only at h2
    by_cases c1 : y < 0
    · rw [if_pos c1, Option.some.injEq, Prod.mk.injEq] at h2
      exact Or.inl ⟨c1, h2.1.symm, h2.2.symm⟩
    · rw [if_neg c1] at h2
      obtain ⟨g1, h3⟩ := grd_some h2
      refine Or.inr ⟨by omega, g1, ?_⟩
      by_cases c2 : btS r (r 307 18) ≠ 124
      · rw [if_pos c2, Option.some.injEq, Prod.mk.injEq] at h3
        exact Or.inl ⟨c2, h3.1.symm, h3.2.symm⟩
      · rw [if_neg c2] at h3
        by_cases c3 : n + 1 = 6
        · rw [if_pos c3, Option.some.injEq, Prod.mk.injEq] at h3
          exact Or.inr (Or.inl ⟨by omega, c3, h3.1.symm, h3.2.symm⟩)
        · rw [if_neg c3] at h3
          exact Or.inr (Or.inr ⟨by omega, c3, h3⟩)
theorem listL_s {lr : Int → Sg → Option (Int × Sg)} {deep li la ah x : Int} {m : Nat} {s t : Sg} (h : listL lr deep li m s la ah = some (x, t)) : ∃ m' y r u, m = m' + 1 ∧ pipeL lr deep 7 s 0 (-1) = some (y, r) ∧ u = (if la < 0 then sset (sset (sset r 311 y ah) 310 y (-1)) 309 li y else sset (sset (sset r 311 y ah) 310 y (-1)) 310 la y) ∧ ((y < 0 ∧ x = -1 ∧ t = r) ∨ (0 ≤ y ∧ (RB r ∧ y < 480 ∧ la < 480 ∧ 0 ≤ li ∧ li < 480) ∧
    (((btS r (r 307 18) ≠ 59 ∧ btS r (r 307 18) ≠ 38 ∧ btS r (r 307 18) ≠ 47) ∧ x = li ∧ t = u) ∨ (¬ (btS r (r 307 18) ≠ 59 ∧ btS r (r 307 18) ≠ 38 ∧ btS r (r 307 18) ≠ 47) ∧ listL lr deep li m' (sset u 307 18 (r 307 18 + 1)) y (btS r (r 307 18)) = some (x, t))))) := by
  cases m with
  | zero => simp [listL] at h
  | succ m =>
    unfold listL at h
    obtain ⟨⟨y, r⟩, h1, h2⟩ := Option.bind_eq_some_iff.mp h
    refine ⟨m, y, r, _, rfl, h1, rfl, ?_⟩
    dsimp only at h2
    by_cases c1 : y < 0
    · rw [if_pos c1, Option.some.injEq, Prod.mk.injEq] at h2
      exact Or.inl ⟨c1, h2.1.symm, h2.2.symm⟩
    · rw [if_neg c1] at h2
      obtain ⟨g1, h3⟩ := grd_some h2
      refine Or.inr ⟨by omega, g1, ?_⟩
      by_cases c2 : btS r (r 307 18) ≠ 59 ∧ btS r (r 307 18) ≠ 38 ∧ btS r (r 307 18) ≠ 47
      · rw [if_pos c2, Option.some.injEq, Prod.mk.injEq] at h3
        exact Or.inl ⟨c2, h3.1.symm, h3.2.symm⟩
      · rw [if_neg c2] at h3
        exact Or.inr ⟨c2, h3⟩
set_option maxRecDepth 20000 in
theorem l_pipe {d : Nat} {A : AHp} {lr : Int → Sg → Option (Int × Sg)} {K : Nat} {dp x : Int} {t : Sg} {Q : Option AV → AHp → Prop} : ∀ (m : Nat) (s : Sg) (n f : Int), K + 2 ≤ d → MLAY A → LRC lr K → 6 ≤ K → (0 ≤ dp ∧ dp ≤ 3) → (0 ≤ n ∧ n ≤ 5) → pipeL lr dp m s n f = some (x, t) → Q (some (vi x)) (lift A t) → ∀ (L4 : Option AV), AW d mX13_pipeRead 4 [some (vr 307), some (vi dp), some (vi n), some (vi f), L4] [] (lift A s) Q := by
  intro m
  induction m using Nat.strongRecOn with
  | _ m ih =>
    intro s n f hd hM hL hK hdp hn h hQ L4
    refine aw_aload_n (pc' := 5) rfl dX13_pipeRead_4 rfl ?_
    refine aw_iload_n (pc' := 6) rfl dX13_pipeRead_5 rfl ?_
    refine aw_if_ne (pt := 13) (pf := 9) dX13_pipeRead_6 (by decide) rfl (fun c_6 => ?_) (fun c_6 => ?_)
    · refine aw_iconst (pc' := 14) (by decide) dX13_pipeRead_13 rfl ?_
      refine aw_iload_n (pc' := 15) rfl dX13_pipeRead_14 rfl ?_
      refine aw_callV (ci := 11) (d' := d - 1) (as := [_, _]) (pc' := 18) (by decide) rfl kX13_stageRead iX13_stageRead sX13_stageRead lX13_212 (MO (A := (lift A s)) hM) dX13_pipeRead_15 rfl rfl (Nat.le_of_ble_eq_true rfl) (by omega) ?_
      obtain ⟨m1, y, r, em, g1, g2⟩ := pipeL_s h
      first | rw [if_pos (by omega)] at g1 | rw [if_neg (by omega)] at g1
      refine c_stageRead (by omega) hM hL hK hdp g1 ?_
      refine aw_istore (pc' := 20) (lv' := [_, _, _, _, _]) dX13_pipeRead_18 rfl (by decide) rfl ?_
      refine aw_iload (pc' := 22) rfl dX13_pipeRead_20 rfl ?_
      refine aw_if_ge (pt := 27) (pf := 25) dX13_pipeRead_22 (by decide) rfl (fun c_22 => ?_) (fun c_22 => ?_)
      · obtain ⟨g3, ⟨g4, gn6⟩, g5⟩ : 0 ≤ y ∧ (RB r ∧ n ≤ 6) ∧ ((btS r (r 307 18) ≠ 124 ∧ x = 60 * r 307 12 + r 307 21 ∧ t = sset (sset (sset r 307 21 (r 307 21 + 1)) 312 (60 * r 307 12 + r 307 21) (if n = 0 then y else f)) 313 (60 * r 307 12 + r 307 21) (n + 1)) ∨
             (btS r (r 307 18) = 124 ∧ n + 1 = 6 ∧ x = -1 ∧ t = sset r 307 19 (r 307 18)) ∨ (btS r (r 307 18) = 124 ∧ n + 1 ≠ 6 ∧ pipeL lr dp m1 (sset r 307 18 (r 307 18 + 1)) (n + 1) (if n = 0 then y else f) = some (x, t))) := by
          rcases g2 with ⟨q, _⟩ | q
          · omega
          · exact q
        obtain ⟨⟨k17, k18, k12⟩, ⟨k20, k21, k22⟩, k322, kwr⟩ := g4
        have hb1 := bt_r k322 (k := r 307 18) (by omega)
        refine aw_iload_n (pc' := 28) rfl dX13_pipeRead_27 rfl ?_
        refine aw_if_ne (pt := 36) (pf := 31) dX13_pipeRead_28 (by decide) rfl (fun c_28 => ?_) (fun c_28 => ?_)
        · refine aw_iload_n (pc' := 37) rfl dX13_pipeRead_36 rfl ?_
          refine aw_istore_n (pc' := 38) (lv' := [_, _, _, _, _]) dX13_pipeRead_37 rfl (by decide) rfl ?_
          refine aw_iinc (pc' := 41) (lv' := [_, _, _, _, _]) dX13_pipeRead_38 rfl rfl (by decide) (by first | exact w32_id (by omega) (by omega) | rfl) rfl ?_
          refine aw_aload_n (pc' := 42) rfl dX13_pipeRead_41 rfl ?_
          refine aw_aload_n (pc' := 43) rfl dX13_pipeRead_42 rfl ?_
          refine aw_geti (pc' := 46) (k9 := 18) dX13_pipeRead_43 rfl fX13_206 rfl (by decide) rfl (MO (A := (lift A s)) hM) ?_
          try simp (disch := omega) only [hv_in, lift_set, sset_e, sset_1, sset_2, workS_o, stagesS_o, beginsS_o, scpy_o, lift_cpy, sset_ss, bt_18, bt_315, wof_18]
          refine aw_callV (ci := 11) (d' := d - 1) (as := [_]) (pc' := 49) (by decide) rfl kX13_byteAt iX13_byteAt sX13_byteAt lX13_209 (MO (A := (lift A s)) hM) dX13_pipeRead_46 rfl rfl (Nat.le_of_ble_eq_true rfl) (by omega) ?_
          try simp (disch := omega) only [hv_in, lift_set, sset_e, sset_1, sset_2, workS_o, stagesS_o, beginsS_o, scpy_o, lift_cpy, sset_ss, bt_18, bt_315, wof_18]
          refine c_byteAt (by omega) hM k17 (by omega) ?_
          refine aw_bipush (pc' := 51) (by decide +kernel) dX13_pipeRead_49 rfl ?_
          refine aw_icmp_eq (pt := 57) (pf := 54) dX13_pipeRead_51 (by decide) rfl (fun c_51 => ?_) (fun c_51 => ?_)
          · refine aw_iload_n (pc' := 58) rfl dX13_pipeRead_57 rfl ?_
            refine aw_bipush (pc' := 60) (by decide +kernel) dX13_pipeRead_58 rfl ?_
            refine aw_icmp_ne (pt := 74) (pf := 63) dX13_pipeRead_60 (by decide) rfl (fun c_60 => ?_) (fun c_60 => ?_)
            · refine aw_aload_n (pc' := 75) rfl dX13_pipeRead_74 rfl ?_
              refine aw_dup (pc' := 76) rfl dX13_pipeRead_75 rfl ?_
              refine aw_geti (pc' := 79) (k9 := 18) dX13_pipeRead_76 rfl fX13_206 rfl (by decide) rfl (MO (A := (lift A s)) hM) ?_
              try simp (disch := omega) only [hv_in, lift_set, sset_e, sset_1, sset_2, workS_o, stagesS_o, beginsS_o, scpy_o, lift_cpy, sset_ss, bt_18, bt_315, wof_18]
              refine aw_iconst (pc' := 80) (by decide) dX13_pipeRead_79 rfl ?_
              refine aw_iadd (pc' := 81) (by first | exact w32_id (by omega) (by omega) | rfl) dX13_pipeRead_80 rfl ?_
              refine aw_puti (pc' := 84) (k9 := 18) dX13_pipeRead_81 rfl fX13_206 rfl rfl rfl (MO (A := (lift A s)) hM) ?_
              refine aw_goto (pc' := 4) dX13_pipeRead_84 (by decide) ?_
              try simp (disch := omega) only [hv_in, lift_set, sset_e, sset_1, sset_2, workS_o, stagesS_o, beginsS_o, scpy_o, lift_cpy, sset_ss, bt_18, bt_315, wof_18]
              have g6 : pipeL lr dp m1 (sset r 307 18 (r 307 18 + 1)) (n + 1) (if n = 0 then y else f) = some (x, t) := by
                rcases g5 with ⟨q, _⟩ | ⟨_, q, _⟩ | ⟨_, _, q⟩
                · omega
                · omega
                · exact q
              rw [show (if n = 0 then y else f) = f from by first | exact if_neg (by omega) | (exfalso; omega)] at g6
              exact ih m1 (by omega) _ (n + 1) _ hd hM hL hK hdp (by omega) g6 hQ _
            · replace c_60 := Classical.not_not.mp c_60
              refine aw_aload_n (pc' := 64) rfl dX13_pipeRead_63 rfl ?_
              refine aw_aload_n (pc' := 65) rfl dX13_pipeRead_64 rfl ?_
              refine aw_geti (pc' := 68) (k9 := 18) dX13_pipeRead_65 rfl fX13_206 rfl (by decide) rfl (MO (A := (lift A s)) hM) ?_
              try simp (disch := omega) only [hv_in, lift_set, sset_e, sset_1, sset_2, workS_o, stagesS_o, beginsS_o, scpy_o, lift_cpy, sset_ss, bt_18, bt_315, wof_18]
              refine aw_callV (ci := 11) (d' := d - 1) (as := [_]) (pc' := 71) (by decide) rfl kX13_stops iX13_stops sX13_stops lX13_216 (MO (A := (lift A s)) hM) dX13_pipeRead_68 rfl rfl (Nat.le_of_ble_eq_true rfl) (by omega) ?_
              try simp (disch := omega) only [hv_in, lift_set, sset_e, sset_1, sset_2, workS_o, stagesS_o, beginsS_o, scpy_o, lift_cpy, sset_ss, bt_18, bt_315]
              refine c_stops (by omega) hM ?_
              unfold stopS
              refine aw_pop (pc' := 72) rfl dX13_pipeRead_71 rfl ?_
              refine aw_iconst (pc' := 73) (by decide) dX13_pipeRead_72 rfl ?_
              refine AW.ret (some (vi _)) dX13_pipeRead_73 trivial ?_
              try simp (disch := omega) only [hv_in, lift_set, sset_e, sset_1, sset_2, workS_o, stagesS_o, beginsS_o, scpy_o, lift_cpy, sset_ss, bt_18, bt_315, wof_18]
              rcases g5 with ⟨q, _⟩ | ⟨_, _, q1, q2⟩ | ⟨_, q, _⟩
              · omega
              · subst q1 q2
                exact hQ
              · omega
          · refine aw_goto (pc' := 87) dX13_pipeRead_54 (by decide) ?_
            refine aw_bipush (pc' := 89) (by decide +kernel) dX13_pipeRead_87 rfl ?_
            refine aw_aload_n (pc' := 90) rfl dX13_pipeRead_89 rfl ?_
            refine aw_geti (pc' := 93) (k9 := 12) dX13_pipeRead_90 rfl fX13_196 rfl (by decide) rfl (MO (A := (lift A s)) hM) ?_
            try simp (disch := omega) only [hv_in, lift_set, sset_e, sset_1, sset_2, workS_o, stagesS_o, beginsS_o, scpy_o, lift_cpy, sset_ss, bt_18, bt_315, wof_18]
            refine aw_imul (pc' := 94) (by first | exact w32_id (by omega) (by omega) | rfl) dX13_pipeRead_93 rfl ?_
            refine aw_aload_n (pc' := 95) rfl dX13_pipeRead_94 rfl ?_
            refine aw_geti (pc' := 98) (k9 := 21) dX13_pipeRead_95 rfl fX13_220 rfl (by decide) rfl (MO (A := (lift A s)) hM) ?_
            try simp (disch := omega) only [hv_in, lift_set, sset_e, sset_1, sset_2, workS_o, stagesS_o, beginsS_o, scpy_o, lift_cpy, sset_ss, bt_18, bt_315, wof_18]
            refine aw_iadd (pc' := 99) (by first | exact w32_id (by omega) (by omega) | rfl) dX13_pipeRead_98 rfl ?_
            refine aw_istore (pc' := 101) (lv' := [_, _, _, _, _]) dX13_pipeRead_99 rfl (by decide) rfl ?_
            refine aw_aload_n (pc' := 102) rfl dX13_pipeRead_101 rfl ?_
            refine aw_dup (pc' := 103) rfl dX13_pipeRead_102 rfl ?_
            refine aw_geti (pc' := 106) (k9 := 21) dX13_pipeRead_103 rfl fX13_220 rfl (by decide) rfl (MO (A := (lift A s)) hM) ?_
            try simp (disch := omega) only [hv_in, lift_set, sset_e, sset_1, sset_2, workS_o, stagesS_o, beginsS_o, scpy_o, lift_cpy, sset_ss, bt_18, bt_315, wof_18]
            refine aw_iconst (pc' := 107) (by decide) dX13_pipeRead_106 rfl ?_
            refine aw_iadd (pc' := 108) (by first | exact w32_id (by omega) (by omega) | rfl) dX13_pipeRead_107 rfl ?_
            refine aw_puti (pc' := 111) (k9 := 21) dX13_pipeRead_108 rfl fX13_220 rfl rfl rfl (MO (A := (lift A s)) hM) ?_
            refine aw_aload_n (pc' := 112) rfl dX13_pipeRead_111 rfl ?_
            refine aw_getp (pc' := 115) (k9 := 4) (p := 312) dX13_pipeRead_112 rfl fX13_55 rfl rfl rfl (MO (A := (lift A s)) hM) (M_stageFirst (A := (lift A s)) hM) ?_
            refine aw_iload (pc' := 117) rfl dX13_pipeRead_115 rfl ?_
            refine aw_iload_n (pc' := 118) rfl dX13_pipeRead_117 rfl ?_
            refine aw_iast (pc' := 119) dX13_pipeRead_118 rfl (MA_stageFirst (A := (lift A s)) hM) (by omega) (by omega) ?_
            refine aw_aload_n (pc' := 120) rfl dX13_pipeRead_119 rfl ?_
            refine aw_getp (pc' := 123) (k9 := 5) (p := 313) dX13_pipeRead_120 rfl fX13_58 rfl rfl rfl (MO (A := (lift A s)) hM) (M_stageMany (A := (lift A s)) hM) ?_
            refine aw_iload (pc' := 125) rfl dX13_pipeRead_123 rfl ?_
            refine aw_iload_n (pc' := 126) rfl dX13_pipeRead_125 rfl ?_
            refine aw_iast (pc' := 127) dX13_pipeRead_126 rfl (MA_stageMany (A := (lift A s)) hM) (by omega) (by omega) ?_
            refine aw_iload (pc' := 129) rfl dX13_pipeRead_127 rfl ?_
            refine AW.ret (some (vi _)) dX13_pipeRead_129 trivial ?_
            try simp (disch := omega) only [hv_in, lift_set, sset_e, sset_1, sset_2, workS_o, stagesS_o, beginsS_o, scpy_o, lift_cpy, sset_ss, bt_18, bt_315, wof_18]
            rcases g5 with ⟨_, q1, q2⟩ | ⟨q, _⟩ | ⟨q, _⟩
            · subst q1 q2
              rw [show (if n = 0 then y else f) = f from by first | exact if_neg (by omega) | (exfalso; omega)] at hQ
              exact hQ
            · omega
            · omega
        · replace c_28 := Classical.not_not.mp c_28
          refine aw_iload (pc' := 33) rfl dX13_pipeRead_31 rfl ?_
          refine aw_goto (pc' := 37) dX13_pipeRead_33 (by decide) ?_
          refine aw_istore_n (pc' := 38) (lv' := [_, _, _, _, _]) dX13_pipeRead_37 rfl (by decide) rfl ?_
          refine aw_iinc (pc' := 41) (lv' := [_, _, _, _, _]) dX13_pipeRead_38 rfl rfl (by decide) (by first | exact w32_id (by omega) (by omega) | rfl) rfl ?_
          refine aw_aload_n (pc' := 42) rfl dX13_pipeRead_41 rfl ?_
          refine aw_aload_n (pc' := 43) rfl dX13_pipeRead_42 rfl ?_
          refine aw_geti (pc' := 46) (k9 := 18) dX13_pipeRead_43 rfl fX13_206 rfl (by decide) rfl (MO (A := (lift A s)) hM) ?_
          try simp (disch := omega) only [hv_in, lift_set, sset_e, sset_1, sset_2, workS_o, stagesS_o, beginsS_o, scpy_o, lift_cpy, sset_ss, bt_18, bt_315, wof_18]
          refine aw_callV (ci := 11) (d' := d - 1) (as := [_]) (pc' := 49) (by decide) rfl kX13_byteAt iX13_byteAt sX13_byteAt lX13_209 (MO (A := (lift A s)) hM) dX13_pipeRead_46 rfl rfl (Nat.le_of_ble_eq_true rfl) (by omega) ?_
          try simp (disch := omega) only [hv_in, lift_set, sset_e, sset_1, sset_2, workS_o, stagesS_o, beginsS_o, scpy_o, lift_cpy, sset_ss, bt_18, bt_315, wof_18]
          refine c_byteAt (by omega) hM k17 (by omega) ?_
          refine aw_bipush (pc' := 51) (by decide +kernel) dX13_pipeRead_49 rfl ?_
          refine aw_icmp_eq (pt := 57) (pf := 54) dX13_pipeRead_51 (by decide) rfl (fun c_51 => ?_) (fun c_51 => ?_)
          · refine aw_iload_n (pc' := 58) rfl dX13_pipeRead_57 rfl ?_
            refine aw_bipush (pc' := 60) (by decide +kernel) dX13_pipeRead_58 rfl ?_
            refine aw_icmp_ne (pt := 74) (pf := 63) dX13_pipeRead_60 (by decide) rfl (fun c_60 => ?_) (fun c_60 => ?_)
            · refine aw_aload_n (pc' := 75) rfl dX13_pipeRead_74 rfl ?_
              refine aw_dup (pc' := 76) rfl dX13_pipeRead_75 rfl ?_
              refine aw_geti (pc' := 79) (k9 := 18) dX13_pipeRead_76 rfl fX13_206 rfl (by decide) rfl (MO (A := (lift A s)) hM) ?_
              try simp (disch := omega) only [hv_in, lift_set, sset_e, sset_1, sset_2, workS_o, stagesS_o, beginsS_o, scpy_o, lift_cpy, sset_ss, bt_18, bt_315, wof_18]
              refine aw_iconst (pc' := 80) (by decide) dX13_pipeRead_79 rfl ?_
              refine aw_iadd (pc' := 81) (by first | exact w32_id (by omega) (by omega) | rfl) dX13_pipeRead_80 rfl ?_
              refine aw_puti (pc' := 84) (k9 := 18) dX13_pipeRead_81 rfl fX13_206 rfl rfl rfl (MO (A := (lift A s)) hM) ?_
              refine aw_goto (pc' := 4) dX13_pipeRead_84 (by decide) ?_
              try simp (disch := omega) only [hv_in, lift_set, sset_e, sset_1, sset_2, workS_o, stagesS_o, beginsS_o, scpy_o, lift_cpy, sset_ss, bt_18, bt_315, wof_18]
              have g6 : pipeL lr dp m1 (sset r 307 18 (r 307 18 + 1)) (n + 1) (if n = 0 then y else f) = some (x, t) := by
                rcases g5 with ⟨q, _⟩ | ⟨_, q, _⟩ | ⟨_, _, q⟩
                · omega
                · omega
                · exact q
              rw [show (if n = 0 then y else f) = y from by first | exact if_pos (by omega) | (exfalso; omega)] at g6
              exact ih m1 (by omega) _ (n + 1) _ hd hM hL hK hdp (by omega) g6 hQ _
            · replace c_60 := Classical.not_not.mp c_60
              refine aw_aload_n (pc' := 64) rfl dX13_pipeRead_63 rfl ?_
              refine aw_aload_n (pc' := 65) rfl dX13_pipeRead_64 rfl ?_
              refine aw_geti (pc' := 68) (k9 := 18) dX13_pipeRead_65 rfl fX13_206 rfl (by decide) rfl (MO (A := (lift A s)) hM) ?_
              try simp (disch := omega) only [hv_in, lift_set, sset_e, sset_1, sset_2, workS_o, stagesS_o, beginsS_o, scpy_o, lift_cpy, sset_ss, bt_18, bt_315, wof_18]
              refine aw_callV (ci := 11) (d' := d - 1) (as := [_]) (pc' := 71) (by decide) rfl kX13_stops iX13_stops sX13_stops lX13_216 (MO (A := (lift A s)) hM) dX13_pipeRead_68 rfl rfl (Nat.le_of_ble_eq_true rfl) (by omega) ?_
              try simp (disch := omega) only [hv_in, lift_set, sset_e, sset_1, sset_2, workS_o, stagesS_o, beginsS_o, scpy_o, lift_cpy, sset_ss, bt_18, bt_315]
              refine c_stops (by omega) hM ?_
              unfold stopS
              refine aw_pop (pc' := 72) rfl dX13_pipeRead_71 rfl ?_
              refine aw_iconst (pc' := 73) (by decide) dX13_pipeRead_72 rfl ?_
              refine AW.ret (some (vi _)) dX13_pipeRead_73 trivial ?_
              try simp (disch := omega) only [hv_in, lift_set, sset_e, sset_1, sset_2, workS_o, stagesS_o, beginsS_o, scpy_o, lift_cpy, sset_ss, bt_18, bt_315, wof_18]
              rcases g5 with ⟨q, _⟩ | ⟨_, _, q1, q2⟩ | ⟨_, q, _⟩
              · omega
              · subst q1 q2
                exact hQ
              · omega
          · refine aw_goto (pc' := 87) dX13_pipeRead_54 (by decide) ?_
            refine aw_bipush (pc' := 89) (by decide +kernel) dX13_pipeRead_87 rfl ?_
            refine aw_aload_n (pc' := 90) rfl dX13_pipeRead_89 rfl ?_
            refine aw_geti (pc' := 93) (k9 := 12) dX13_pipeRead_90 rfl fX13_196 rfl (by decide) rfl (MO (A := (lift A s)) hM) ?_
            try simp (disch := omega) only [hv_in, lift_set, sset_e, sset_1, sset_2, workS_o, stagesS_o, beginsS_o, scpy_o, lift_cpy, sset_ss, bt_18, bt_315, wof_18]
            refine aw_imul (pc' := 94) (by first | exact w32_id (by omega) (by omega) | rfl) dX13_pipeRead_93 rfl ?_
            refine aw_aload_n (pc' := 95) rfl dX13_pipeRead_94 rfl ?_
            refine aw_geti (pc' := 98) (k9 := 21) dX13_pipeRead_95 rfl fX13_220 rfl (by decide) rfl (MO (A := (lift A s)) hM) ?_
            try simp (disch := omega) only [hv_in, lift_set, sset_e, sset_1, sset_2, workS_o, stagesS_o, beginsS_o, scpy_o, lift_cpy, sset_ss, bt_18, bt_315, wof_18]
            refine aw_iadd (pc' := 99) (by first | exact w32_id (by omega) (by omega) | rfl) dX13_pipeRead_98 rfl ?_
            refine aw_istore (pc' := 101) (lv' := [_, _, _, _, _]) dX13_pipeRead_99 rfl (by decide) rfl ?_
            refine aw_aload_n (pc' := 102) rfl dX13_pipeRead_101 rfl ?_
            refine aw_dup (pc' := 103) rfl dX13_pipeRead_102 rfl ?_
            refine aw_geti (pc' := 106) (k9 := 21) dX13_pipeRead_103 rfl fX13_220 rfl (by decide) rfl (MO (A := (lift A s)) hM) ?_
            try simp (disch := omega) only [hv_in, lift_set, sset_e, sset_1, sset_2, workS_o, stagesS_o, beginsS_o, scpy_o, lift_cpy, sset_ss, bt_18, bt_315, wof_18]
            refine aw_iconst (pc' := 107) (by decide) dX13_pipeRead_106 rfl ?_
            refine aw_iadd (pc' := 108) (by first | exact w32_id (by omega) (by omega) | rfl) dX13_pipeRead_107 rfl ?_
            refine aw_puti (pc' := 111) (k9 := 21) dX13_pipeRead_108 rfl fX13_220 rfl rfl rfl (MO (A := (lift A s)) hM) ?_
            refine aw_aload_n (pc' := 112) rfl dX13_pipeRead_111 rfl ?_
            refine aw_getp (pc' := 115) (k9 := 4) (p := 312) dX13_pipeRead_112 rfl fX13_55 rfl rfl rfl (MO (A := (lift A s)) hM) (M_stageFirst (A := (lift A s)) hM) ?_
            refine aw_iload (pc' := 117) rfl dX13_pipeRead_115 rfl ?_
            refine aw_iload_n (pc' := 118) rfl dX13_pipeRead_117 rfl ?_
            refine aw_iast (pc' := 119) dX13_pipeRead_118 rfl (MA_stageFirst (A := (lift A s)) hM) (by omega) (by omega) ?_
            refine aw_aload_n (pc' := 120) rfl dX13_pipeRead_119 rfl ?_
            refine aw_getp (pc' := 123) (k9 := 5) (p := 313) dX13_pipeRead_120 rfl fX13_58 rfl rfl rfl (MO (A := (lift A s)) hM) (M_stageMany (A := (lift A s)) hM) ?_
            refine aw_iload (pc' := 125) rfl dX13_pipeRead_123 rfl ?_
            refine aw_iload_n (pc' := 126) rfl dX13_pipeRead_125 rfl ?_
            refine aw_iast (pc' := 127) dX13_pipeRead_126 rfl (MA_stageMany (A := (lift A s)) hM) (by omega) (by omega) ?_
            refine aw_iload (pc' := 129) rfl dX13_pipeRead_127 rfl ?_
            refine AW.ret (some (vi _)) dX13_pipeRead_129 trivial ?_
            try simp (disch := omega) only [hv_in, lift_set, sset_e, sset_1, sset_2, workS_o, stagesS_o, beginsS_o, scpy_o, lift_cpy, sset_ss, bt_18, bt_315, wof_18]
            rcases g5 with ⟨_, q1, q2⟩ | ⟨q, _⟩ | ⟨q, _⟩
            · subst q1 q2
              rw [show (if n = 0 then y else f) = y from by first | exact if_pos (by omega) | (exfalso; omega)] at hQ
              exact hQ
            · omega
            · omega
      · 
        refine aw_iconst (pc' := 26) (by decide) dX13_pipeRead_25 rfl ?_
        refine AW.ret (some (vi _)) dX13_pipeRead_26 trivial ?_
        rcases g2 with ⟨_, q1, q2⟩ | ⟨q, _⟩
        · subst q1 q2
          exact hQ
        · omega
    · replace c_6 := Classical.not_not.mp c_6
      refine aw_iconst (pc' := 10) (by decide) dX13_pipeRead_9 rfl ?_
      refine aw_goto (pc' := 14) dX13_pipeRead_10 (by decide) ?_
      refine aw_iload_n (pc' := 15) rfl dX13_pipeRead_14 rfl ?_
      refine aw_callV (ci := 11) (d' := d - 1) (as := [_, _]) (pc' := 18) (by decide) rfl kX13_stageRead iX13_stageRead sX13_stageRead lX13_212 (MO (A := (lift A s)) hM) dX13_pipeRead_15 rfl rfl (Nat.le_of_ble_eq_true rfl) (by omega) ?_
      obtain ⟨m1, y, r, em, g1, g2⟩ := pipeL_s h
      first | rw [if_pos (by omega)] at g1 | rw [if_neg (by omega)] at g1
      refine c_stageRead (by omega) hM hL hK hdp g1 ?_
      refine aw_istore (pc' := 20) (lv' := [_, _, _, _, _]) dX13_pipeRead_18 rfl (by decide) rfl ?_
      refine aw_iload (pc' := 22) rfl dX13_pipeRead_20 rfl ?_
      refine aw_if_ge (pt := 27) (pf := 25) dX13_pipeRead_22 (by decide) rfl (fun c_22 => ?_) (fun c_22 => ?_)
      · obtain ⟨g3, ⟨g4, gn6⟩, g5⟩ : 0 ≤ y ∧ (RB r ∧ n ≤ 6) ∧ ((btS r (r 307 18) ≠ 124 ∧ x = 60 * r 307 12 + r 307 21 ∧ t = sset (sset (sset r 307 21 (r 307 21 + 1)) 312 (60 * r 307 12 + r 307 21) (if n = 0 then y else f)) 313 (60 * r 307 12 + r 307 21) (n + 1)) ∨
             (btS r (r 307 18) = 124 ∧ n + 1 = 6 ∧ x = -1 ∧ t = sset r 307 19 (r 307 18)) ∨ (btS r (r 307 18) = 124 ∧ n + 1 ≠ 6 ∧ pipeL lr dp m1 (sset r 307 18 (r 307 18 + 1)) (n + 1) (if n = 0 then y else f) = some (x, t))) := by
          rcases g2 with ⟨q, _⟩ | q
          · omega
          · exact q
        obtain ⟨⟨k17, k18, k12⟩, ⟨k20, k21, k22⟩, k322, kwr⟩ := g4
        have hb1 := bt_r k322 (k := r 307 18) (by omega)
        refine aw_iload_n (pc' := 28) rfl dX13_pipeRead_27 rfl ?_
        refine aw_if_ne (pt := 36) (pf := 31) dX13_pipeRead_28 (by decide) rfl (fun c_28 => ?_) (fun c_28 => ?_)
        · refine aw_iload_n (pc' := 37) rfl dX13_pipeRead_36 rfl ?_
          refine aw_istore_n (pc' := 38) (lv' := [_, _, _, _, _]) dX13_pipeRead_37 rfl (by decide) rfl ?_
          refine aw_iinc (pc' := 41) (lv' := [_, _, _, _, _]) dX13_pipeRead_38 rfl rfl (by decide) (by first | exact w32_id (by omega) (by omega) | rfl) rfl ?_
          refine aw_aload_n (pc' := 42) rfl dX13_pipeRead_41 rfl ?_
          refine aw_aload_n (pc' := 43) rfl dX13_pipeRead_42 rfl ?_
          refine aw_geti (pc' := 46) (k9 := 18) dX13_pipeRead_43 rfl fX13_206 rfl (by decide) rfl (MO (A := (lift A s)) hM) ?_
          try simp (disch := omega) only [hv_in, lift_set, sset_e, sset_1, sset_2, workS_o, stagesS_o, beginsS_o, scpy_o, lift_cpy, sset_ss, bt_18, bt_315, wof_18]
          refine aw_callV (ci := 11) (d' := d - 1) (as := [_]) (pc' := 49) (by decide) rfl kX13_byteAt iX13_byteAt sX13_byteAt lX13_209 (MO (A := (lift A s)) hM) dX13_pipeRead_46 rfl rfl (Nat.le_of_ble_eq_true rfl) (by omega) ?_
          try simp (disch := omega) only [hv_in, lift_set, sset_e, sset_1, sset_2, workS_o, stagesS_o, beginsS_o, scpy_o, lift_cpy, sset_ss, bt_18, bt_315, wof_18]
          refine c_byteAt (by omega) hM k17 (by omega) ?_
          refine aw_bipush (pc' := 51) (by decide +kernel) dX13_pipeRead_49 rfl ?_
          refine aw_icmp_eq (pt := 57) (pf := 54) dX13_pipeRead_51 (by decide) rfl (fun c_51 => ?_) (fun c_51 => ?_)
          · refine aw_iload_n (pc' := 58) rfl dX13_pipeRead_57 rfl ?_
            refine aw_bipush (pc' := 60) (by decide +kernel) dX13_pipeRead_58 rfl ?_
            refine aw_icmp_ne (pt := 74) (pf := 63) dX13_pipeRead_60 (by decide) rfl (fun c_60 => ?_) (fun c_60 => ?_)
            · refine aw_aload_n (pc' := 75) rfl dX13_pipeRead_74 rfl ?_
              refine aw_dup (pc' := 76) rfl dX13_pipeRead_75 rfl ?_
              refine aw_geti (pc' := 79) (k9 := 18) dX13_pipeRead_76 rfl fX13_206 rfl (by decide) rfl (MO (A := (lift A s)) hM) ?_
              try simp (disch := omega) only [hv_in, lift_set, sset_e, sset_1, sset_2, workS_o, stagesS_o, beginsS_o, scpy_o, lift_cpy, sset_ss, bt_18, bt_315, wof_18]
              refine aw_iconst (pc' := 80) (by decide) dX13_pipeRead_79 rfl ?_
              refine aw_iadd (pc' := 81) (by first | exact w32_id (by omega) (by omega) | rfl) dX13_pipeRead_80 rfl ?_
              refine aw_puti (pc' := 84) (k9 := 18) dX13_pipeRead_81 rfl fX13_206 rfl rfl rfl (MO (A := (lift A s)) hM) ?_
              refine aw_goto (pc' := 4) dX13_pipeRead_84 (by decide) ?_
              try simp (disch := omega) only [hv_in, lift_set, sset_e, sset_1, sset_2, workS_o, stagesS_o, beginsS_o, scpy_o, lift_cpy, sset_ss, bt_18, bt_315, wof_18]
              have g6 : pipeL lr dp m1 (sset r 307 18 (r 307 18 + 1)) (n + 1) (if n = 0 then y else f) = some (x, t) := by
                rcases g5 with ⟨q, _⟩ | ⟨_, q, _⟩ | ⟨_, _, q⟩
                · omega
                · omega
                · exact q
              rw [show (if n = 0 then y else f) = f from by first | exact if_neg (by omega) | (exfalso; omega)] at g6
              exact ih m1 (by omega) _ (n + 1) _ hd hM hL hK hdp (by omega) g6 hQ _
            · replace c_60 := Classical.not_not.mp c_60
              refine aw_aload_n (pc' := 64) rfl dX13_pipeRead_63 rfl ?_
              refine aw_aload_n (pc' := 65) rfl dX13_pipeRead_64 rfl ?_
              refine aw_geti (pc' := 68) (k9 := 18) dX13_pipeRead_65 rfl fX13_206 rfl (by decide) rfl (MO (A := (lift A s)) hM) ?_
              try simp (disch := omega) only [hv_in, lift_set, sset_e, sset_1, sset_2, workS_o, stagesS_o, beginsS_o, scpy_o, lift_cpy, sset_ss, bt_18, bt_315, wof_18]
              refine aw_callV (ci := 11) (d' := d - 1) (as := [_]) (pc' := 71) (by decide) rfl kX13_stops iX13_stops sX13_stops lX13_216 (MO (A := (lift A s)) hM) dX13_pipeRead_68 rfl rfl (Nat.le_of_ble_eq_true rfl) (by omega) ?_
              try simp (disch := omega) only [hv_in, lift_set, sset_e, sset_1, sset_2, workS_o, stagesS_o, beginsS_o, scpy_o, lift_cpy, sset_ss, bt_18, bt_315]
              refine c_stops (by omega) hM ?_
              unfold stopS
              refine aw_pop (pc' := 72) rfl dX13_pipeRead_71 rfl ?_
              refine aw_iconst (pc' := 73) (by decide) dX13_pipeRead_72 rfl ?_
              refine AW.ret (some (vi _)) dX13_pipeRead_73 trivial ?_
              try simp (disch := omega) only [hv_in, lift_set, sset_e, sset_1, sset_2, workS_o, stagesS_o, beginsS_o, scpy_o, lift_cpy, sset_ss, bt_18, bt_315, wof_18]
              rcases g5 with ⟨q, _⟩ | ⟨_, _, q1, q2⟩ | ⟨_, q, _⟩
              · omega
              · subst q1 q2
                exact hQ
              · omega
          · refine aw_goto (pc' := 87) dX13_pipeRead_54 (by decide) ?_
            refine aw_bipush (pc' := 89) (by decide +kernel) dX13_pipeRead_87 rfl ?_
            refine aw_aload_n (pc' := 90) rfl dX13_pipeRead_89 rfl ?_
            refine aw_geti (pc' := 93) (k9 := 12) dX13_pipeRead_90 rfl fX13_196 rfl (by decide) rfl (MO (A := (lift A s)) hM) ?_
            try simp (disch := omega) only [hv_in, lift_set, sset_e, sset_1, sset_2, workS_o, stagesS_o, beginsS_o, scpy_o, lift_cpy, sset_ss, bt_18, bt_315, wof_18]
            refine aw_imul (pc' := 94) (by first | exact w32_id (by omega) (by omega) | rfl) dX13_pipeRead_93 rfl ?_
            refine aw_aload_n (pc' := 95) rfl dX13_pipeRead_94 rfl ?_
            refine aw_geti (pc' := 98) (k9 := 21) dX13_pipeRead_95 rfl fX13_220 rfl (by decide) rfl (MO (A := (lift A s)) hM) ?_
            try simp (disch := omega) only [hv_in, lift_set, sset_e, sset_1, sset_2, workS_o, stagesS_o, beginsS_o, scpy_o, lift_cpy, sset_ss, bt_18, bt_315, wof_18]
            refine aw_iadd (pc' := 99) (by first | exact w32_id (by omega) (by omega) | rfl) dX13_pipeRead_98 rfl ?_
            refine aw_istore (pc' := 101) (lv' := [_, _, _, _, _]) dX13_pipeRead_99 rfl (by decide) rfl ?_
            refine aw_aload_n (pc' := 102) rfl dX13_pipeRead_101 rfl ?_
            refine aw_dup (pc' := 103) rfl dX13_pipeRead_102 rfl ?_
            refine aw_geti (pc' := 106) (k9 := 21) dX13_pipeRead_103 rfl fX13_220 rfl (by decide) rfl (MO (A := (lift A s)) hM) ?_
            try simp (disch := omega) only [hv_in, lift_set, sset_e, sset_1, sset_2, workS_o, stagesS_o, beginsS_o, scpy_o, lift_cpy, sset_ss, bt_18, bt_315, wof_18]
            refine aw_iconst (pc' := 107) (by decide) dX13_pipeRead_106 rfl ?_
            refine aw_iadd (pc' := 108) (by first | exact w32_id (by omega) (by omega) | rfl) dX13_pipeRead_107 rfl ?_
            refine aw_puti (pc' := 111) (k9 := 21) dX13_pipeRead_108 rfl fX13_220 rfl rfl rfl (MO (A := (lift A s)) hM) ?_
            refine aw_aload_n (pc' := 112) rfl dX13_pipeRead_111 rfl ?_
            refine aw_getp (pc' := 115) (k9 := 4) (p := 312) dX13_pipeRead_112 rfl fX13_55 rfl rfl rfl (MO (A := (lift A s)) hM) (M_stageFirst (A := (lift A s)) hM) ?_
            refine aw_iload (pc' := 117) rfl dX13_pipeRead_115 rfl ?_
            refine aw_iload_n (pc' := 118) rfl dX13_pipeRead_117 rfl ?_
            refine aw_iast (pc' := 119) dX13_pipeRead_118 rfl (MA_stageFirst (A := (lift A s)) hM) (by omega) (by omega) ?_
            refine aw_aload_n (pc' := 120) rfl dX13_pipeRead_119 rfl ?_
            refine aw_getp (pc' := 123) (k9 := 5) (p := 313) dX13_pipeRead_120 rfl fX13_58 rfl rfl rfl (MO (A := (lift A s)) hM) (M_stageMany (A := (lift A s)) hM) ?_
            refine aw_iload (pc' := 125) rfl dX13_pipeRead_123 rfl ?_
            refine aw_iload_n (pc' := 126) rfl dX13_pipeRead_125 rfl ?_
            refine aw_iast (pc' := 127) dX13_pipeRead_126 rfl (MA_stageMany (A := (lift A s)) hM) (by omega) (by omega) ?_
            refine aw_iload (pc' := 129) rfl dX13_pipeRead_127 rfl ?_
            refine AW.ret (some (vi _)) dX13_pipeRead_129 trivial ?_
            try simp (disch := omega) only [hv_in, lift_set, sset_e, sset_1, sset_2, workS_o, stagesS_o, beginsS_o, scpy_o, lift_cpy, sset_ss, bt_18, bt_315, wof_18]
            rcases g5 with ⟨_, q1, q2⟩ | ⟨q, _⟩ | ⟨q, _⟩
            · subst q1 q2
              rw [show (if n = 0 then y else f) = f from by first | exact if_neg (by omega) | (exfalso; omega)] at hQ
              exact hQ
            · omega
            · omega
        · replace c_28 := Classical.not_not.mp c_28
          refine aw_iload (pc' := 33) rfl dX13_pipeRead_31 rfl ?_
          refine aw_goto (pc' := 37) dX13_pipeRead_33 (by decide) ?_
          refine aw_istore_n (pc' := 38) (lv' := [_, _, _, _, _]) dX13_pipeRead_37 rfl (by decide) rfl ?_
          refine aw_iinc (pc' := 41) (lv' := [_, _, _, _, _]) dX13_pipeRead_38 rfl rfl (by decide) (by first | exact w32_id (by omega) (by omega) | rfl) rfl ?_
          refine aw_aload_n (pc' := 42) rfl dX13_pipeRead_41 rfl ?_
          refine aw_aload_n (pc' := 43) rfl dX13_pipeRead_42 rfl ?_
          refine aw_geti (pc' := 46) (k9 := 18) dX13_pipeRead_43 rfl fX13_206 rfl (by decide) rfl (MO (A := (lift A s)) hM) ?_
          try simp (disch := omega) only [hv_in, lift_set, sset_e, sset_1, sset_2, workS_o, stagesS_o, beginsS_o, scpy_o, lift_cpy, sset_ss, bt_18, bt_315, wof_18]
          refine aw_callV (ci := 11) (d' := d - 1) (as := [_]) (pc' := 49) (by decide) rfl kX13_byteAt iX13_byteAt sX13_byteAt lX13_209 (MO (A := (lift A s)) hM) dX13_pipeRead_46 rfl rfl (Nat.le_of_ble_eq_true rfl) (by omega) ?_
          try simp (disch := omega) only [hv_in, lift_set, sset_e, sset_1, sset_2, workS_o, stagesS_o, beginsS_o, scpy_o, lift_cpy, sset_ss, bt_18, bt_315, wof_18]
          refine c_byteAt (by omega) hM k17 (by omega) ?_
          refine aw_bipush (pc' := 51) (by decide +kernel) dX13_pipeRead_49 rfl ?_
          refine aw_icmp_eq (pt := 57) (pf := 54) dX13_pipeRead_51 (by decide) rfl (fun c_51 => ?_) (fun c_51 => ?_)
          · refine aw_iload_n (pc' := 58) rfl dX13_pipeRead_57 rfl ?_
            refine aw_bipush (pc' := 60) (by decide +kernel) dX13_pipeRead_58 rfl ?_
            refine aw_icmp_ne (pt := 74) (pf := 63) dX13_pipeRead_60 (by decide) rfl (fun c_60 => ?_) (fun c_60 => ?_)
            · refine aw_aload_n (pc' := 75) rfl dX13_pipeRead_74 rfl ?_
              refine aw_dup (pc' := 76) rfl dX13_pipeRead_75 rfl ?_
              refine aw_geti (pc' := 79) (k9 := 18) dX13_pipeRead_76 rfl fX13_206 rfl (by decide) rfl (MO (A := (lift A s)) hM) ?_
              try simp (disch := omega) only [hv_in, lift_set, sset_e, sset_1, sset_2, workS_o, stagesS_o, beginsS_o, scpy_o, lift_cpy, sset_ss, bt_18, bt_315, wof_18]
              refine aw_iconst (pc' := 80) (by decide) dX13_pipeRead_79 rfl ?_
              refine aw_iadd (pc' := 81) (by first | exact w32_id (by omega) (by omega) | rfl) dX13_pipeRead_80 rfl ?_
              refine aw_puti (pc' := 84) (k9 := 18) dX13_pipeRead_81 rfl fX13_206 rfl rfl rfl (MO (A := (lift A s)) hM) ?_
              refine aw_goto (pc' := 4) dX13_pipeRead_84 (by decide) ?_
              try simp (disch := omega) only [hv_in, lift_set, sset_e, sset_1, sset_2, workS_o, stagesS_o, beginsS_o, scpy_o, lift_cpy, sset_ss, bt_18, bt_315, wof_18]
              have g6 : pipeL lr dp m1 (sset r 307 18 (r 307 18 + 1)) (n + 1) (if n = 0 then y else f) = some (x, t) := by
                rcases g5 with ⟨q, _⟩ | ⟨_, q, _⟩ | ⟨_, _, q⟩
                · omega
                · omega
                · exact q
              rw [show (if n = 0 then y else f) = y from by first | exact if_pos (by omega) | (exfalso; omega)] at g6
              exact ih m1 (by omega) _ (n + 1) _ hd hM hL hK hdp (by omega) g6 hQ _
            · replace c_60 := Classical.not_not.mp c_60
              refine aw_aload_n (pc' := 64) rfl dX13_pipeRead_63 rfl ?_
              refine aw_aload_n (pc' := 65) rfl dX13_pipeRead_64 rfl ?_
              refine aw_geti (pc' := 68) (k9 := 18) dX13_pipeRead_65 rfl fX13_206 rfl (by decide) rfl (MO (A := (lift A s)) hM) ?_
              try simp (disch := omega) only [hv_in, lift_set, sset_e, sset_1, sset_2, workS_o, stagesS_o, beginsS_o, scpy_o, lift_cpy, sset_ss, bt_18, bt_315, wof_18]
              refine aw_callV (ci := 11) (d' := d - 1) (as := [_]) (pc' := 71) (by decide) rfl kX13_stops iX13_stops sX13_stops lX13_216 (MO (A := (lift A s)) hM) dX13_pipeRead_68 rfl rfl (Nat.le_of_ble_eq_true rfl) (by omega) ?_
              try simp (disch := omega) only [hv_in, lift_set, sset_e, sset_1, sset_2, workS_o, stagesS_o, beginsS_o, scpy_o, lift_cpy, sset_ss, bt_18, bt_315]
              refine c_stops (by omega) hM ?_
              unfold stopS
              refine aw_pop (pc' := 72) rfl dX13_pipeRead_71 rfl ?_
              refine aw_iconst (pc' := 73) (by decide) dX13_pipeRead_72 rfl ?_
              refine AW.ret (some (vi _)) dX13_pipeRead_73 trivial ?_
              try simp (disch := omega) only [hv_in, lift_set, sset_e, sset_1, sset_2, workS_o, stagesS_o, beginsS_o, scpy_o, lift_cpy, sset_ss, bt_18, bt_315, wof_18]
              rcases g5 with ⟨q, _⟩ | ⟨_, _, q1, q2⟩ | ⟨_, q, _⟩
              · omega
              · subst q1 q2
                exact hQ
              · omega
          · refine aw_goto (pc' := 87) dX13_pipeRead_54 (by decide) ?_
            refine aw_bipush (pc' := 89) (by decide +kernel) dX13_pipeRead_87 rfl ?_
            refine aw_aload_n (pc' := 90) rfl dX13_pipeRead_89 rfl ?_
            refine aw_geti (pc' := 93) (k9 := 12) dX13_pipeRead_90 rfl fX13_196 rfl (by decide) rfl (MO (A := (lift A s)) hM) ?_
            try simp (disch := omega) only [hv_in, lift_set, sset_e, sset_1, sset_2, workS_o, stagesS_o, beginsS_o, scpy_o, lift_cpy, sset_ss, bt_18, bt_315, wof_18]
            refine aw_imul (pc' := 94) (by first | exact w32_id (by omega) (by omega) | rfl) dX13_pipeRead_93 rfl ?_
            refine aw_aload_n (pc' := 95) rfl dX13_pipeRead_94 rfl ?_
            refine aw_geti (pc' := 98) (k9 := 21) dX13_pipeRead_95 rfl fX13_220 rfl (by decide) rfl (MO (A := (lift A s)) hM) ?_
            try simp (disch := omega) only [hv_in, lift_set, sset_e, sset_1, sset_2, workS_o, stagesS_o, beginsS_o, scpy_o, lift_cpy, sset_ss, bt_18, bt_315, wof_18]
            refine aw_iadd (pc' := 99) (by first | exact w32_id (by omega) (by omega) | rfl) dX13_pipeRead_98 rfl ?_
            refine aw_istore (pc' := 101) (lv' := [_, _, _, _, _]) dX13_pipeRead_99 rfl (by decide) rfl ?_
            refine aw_aload_n (pc' := 102) rfl dX13_pipeRead_101 rfl ?_
            refine aw_dup (pc' := 103) rfl dX13_pipeRead_102 rfl ?_
            refine aw_geti (pc' := 106) (k9 := 21) dX13_pipeRead_103 rfl fX13_220 rfl (by decide) rfl (MO (A := (lift A s)) hM) ?_
            try simp (disch := omega) only [hv_in, lift_set, sset_e, sset_1, sset_2, workS_o, stagesS_o, beginsS_o, scpy_o, lift_cpy, sset_ss, bt_18, bt_315, wof_18]
            refine aw_iconst (pc' := 107) (by decide) dX13_pipeRead_106 rfl ?_
            refine aw_iadd (pc' := 108) (by first | exact w32_id (by omega) (by omega) | rfl) dX13_pipeRead_107 rfl ?_
            refine aw_puti (pc' := 111) (k9 := 21) dX13_pipeRead_108 rfl fX13_220 rfl rfl rfl (MO (A := (lift A s)) hM) ?_
            refine aw_aload_n (pc' := 112) rfl dX13_pipeRead_111 rfl ?_
            refine aw_getp (pc' := 115) (k9 := 4) (p := 312) dX13_pipeRead_112 rfl fX13_55 rfl rfl rfl (MO (A := (lift A s)) hM) (M_stageFirst (A := (lift A s)) hM) ?_
            refine aw_iload (pc' := 117) rfl dX13_pipeRead_115 rfl ?_
            refine aw_iload_n (pc' := 118) rfl dX13_pipeRead_117 rfl ?_
            refine aw_iast (pc' := 119) dX13_pipeRead_118 rfl (MA_stageFirst (A := (lift A s)) hM) (by omega) (by omega) ?_
            refine aw_aload_n (pc' := 120) rfl dX13_pipeRead_119 rfl ?_
            refine aw_getp (pc' := 123) (k9 := 5) (p := 313) dX13_pipeRead_120 rfl fX13_58 rfl rfl rfl (MO (A := (lift A s)) hM) (M_stageMany (A := (lift A s)) hM) ?_
            refine aw_iload (pc' := 125) rfl dX13_pipeRead_123 rfl ?_
            refine aw_iload_n (pc' := 126) rfl dX13_pipeRead_125 rfl ?_
            refine aw_iast (pc' := 127) dX13_pipeRead_126 rfl (MA_stageMany (A := (lift A s)) hM) (by omega) (by omega) ?_
            refine aw_iload (pc' := 129) rfl dX13_pipeRead_127 rfl ?_
            refine AW.ret (some (vi _)) dX13_pipeRead_129 trivial ?_
            try simp (disch := omega) only [hv_in, lift_set, sset_e, sset_1, sset_2, workS_o, stagesS_o, beginsS_o, scpy_o, lift_cpy, sset_ss, bt_18, bt_315, wof_18]
            rcases g5 with ⟨_, q1, q2⟩ | ⟨q, _⟩ | ⟨q, _⟩
            · subst q1 q2
              rw [show (if n = 0 then y else f) = y from by first | exact if_pos (by omega) | (exfalso; omega)] at hQ
              exact hQ
            · omega
            · omega
      · 
        refine aw_iconst (pc' := 26) (by decide) dX13_pipeRead_25 rfl ?_
        refine AW.ret (some (vi _)) dX13_pipeRead_26 trivial ?_
        rcases g2 with ⟨_, q1, q2⟩ | ⟨q, _⟩
        · subst q1 q2
          exact hQ
        · omega

set_option maxRecDepth 20000 in
theorem c_pipeRead {d : Nat} {lr : Int → Sg → Option (Int × Sg)} {K : Nat} {dp x : Int} {t : Sg} {A : AHp} {s : Sg} {Q : Option AV → AHp → Prop} (hd : K + 2 ≤ d) (hM : MLAY A) (hL : LRC lr K) (hK : 6 ≤ K) (hdp : 0 ≤ dp ∧ dp ≤ 3) (h : pipeL lr dp 7 s 0 (-1) = some (x, t)) (hQ : Q (some (vi x)) (lift A t)) : CALL d mX13_pipeRead [vr 307, vi dp] (lift A s) Q := by
  refine CALL.of (by decide) (Nat.le_of_ble_eq_true rfl) ?_
  change AW d mX13_pipeRead 0 [some (vr 307), some (vi dp), none, none, none] [] (lift A s) Q
  refine aw_iconst (pc' := 1) (by decide) dX13_pipeRead_0 rfl ?_
  refine aw_istore_n (pc' := 2) (lv' := [_, _, _, _, _]) dX13_pipeRead_1 rfl (by decide) rfl ?_
  refine aw_iconst (pc' := 3) (by decide) dX13_pipeRead_2 rfl ?_
  refine aw_istore_n (pc' := 4) (lv' := [_, _, _, _, _]) dX13_pipeRead_3 rfl (by decide) rfl ?_
  exact l_pipe 7 s 0 (-1) hd hM hL hK hdp (by omega) h hQ _

theorem bt_o {s : Sg} {o a x k : Int} (h : o ≠ 322 ∧ o ≠ 307) : btS (sset s o a x) k = btS s k := by
  unfold btS
  rw [sset_1 (by omega), sset_1 (by omega)]
set_option maxRecDepth 20000 in
theorem l_listR {d : Nat} {A : AHp} {lr : Int → Sg → Option (Int × Sg)} {K : Nat} {dp x li : Int} {t : Sg} {Q : Option AV → AHp → Prop} : ∀ (m : Nat) (s : Sg) (la ah : Int), K + 3 ≤ d → MLAY A → LRC lr K → 6 ≤ K → (0 ≤ dp ∧ dp ≤ 3) → listL lr dp li m s la ah = some (x, t) → Q (some (vi x)) (lift A t) → ∀ (L5 : Option AV), AW d mX13_listRead 41 [some (vr 307), some (vi dp), some (vi li), some (vi la), some (vi ah), L5] [] (lift A s) Q := by
  intro m
  induction m using Nat.strongRecOn with
  | _ m ih =>
    intro s la ah hd hM hL hK hdp h hQ L5
    refine aw_aload_n (pc' := 42) rfl dX13_listRead_41 rfl ?_
    refine aw_iload_n (pc' := 43) rfl dX13_listRead_42 rfl ?_
    refine aw_callV (ci := 11) (d' := d - 1) (as := [_]) (pc' := 46) (by decide) rfl kX13_pipeRead iX13_pipeRead sX13_pipeRead lX13_202 (MO (A := (lift A s)) hM) dX13_listRead_43 rfl rfl (Nat.le_of_ble_eq_true rfl) (by omega) ?_
    obtain ⟨m1, y, r, u, em, g1, eu, g2⟩ := listL_s h
    refine c_pipeRead (by omega) hM hL hK hdp g1 ?_
    refine aw_istore (pc' := 48) (lv' := [_, _, _, _, _, _]) dX13_listRead_46 rfl (by decide) rfl ?_
    refine aw_iload (pc' := 50) rfl dX13_listRead_48 rfl ?_
    refine aw_if_ge (pt := 55) (pf := 53) dX13_listRead_50 (by decide) rfl (fun c_50 => ?_) (fun c_50 => ?_)
    · obtain ⟨g3, ⟨g4, gy, gla, gli1, gli2⟩, g5⟩ : 0 ≤ y ∧ (RB r ∧ y < 480 ∧ la < 480 ∧ 0 ≤ li ∧ li < 480) ∧ (((btS r (r 307 18) ≠ 59 ∧ btS r (r 307 18) ≠ 38 ∧ btS r (r 307 18) ≠ 47) ∧ x = li ∧ t = u) ∨ (¬ (btS r (r 307 18) ≠ 59 ∧ btS r (r 307 18) ≠ 38 ∧ btS r (r 307 18) ≠ 47) ∧ listL lr dp li m1 (sset u 307 18 (r 307 18 + 1)) y (btS r (r 307 18)) = some (x, t))) := by
        rcases g2 with ⟨q, _⟩ | q
        · omega
        · exact q
      obtain ⟨⟨k17, k18, k12⟩, ⟨k20, k21, k22⟩, k322, kwr⟩ := g4
      have hb1 := bt_r k322 (k := r 307 18) (by omega)
      refine aw_aload_n (pc' := 56) rfl dX13_listRead_55 rfl ?_
      refine aw_getp (pc' := 59) (k9 := 3) (p := 311) dX13_listRead_56 rfl fX13_52 rfl rfl rfl (MO (A := (lift A s)) hM) (M_joint (A := (lift A s)) hM) ?_
      refine aw_iload (pc' := 61) rfl dX13_listRead_59 rfl ?_
      refine aw_iload (pc' := 63) rfl dX13_listRead_61 rfl ?_
      refine aw_iast (pc' := 64) dX13_listRead_63 rfl (MA_joint (A := (lift A s)) hM) (by omega) (by omega) ?_
      refine aw_aload_n (pc' := 65) rfl dX13_listRead_64 rfl ?_
      refine aw_getp (pc' := 68) (k9 := 2) (p := 310) dX13_listRead_65 rfl fX13_49 rfl rfl rfl (MO (A := (lift A s)) hM) (M_listNext (A := (lift A s)) hM) ?_
      refine aw_iload (pc' := 70) rfl dX13_listRead_68 rfl ?_
      refine aw_iconst (pc' := 71) (by decide) dX13_listRead_70 rfl ?_
      refine aw_iast (pc' := 72) dX13_listRead_71 rfl (MA_listNext (A := (lift A s)) hM) (by omega) (by omega) ?_
      refine aw_iload_n (pc' := 73) rfl dX13_listRead_72 rfl ?_
      refine aw_if_ge (pt := 87) (pf := 76) dX13_listRead_73 (by decide) rfl (fun c_73 => ?_) (fun c_73 => ?_)
      · refine aw_aload_n (pc' := 88) rfl dX13_listRead_87 rfl ?_
        refine aw_getp (pc' := 91) (k9 := 2) (p := 310) dX13_listRead_88 rfl fX13_49 rfl rfl rfl (MO (A := (lift A s)) hM) (M_listNext (A := (lift A s)) hM) ?_
        refine aw_iload_n (pc' := 92) rfl dX13_listRead_91 rfl ?_
        refine aw_iload (pc' := 94) rfl dX13_listRead_92 rfl ?_
        refine aw_iast (pc' := 95) dX13_listRead_94 rfl (MA_listNext (A := (lift A s)) hM) (by omega) (by omega) ?_
        refine aw_iload (pc' := 97) rfl dX13_listRead_95 rfl ?_
        refine aw_istore_n (pc' := 98) (lv' := [_, _, _, _, _, _]) dX13_listRead_97 rfl (by decide) rfl ?_
        refine aw_aload_n (pc' := 99) rfl dX13_listRead_98 rfl ?_
        refine aw_aload_n (pc' := 100) rfl dX13_listRead_99 rfl ?_
        refine aw_geti (pc' := 103) (k9 := 18) dX13_listRead_100 rfl fX13_206 rfl (by decide) rfl (MO (A := (lift A s)) hM) ?_
        try simp (disch := omega) only [hv_in, lift_set, sset_e, sset_1, sset_2, workS_o, stagesS_o, beginsS_o, scpy_o, lift_cpy, sset_ss, bt_18, bt_315, bt_o, wof_18]
        refine aw_callV (ci := 11) (d' := d - 1) (as := [_]) (pc' := 106) (by decide) rfl kX13_byteAt iX13_byteAt sX13_byteAt lX13_209 (MO (A := (lift A s)) hM) dX13_listRead_103 rfl rfl (Nat.le_of_ble_eq_true rfl) (by omega) ?_
        try simp (disch := omega) only [hv_in, lift_set, sset_e, sset_1, sset_2, workS_o, stagesS_o, beginsS_o, scpy_o, lift_cpy, sset_ss, bt_18, bt_315, bt_o, wof_18]
        refine c_byteAt (by omega) hM (by simp (disch := omega) only [sset_1]; exact k17) (by omega) ?_
        simp (disch := omega) only [bt_o]
        refine aw_istore (pc' := 108) (lv' := [_, _, _, _, _, _]) dX13_listRead_106 rfl (by decide) rfl ?_
        refine aw_iload (pc' := 110) rfl dX13_listRead_108 rfl ?_
        refine aw_bipush (pc' := 112) (by decide +kernel) dX13_listRead_110 rfl ?_
        refine aw_icmp_eq (pt := 131) (pf := 115) dX13_listRead_112 (by decide) rfl (fun c_112 => ?_) (fun c_112 => ?_)
        · refine aw_aload_n (pc' := 132) rfl dX13_listRead_131 rfl ?_
          refine aw_dup (pc' := 133) rfl dX13_listRead_132 rfl ?_
          refine aw_geti (pc' := 136) (k9 := 18) dX13_listRead_133 rfl fX13_206 rfl (by decide) rfl (MO (A := (lift A s)) hM) ?_
          try simp (disch := omega) only [hv_in, lift_set, sset_e, sset_1, sset_2, workS_o, stagesS_o, beginsS_o, scpy_o, lift_cpy, sset_ss, bt_18, bt_315, bt_o, wof_18]
          refine aw_iconst (pc' := 137) (by decide) dX13_listRead_136 rfl ?_
          refine aw_iadd (pc' := 138) (by first | exact w32_id (by omega) (by omega) | rfl) dX13_listRead_137 rfl ?_
          refine aw_puti (pc' := 141) (k9 := 18) dX13_listRead_138 rfl fX13_206 rfl rfl rfl (MO (A := (lift A s)) hM) ?_
          refine aw_goto (pc' := 41) dX13_listRead_141 (by decide) ?_
          try simp (disch := omega) only [hv_in, lift_set, sset_e, sset_1, sset_2, workS_o, stagesS_o, beginsS_o, scpy_o, lift_cpy, sset_ss, bt_18, bt_315, bt_o, wof_18]
          have g6 : listL lr dp li m1 (sset u 307 18 (r 307 18 + 1)) y (btS r (r 307 18)) = some (x, t) := by
            rcases g5 with ⟨q, _⟩ | ⟨_, q⟩
            · omega
            · exact q
          first | rw [if_pos (by omega)] at eu | rw [if_neg (by omega)] at eu
          rw [eu] at g6
          exact ih m1 (by omega) _ y _ hd hM hL hK hdp g6 hQ _
        · refine aw_iload (pc' := 117) rfl dX13_listRead_115 rfl ?_
          refine aw_bipush (pc' := 119) (by decide +kernel) dX13_listRead_117 rfl ?_
          refine aw_icmp_eq (pt := 131) (pf := 122) dX13_listRead_119 (by decide) rfl (fun c_119 => ?_) (fun c_119 => ?_)
          · refine aw_aload_n (pc' := 132) rfl dX13_listRead_131 rfl ?_
            refine aw_dup (pc' := 133) rfl dX13_listRead_132 rfl ?_
            refine aw_geti (pc' := 136) (k9 := 18) dX13_listRead_133 rfl fX13_206 rfl (by decide) rfl (MO (A := (lift A s)) hM) ?_
            try simp (disch := omega) only [hv_in, lift_set, sset_e, sset_1, sset_2, workS_o, stagesS_o, beginsS_o, scpy_o, lift_cpy, sset_ss, bt_18, bt_315, bt_o, wof_18]
            refine aw_iconst (pc' := 137) (by decide) dX13_listRead_136 rfl ?_
            refine aw_iadd (pc' := 138) (by first | exact w32_id (by omega) (by omega) | rfl) dX13_listRead_137 rfl ?_
            refine aw_puti (pc' := 141) (k9 := 18) dX13_listRead_138 rfl fX13_206 rfl rfl rfl (MO (A := (lift A s)) hM) ?_
            refine aw_goto (pc' := 41) dX13_listRead_141 (by decide) ?_
            try simp (disch := omega) only [hv_in, lift_set, sset_e, sset_1, sset_2, workS_o, stagesS_o, beginsS_o, scpy_o, lift_cpy, sset_ss, bt_18, bt_315, bt_o, wof_18]
            have g6 : listL lr dp li m1 (sset u 307 18 (r 307 18 + 1)) y (btS r (r 307 18)) = some (x, t) := by
              rcases g5 with ⟨q, _⟩ | ⟨_, q⟩
              · omega
              · exact q
            first | rw [if_pos (by omega)] at eu | rw [if_neg (by omega)] at eu
            rw [eu] at g6
            exact ih m1 (by omega) _ y _ hd hM hL hK hdp g6 hQ _
          · refine aw_iload (pc' := 124) rfl dX13_listRead_122 rfl ?_
            refine aw_bipush (pc' := 126) (by decide +kernel) dX13_listRead_124 rfl ?_
            refine aw_icmp_eq (pt := 131) (pf := 129) dX13_listRead_126 (by decide) rfl (fun c_126 => ?_) (fun c_126 => ?_)
            · refine aw_aload_n (pc' := 132) rfl dX13_listRead_131 rfl ?_
              refine aw_dup (pc' := 133) rfl dX13_listRead_132 rfl ?_
              refine aw_geti (pc' := 136) (k9 := 18) dX13_listRead_133 rfl fX13_206 rfl (by decide) rfl (MO (A := (lift A s)) hM) ?_
              try simp (disch := omega) only [hv_in, lift_set, sset_e, sset_1, sset_2, workS_o, stagesS_o, beginsS_o, scpy_o, lift_cpy, sset_ss, bt_18, bt_315, bt_o, wof_18]
              refine aw_iconst (pc' := 137) (by decide) dX13_listRead_136 rfl ?_
              refine aw_iadd (pc' := 138) (by first | exact w32_id (by omega) (by omega) | rfl) dX13_listRead_137 rfl ?_
              refine aw_puti (pc' := 141) (k9 := 18) dX13_listRead_138 rfl fX13_206 rfl rfl rfl (MO (A := (lift A s)) hM) ?_
              refine aw_goto (pc' := 41) dX13_listRead_141 (by decide) ?_
              try simp (disch := omega) only [hv_in, lift_set, sset_e, sset_1, sset_2, workS_o, stagesS_o, beginsS_o, scpy_o, lift_cpy, sset_ss, bt_18, bt_315, bt_o, wof_18]
              have g6 : listL lr dp li m1 (sset u 307 18 (r 307 18 + 1)) y (btS r (r 307 18)) = some (x, t) := by
                rcases g5 with ⟨q, _⟩ | ⟨_, q⟩
                · omega
                · exact q
              first | rw [if_pos (by omega)] at eu | rw [if_neg (by omega)] at eu
              rw [eu] at g6
              exact ih m1 (by omega) _ y _ hd hM hL hK hdp g6 hQ _
            · refine aw_iload_n (pc' := 130) rfl dX13_listRead_129 rfl ?_
              refine AW.ret (some (vi _)) dX13_listRead_130 trivial ?_
              try simp (disch := omega) only [hv_in, lift_set, sset_e, sset_1, sset_2, workS_o, stagesS_o, beginsS_o, scpy_o, lift_cpy, sset_ss, bt_18, bt_315, bt_o, wof_18]
              rcases g5 with ⟨_, q1, q2⟩ | ⟨q, _⟩
              · subst q1 q2
                first | rw [if_pos (by omega)] at eu | rw [if_neg (by omega)] at eu
                rw [eu] at hQ
                exact hQ
              · exact absurd ⟨by omega, by omega, by omega⟩ q
      · refine aw_aload_n (pc' := 77) rfl dX13_listRead_76 rfl ?_
        refine aw_getp (pc' := 80) (k9 := 1) (p := 309) dX13_listRead_77 rfl fX13_45 rfl rfl rfl (MO (A := (lift A s)) hM) (M_listFirst (A := (lift A s)) hM) ?_
        refine aw_iload_n (pc' := 81) rfl dX13_listRead_80 rfl ?_
        refine aw_iload (pc' := 83) rfl dX13_listRead_81 rfl ?_
        refine aw_iast (pc' := 84) dX13_listRead_83 rfl (MA_listFirst (A := (lift A s)) hM) (by omega) (by omega) ?_
        refine aw_goto (pc' := 95) dX13_listRead_84 (by decide) ?_
        refine aw_iload (pc' := 97) rfl dX13_listRead_95 rfl ?_
        refine aw_istore_n (pc' := 98) (lv' := [_, _, _, _, _, _]) dX13_listRead_97 rfl (by decide) rfl ?_
        refine aw_aload_n (pc' := 99) rfl dX13_listRead_98 rfl ?_
        refine aw_aload_n (pc' := 100) rfl dX13_listRead_99 rfl ?_
        refine aw_geti (pc' := 103) (k9 := 18) dX13_listRead_100 rfl fX13_206 rfl (by decide) rfl (MO (A := (lift A s)) hM) ?_
        try simp (disch := omega) only [hv_in, lift_set, sset_e, sset_1, sset_2, workS_o, stagesS_o, beginsS_o, scpy_o, lift_cpy, sset_ss, bt_18, bt_315, bt_o, wof_18]
        refine aw_callV (ci := 11) (d' := d - 1) (as := [_]) (pc' := 106) (by decide) rfl kX13_byteAt iX13_byteAt sX13_byteAt lX13_209 (MO (A := (lift A s)) hM) dX13_listRead_103 rfl rfl (Nat.le_of_ble_eq_true rfl) (by omega) ?_
        try simp (disch := omega) only [hv_in, lift_set, sset_e, sset_1, sset_2, workS_o, stagesS_o, beginsS_o, scpy_o, lift_cpy, sset_ss, bt_18, bt_315, bt_o, wof_18]
        refine c_byteAt (by omega) hM (by simp (disch := omega) only [sset_1]; exact k17) (by omega) ?_
        simp (disch := omega) only [bt_o]
        refine aw_istore (pc' := 108) (lv' := [_, _, _, _, _, _]) dX13_listRead_106 rfl (by decide) rfl ?_
        refine aw_iload (pc' := 110) rfl dX13_listRead_108 rfl ?_
        refine aw_bipush (pc' := 112) (by decide +kernel) dX13_listRead_110 rfl ?_
        refine aw_icmp_eq (pt := 131) (pf := 115) dX13_listRead_112 (by decide) rfl (fun c_112 => ?_) (fun c_112 => ?_)
        · refine aw_aload_n (pc' := 132) rfl dX13_listRead_131 rfl ?_
          refine aw_dup (pc' := 133) rfl dX13_listRead_132 rfl ?_
          refine aw_geti (pc' := 136) (k9 := 18) dX13_listRead_133 rfl fX13_206 rfl (by decide) rfl (MO (A := (lift A s)) hM) ?_
          try simp (disch := omega) only [hv_in, lift_set, sset_e, sset_1, sset_2, workS_o, stagesS_o, beginsS_o, scpy_o, lift_cpy, sset_ss, bt_18, bt_315, bt_o, wof_18]
          refine aw_iconst (pc' := 137) (by decide) dX13_listRead_136 rfl ?_
          refine aw_iadd (pc' := 138) (by first | exact w32_id (by omega) (by omega) | rfl) dX13_listRead_137 rfl ?_
          refine aw_puti (pc' := 141) (k9 := 18) dX13_listRead_138 rfl fX13_206 rfl rfl rfl (MO (A := (lift A s)) hM) ?_
          refine aw_goto (pc' := 41) dX13_listRead_141 (by decide) ?_
          try simp (disch := omega) only [hv_in, lift_set, sset_e, sset_1, sset_2, workS_o, stagesS_o, beginsS_o, scpy_o, lift_cpy, sset_ss, bt_18, bt_315, bt_o, wof_18]
          have g6 : listL lr dp li m1 (sset u 307 18 (r 307 18 + 1)) y (btS r (r 307 18)) = some (x, t) := by
            rcases g5 with ⟨q, _⟩ | ⟨_, q⟩
            · omega
            · exact q
          first | rw [if_pos (by omega)] at eu | rw [if_neg (by omega)] at eu
          rw [eu] at g6
          exact ih m1 (by omega) _ y _ hd hM hL hK hdp g6 hQ _
        · refine aw_iload (pc' := 117) rfl dX13_listRead_115 rfl ?_
          refine aw_bipush (pc' := 119) (by decide +kernel) dX13_listRead_117 rfl ?_
          refine aw_icmp_eq (pt := 131) (pf := 122) dX13_listRead_119 (by decide) rfl (fun c_119 => ?_) (fun c_119 => ?_)
          · refine aw_aload_n (pc' := 132) rfl dX13_listRead_131 rfl ?_
            refine aw_dup (pc' := 133) rfl dX13_listRead_132 rfl ?_
            refine aw_geti (pc' := 136) (k9 := 18) dX13_listRead_133 rfl fX13_206 rfl (by decide) rfl (MO (A := (lift A s)) hM) ?_
            try simp (disch := omega) only [hv_in, lift_set, sset_e, sset_1, sset_2, workS_o, stagesS_o, beginsS_o, scpy_o, lift_cpy, sset_ss, bt_18, bt_315, bt_o, wof_18]
            refine aw_iconst (pc' := 137) (by decide) dX13_listRead_136 rfl ?_
            refine aw_iadd (pc' := 138) (by first | exact w32_id (by omega) (by omega) | rfl) dX13_listRead_137 rfl ?_
            refine aw_puti (pc' := 141) (k9 := 18) dX13_listRead_138 rfl fX13_206 rfl rfl rfl (MO (A := (lift A s)) hM) ?_
            refine aw_goto (pc' := 41) dX13_listRead_141 (by decide) ?_
            try simp (disch := omega) only [hv_in, lift_set, sset_e, sset_1, sset_2, workS_o, stagesS_o, beginsS_o, scpy_o, lift_cpy, sset_ss, bt_18, bt_315, bt_o, wof_18]
            have g6 : listL lr dp li m1 (sset u 307 18 (r 307 18 + 1)) y (btS r (r 307 18)) = some (x, t) := by
              rcases g5 with ⟨q, _⟩ | ⟨_, q⟩
              · omega
              · exact q
            first | rw [if_pos (by omega)] at eu | rw [if_neg (by omega)] at eu
            rw [eu] at g6
            exact ih m1 (by omega) _ y _ hd hM hL hK hdp g6 hQ _
          · refine aw_iload (pc' := 124) rfl dX13_listRead_122 rfl ?_
            refine aw_bipush (pc' := 126) (by decide +kernel) dX13_listRead_124 rfl ?_
            refine aw_icmp_eq (pt := 131) (pf := 129) dX13_listRead_126 (by decide) rfl (fun c_126 => ?_) (fun c_126 => ?_)
            · refine aw_aload_n (pc' := 132) rfl dX13_listRead_131 rfl ?_
              refine aw_dup (pc' := 133) rfl dX13_listRead_132 rfl ?_
              refine aw_geti (pc' := 136) (k9 := 18) dX13_listRead_133 rfl fX13_206 rfl (by decide) rfl (MO (A := (lift A s)) hM) ?_
              try simp (disch := omega) only [hv_in, lift_set, sset_e, sset_1, sset_2, workS_o, stagesS_o, beginsS_o, scpy_o, lift_cpy, sset_ss, bt_18, bt_315, bt_o, wof_18]
              refine aw_iconst (pc' := 137) (by decide) dX13_listRead_136 rfl ?_
              refine aw_iadd (pc' := 138) (by first | exact w32_id (by omega) (by omega) | rfl) dX13_listRead_137 rfl ?_
              refine aw_puti (pc' := 141) (k9 := 18) dX13_listRead_138 rfl fX13_206 rfl rfl rfl (MO (A := (lift A s)) hM) ?_
              refine aw_goto (pc' := 41) dX13_listRead_141 (by decide) ?_
              try simp (disch := omega) only [hv_in, lift_set, sset_e, sset_1, sset_2, workS_o, stagesS_o, beginsS_o, scpy_o, lift_cpy, sset_ss, bt_18, bt_315, bt_o, wof_18]
              have g6 : listL lr dp li m1 (sset u 307 18 (r 307 18 + 1)) y (btS r (r 307 18)) = some (x, t) := by
                rcases g5 with ⟨q, _⟩ | ⟨_, q⟩
                · omega
                · exact q
              first | rw [if_pos (by omega)] at eu | rw [if_neg (by omega)] at eu
              rw [eu] at g6
              exact ih m1 (by omega) _ y _ hd hM hL hK hdp g6 hQ _
            · refine aw_iload_n (pc' := 130) rfl dX13_listRead_129 rfl ?_
              refine AW.ret (some (vi _)) dX13_listRead_130 trivial ?_
              try simp (disch := omega) only [hv_in, lift_set, sset_e, sset_1, sset_2, workS_o, stagesS_o, beginsS_o, scpy_o, lift_cpy, sset_ss, bt_18, bt_315, bt_o, wof_18]
              rcases g5 with ⟨_, q1, q2⟩ | ⟨q, _⟩
              · subst q1 q2
                first | rw [if_pos (by omega)] at eu | rw [if_neg (by omega)] at eu
                rw [eu] at hQ
                exact hQ
              · exact absurd ⟨by omega, by omega, by omega⟩ q
    · refine aw_iconst (pc' := 54) (by decide) dX13_listRead_53 rfl ?_
      refine AW.ret (some (vi _)) dX13_listRead_54 trivial ?_
      rcases g2 with ⟨_, q1, q2⟩ | ⟨q, _⟩
      · subst q1 q2
        exact hQ
      · omega

set_option maxRecDepth 20000 in
theorem c_listRead {d : Nat} {n K : Nat} {dp x : Int} {t : Sg} {A : AHp} {s : Sg} {Q : Option AV → AHp → Prop} (hd : K + 3 ≤ d) (hM : MLAY A) (hL : LRC (listR n) K) (hK : 6 ≤ K) (hdp : 0 ≤ dp ∧ dp ≤ 3) (h : listR (n + 1) dp s = some (x, t)) (hQ : Q (some (vi x)) (lift A t)) : CALL d mX13_listRead [vr 307, vi dp] (lift A s) Q := by
  refine CALL.of (by decide) (Nat.le_of_ble_eq_true rfl) ?_
  change AW d mX13_listRead 0 [some (vr 307), some (vi dp), none, none, none, none] [] (lift A s) Q
  unfold listR at h
  obtain ⟨⟨⟨⟨h17, h18, h12⟩, ⟨h20, h21, h22⟩, h322, hwr⟩, h59⟩, h⟩ := grd_some h
  refine aw_aload_n (pc' := 1) rfl dX13_listRead_0 rfl ?_
  refine aw_aload_n (pc' := 2) rfl dX13_listRead_1 rfl ?_
  refine aw_geti (pc' := 5) (k9 := 23) dX13_listRead_2 rfl fX13_187 rfl (by decide) rfl (MO (A := (lift A s)) hM) ?_
  try simp (disch := omega) only [hv_in, lift_set, sset_e, sset_1, sset_2, workS_o, stagesS_o, beginsS_o, scpy_o, lift_cpy, sset_ss, bt_18, bt_315, bt_o, wof_18]
  refine aw_iload_n (pc' := 6) rfl dX13_listRead_5 rfl ?_
  refine aw_callS (d' := d - 1) (as := [_, _]) (pc' := 9) kJ9_max_7cf53 tJ9_max_7cf53 lX13_190 dX13_listRead_6 rfl rfl (Nat.le_of_ble_eq_true rfl) (by omega) ?_
  try simp (disch := omega) only [hv_in, lift_set, sset_e, sset_1, sset_2, workS_o, stagesS_o, beginsS_o, scpy_o, lift_cpy, sset_ss, bt_18, bt_315, bt_o, wof_18]
  refine c_max (by omega) ?_
  refine aw_puti (pc' := 12) (k9 := 23) dX13_listRead_9 rfl fX13_187 rfl rfl rfl (MO (A := (lift A s)) hM) ?_
  refine aw_bipush (pc' := 14) (by decide +kernel) dX13_listRead_12 rfl ?_
  refine aw_aload_n (pc' := 15) rfl dX13_listRead_14 rfl ?_
  refine aw_geti (pc' := 18) (k9 := 12) dX13_listRead_15 rfl fX13_196 rfl (by decide) rfl (MO (A := (lift A s)) hM) ?_
  try simp (disch := omega) only [hv_in, lift_set, sset_e, sset_1, sset_2, workS_o, stagesS_o, beginsS_o, scpy_o, lift_cpy, sset_ss, bt_18, bt_315, bt_o, wof_18]
  refine aw_imul (pc' := 19) (by first | exact w32_id (by omega) (by omega) | rfl) dX13_listRead_18 rfl ?_
  refine aw_aload_n (pc' := 20) rfl dX13_listRead_19 rfl ?_
  refine aw_geti (pc' := 23) (k9 := 20) dX13_listRead_20 rfl fX13_199 rfl (by decide) rfl (MO (A := (lift A s)) hM) ?_
  try simp (disch := omega) only [hv_in, lift_set, sset_e, sset_1, sset_2, workS_o, stagesS_o, beginsS_o, scpy_o, lift_cpy, sset_ss, bt_18, bt_315, bt_o, wof_18]
  refine aw_iadd (pc' := 24) (by first | exact w32_id (by omega) (by omega) | rfl) dX13_listRead_23 rfl ?_
  refine aw_istore_n (pc' := 25) (lv' := [_, _, _, _, _, _]) dX13_listRead_24 rfl (by decide) rfl ?_
  refine aw_aload_n (pc' := 26) rfl dX13_listRead_25 rfl ?_
  refine aw_dup (pc' := 27) rfl dX13_listRead_26 rfl ?_
  refine aw_geti (pc' := 30) (k9 := 20) dX13_listRead_27 rfl fX13_199 rfl (by decide) rfl (MO (A := (lift A s)) hM) ?_
  try simp (disch := omega) only [hv_in, lift_set, sset_e, sset_1, sset_2, workS_o, stagesS_o, beginsS_o, scpy_o, lift_cpy, sset_ss, bt_18, bt_315, bt_o, wof_18]
  refine aw_iconst (pc' := 31) (by decide) dX13_listRead_30 rfl ?_
  refine aw_iadd (pc' := 32) (by first | exact w32_id (by omega) (by omega) | rfl) dX13_listRead_31 rfl ?_
  refine aw_puti (pc' := 35) (k9 := 20) dX13_listRead_32 rfl fX13_199 rfl rfl rfl (MO (A := (lift A s)) hM) ?_
  refine aw_iconst (pc' := 36) (by decide) dX13_listRead_35 rfl ?_
  refine aw_istore_n (pc' := 37) (lv' := [_, _, _, _, _, _]) dX13_listRead_36 rfl (by decide) rfl ?_
  refine aw_bipush (pc' := 39) (by decide +kernel) dX13_listRead_37 rfl ?_
  refine aw_istore (pc' := 41) (lv' := [_, _, _, _, _, _]) dX13_listRead_39 rfl (by decide) rfl ?_
  try simp (disch := omega) only [hv_in, lift_set, sset_e, sset_1, sset_2, workS_o, stagesS_o, beginsS_o, scpy_o, lift_cpy, sset_ss, bt_18, bt_315, bt_o, wof_18]
  exact l_listR 101 _ (-1) 59 hd hM hL hK hdp h hQ _

theorem c_lists : ∀ n : Nat, LRC (listR n) (6 + 3 * n)
  | 0 => fun d A s dp l t Q hd hM hdp h hQ => by simp [listR] at h
  | n + 1 => fun d A s dp l t Q hd hM hdp h hQ => c_listRead (K := 6 + 3 * n) (by omega) hM (c_lists n) (by omega) hdp h hQ