/-! ===== the class: a list goes on ===== -/
def GOA (d : Nat) (A : AHp) (pc : Nat) (ko fo lev i : Int) (v : Sg) (Q : Option AV → AHp → Prop) : Prop := ∀ (L5 L6 : Option AV), AW d mX4_goOn pc [some (vr 64), some (vr ko), some (vr fo), some (vi lev), some (vi i), L5, L6] [] (cl A v) Q
def addX (v : Sg) (to x : Int) : Sg := if v to 1 < 60 then sset (sset v (to + 1) (v to 1) (w32 x)) to 1 (v to 1 + 1) else v
def LHA (d : Nat) (A : AHp) (ko first par g lev to fo i : Int) (v : Sg) (Q : Option AV → AHp → Prop) : Prop := ∀ (L9 L10 : Option AV), AW d mX4_goList 21 [some (vr 64), some (vr ko), some (vr first), some (vi par), some (vi g), some (vi lev), some (vr to), some (vr fo), some (vi i), L9, L10] [] (cl A v) Q
set_option maxRecDepth 20000 in
theorem go_null {d : Nat} {A : AHp} {v : Sg} {ko fo po lev i : Int} {Q : Option AV → AHp → Prop} (hF : FrameAt A fo) (hi : 0 ≤ i ∧ i ≤ 100) (hpo : v fo 1 = 0) (hr : v fo 0 = 0) (hQ : Q (some (vl (-9223372036854775808))) (cl A v)) : GOA d A 3 ko fo lev i v Q := by
  intro L5 L6
  refine aw_iload (pc' := 5) rfl dX4_goOn_3 rfl ?_
  refine aw_bipush (pc' := 7) (by decide +kernel) dX4_goOn_5 rfl ?_
  refine aw_icmp_gt (pt := 95) (pf := 10) dX4_goOn_7 (by decide) rfl (fun c_7 => ?_) (fun c_7 => ?_)
  · refine aw_ldc2 (x := (-9223372036854775808)) (pc' := 98) qX4_73 (by decide) dX4_goOn_95 rfl ?_
    refine AW.ret (some (vl _)) dX4_goOn_98 trivial ?_
    exact hQ
  · refine aw_aload_n (pc' := 11) rfl dX4_goOn_10 rfl ?_
    refine aw_getr (pc' := 14) (k9 := 1) dX4_goOn_11 rfl fX4_80 rfl rfl rfl hF.1 ?_
    try simp (disch := omega) only [hv_cl, cl_set, sset_e, sset_1, sset_2]
    rw [hpo]
    refine aw_ifnonnull (pt := 38) (pf := 17) (by omega) dX4_goOn_14 (by decide) rfl (fun c_14 => absurd c_14 (by decide)) (fun _ => ?_)
    refine aw_aload_n (pc' := 18) rfl dX4_goOn_17 rfl ?_
    refine aw_getr (pc' := 21) (k9 := 0) dX4_goOn_18 rfl fX4_83 rfl rfl rfl hF.1 ?_
    try simp (disch := omega) only [hv_cl, cl_set, sset_e, sset_1, sset_2]
    rw [hr]
    refine aw_ifnonnull (pt := 28) (pf := 24) (by omega) dX4_goOn_21 (by decide) rfl (fun c_21 => absurd c_21 (by decide)) (fun _ => ?_)
    refine aw_ldc2 (x := (-9223372036854775808)) (pc' := 27) qX4_73 (by decide) dX4_goOn_24 rfl ?_
    refine AW.ret (some (vl _)) dX4_goOn_27 trivial ?_
    exact hQ

set_option maxRecDepth 20000 in
theorem go_begin {d : Nat} {A : AHp} {v : Sg} {ko fo po lev i : Int} {Q : Option AV → AHp → Prop} (hX : XLAY A) (hF : FrameAt A fo) (hd : 1 ≤ d) (hi : 0 ≤ i ∧ i ≤ 100) (hpo : v fo 1 = 0) (hr : v fo 0 = po) (hp350 : 350 ≤ po) (hE : CALL (d - 1) mX4_beginNext [vr 64, vr ko, vr fo, vr po] (cl A v) (fun r B => r = none ∧ ∃ u, B = cl A u ∧ GOA d A 38 ko fo lev i u Q)) : GOA d A 3 ko fo lev i v Q := by
  intro L5 L6
  refine aw_iload (pc' := 5) rfl dX4_goOn_3 rfl ?_
  refine aw_bipush (pc' := 7) (by decide +kernel) dX4_goOn_5 rfl ?_
  refine aw_icmp_gt (pt := 95) (pf := 10) dX4_goOn_7 (by decide) rfl (fun c_7 => ?_) (fun c_7 => ?_)
  · exfalso
    omega
  · refine aw_aload_n (pc' := 11) rfl dX4_goOn_10 rfl ?_
    refine aw_getr (pc' := 14) (k9 := 1) dX4_goOn_11 rfl fX4_80 rfl rfl rfl hF.1 ?_
    try simp (disch := omega) only [hv_cl, cl_set, sset_e, sset_1, sset_2]
    rw [hpo]
    refine aw_ifnonnull (pt := 38) (pf := 17) (by omega) dX4_goOn_14 (by decide) rfl (fun c_14 => absurd c_14 (by decide)) (fun _ => ?_)
    refine aw_aload_n (pc' := 18) rfl dX4_goOn_17 rfl ?_
    refine aw_getr (pc' := 21) (k9 := 0) dX4_goOn_18 rfl fX4_83 rfl rfl rfl hF.1 ?_
    try simp (disch := omega) only [hv_cl, cl_set, sset_e, sset_1, sset_2]
    rw [hr]
    refine aw_ifnonnull (pt := 28) (pf := 24) (by omega) dX4_goOn_21 (by decide) rfl (fun c_21 => ?_) (fun c_21 => ?_)
    · refine aw_aload_n (pc' := 29) rfl dX4_goOn_28 rfl ?_
      refine aw_aload_n (pc' := 30) rfl dX4_goOn_29 rfl ?_
      refine aw_aload_n (pc' := 31) rfl dX4_goOn_30 rfl ?_
      refine aw_aload_n (pc' := 32) rfl dX4_goOn_31 rfl ?_
      refine aw_getr (pc' := 35) (k9 := 0) dX4_goOn_32 rfl fX4_83 rfl rfl rfl hF.1 ?_
      try simp (disch := omega) only [hv_cl, cl_set, sset_e, sset_1, sset_2]
      rw [hr]
      refine aw_callV (ci := 3) (d' := d - 1) (as := [_, _, _]) (pc' := 38) (by decide) rfl kX4_beginNext iX4_beginNext sX4_beginNext lX4_86 (XO_machine (A := (cl A v)) hX) dX4_goOn_35 rfl rfl (Nat.le_of_ble_eq_true rfl) (by omega) ?_
      refine CALL.mono hE ?_
      rintro r B ⟨rfl, u, rfl, hQ2⟩
      exact hQ2 _ _
    · replace c_21 := Classical.not_not.mp c_21
      exfalso
      omega

set_option maxRecDepth 20000 in
theorem go_in {d : Nat} {A : AHp} {v : Sg} {ko fo po lev i : Int} {Q : Option AV → AHp → Prop} (hF : FrameAt A fo) (hi : 0 ≤ i ∧ i ≤ 100) (hpo : v fo 1 = po) (hp350 : 350 ≤ po) (hE : GOA d A 45 ko fo lev i v Q) : GOA d A 3 ko fo lev i v Q := by
  intro L5 L6
  refine aw_iload (pc' := 5) rfl dX4_goOn_3 rfl ?_
  refine aw_bipush (pc' := 7) (by decide +kernel) dX4_goOn_5 rfl ?_
  refine aw_icmp_gt (pt := 95) (pf := 10) dX4_goOn_7 (by decide) rfl (fun c_7 => ?_) (fun c_7 => ?_)
  · exfalso
    omega
  · refine aw_aload_n (pc' := 11) rfl dX4_goOn_10 rfl ?_
    refine aw_getr (pc' := 14) (k9 := 1) dX4_goOn_11 rfl fX4_80 rfl rfl rfl hF.1 ?_
    try simp (disch := omega) only [hv_cl, cl_set, sset_e, sset_1, sset_2]
    rw [hpo]
    refine aw_ifnonnull (pt := 38) (pf := 17) (by omega) dX4_goOn_14 (by decide) rfl (fun c_14 => ?_) (fun c_14 => ?_)
    · refine aw_aload_n (pc' := 39) rfl dX4_goOn_38 rfl ?_
      refine aw_getr (pc' := 42) (k9 := 1) dX4_goOn_39 rfl fX4_80 rfl rfl rfl hF.1 ?_
      try simp (disch := omega) only [hv_cl, cl_set, sset_e, sset_1, sset_2]
      rw [hpo]
      refine aw_ifnull (pt := 89) (pf := 45) (by omega) dX4_goOn_42 (by decide) rfl (fun c_42 => ?_) (fun c_42 => ?_)
      · exfalso
        omega
      · exact hE _ _
    · replace c_14 := Classical.not_not.mp c_14
      exfalso
      omega

set_option maxRecDepth 20000 in
theorem go_38n {d : Nat} {A : AHp} {v : Sg} {ko fo po lev i : Int} {Q : Option AV → AHp → Prop} (hF : FrameAt A fo) (hi : 0 ≤ i ∧ i ≤ 100) (hpo : v fo 1 = 0) (hE : GOA d A 3 ko fo lev (i + 1) v Q) : GOA d A 38 ko fo lev i v Q := by
  intro L5 L6
  refine aw_aload_n (pc' := 39) rfl dX4_goOn_38 rfl ?_
  refine aw_getr (pc' := 42) (k9 := 1) dX4_goOn_39 rfl fX4_80 rfl rfl rfl hF.1 ?_
  try simp (disch := omega) only [hv_cl, cl_set, sset_e, sset_1, sset_2]
  rw [hpo]
  refine aw_ifnull (pt := 89) (pf := 45) (by omega) dX4_goOn_42 (by decide) rfl (fun _ => ?_) (fun c_42 => absurd (by decide) c_42)
  refine aw_iinc (pc' := 92) (lv' := [_, _, _, _, _, _, _]) dX4_goOn_89 rfl rfl (by decide) (by first | exact w32_id (by omega) (by omega) | rfl) rfl ?_
  refine aw_goto (pc' := 3) dX4_goOn_92 (by decide) ?_
  exact hE _ _

set_option maxRecDepth 20000 in
theorem go_38p {d : Nat} {A : AHp} {v : Sg} {ko fo po lev i : Int} {Q : Option AV → AHp → Prop} (hF : FrameAt A fo) (hpo : v fo 1 = po) (hp350 : 350 ≤ po) (hE : GOA d A 45 ko fo lev i v Q) : GOA d A 38 ko fo lev i v Q := by
  intro L5 L6
  refine aw_aload_n (pc' := 39) rfl dX4_goOn_38 rfl ?_
  refine aw_getr (pc' := 42) (k9 := 1) dX4_goOn_39 rfl fX4_80 rfl rfl rfl hF.1 ?_
  try simp (disch := omega) only [hv_cl, cl_set, sset_e, sset_1, sset_2]
  rw [hpo]
  refine aw_ifnull (pt := 89) (pf := 45) (by omega) dX4_goOn_42 (by decide) rfl (fun c_42 => ?_) (fun c_42 => ?_)
  · exfalso
    omega
  · exact hE _ _

set_option maxRecDepth 20000 in
theorem go_45 {d : Nat} {A : AHp} {v : Sg} {ko fo po lev i : Int} {Q : Option AV → AHp → Prop} (hX : XLAY A) (hd : 1 ≤ d) (hE : CALL (d - 1) mX4_nextOf [vr 64, vr ko, vr fo, vi lev] (cl A v) (fun r B => ∃ x u, r = some (vl x) ∧ B = cl A u ∧ (x = (-9223372036854775808) → GOA d A 66 ko fo lev i u Q) ∧ (x ≠ (-9223372036854775808) → Q (some (vl x)) (cl A u)))) : GOA d A 45 ko fo lev i v Q := by
  intro L5 L6
  refine aw_aload_n (pc' := 46) rfl dX4_goOn_45 rfl ?_
  refine aw_aload_n (pc' := 47) rfl dX4_goOn_46 rfl ?_
  refine aw_aload_n (pc' := 48) rfl dX4_goOn_47 rfl ?_
  refine aw_iload_n (pc' := 49) rfl dX4_goOn_48 rfl ?_
  refine aw_callV (ci := 3) (d' := d - 1) (as := [_, _, _]) (pc' := 52) (by decide) rfl kX4_nextOf iX4_nextOf sX4_nextOf lX4_90 (XO_machine (A := (cl A v)) hX) dX4_goOn_49 rfl rfl (Nat.le_of_ble_eq_true rfl) (by omega) ?_
  refine CALL.mono hE ?_
  rintro r B ⟨x, u, rfl, rfl, hQ1, hQ2⟩
  refine aw_lstore (pc' := 54) (lv' := [_, _, _, _, _, _, _]) dX4_goOn_52 rfl (by decide) rfl ?_
  refine aw_lload (pc' := 56) rfl dX4_goOn_54 rfl ?_
  refine aw_ldc2 (x := (-9223372036854775808)) (pc' := 59) qX4_73 (by decide) dX4_goOn_56 rfl ?_
  refine aw_lcmp (pc' := 60) dX4_goOn_59 rfl ?_
  refine aw_if_eq (pt := 66) (pf := 63) dX4_goOn_60 (by decide) rfl (fun c_60 => ?_) (fun c_60 => ?_)
  · replace c_60 := (cmp_eq).mp c_60
    exact hQ1 (by omega) _ _
  · replace c_60 := (not_congr cmp_eq).mp c_60
    refine aw_lload (pc' := 65) rfl dX4_goOn_63 rfl ?_
    refine AW.ret (some (vl _)) dX4_goOn_65 trivial ?_
    exact hQ2 (by omega)

set_option maxRecDepth 20000 in
theorem go_66 {d : Nat} {A : AHp} {v : Sg} {ko fo po lev i : Int} {Q : Option AV → AHp → Prop} (hF : FrameAt A fo) (hfo : 66 < fo ∧ fo < 300 ∧ (fo < 201 ∨ 266 < fo)) (hi : 0 ≤ i ∧ i ≤ 1000) (hpo : v fo 1 = po) (hPo : PIP A po) (hsz : 1 ≤ v po 1 ∧ v po 1 ≤ 6) (hE : GOA d A 3 ko fo lev (i + 1) (sset (sset v fo 2 (v (fo + 4) (v po 1 - 1))) fo 1 0) Q) : GOA d A 66 ko fo lev i v Q := by
  intro L5 L6
  refine aw_aload_n (pc' := 67) rfl dX4_goOn_66 rfl ?_
  refine aw_aload_n (pc' := 68) rfl dX4_goOn_67 rfl ?_
  refine aw_getp (pc' := 71) (k9 := 8) (p := (fo + 4)) dX4_goOn_68 rfl fX4_93 rfl rfl rfl hF.1 hF.2.2.2.2.1.1 ?_
  refine aw_aload_n (pc' := 72) rfl dX4_goOn_71 rfl ?_
  refine aw_getr (pc' := 75) (k9 := 1) dX4_goOn_72 rfl fX4_80 rfl rfl rfl hF.1 ?_
  try simp (disch := omega) only [hv_cl, cl_set, sset_e, sset_1, sset_2]
  rw [hpo]
  refine aw_geti (pc' := 78) (k9 := 1) dX4_goOn_75 rfl fX4_97 rfl (by decide) rfl hPo.2.1 ?_
  try simp (disch := omega) only [hv_cl, cl_set, sset_e, sset_1, sset_2]
  refine aw_iconst (pc' := 79) (by decide) dX4_goOn_78 rfl ?_
  refine aw_isub (pc' := 80) (by first | exact w32_id (by omega) (by omega) | rfl) dX4_goOn_79 rfl ?_
  refine aw_iald (pc' := 81) dX4_goOn_80 rfl hF.2.2.2.2.1.2 (by omega) (by omega) ?_
  try simp (disch := omega) only [hv_cl, cl_set, sset_e, sset_1, sset_2]
  refine aw_puti (pc' := 84) (k9 := 2) dX4_goOn_81 rfl fX4_75 rfl rfl rfl hF.1 ?_
  refine aw_aload_n (pc' := 85) rfl dX4_goOn_84 rfl ?_
  refine aw_null (pc' := 86) dX4_goOn_85 rfl ?_
  refine aw_putr (pc' := 89) (k9 := 1) dX4_goOn_86 rfl fX4_80 rfl rfl rfl hF.1 ?_
  refine aw_iinc (pc' := 92) (lv' := [_, _, _, _, _, _, _]) dX4_goOn_89 rfl rfl (by decide) (by first | exact w32_id (by omega) (by omega) | rfl) rfl ?_
  refine aw_goto (pc' := 3) dX4_goOn_92 (by decide) ?_
  exact hE _ _

set_option maxRecDepth 20000 in
theorem x_goOn {d : Nat} {ko fo lev : Int} {A : AHp} {v : Sg} {Q : Option AV → AHp → Prop} (hd : 0 ≤ d) (hE : GOA d A 3 ko fo lev 0 v Q) : CALL d mX4_goOn [vr 64, vr ko, vr fo, vi lev] (cl A v) Q := by
  refine CALL.of (by decide) (Nat.le_of_ble_eq_true rfl) ?_
  change AW d mX4_goOn 0 [some (vr 64), some (vr ko), some (vr fo), some (vi lev), none, none, none] [] (cl A v) Q
  refine aw_iconst (pc' := 1) (by decide) dX4_goOn_0 rfl ?_
  refine aw_istore (pc' := 3) (lv' := [_, _, _, _, _, _, _]) dX4_goOn_1 rfl (by decide) rfl ?_
  exact hE _ _

theorem x_naddc {d : Nat} {A : AHp} {v : Sg} {a x : Int} {Q : Option AV → AHp → Prop} (hN : NumsAt A a) (h0 : 0 ≤ v a 1) (ha : 0 < a) (hQ : Q none (cl A (addX v a x))) : CALL d mX5_add [vr a, vl x] (cl A v) Q := by
  unfold addX at hQ
  refine x_nadd (A := cl A v) (Nat.zero_le _) hN h0 ha (fun q => ?_) (fun q => ?_)
  · simp only [hv_cl] at q
    rw [if_neg (by omega)] at hQ
    exact hQ
  · simp only [hv_cl] at q
    rw [if_pos q] at hQ
    exact hQ
set_option maxRecDepth 20000 in
theorem lh_step {d : Nat} {A : AHp} {v : Sg} {ko first par g lev to fo i : Int} {Q : Option AV → AHp → Prop} (hX : XLAY A) (hF : FrameAt A fo) (hN : NumsAt A to) (hd : 1 ≤ d) (hi : 0 ≤ i ∧ i < 950000) (hto : 0 < to) (hE : CALL (d - 1) mX4_goOn [vr 64, vr ko, vr fo, vi lev] (cl A v) (fun r B => ∃ x u, r = some (vl x) ∧ B = cl A u ∧ (x = (-9223372036854775808) → Q (some (vi (u fo 2))) (cl A u)) ∧ (x ≠ (-9223372036854775808) → 0 ≤ u to 1 ∧ LHA d A ko first par g lev to fo (i + 1) (addX u to x) Q))) : LHA d A ko first par g lev to fo i v Q := by
  intro L9 L10
  refine aw_iload (pc' := 23) rfl dX4_goList_21 rfl ?_
  refine aw_ldc (x := (1000000)) (pc' := 25) qX4_68 (by decide) dX4_goList_23 rfl ?_
  refine aw_icmp_ge (pt := 67) (pf := 28) dX4_goList_25 (by decide) rfl (fun c_25 => ?_) (fun c_25 => ?_)
  · exfalso
    omega
  · refine aw_aload_n (pc' := 29) rfl dX4_goList_28 rfl ?_
    refine aw_aload_n (pc' := 30) rfl dX4_goList_29 rfl ?_
    refine aw_aload (pc' := 32) rfl dX4_goList_30 rfl ?_
    refine aw_iload (pc' := 34) rfl dX4_goList_32 rfl ?_
    refine aw_callV (ci := 3) (d' := d - 1) (as := [_, _, _]) (pc' := 37) (by decide) rfl kX4_goOn iX4_goOn sX4_goOn lX4_69 (XO_machine (A := (cl A v)) hX) dX4_goList_34 rfl rfl (Nat.le_of_ble_eq_true rfl) (by omega) ?_
    refine CALL.mono hE ?_
    rintro r B ⟨x, u, rfl, rfl, hQ1, hQ2⟩
    refine aw_lstore (pc' := 39) (lv' := [_, _, _, _, _, _, _, _, _, _, _]) dX4_goList_37 rfl (by decide) rfl ?_
    refine aw_lload (pc' := 41) rfl dX4_goList_39 rfl ?_
    refine aw_ldc2 (x := (-9223372036854775808)) (pc' := 44) qX4_73 (by decide) dX4_goList_41 rfl ?_
    refine aw_lcmp (pc' := 45) dX4_goList_44 rfl ?_
    refine aw_if_ne (pt := 54) (pf := 48) dX4_goList_45 (by decide) rfl (fun c_45 => ?_) (fun c_45 => ?_)
    · replace c_45 := (not_congr cmp_eq).mp c_45
      refine aw_aload (pc' := 56) rfl dX4_goList_54 rfl ?_
      refine aw_lload (pc' := 58) rfl dX4_goList_56 rfl ?_
      refine aw_callV (ci := 4) (d' := d - 1) (as := [_]) (pc' := 61) (by decide) rfl kX5_add iX5_add sX5_add lX4_76 hN.1 dX4_goList_58 rfl rfl (Nat.le_of_ble_eq_true rfl) (by omega) ?_
      obtain ⟨hQ3, hQ4⟩ := hQ2 (by omega)
      refine x_naddc hN hQ3 hto ?_
      refine aw_iinc (pc' := 64) (lv' := [_, _, _, _, _, _, _, _, _, _, _]) dX4_goList_61 rfl rfl (by decide) (by first | exact w32_id (by omega) (by omega) | rfl) rfl ?_
      refine aw_goto (pc' := 21) dX4_goList_64 (by decide) ?_
      exact hQ4 _ _
    · replace c_45 := Classical.not_not.mp c_45
      replace c_45 := (cmp_eq).mp c_45
      refine aw_aload (pc' := 50) rfl dX4_goList_48 rfl ?_
      refine aw_geti (pc' := 53) (k9 := 2) dX4_goList_50 rfl fX4_75 rfl (by decide) rfl hF.1 ?_
      try simp (disch := omega) only [hv_cl, cl_set, sset_e, sset_1, sset_2]
      refine AW.ret (some (vi _)) dX4_goList_53 trivial ?_
      try simp (disch := omega) only [hv_cl, cl_set, sset_e, sset_1, sset_2]
      exact hQ1 (by omega)

set_option maxRecDepth 20000 in
theorem x_goList {d : Nat} {ko first par g lev to : Int} {A : AHp} {v : Sg} {Q : Option AV → AHp → Prop} (hd : 1 ≤ d) (hX : XLAY A) (hlev : 0 ≤ lev ∧ lev < 20) (hfs : v 66 lev = 67 + 7 * lev) (hE : LHA d A ko first par g lev to (67 + 7 * lev) 0 (sset (sset (sset (sset (sset v (67 + 7 * lev) 0 first) (67 + 7 * lev) 1 0) (67 + 7 * lev) 2 0) (67 + 7 * lev) 3 par) (67 + 7 * lev) 4 g) Q) : CALL d mX4_goList [vr 64, vr ko, vr first, vi par, vi g, vi lev, vr to] (cl A v) Q := by
  refine CALL.of (by decide) (Nat.le_of_ble_eq_true rfl) ?_
  change AW d mX4_goList 0 [some (vr 64), some (vr ko), some (vr first), some (vi par), some (vi g), some (vi lev), some (vr to), none, none, none, none] [] (cl A v) Q
  have hF := XF_frame hX lev hlev.1 hlev.2
  refine aw_aload_n (pc' := 1) rfl dX4_goList_0 rfl ?_
  refine aw_getp (pc' := 4) (k9 := 2) (p := 66) dX4_goList_1 rfl fX4_19 rfl rfl rfl (XO_machine (A := (cl A v)) hX) (X_frames (A := (cl A v)) hX) ?_
  refine aw_iload (pc' := 6) rfl dX4_goList_4 rfl ?_
  refine aw_aald (pc' := 7) (t0 := 4) (fun _ => rfl) (by decide) dX4_goList_6 rfl (XA_frames (A := (cl A v)) hX) (by omega) (by omega) ?_
  try simp (disch := omega) only [hv_cl, cl_set, sset_e, sset_1, sset_2]
  rw [hfs]
  try simp (disch := omega) only [hv_cl, cl_set, sset_e, sset_1, sset_2]
  refine aw_astore (pc' := 9) (lv' := [_, _, _, _, _, _, _, _, _, _, _]) dX4_goList_7 rfl (by decide) rfl ?_
  refine aw_aload (pc' := 11) rfl dX4_goList_9 rfl ?_
  refine aw_aload_n (pc' := 12) rfl dX4_goList_11 rfl ?_
  refine aw_iload_n (pc' := 13) rfl dX4_goList_12 rfl ?_
  refine aw_iload (pc' := 15) rfl dX4_goList_13 rfl ?_
  refine aw_callV (ci := 0) (d' := d - 1) (as := [_, _, _]) (pc' := 18) (by decide) rfl kX1_open iX1_open sX1_open lX4_64 hF.1 dX4_goList_15 rfl rfl (Nat.le_of_ble_eq_true rfl) (by omega) ?_
  refine x_open (by omega) hF ?_
  refine aw_iconst (pc' := 19) (by decide) dX4_goList_18 rfl ?_
  refine aw_istore (pc' := 21) (lv' := [_, _, _, _, _, _, _, _, _, _, _]) dX4_goList_19 rfl (by decide) rfl ?_
  exact hE _ _
