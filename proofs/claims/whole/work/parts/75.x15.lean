/-! ===== the class's reader: words ===== -/
theorem aw_alenQ {d : Nat} {M : MD} {pc pc' : Nat} {lv : LV} {st : List AV} {A : AHp} {Q : Option AV → AHp → Prop} {o n : Int} {kd t0 : Nat} {Cn : String} (ht : ∀ G, (tysL G)[t0]? = some (gC G kd, .object Cn)) (hkd : 30 ≤ kd) (hd : decode M.2.1 pc = .ok (.arraylength, 1)) (hp : pc + 1 = pc') (hO : isA A o kd n) (kk : AW d M pc' lv (vi n :: st) A Q) : AW d M pc lv (vr o :: st) A Q := by
  subst hp
  refine AW.pure (fun l G p e R s m args below meth c H locs ls C S Qr hC hS hl9 ho hst hva kk => ?_) kk
  change W p l e R s m args below meth c H locs C S Qr (F0 m pc ls (rR G o :: st.map (rV G)))
  rw [rR_dyn hO.1]
  obtain ⟨-, b0, b1, -⟩ := hS.2.2.1 o hO.1 hO.2.1
  rw [hO.2.2.2] at b0 b1
  refine va_alen (v := Int32.ofInt n) hC.1 hC.2.1 hC.2.2.2.2.2.2.1.1.1 (hS.arr hO (ent_ref hO.2.2.1 hkd)) 0 t0 rfl (ht G) ?_ hd (kk ls hl9 ho (okc (by show in32 n; unfold in32; omega) (okt hst)))
  show Int32.ofNat (hl A o).toNat = _
  rw [hO.2.2.2]
  apply Int32.toInt_inj.mp
  rw [i32_t (by unfold in32; omega)]
  have := nI_toInt (n := n.toNat) (by omega)
  unfold nI at this
  rw [this]
  omega
/-- both readers hold the same text -/
def TSM (v s : Sg) : Prop := BSM v s ∧ v 61 2 = s 307 17 ∧ ∀ j, 0 ≤ j → j < 15 → v 62 j = 1 + j
theorem TSM.bt {v s : Sg} (h : TSM v s) {k : Int} (hk : 0 ≤ k) (hl9 : k < v 61 2) : v 63 k = s 322 k := by
  have h1 := h.1.2.1 k hk
  unfold btX btS at h1
  rw [if_pos hl9, if_pos (by rw [← h.2.1]; exact hl9)] at h1
  exact h1
theorem TSM.at {v s : Sg} {x : Int} (h : TSM v s) : TSM (sset v 61 4 x) s :=
  ⟨h.1.at, by rw [sset_2 (by omega)]; exact h.2.1, fun j g1 g2 => by rw [sset_1 (by omega)]; exact h.2.2 j g1 g2⟩
set_option maxRecDepth 20000 in
theorem lx_wofI {d : Nat} {A : AHp} {v s : Sg} {e w : Int} {Q : Option AV → AHp → Prop} : ∀ (m : Nat) (k z : Int), (e - v 61 4 - k).toNat = m → 4 ≤ d → XLAY A → TSM v s → (0 ≤ v 61 4 ∧ e ≤ v 61 2) → (0 ≤ w ∧ w < 15) → (sLen w.toNat : Int) = e - v 61 4 → 0 ≤ k → k ≤ e - v 61 4 → (z = 0 ∨ z = 1) → (z = 1 → ∀ j, 0 ≤ j → j < k → sChr w.toNat j = s 322 (v 61 4 + j)) → (z = 0 → ¬ ∀ j, 0 ≤ j → j < e - v 61 4 → sChr w.toNat j = s 322 (v 61 4 + j)) → (∀ z L5, (z = 0 ∨ z = 1) → (z = 1 ↔ ∀ j, 0 ≤ j → j < e - v 61 4 → sChr w.toNat j = s 322 (v 61 4 + j)) → AW d mX7_wordAt 106 [some (vr 61), some (vi e), some (vi w), some (vr (16 + w)), some (vi z), L5] [] (cl A v) Q) → AW d mX7_wordAt 44 [some (vr 61), some (vi e), some (vi w), some (vr (16 + w)), some (vi z), some (vi k)] [] (cl A v) Q := by
  intro m
  induction m using Nat.strongRecOn with
  | _ m ih =>
    intro k z hm hd hX hT hft hw hlen hk0 hkn hz h1 h0 hE
    have hl9 := hT.1.1
    refine aw_iload (pc' := 46) rfl dX7_wordAt_44 rfl ?_
    refine aw_if_eq (pt := 106) (pf := 49) dX7_wordAt_46 (by decide) rfl (fun c_46 => ?_) (fun c_46 => ?_)
    · refine hE z _ hz ⟨fun q j g1 g2 => h1 q j g1 (by omega), fun q => ?_⟩
      rcases hz with hz | hz
      · exact absurd q (h0 hz)
      · exact hz
    · refine aw_iload (pc' := 51) rfl dX7_wordAt_49 rfl ?_
      refine aw_aload_n (pc' := 52) rfl dX7_wordAt_51 rfl ?_
      refine aw_callStr (d' := d - 1) (as := []) (pc' := 55) rfl kJ0_length_8abf5 iJ0_length_8abf5 sJ0_length_8abf5 lX7_154 (by omega) (by omega) dX7_wordAt_52 rfl rfl (Nat.le_of_ble_eq_true rfl) (by omega) ?_
      try simp (disch := omega) only [hv_cl, cl_set, sset_e, sset_1, sset_2, sset_ss, btX_4]
      refine c_strlen (by omega) (by omega) (by omega) ?_
      rw [show 16 + w - 16 = w by omega]
      refine aw_icmp_ge (pt := 106) (pf := 58) dX7_wordAt_55 (by decide) rfl (fun c_55 => ?_) (fun c_55 => ?_)
      · refine hE z _ hz ⟨fun q j g1 g2 => h1 q j g1 (by omega), fun q => ?_⟩
        rcases hz with hz | hz
        · exact absurd q (h0 hz)
        · exact hz
      · refine aw_aload_n (pc' := 59) rfl dX7_wordAt_58 rfl ?_
        refine aw_geti (pc' := 62) (k9 := 4) dX7_wordAt_59 rfl fX7_29 rfl (by decide) rfl (XO_reader (A := (cl A v)) hX) ?_
        try simp (disch := omega) only [hv_cl, cl_set, sset_e, sset_1, sset_2, sset_ss, btX_4]
        refine aw_iload (pc' := 64) rfl dX7_wordAt_62 rfl ?_
        refine aw_iadd (pc' := 65) (by first | exact w32_id (by omega) (by omega) | rfl) dX7_wordAt_64 rfl ?_
        refine aw_aload_n (pc' := 66) rfl dX7_wordAt_65 rfl ?_
        refine aw_geti (pc' := 69) (k9 := 2) dX7_wordAt_66 rfl fX7_25 rfl (by decide) rfl (XO_reader (A := (cl A v)) hX) ?_
        try simp (disch := omega) only [hv_cl, cl_set, sset_e, sset_1, sset_2, sset_ss, btX_4]
        refine aw_icmp_ge (pt := 106) (pf := 72) dX7_wordAt_69 (by decide) rfl (fun c_69 => ?_) (fun c_69 => ?_)
        · refine hE z _ hz ⟨fun q j g1 g2 => h1 q j g1 (by omega), fun q => ?_⟩
          rcases hz with hz | hz
          · exact absurd q (h0 hz)
          · exact hz
        · refine aw_aload_n (pc' := 73) rfl dX7_wordAt_72 rfl ?_
          refine aw_getp (pc' := 76) (k9 := 1) (p := 63) dX7_wordAt_73 rfl fX7_21 rfl rfl rfl (XO_reader (A := (cl A v)) hX) (X_text (A := (cl A v)) hX) ?_
          refine aw_aload_n (pc' := 77) rfl dX7_wordAt_76 rfl ?_
          refine aw_geti (pc' := 80) (k9 := 4) dX7_wordAt_77 rfl fX7_29 rfl (by decide) rfl (XO_reader (A := (cl A v)) hX) ?_
          try simp (disch := omega) only [hv_cl, cl_set, sset_e, sset_1, sset_2, sset_ss, btX_4]
          refine aw_iload (pc' := 82) rfl dX7_wordAt_80 rfl ?_
          refine aw_iadd (pc' := 83) (by first | exact w32_id (by omega) (by omega) | rfl) dX7_wordAt_82 rfl ?_
          refine aw_bald (pc' := 84) dX7_wordAt_83 rfl (XA_text (A := (cl A v)) hX) (by omega) (by omega) ?_
          try simp (disch := omega) only [hv_cl, cl_set, sset_e, sset_1, sset_2, sset_ss, btX_4]
          refine aw_aload_n (pc' := 85) rfl dX7_wordAt_84 rfl ?_
          refine aw_iload (pc' := 87) rfl dX7_wordAt_85 rfl ?_
          refine aw_callStr (d' := d - 1) (as := [_]) (pc' := 90) rfl kJ0_charAt_5068e iJ0_charAt_5068e sJ0_charAt_5068e lX7_158 (by omega) (by omega) dX7_wordAt_87 rfl rfl (Nat.le_of_ble_eq_true rfl) (by omega) ?_
          try simp (disch := omega) only [hv_cl, cl_set, sset_e, sset_1, sset_2, sset_ss, btX_4]
          rw [hT.bt (k := v 61 4 + k) (by omega) (by omega)]
          refine c_charAt (by omega) (by omega) (by omega) (by omega) (by rw [show 16 + w - 16 = w by omega]; omega) ?_
          refine aw_icmp_ne (pt := 97) (pf := 93) dX7_wordAt_90 (by decide) rfl (fun c_90 => ?_) (fun c_90 => ?_)
          · refine aw_iconst (pc' := 98) (by decide) dX7_wordAt_97 rfl ?_
            refine aw_istore (pc' := 100) (lv' := [_, _, _, _, _, _]) dX7_wordAt_98 rfl (by decide) rfl ?_
            refine aw_iinc (pc' := 103) (lv' := [_, _, _, _, _, _]) dX7_wordAt_100 rfl rfl (by decide) (by first | exact w32_id (by omega) (by omega) | rfl) rfl ?_
            refine aw_goto (pc' := 44) dX7_wordAt_103 (by decide) ?_
            first
            | exact ih _ (by omega) (k + 1) 1 rfl hd hX hT hft hw hlen (by omega) (by omega) (Or.inr rfl) (fun _ j g1 g2 => by by_cases e1 : j = k; subst e1; rw [show w = 16 + w - 16 by omega]; exact c_90.symm; exact h1 (by omega) j g1 (by omega)) (fun q => by omega) hE
            | exact ih _ (by omega) (k + 1) 0 rfl hd hX hT hft hw hlen (by omega) (by omega) (Or.inl rfl) (fun q => by omega) (fun _ q => c_90 (by have := q k (by omega) (by omega); rw [show w = 16 + w - 16 by omega] at this; exact this.symm)) hE
          · replace c_90 := Classical.not_not.mp c_90
            refine aw_iconst (pc' := 94) (by decide) dX7_wordAt_93 rfl ?_
            refine aw_goto (pc' := 98) dX7_wordAt_94 (by decide) ?_
            refine aw_istore (pc' := 100) (lv' := [_, _, _, _, _, _]) dX7_wordAt_98 rfl (by decide) rfl ?_
            refine aw_iinc (pc' := 103) (lv' := [_, _, _, _, _, _]) dX7_wordAt_100 rfl rfl (by decide) (by first | exact w32_id (by omega) (by omega) | rfl) rfl ?_
            refine aw_goto (pc' := 44) dX7_wordAt_103 (by decide) ?_
            first
            | exact ih _ (by omega) (k + 1) 1 rfl hd hX hT hft hw hlen (by omega) (by omega) (Or.inr rfl) (fun _ j g1 g2 => by by_cases e1 : j = k; subst e1; rw [show w = 16 + w - 16 by omega]; exact c_90.symm; exact h1 (by omega) j g1 (by omega)) (fun q => by omega) hE
            | exact ih _ (by omega) (k + 1) 0 rfl hd hX hT hft hw hlen (by omega) (by omega) (Or.inl rfl) (fun q => by omega) (fun _ q => c_90 (by have := q k (by omega) (by omega); rw [show w = 16 + w - 16 by omega] at this; exact this.symm)) hE

set_option maxRecDepth 20000 in
theorem lx_wofY {d : Nat} {A : AHp} {v s : Sg} {e w : Int} {n : Nat} {L3 L5 : Option AV} {Q : Option AV → AHp → Prop} (hX : XLAY A) (hT : TSM v s) (hQ : Q (some (vr (if wofS s (v 61 4) e < 0 then 0 else 1 + wofS s (v 61 4) e))) (cl A v)) (hmy : mtS s (v 61 4) e n = true) (hno : ∀ w1, w1 < n → mtS s (v 61 4) e w1 = false) (hn : n < 14) (ew : w = (n : Int)) : AW d mX7_wordAt 106 [some (vr 61), some (vi e), some (vi w), L3, some (vi 1), L5] [] (cl A v) Q := by
  refine aw_iload (pc' := 108) rfl dX7_wordAt_106 rfl ?_
  refine aw_if_eq (pt := 118) (pf := 111) dX7_wordAt_108 (by decide) rfl (fun c_108 => absurd c_108 (by decide)) (fun _ => ?_)
  refine aw_aload_n (pc' := 112) rfl dX7_wordAt_111 rfl ?_
  refine aw_getp (pc' := 115) (k9 := 0) (p := 62) dX7_wordAt_112 rfl fX7_15 rfl rfl rfl (XO_reader (A := (cl A v)) hX) (X_words (A := (cl A v)) hX) ?_
  refine aw_iload_n (pc' := 116) rfl dX7_wordAt_115 rfl ?_
  refine aw_aald (pc' := 117) (t0 := 8) (fun _ => rfl) (by decide) dX7_wordAt_116 rfl (XA_words (A := (cl A v)) hX) (by omega) (by omega) ?_
  try simp (disch := omega) only [hv_cl, cl_set, sset_e, sset_1, sset_2, sset_ss, btX_4]
  rw [hT.2.2 w (by omega) (by omega)]
  try simp (disch := omega) only [hv_cl, cl_set, sset_e, sset_1, sset_2, sset_ss, btX_4]
  refine AW.ret (some (vr _)) dX7_wordAt_117 trivial ?_
  have e9 : wofS s (v 61 4) e = n := by
    unfold wofS
    exact fst1_yes hn hmy hno
  rw [e9, if_neg (by omega), ← ew] at hQ
  exact hQ

set_option maxRecDepth 20000 in
theorem lx_wofN {d : Nat} {A : AHp} {v : Sg} {e w : Int} {L3 L5 : Option AV} {Q : Option AV → AHp → Prop} (h0 : 0 ≤ w) (h1 : w < 15) (hE : ∀ L3 L4 L5, AW d mX7_wordAt 2 [some (vr 61), some (vi e), some (vi (w + 1)), L3, L4, L5] [] (cl A v) Q) : AW d mX7_wordAt 106 [some (vr 61), some (vi e), some (vi w), L3, some (vi 0), L5] [] (cl A v) Q := by
  refine aw_iload (pc' := 108) rfl dX7_wordAt_106 rfl ?_
  refine aw_if_eq (pt := 118) (pf := 111) dX7_wordAt_108 (by decide) rfl (fun _ => ?_) (fun c_108 => absurd (by decide) c_108)
  refine aw_iinc (pc' := 121) (lv' := [_, _, _, _, _, _]) dX7_wordAt_118 rfl rfl (by decide) (by first | exact w32_id (by omega) (by omega) | rfl) rfl ?_
  refine aw_goto (pc' := 2) dX7_wordAt_121 (by decide) ?_
  exact hE _ _ _

set_option maxRecDepth 20000 in
theorem lx_wofZ {d : Nat} {A : AHp} {v : Sg} {e w : Int} {L3 : Option AV} {Q : Option AV → AHp → Prop} (h0 : 0 ≤ w) (h1 : w < 15) (hE : ∀ L3 L4 L5, AW d mX7_wordAt 2 [some (vr 61), some (vi e), some (vi (w + 1)), L3, L4, L5] [] (cl A v) Q) : AW d mX7_wordAt 44 [some (vr 61), some (vi e), some (vi w), L3, some (vi 0), some (vi 0)] [] (cl A v) Q := by
  refine aw_iload (pc' := 46) rfl dX7_wordAt_44 rfl ?_
  refine aw_if_eq (pt := 106) (pf := 49) dX7_wordAt_46 (by decide) rfl (fun _ => ?_) (fun c_46 => absurd (by decide) c_46)
  refine aw_iload (pc' := 108) rfl dX7_wordAt_106 rfl ?_
  refine aw_if_eq (pt := 118) (pf := 111) dX7_wordAt_108 (by decide) rfl (fun _ => ?_) (fun c_108 => absurd (by decide) c_108)
  refine aw_iinc (pc' := 121) (lv' := [_, _, _, _, _, _]) dX7_wordAt_118 rfl rfl (by decide) (by first | exact w32_id (by omega) (by omega) | rfl) rfl ?_
  refine aw_goto (pc' := 2) dX7_wordAt_121 (by decide) ?_
  exact hE _ _ _

set_option maxRecDepth 20000 in
theorem lx_wof {d : Nat} {A : AHp} {v s : Sg} {e : Int} {Q : Option AV → AHp → Prop} : ∀ (m : Nat) (n : Nat) (w : Int), 15 - n = m → 5 ≤ d → XLAY A → TSM v s → (0 ≤ v 61 4 ∧ e ≤ v 61 2 ∧ v 61 4 ≤ e) → n ≤ 15 → w = (n : Int) → (∀ w', w' < n → mtS s (v 61 4) e w' = false) → (e - v 61 4 = 1 → s 322 (v 61 4) ≠ 123) → Q (some (vr (if wofS s (v 61 4) e < 0 then 0 else 1 + wofS s (v 61 4) e))) (cl A v) → ∀ (L3 L4 L5 : Option AV), AW d mX7_wordAt 2 [some (vr 61), some (vi e), some (vi w), L3, L4, L5] [] (cl A v) Q := by
  intro m
  induction m using Nat.strongRecOn with
  | _ m ih =>
    intro n w hm hd hX hT hft hn ew hno h123 hQ L3 L4 L5
    have hwn : w.toNat = n := by omega
    have hl9 := hT.1.1
    refine aw_iload_n (pc' := 3) rfl dX7_wordAt_2 rfl ?_
    refine aw_aload_n (pc' := 4) rfl dX7_wordAt_3 rfl ?_
    refine aw_getp (pc' := 7) (k9 := 0) (p := 62) dX7_wordAt_4 rfl fX7_15 rfl rfl rfl (XO_reader (A := (cl A v)) hX) (X_words (A := (cl A v)) hX) ?_
    refine aw_alenQ (t0 := 8) (fun _ => rfl) (by decide) (pc' := 8) dX7_wordAt_7 rfl (XA_words (A := (cl A v)) hX) ?_
    refine aw_icmp_ge (pt := 124) (pf := 11) dX7_wordAt_8 (by decide) rfl (fun c_8 => ?_) (fun c_8 => ?_)
    · refine aw_null (pc' := 125) dX7_wordAt_124 rfl ?_
      refine AW.ret (some (vr _)) dX7_wordAt_125 trivial ?_
      have e9 : wofS s (v 61 4) e = -1 := fst1_no (fun w1 hw1 => hno w1 (by omega))
      rw [e9] at hQ
      exact hQ
    · refine aw_aload_n (pc' := 12) rfl dX7_wordAt_11 rfl ?_
      refine aw_getp (pc' := 15) (k9 := 0) (p := 62) dX7_wordAt_12 rfl fX7_15 rfl rfl rfl (XO_reader (A := (cl A v)) hX) (X_words (A := (cl A v)) hX) ?_
      refine aw_iload_n (pc' := 16) rfl dX7_wordAt_15 rfl ?_
      refine aw_aald (pc' := 17) (t0 := 8) (fun _ => rfl) (by decide) dX7_wordAt_16 rfl (XA_words (A := (cl A v)) hX) (by omega) (by omega) ?_
      try simp (disch := omega) only [hv_cl, cl_set, sset_e, sset_1, sset_2, sset_ss, btX_4]
      rw [hT.2.2 w (by omega) (by omega)]
      try simp (disch := omega) only [hv_cl, cl_set, sset_e, sset_1, sset_2, sset_ss, btX_4]
      refine aw_wText (pc' := 20) (by omega) (by omega) fX7_151 dX7_wordAt_17 rfl ?_
      try simp (disch := omega) only [hv_cl, cl_set, sset_e, sset_1, sset_2, sset_ss, btX_4]
      refine aw_astore_n (pc' := 21) (lv' := [_, _, _, _, _, _]) dX7_wordAt_20 rfl (by decide) rfl ?_
      refine aw_aload_n (pc' := 22) rfl dX7_wordAt_21 rfl ?_
      refine aw_callStr (d' := d - 1) (as := []) (pc' := 25) rfl kJ0_length_8abf5 iJ0_length_8abf5 sJ0_length_8abf5 lX7_154 (by omega) (by omega) dX7_wordAt_22 rfl rfl (Nat.le_of_ble_eq_true rfl) (by omega) ?_
      rw [show 1 + w + 15 = 16 + w by omega]
      refine c_strlen (by omega) (by omega) (by omega) ?_
      rw [show 16 + w - 16 = w by omega]
      try simp (disch := omega) only [hv_cl, cl_set, sset_e, sset_1, sset_2, sset_ss, btX_4]
      refine aw_iload_n (pc' := 26) rfl dX7_wordAt_25 rfl ?_
      refine aw_aload_n (pc' := 27) rfl dX7_wordAt_26 rfl ?_
      refine aw_geti (pc' := 30) (k9 := 4) dX7_wordAt_27 rfl fX7_29 rfl (by decide) rfl (XO_reader (A := (cl A v)) hX) ?_
      try simp (disch := omega) only [hv_cl, cl_set, sset_e, sset_1, sset_2, sset_ss, btX_4]
      refine aw_isub (pc' := 31) (by first | exact w32_id (by omega) (by omega) | rfl) dX7_wordAt_30 rfl ?_
      refine aw_icmp_ne (pt := 38) (pf := 34) dX7_wordAt_31 (by decide) rfl (fun c_31 => ?_) (fun c_31 => ?_)
      · refine aw_iconst (pc' := 39) (by decide) dX7_wordAt_38 rfl ?_
        refine aw_istore (pc' := 41) (lv' := [_, _, _, _, _, _]) dX7_wordAt_39 rfl (by decide) rfl ?_
        refine aw_iconst (pc' := 42) (by decide) dX7_wordAt_41 rfl ?_
        refine aw_istore (pc' := 44) (lv' := [_, _, _, _, _, _]) dX7_wordAt_42 rfl (by decide) rfl ?_
        have hmn : mtS s (v 61 4) e n = false := by
          unfold mtS
          simp only [decide_eq_false_iff_not]
          rw [← hwn]
          exact fun q => c_31 q.1
        exact lx_wofZ (by omega) (by omega) (fun L3 L4 L5 => ih _ (by omega) (n + 1) (w + 1) rfl hd hX hT hft (by omega) (by omega) (fun w1 hw1 => by by_cases e1 : w1 = n; subst e1; exact hmn; exact hno w1 (by omega)) h123 hQ _ _ _)
      · replace c_31 := Classical.not_not.mp c_31
        refine aw_iconst (pc' := 35) (by decide) dX7_wordAt_34 rfl ?_
        refine aw_goto (pc' := 39) dX7_wordAt_35 (by decide) ?_
        refine aw_istore (pc' := 41) (lv' := [_, _, _, _, _, _]) dX7_wordAt_39 rfl (by decide) rfl ?_
        refine aw_iconst (pc' := 42) (by decide) dX7_wordAt_41 rfl ?_
        refine aw_istore (pc' := 44) (lv' := [_, _, _, _, _, _]) dX7_wordAt_42 rfl (by decide) rfl ?_
        refine lx_wofI _ 0 1 rfl (by omega) hX hT (by omega) (by omega) (by omega) (by omega) (by omega) (Or.inr rfl) (fun _ j g1 g2 => by omega) (fun q => by omega) (fun z L5 hz hzi => ?_)
        by_cases cz : z = 1
        · have hmy : mtS s (v 61 4) e n = true := by
            unfold mtS
            simp only [decide_eq_true_eq]
            rw [← hwn]
            exact ⟨by omega, hzi.mp cz⟩
          have hn14 : n < 14 := by
            rcases Nat.lt_or_ge n 14 with q | q
            · exact q
            · have hn14 : n = 14 := by omega
              have h1 := hzi.mp cz 0 (by omega)
              have e14 : w.toNat = 14 := by omega
              have hl14 : ((sLen w.toNat : Nat) : Int) = 1 := by rw [e14]; rfl
              have h2 := h1 (by omega)
              rw [e14, Int.add_zero] at h2
              exact absurd h2.symm (h123 (by omega))
          subst cz
          exact lx_wofY hX hT hQ hmy hno hn14 ew
        · have hmn : mtS s (v 61 4) e n = false := by
            unfold mtS
            simp only [decide_eq_false_iff_not]
            rw [← hwn]
            exact fun q => cz (hzi.mpr q.2)
          have hz0 : z = 0 := by omega
          subst hz0
          exact lx_wofN (by omega) (by omega) (fun L3 L4 L5 => ih _ (by omega) (n + 1) (w + 1) rfl hd hX hT hft (by omega) (by omega) (fun w1 hw1 => by by_cases e1 : w1 = n; subst e1; exact hmn; exact hno w1 (by omega)) h123 hQ _ _ _)

set_option maxRecDepth 20000 in
theorem x_wordAt {d : Nat} {s : Sg} {e : Int} {A : AHp} {v : Sg} {Q : Option AV → AHp → Prop} (hd : 5 ≤ d) (hX : XLAY A) (hT : TSM v s) (hft : 0 ≤ v 61 4 ∧ e ≤ v 61 2 ∧ v 61 4 ≤ e) (h123 : e - v 61 4 = 1 → s 322 (v 61 4) ≠ 123) (hQ : Q (some (vr (if wofS s (v 61 4) e < 0 then 0 else 1 + wofS s (v 61 4) e))) (cl A v)) : CALL d mX7_wordAt [vr 61, vi e] (cl A v) Q := by
  refine CALL.of (by decide) (Nat.le_of_ble_eq_true rfl) ?_
  change AW d mX7_wordAt 0 [some (vr 61), some (vi e), none, none, none, none] [] (cl A v) Q
  refine aw_iconst (pc' := 1) (by decide) dX7_wordAt_0 rfl ?_
  refine aw_istore_n (pc' := 2) (lv' := [_, _, _, _, _, _]) dX7_wordAt_1 rfl (by decide) rfl ?_
  exact lx_wof _ 0 0 rfl hd hX hT hft (by omega) rfl (fun w1 h => by omega) h123 hQ _ _ _
