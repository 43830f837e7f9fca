/-! ===== the class: a pipe begins ===== -/
def OUT4 (fo o j : Int) : Prop := (o = fo + 1 ∧ 0 ≤ j ∧ j < 24) ∨ ((o = fo + 2 ∨ o = fo + 3 ∨ o = fo + 4) ∧ 0 ≤ j ∧ j < 6)
def BGX (A : AHp) (v u : Sg) (ko fo po s : Int) : Prop := (∀ o j, ¬ OUT4 fo o j → u o j = v o j) ∧ ∀ k, 0 ≤ k → k < s → u (fo + 2) k = 0 ∧ u (fo + 3) k = 0 ∧ u (fo + 4) k = statV (hp A (v (hp A po 0) k) 0 - 1) (u (fo + 1) (k * 4)) ∧
  ∀ i, 0 ≤ i → i < v (v (hp A po 0) k) 2 → u (fo + 1) (k * 4 + i) = worthX v ko fo (v (hp A (v (hp A po 0) k) 1) i)
def WGX (A : AHp) (v u : Sg) (ko fo po so s i : Int) : Prop := BGX A v u ko fo po s ∧ ∀ j, 0 ≤ j → j < i → u (fo + 1) (s * 4 + j) = worthX v ko fo (v (hp A so 1) j)
theorem STG.eq {A : AHp} {u v : Sg} {so : Int} (h : ∀ o j, 350 ≤ o → u o j = v o j) (hS : STG A v so) : STG A u so := by
  obtain ⟨h1, h2, h3, h4, h5, h6, h7⟩ := hS
  refine ⟨h1, h2, h3, h4, h5, by rw [h _ _ h1]; exact h6, fun i g1 g2 => by rw [h _ _ h4]; exact h7 i g1 g2⟩
theorem worthX_eq {u v : Sg} {ko fo t : Int} (h1 : ∀ j, u (ko + 1) j = v (ko + 1) j) (h2 : u fo 3 = v fo 3) : worthX u ko fo t = worthX v ko fo t := by
  unfold worthX
  rw [h1, h2]
theorem WGX.step {A : AHp} {v u : Sg} {ko fo po so s i : Int} (hfo : 66 < fo ∧ fo < 300 ∧ (fo < 201 ∨ 266 < fo)) (hs : 0 ≤ s ∧ s < 6) (hi : 0 ≤ i ∧ i < 4) (hstg : ∀ k, 0 ≤ k → k < s → v (v (hp A po 0) k) 2 ≤ 4) (h : WGX A v u ko fo po so s i) : WGX A v (sset u (fo + 1) (s * 4 + i) (worthX v ko fo (v (hp A so 1) i))) ko fo po so s (i + 1) := by
  obtain ⟨⟨h1, h2⟩, h3⟩ := h
  refine ⟨⟨fun o j q => ?_, fun k g1 g2 => ?_⟩, fun j g1 g2 => ?_⟩
  · unfold sset
    rw [if_neg]
    · exact h1 o j q
    · intro z
      apply q
      unfold OUT4
      omega
  · have g3 := hstg k g1 g2
    obtain ⟨b1, b2, b3, b4⟩ := h2 k g1 g2
    rw [sset_1 (by omega), sset_1 (by omega), sset_1 (by omega), sset_2 (by omega)]
    refine ⟨b1, b2, b3, fun i' g4 g5 => ?_⟩
    rw [sset_2 (by omega)]
    exact b4 i' g4 g5
  · by_cases e : j = i
    · subst e
      exact sset_e
    · rw [sset_2 (by omega)]
      exact h3 j g1 (by omega)
theorem BGX.step {A : AHp} {v u : Sg} {ko fo po so o s : Int} (hfo : 66 < fo ∧ fo < 300 ∧ (fo < 201 ∨ 266 < fo)) (hs : 0 ≤ s ∧ s < 6) (hso : v (hp A po 0) s = so) (ho : hp A so 0 = o) (h : WGX A v u ko fo po so s (v so 2)) :
    BGX A v (sset (sset (sset u (fo + 2) s 0) (fo + 3) s 0) (fo + 4) s (statV (o - 1) (u (fo + 1) (s * 4)))) ko fo po (s + 1) := by
  obtain ⟨⟨h1, h2⟩, h3⟩ := h
  refine ⟨fun o' j q => ?_, fun k g1 g2 => ?_⟩
  · unfold OUT4 at q
    unfold sset
    rw [if_neg (by omega), if_neg (by omega), if_neg (by omega)]
    exact h1 o' j (by unfold OUT4; omega)
  · by_cases e : k = s
    · subst e
      rw [hso, ho]
      refine ⟨?_, ?_, ?_, fun i g3 g4 => ?_⟩
      · rw [sset_1 (by omega), sset_1 (by omega), sset_e]
      · rw [sset_1 (by omega), sset_e]
      · rw [sset_e, sset_1 (by omega), sset_1 (by omega), sset_1 (by omega)]
      · rw [sset_1 (by omega), sset_1 (by omega), sset_1 (by omega)]
        exact h3 i g3 g4
    · obtain ⟨b1, b2, b3, b4⟩ := h2 k g1 (by omega)
      refine ⟨?_, ?_, ?_, fun i g3 g4 => ?_⟩
      · rw [sset_1 (by omega), sset_1 (by omega), sset_2 (by omega)]; exact b1
      · rw [sset_1 (by omega), sset_2 (by omega), sset_1 (by omega)]; exact b2
      · rw [sset_2 (by omega), sset_1 (by omega), sset_1 (by omega), sset_1 (by omega), sset_1 (by omega), sset_1 (by omega)]; exact b3
      · rw [sset_1 (by omega), sset_1 (by omega), sset_1 (by omega)]
        exact b4 i g3 g4
set_option maxRecDepth 20000 in
theorem l_bnW {d : Nat} {A : AHp} {v : Sg} {ko fo po so o s : Int} {Q : Option AV → AHp → Prop} : ∀ (m : Nat) (u : Sg) (i : Int), (v so 2 - i).toNat = m → 2 ≤ d → 0 ≤ i → i ≤ v so 2 → KeptAt A ko → FrameAt A fo → (66 < fo ∧ fo < 300 ∧ (fo < 201 ∨ 266 < fo)) → (206 < ko ∧ ko < 250) → PIP A po → STG A v so → hp A so 0 = o → (0 ≤ s ∧ s < 6) → (∀ k, 0 ≤ k → k < s → v (v (hp A po 0) k) 2 ≤ 4) → WGX A v u ko fo po so s i → (∀ u L6, WGX A v u ko fo po so s (v so 2) → AW d mX4_beginNext 108 [some (vr 64), some (vr ko), some (vr fo), some (vr po), some (vi s), some (vr so), L6] [] (cl A u) Q) → AW d mX4_beginNext 67 [some (vr 64), some (vr ko), some (vr fo), some (vr po), some (vi s), some (vr so), some (vi i)] [] (cl A u) Q := by
  intro m
  induction m using Nat.strongRecOn with
  | _ m ih =>
    intro u i hm hd hi0 hin hK hF hfo hko hPo hSt ho hs hstg hW hE
    obtain ⟨y1, y2, y3, y4⟩ := id hPo
    obtain ⟨z1, z2, z3, z4, z5, z6, z7⟩ := id hSt
    rw [ho] at z3
    have e350 : ∀ o j, 350 ≤ o → u o j = v o j := fun o j q => hW.1.1 o j (by unfold OUT4; omega)
    have ek : ∀ j, u (ko + 1) j = v (ko + 1) j := fun j => hW.1.1 _ j (by unfold OUT4; omega)
    have ef : u fo 3 = v fo 3 := hW.1.1 _ _ (by unfold OUT4; omega)
    refine aw_iload (pc' := 69) rfl dX4_beginNext_67 rfl ?_
    refine aw_aload (pc' := 71) rfl dX4_beginNext_69 rfl ?_
    refine aw_geti (pc' := 74) (k9 := 2) dX4_beginNext_71 rfl fX4_112 rfl (by decide) rfl hSt.2.1 ?_
    try simp (disch := omega) only [hv_cl, cl_set, sset_e, sset_1, sset_2]
    rw [e350 _ _ z1]
    refine aw_icmp_ge (pt := 108) (pf := 77) dX4_beginNext_74 (by decide) rfl (fun c_74 => ?_) (fun c_74 => ?_)
    · rw [show i = v so 2 by omega] at hW
      exact hE u _ hW
    · refine aw_aload_n (pc' := 78) rfl dX4_beginNext_77 rfl ?_
      refine aw_getp (pc' := 81) (k9 := 5) (p := (fo + 1)) dX4_beginNext_78 rfl fX4_117 rfl rfl rfl hF.1 hF.2.1.1 ?_
      refine aw_iload (pc' := 83) rfl dX4_beginNext_81 rfl ?_
      refine aw_iconst (pc' := 84) (by decide) dX4_beginNext_83 rfl ?_
      refine aw_imul (pc' := 85) (by first | exact w32_id (by omega) (by omega) | rfl) dX4_beginNext_84 rfl ?_
      refine aw_iload (pc' := 87) rfl dX4_beginNext_85 rfl ?_
      refine aw_iadd (pc' := 88) (by first | exact w32_id (by omega) (by omega) | rfl) dX4_beginNext_87 rfl ?_
      refine aw_aload_n (pc' := 89) rfl dX4_beginNext_88 rfl ?_
      refine aw_aload_n (pc' := 90) rfl dX4_beginNext_89 rfl ?_
      refine aw_aload (pc' := 92) rfl dX4_beginNext_90 rfl ?_
      refine aw_getp (pc' := 95) (k9 := 1) (p := (hp A so 1)) dX4_beginNext_92 rfl fX4_120 rfl rfl rfl hSt.2.1 rfl ?_
      refine aw_iload (pc' := 97) rfl dX4_beginNext_95 rfl ?_
      refine aw_iald (pc' := 98) dX4_beginNext_97 rfl hSt.2.2.2.2.1 (by omega) (by omega) ?_
      try simp (disch := omega) only [hv_cl, cl_set, sset_e, sset_1, sset_2]
      rw [e350 _ _ z4]
      have z8 := z7 i (by omega) (by omega)
      try simp (disch := omega) only [hv_cl, cl_set, sset_e, sset_1, sset_2]
      refine aw_callS (d' := d - 1) (as := [_, _, _]) (pc' := 101) kX4_worth tX4_worth lX4_123 dX4_beginNext_98 rfl rfl (Nat.le_of_ble_eq_true rfl) (by omega) ?_
      refine x_worth (by omega) hK hF (by omega) ?_
      refine aw_iast (pc' := 102) dX4_beginNext_101 rfl hF.2.1.2 (by omega) (by omega) ?_
      refine aw_iinc (pc' := 105) (lv' := [_, _, _, _, _, _, _]) dX4_beginNext_102 rfl rfl (by decide) (by first | exact w32_id (by omega) (by omega) | rfl) rfl ?_
      refine aw_goto (pc' := 67) dX4_beginNext_105 (by decide) ?_
      rw [worthX_eq ek ef]
      exact ih _ (by omega) _ (i + 1) rfl hd (by omega) (by omega) hK hF hfo hko hPo hSt ho hs hstg (hW.step hfo hs (by omega) hstg) hE

set_option maxRecDepth 20000 in
theorem l_bnT {d : Nat} {A : AHp} {u : Sg} {ko fo po so o s : Int} {L6 : Option AV} {Q : Option AV → AHp → Prop} (hd : 2 ≤ d) (hF : FrameAt A fo) (hfo : 66 < fo ∧ fo < 300 ∧ (fo < 201 ∨ 266 < fo)) (z3 : 1 ≤ o ∧ o ≤ 15) (hs : 0 ≤ s ∧ s < 6) (hs2 : isO A so 9) (ho : hp A so 0 = o) (hE : ∀ L5 L6, AW d mX4_beginNext 46 [some (vr 64), some (vr ko), some (vr fo), some (vr po), some (vi (s + 1)), L5, L6] [] (cl A (sset (sset (sset u (fo + 2) s 0) (fo + 3) s 0) (fo + 4) s (statV (o - 1) (u (fo + 1) (s * 4))))) Q) : AW d mX4_beginNext 108 [some (vr 64), some (vr ko), some (vr fo), some (vr po), some (vi s), some (vr so), L6] [] (cl A u) Q := by
  refine aw_aload_n (pc' := 109) rfl dX4_beginNext_108 rfl ?_
  refine aw_getp (pc' := 112) (k9 := 6) (p := (fo + 2)) dX4_beginNext_109 rfl fX4_127 rfl rfl rfl hF.1 hF.2.2.1.1 ?_
  refine aw_iload (pc' := 114) rfl dX4_beginNext_112 rfl ?_
  refine aw_iconst (pc' := 115) (by decide) dX4_beginNext_114 rfl ?_
  refine aw_iast (pc' := 116) dX4_beginNext_115 rfl hF.2.2.1.2 (by omega) (by omega) ?_
  refine aw_aload_n (pc' := 117) rfl dX4_beginNext_116 rfl ?_
  refine aw_getp (pc' := 120) (k9 := 7) (p := (fo + 3)) dX4_beginNext_117 rfl fX4_130 rfl rfl rfl hF.1 hF.2.2.2.1.1 ?_
  refine aw_iload (pc' := 122) rfl dX4_beginNext_120 rfl ?_
  refine aw_iconst (pc' := 123) (by decide) dX4_beginNext_122 rfl ?_
  refine aw_zast (pc' := 124) dX4_beginNext_123 rfl hF.2.2.2.1.2 (by omega) (by omega) (by omega) ?_
  refine aw_aload_n (pc' := 125) rfl dX4_beginNext_124 rfl ?_
  refine aw_getp (pc' := 128) (k9 := 8) (p := (fo + 4)) dX4_beginNext_125 rfl fX4_93 rfl rfl rfl hF.1 hF.2.2.2.2.1.1 ?_
  refine aw_iload (pc' := 130) rfl dX4_beginNext_128 rfl ?_
  refine aw_aload (pc' := 132) rfl dX4_beginNext_130 rfl ?_
  refine aw_getp (pc' := 135) (k9 := 0) (p := o) dX4_beginNext_132 rfl fX4_134 rfl rfl rfl hs2 ho ?_
  refine aw_aload_n (pc' := 136) rfl dX4_beginNext_135 rfl ?_
  refine aw_getp (pc' := 139) (k9 := 5) (p := (fo + 1)) dX4_beginNext_136 rfl fX4_117 rfl rfl rfl hF.1 hF.2.1.1 ?_
  refine aw_iload (pc' := 141) rfl dX4_beginNext_139 rfl ?_
  refine aw_iconst (pc' := 142) (by decide) dX4_beginNext_141 rfl ?_
  refine aw_imul (pc' := 143) (by first | exact w32_id (by omega) (by omega) | rfl) dX4_beginNext_142 rfl ?_
  refine aw_iald (pc' := 144) dX4_beginNext_143 rfl hF.2.1.2 (by omega) (by omega) ?_
  try simp (disch := omega) only [hv_cl, cl_set, sset_e, sset_1, sset_2]
  refine aw_callS (d' := d - 1) (as := [_, _]) (pc' := 147) kX4_statusAtFirst tX4_statusAtFirst lX4_138 dX4_beginNext_144 rfl rfl (Nat.le_of_ble_eq_true rfl) (by omega) ?_
  refine x_stFirst (by omega) z3 ?_
  refine aw_iast (pc' := 148) dX4_beginNext_147 rfl hF.2.2.2.2.1.2 (by omega) (by omega) ?_
  refine aw_iinc (pc' := 151) (lv' := [_, _, _, _, _, _, _]) dX4_beginNext_148 rfl rfl (by decide) (by first | exact w32_id (by omega) (by omega) | rfl) rfl ?_
  refine aw_goto (pc' := 46) dX4_beginNext_151 (by decide) ?_
  exact hE _ _

set_option maxRecDepth 20000 in
theorem l_bnS {d : Nat} {A : AHp} {v : Sg} {ko fo po : Int} {Q : Option AV → AHp → Prop} : ∀ (m : Nat) (u : Sg) (s : Int), (v po 1 - s).toNat = m → 2 ≤ d → 0 ≤ s → s ≤ v po 1 → v po 1 ≤ 6 → KeptAt A ko → FrameAt A fo → (66 < fo ∧ fo < 300 ∧ (fo < 201 ∨ 266 < fo)) → (206 < ko ∧ ko < 250) → PIP A po → (∀ k, 0 ≤ k → k < v po 1 → STG A v (v (hp A po 0) k)) → BGX A v u ko fo po s → (∀ u, BGX A v u ko fo po (v po 1) → Q none (cl A u)) → ∀ (L5 L6 : Option AV), AW d mX4_beginNext 46 [some (vr 64), some (vr ko), some (vr fo), some (vr po), some (vi s), L5, L6] [] (cl A u) Q := by
  intro m
  induction m using Nat.strongRecOn with
  | _ m ih =>
    intro u s hm hd hs0 hsn hsz hK hF hfo hko hPo hStg hB hE L5 L6
    obtain ⟨y1, y2, y3, y4⟩ := id hPo
    have e350 : ∀ o j, 350 ≤ o → u o j = v o j := fun o j q => hB.1 o j (by unfold OUT4; omega)
    refine aw_iload (pc' := 48) rfl dX4_beginNext_46 rfl ?_
    refine aw_aload_n (pc' := 49) rfl dX4_beginNext_48 rfl ?_
    refine aw_geti (pc' := 52) (k9 := 1) dX4_beginNext_49 rfl fX4_97 rfl (by decide) rfl hPo.2.1 ?_
    try simp (disch := omega) only [hv_cl, cl_set, sset_e, sset_1, sset_2]
    rw [e350 _ _ y1]
    refine aw_icmp_ge (pt := 154) (pf := 55) dX4_beginNext_52 (by decide) rfl (fun c_52 => ?_) (fun c_52 => ?_)
    · refine AW.ret none dX4_beginNext_154 trivial ?_
      exact hE u (by rw [show v po 1 = s by omega]; exact hB)
    · refine aw_aload_n (pc' := 56) rfl dX4_beginNext_55 rfl ?_
      refine aw_getp (pc' := 59) (k9 := 0) (p := (hp A po 0)) dX4_beginNext_56 rfl fX4_108 rfl rfl rfl hPo.2.1 rfl ?_
      refine aw_iload (pc' := 61) rfl dX4_beginNext_59 rfl ?_
      refine aw_aald (pc' := 62) (t0 := 6) (fun _ => rfl) (by decide) dX4_beginNext_61 rfl hPo.2.2.2 (by omega) (by omega) ?_
      try simp (disch := omega) only [hv_cl, cl_set, sset_e, sset_1, sset_2]
      rw [e350 _ _ y3]
      have hSt := hStg s (by omega) (by omega)
      generalize hso : v (hp A po 0) s = so at hSt ⊢
      obtain ⟨o, ho⟩ : ∃ o, hp A so 0 = o := ⟨_, rfl⟩
      try simp (disch := omega) only [hv_cl, cl_set, sset_e, sset_1, sset_2]
      refine aw_astore (pc' := 64) (lv' := [_, _, _, _, _, _, _]) dX4_beginNext_62 rfl (by decide) rfl ?_
      refine aw_iconst (pc' := 65) (by decide) dX4_beginNext_64 rfl ?_
      refine aw_istore (pc' := 67) (lv' := [_, _, _, _, _, _, _]) dX4_beginNext_65 rfl (by decide) rfl ?_
      refine l_bnW _ u 0 rfl hd (by omega) hSt.2.2.2.2.2.1.1 hK hF hfo hko hPo hSt ho (by omega) (fun k g1 g2 => (hStg k g1 (by omega)).2.2.2.2.2.1.2) ⟨hB, fun j g1 g2 => by omega⟩ (fun u2 L6 hW => ?_)
      refine l_bnT (o := o) hd hF hfo (by rw [← ho]; exact hSt.2.2.1) (by omega) hSt.2.1 ho (fun L5 L6 => ?_)
      exact ih _ (by omega) _ (s + 1) rfl hd (by omega) (by omega) hsz hK hF hfo hko hPo hStg (BGX.step hfo (by omega) hso ho hW) hE _ _

def bg0 (v : Sg) (fo po : Int) : Sg := sset (sset (sset (sset v fo 0 (v po 3)) 64 3 (w32 (v 64 3 - 1))) fo 1 po) fo 9 0
set_option maxRecDepth 20000 in
theorem x_beginNext {d : Nat} {ko fo po : Int} {A : AHp} {v : Sg} {Q : Option AV → AHp → Prop} (hd : 3 ≤ d) (hX : XLAY A) (hK : KeptAt A ko) (hF : FrameAt A fo) (hfo : 66 < fo ∧ fo < 300 ∧ (fo < 201 ∨ 266 < fo)) (hko : 206 < ko ∧ ko < 250) (hPo : PIP A po) (hsz : 1 ≤ v po 1 ∧ v po 1 ≤ 6) (hStg : ∀ k, 0 ≤ k → k < v po 1 → STG A v (v (hp A po 0) k))
  (h0 : onS (v po 2) (v fo 2) = false → Q none (cl A (sset v fo 0 (v po 3)))) (h8 : onS (v po 2) (v fo 2) = true → v 64 3 ≤ 0 → Q none (cl A (sset (sset v fo 0 (v po 3)) fo 2 8)))
  (h1 : onS (v po 2) (v fo 2) = true → 0 < v 64 3 → ∀ u, BGX A (bg0 v fo po) u ko fo po (v po 1) → Q none (cl A u)) : CALL d mX4_beginNext [vr 64, vr ko, vr fo, vr po] (cl A v) Q := by
  refine CALL.of (by decide) (Nat.le_of_ble_eq_true rfl) ?_
  change AW d mX4_beginNext 0 [some (vr 64), some (vr ko), some (vr fo), some (vr po), none, none, none] [] (cl A v) Q
  obtain ⟨y1, y2, y3, y4⟩ := id hPo
  refine aw_aload_n (pc' := 1) rfl dX4_beginNext_0 rfl ?_
  refine aw_aload_n (pc' := 2) rfl dX4_beginNext_1 rfl ?_
  refine aw_callV (ci := 0) (d' := d - 1) (as := [_]) (pc' := 5) (by decide) rfl kX1_getsTo iX1_getsTo sX1_getsTo lX4_100 hF.1 dX4_beginNext_2 rfl rfl (Nat.le_of_ble_eq_true rfl) (by omega) ?_
  refine x_getsTo (by omega) hF hfo hPo (fun gon => ?_) (fun gon => ?_)
  · refine aw_if_ne (pt := 9) (pf := 8) dX4_beginNext_5 (by decide) rfl (fun _ => ?_) (fun c_5 => absurd (by decide) c_5)
    refine aw_aload_n (pc' := 10) rfl dX4_beginNext_9 rfl ?_
    refine aw_geti (pc' := 13) (k9 := 3) dX4_beginNext_10 rfl fX4_28 rfl (by decide) rfl (XO_machine (A := (cl A v)) hX) ?_
    try simp (disch := omega) only [hv_cl, cl_set, sset_e, sset_1, sset_2]
    refine aw_if_gt (pt := 23) (pf := 16) dX4_beginNext_13 (by decide) rfl (fun c_13 => ?_) (fun c_13 => ?_)
    · refine aw_aload_n (pc' := 24) rfl dX4_beginNext_23 rfl ?_
      refine aw_dup (pc' := 25) rfl dX4_beginNext_24 rfl ?_
      refine aw_geti (pc' := 28) (k9 := 3) dX4_beginNext_25 rfl fX4_28 rfl (by decide) rfl (XO_machine (A := (cl A v)) hX) ?_
      try simp (disch := omega) only [hv_cl, cl_set, sset_e, sset_1, sset_2]
      refine aw_iconst (pc' := 29) (by decide) dX4_beginNext_28 rfl ?_
      refine aw_isub (pc' := 30) rfl dX4_beginNext_29 rfl ?_
      refine aw_puti (pc' := 33) (k9 := 3) dX4_beginNext_30 rfl fX4_28 rfl rfl rfl (XO_machine (A := (cl A v)) hX) ?_
      refine aw_aload_n (pc' := 34) rfl dX4_beginNext_33 rfl ?_
      refine aw_aload_n (pc' := 35) rfl dX4_beginNext_34 rfl ?_
      refine aw_putr (pc' := 38) (k9 := 1) dX4_beginNext_35 rfl fX4_80 rfl rfl rfl hF.1 ?_
      refine aw_aload_n (pc' := 39) rfl dX4_beginNext_38 rfl ?_
      refine aw_iconst (pc' := 40) (by decide) dX4_beginNext_39 rfl ?_
      refine aw_putz (pc' := 43) (k9 := 9) dX4_beginNext_40 rfl fX4_104 rfl rfl rfl hF.1 (by omega) ?_
      refine aw_iconst (pc' := 44) (by decide) dX4_beginNext_43 rfl ?_
      refine aw_istore (pc' := 46) (lv' := [_, _, _, _, _, _, _]) dX4_beginNext_44 rfl (by decide) rfl ?_
      try simp (disch := omega) only [hv_cl, cl_set, sset_e, sset_1, sset_2]
      have e9 : ∀ o j, 350 ≤ o → bg0 v fo po o j = v o j := fun o j q => by
        unfold bg0
        simp (disch := omega) only [sset_1]
      refine l_bnS (v := bg0 v fo po) _ (bg0 v fo po) 0 rfl (by omega) (by omega) (by rw [e9 _ _ y1]; omega) (by rw [e9 _ _ y1]; omega) hK hF hfo hko hPo (fun k g1 g2 => ?_) ⟨fun _ _ _ => rfl, fun k g1 g2 => by omega⟩ (fun u hB => ?_) _ _
      · rw [e9 _ _ y1] at g2
        rw [e9 _ _ y3]
        exact (hStg k g1 g2).eq e9
      · rw [e9 _ _ y1] at hB
        exact h1 gon (by omega) u hB
    · refine aw_aload_n (pc' := 17) rfl dX4_beginNext_16 rfl ?_
      refine aw_bipush (pc' := 19) (by decide +kernel) dX4_beginNext_17 rfl ?_
      refine aw_puti (pc' := 22) (k9 := 2) dX4_beginNext_19 rfl fX4_75 rfl rfl rfl hF.1 ?_
      refine AW.ret none dX4_beginNext_22 trivial ?_
      try simp (disch := omega) only [hv_cl, cl_set, sset_e, sset_1, sset_2]
      exact h8 gon (by omega)
  · refine aw_if_ne (pt := 9) (pf := 8) dX4_beginNext_5 (by decide) rfl (fun c_5 => absurd c_5 (by decide)) (fun _ => ?_)
    refine AW.ret none dX4_beginNext_8 trivial ?_
    exact h0 gon
