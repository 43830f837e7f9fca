/-! ===== the class: the image, books, judging, sums, fractions ===== -/
theorem hv_c0 {A : AHp} {s d n k : Int} (h0 : 0 ≤ k) (h1 : k < n) : hv (hcpy A s 0 d 0 n) d k = hv A s k := by
  rw [hv_cpy, if_pos (by omega)]
  congr 1
  omega
/-- what stands in the kept thing a of A is what stands in b of B -/
def KEQ (A : AHp) (a : Int) (B : AHp) (b : Int) : Prop :=
  (∀ k, 0 ≤ k → k < 5 → hv A (a + 1) k = hv B (b + 1) k) ∧ (∀ k, 0 ≤ k → k < 3 → hv A (a + 2) k = hv B (b + 2) k) ∧ hv A a 2 = hv B b 2 ∧
  (hv A (a + 3) 1 = hv B (b + 3) 1 ∧ ∀ k, 0 ≤ k → k < hv B (b + 3) 1 → hv A (a + 3 + 1) k = hv B (b + 3 + 1) k) ∧ hv A a 4 = hv B b 4 ∧ hv A a 5 = hv B b 5 ∧
  (hv A (a + 5) 2 = hv B (b + 5) 2 ∧ ∀ k, 0 ≤ k → k < hv B (b + 5) 2 → hv A (a + 5 + 1) k = hv B (b + 5 + 1) k ∧ hv A (a + 5 + 2) k = hv B (b + 5 + 2) k) ∧
  (hv A (a + 8) 2 = hv B (b + 8) 2 ∧ ∀ k, 0 ≤ k → k < hv B (b + 8) 2 → hv A (a + 8 + 1) k = hv B (b + 8 + 1) k ∧ hv A (a + 8 + 2) k = hv B (b + 8 + 2) k) ∧
  hv A (a + 11) 2 = hv B (b + 11) 2 ∧ ∀ k, 0 ≤ k → k < hv B (b + 11) 2 → hv A (a + 11 + 1) k = hv B (b + 11 + 1) k ∧ hv A (a + 11 + 2) k = hv B (b + 11 + 2) k
theorem kcp_eq {A : AHp} {a b : Int} (hab : a + 14 ≤ b ∨ b + 14 ≤ a) : KEQ (kcp A a b) a A b := by
  unfold kcp
  refine ⟨fun k h0 h1 => ?_, fun k h0 h1 => ?_, ?_, ⟨?_, fun k h0 h1 => ?_⟩, ?_, ?_, ⟨?_, fun k h0 h1 => ⟨?_, ?_⟩⟩, ⟨?_, fun k h0 h1 => ⟨?_, ?_⟩⟩, ?_, fun k h0 h1 => ⟨?_, ?_⟩⟩ <;>
    simp (disch := omega) only [hv_e1, hv_n1, hv_n2, hv_c1, hv_c0]
theorem kcp_out {A : AHp} {a b o k : Int} (h : o < a ∨ a + 14 ≤ o) : hv (kcp A a b) o k = hv A o k := by
  unfold kcp
  simp (disch := omega) only [hv_n1, hv_c1]
theorem kcp_2 (A : AHp) (a b : Int) : (kcp A a b).2 = A.2 := rfl

set_option maxRecDepth 20000 in
theorem x_image {d : Nat}  {A : AHp} {Q : Option AV → AHp → Prop} (hd : 4 ≤ d) (hX : XLAY A) (hz : KSZ A 207) (hQ : Q (some (vi (hv A 64 1))) (hset (kcp A 221 207) 60 4 1)) : CALL d mX12_image [vr 60] A Q := by
  refine CALL.of (by decide) (Nat.le_of_ble_eq_true rfl) ?_
  change AW d mX12_image 0 [some (vr 60)] [] A Q
  refine aw_aload_n (pc' := 1) rfl dX12_image_0 rfl ?_
  refine aw_getp (pc' := 4) (k9 := 3) (p := 221) dX12_image_1 rfl fX12_32 rfl rfl rfl (XO (A := A) hX) (X_imaged (A := A) hX) ?_
  refine aw_aload_n (pc' := 5) rfl dX12_image_4 rfl ?_
  refine aw_getp (pc' := 8) (k9 := 2) (p := 207) dX12_image_5 rfl fX12_28 rfl rfl rfl (XO (A := A) hX) (X_now (A := A) hX) ?_
  refine aw_callV (ci := 1) (d' := d - 1) (as := [_]) (pc' := 11) (by decide) rfl kX2_copyFrom iX2_copyFrom sX2_copyFrom lX12_169 (XK_imaged (A := A) hX).1 dX12_image_8 rfl rfl (Nat.le_of_ble_eq_true rfl) (by omega) ?_
  refine x_kcopy (by omega) (XK_imaged (A := A) hX) (XK_now (A := A) hX) hz (by omega) ?_
  refine aw_aload_n (pc' := 12) rfl dX12_image_11 rfl ?_
  refine aw_iconst (pc' := 13) (by decide) dX12_image_12 rfl ?_
  refine aw_putz (pc' := 16) (k9 := 4) dX12_image_13 rfl fX12_240 rfl rfl rfl (XO (A := A) hX) (by omega) ?_
  refine aw_aload_n (pc' := 17) rfl dX12_image_16 rfl ?_
  refine aw_getp (pc' := 20) (k9 := 1) (p := 64) dX12_image_17 rfl fX12_21 rfl rfl rfl (XO (A := A) hX) (X_machine (A := A) hX) ?_
  refine aw_geti (pc' := 23) (k9 := 1) dX12_image_20 rfl fX12_70 rfl (by decide) rfl (XO_machine (A := A) hX) ?_
  try simp (disch := omega) only [hv_e1, hv_n1, hv_n2, hv_c1, hv_c2, hv_pset]
  refine AW.ret (some (vi _)) dX12_image_23 trivial ?_
  rw [kcp_out (by omega)]
  exact hQ

set_option maxRecDepth 20000 in
theorem x_undo {d : Nat}  {A : AHp} {Q : Option AV → AHp → Prop} (hd : 4 ≤ d) (hX : XLAY A) (hz : hv A 60 4 ≠ 0 → KSZ A 221) (hN : hv A 60 4 = 0 → Q (some (vi (-3))) A) (hQ : hv A 60 4 ≠ 0 → Q (some (vi (hv A 64 1))) (kcp A 207 221)) : CALL d mX12_undo [vr 60] A Q := by
  refine CALL.of (by decide) (Nat.le_of_ble_eq_true rfl) ?_
  change AW d mX12_undo 0 [some (vr 60)] [] A Q
  refine aw_aload_n (pc' := 1) rfl dX12_undo_0 rfl ?_
  refine aw_geti (pc' := 4) (k9 := 4) dX12_undo_1 rfl fX12_240 rfl (by decide) rfl (XO (A := A) hX) ?_
  refine aw_if_ne (pt := 10) (pf := 7) dX12_undo_4 (by decide) rfl (fun c_4 => ?_) (fun c_4 => ?_)
  · refine aw_aload_n (pc' := 11) rfl dX12_undo_10 rfl ?_
    refine aw_getp (pc' := 14) (k9 := 2) (p := 207) dX12_undo_11 rfl fX12_28 rfl rfl rfl (XO (A := A) hX) (X_now (A := A) hX) ?_
    refine aw_aload_n (pc' := 15) rfl dX12_undo_14 rfl ?_
    refine aw_getp (pc' := 18) (k9 := 3) (p := 221) dX12_undo_15 rfl fX12_32 rfl rfl rfl (XO (A := A) hX) (X_imaged (A := A) hX) ?_
    refine aw_callV (ci := 1) (d' := d - 1) (as := [_]) (pc' := 21) (by decide) rfl kX2_copyFrom iX2_copyFrom sX2_copyFrom lX12_169 (XK_now (A := A) hX).1 dX12_undo_18 rfl rfl (Nat.le_of_ble_eq_true rfl) (by omega) ?_
    refine x_kcopy (by omega) (XK_now (A := A) hX) (XK_imaged (A := A) hX) (hz (by omega)) (by omega) ?_
    refine aw_aload_n (pc' := 22) rfl dX12_undo_21 rfl ?_
    refine aw_getp (pc' := 25) (k9 := 1) (p := 64) dX12_undo_22 rfl fX12_21 rfl rfl rfl (XO (A := A) hX) (X_machine (A := A) hX) ?_
    refine aw_geti (pc' := 28) (k9 := 1) dX12_undo_25 rfl fX12_70 rfl (by decide) rfl (XO_machine (A := A) hX) ?_
    try simp (disch := omega) only [hv_e1, hv_n1, hv_n2, hv_c1, hv_c2, hv_pset]
    refine AW.ret (some (vi _)) dX12_undo_28 trivial ?_
    rw [kcp_out (by omega)]
    exact hQ (by omega)
  · replace c_4 := Classical.not_not.mp c_4
    refine aw_bipush (pc' := 9) (by decide +kernel) dX12_undo_7 rfl ?_
    refine AW.ret (some (vi _)) dX12_undo_9 trivial ?_
    exact hN (by omega)

set_option maxRecDepth 20000 in
theorem lx_looked {d : Nat} {A : AHp} {Q : Option AV → AHp → Prop} : ∀ (m : Nat) (k : Int) (L2 : Option AV), (hv A 218 2 - k).toNat = m → 0 ≤ k → k ≤ hv A 218 2 → 1 ≤ d → XLAY A → hv A 218 2 ≤ 8 → (∀ j, 0 ≤ j → j < hv A 218 2 → 0 ≤ hv A 219 j ∧ hv A 219 j ≤ 4) → (∀ j, 0 ≤ j → j < k → hv A 208 (hv A 219 j) = hv A 220 j) → (∀ k, 0 ≤ k → k < hv A 218 2 → (∀ j, 0 ≤ j → j < k → hv A 208 (hv A 219 j) = hv A 220 j) → hv A 208 (hv A 219 k) ≠ hv A 220 k → Q (some (vi k)) A) → ((∀ j, 0 ≤ j → j < hv A 218 2 → hv A 208 (hv A 219 j) = hv A 220 j) → Q (some (vi (-5))) A) → AW d mX12_looked 2 [some (vr 60), some (vi k), L2] [] A Q := by
  intro m
  induction m using Nat.strongRecOn with
  | _ m ih =>
    intro k L2 hm hk0 hkn hd1 hX h8 hb hall hK hE
    refine aw_iload_n (pc' := 3) rfl dX12_looked_2 rfl ?_
    refine aw_aload_n (pc' := 4) rfl dX12_looked_3 rfl ?_
    refine aw_getp (pc' := 7) (k9 := 2) (p := 207) dX12_looked_4 rfl fX12_28 rfl rfl rfl (XO (A := A) hX) (X_now (A := A) hX) ?_
    refine aw_getp (pc' := 10) (k9 := 8) (p := 218) dX12_looked_7 rfl fX12_226 rfl rfl rfl (XK_now (A := A) hX).1 (XK_now (A := A) hX).2.2.2.2.2.2.1 ?_
    refine aw_geti (pc' := 13) (k9 := 2) dX12_looked_10 rfl fX12_194 rfl (by decide) rfl (XK_now (A := A) hX).2.2.2.2.2.2.2.1 ?_
    refine aw_icmp_ge (pt := 68) (pf := 16) dX12_looked_13 (by decide) rfl (fun c_13 => ?_) (fun c_13 => ?_)
    · refine aw_bipush (pc' := 70) (by decide +kernel) dX12_looked_68 rfl ?_
      refine AW.ret (some (vi _)) dX12_looked_70 trivial ?_
      exact hE (fun j g1 g2 => hall j g1 (by omega))
    · have hbk := hb k (by omega) (by omega)
      refine aw_aload_n (pc' := 17) rfl dX12_looked_16 rfl ?_
      refine aw_getp (pc' := 20) (k9 := 2) (p := 207) dX12_looked_17 rfl fX12_28 rfl rfl rfl (XO (A := A) hX) (X_now (A := A) hX) ?_
      refine aw_getp (pc' := 23) (k9 := 8) (p := 218) dX12_looked_20 rfl fX12_226 rfl rfl rfl (XK_now (A := A) hX).1 (XK_now (A := A) hX).2.2.2.2.2.2.1 ?_
      refine aw_getp (pc' := 26) (k9 := 0) (p := 219) dX12_looked_23 rfl fX12_195 rfl rfl rfl (XK_now (A := A) hX).2.2.2.2.2.2.2.1 (XK_now (A := A) hX).2.2.2.2.2.2.2.2.1 ?_
      refine aw_iload_n (pc' := 27) rfl dX12_looked_26 rfl ?_
      refine aw_iald (pc' := 28) dX12_looked_27 rfl (XK_now (A := A) hX).2.2.2.2.2.2.2.2.2.2.1 (by omega) (by omega) ?_
      refine aw_istore_n (pc' := 29) (lv' := [_, _, _]) dX12_looked_28 rfl (by decide) rfl ?_
      refine aw_iload_n (pc' := 30) rfl dX12_looked_29 rfl ?_
      refine aw_callS (d' := d - 1) (as := [_]) (pc' := 33) kX12_isName tX12_isName lX12_113 dX12_looked_30 rfl rfl (Nat.le_of_ble_eq_true rfl) (by omega) ?_
      refine x_isName (by omega) (fun e1 => ?_) (fun e0 => absurd hbk e0)
      · refine aw_if_eq (pt := 62) (pf := 36) dX12_looked_33 (by decide) rfl (fun c_33 => absurd c_33 (by decide)) (fun _ => ?_)
        refine aw_aload_n (pc' := 37) rfl dX12_looked_36 rfl ?_
        refine aw_getp (pc' := 40) (k9 := 2) (p := 207) dX12_looked_37 rfl fX12_28 rfl rfl rfl (XO (A := A) hX) (X_now (A := A) hX) ?_
        refine aw_getp (pc' := 43) (k9 := 0) (p := 208) dX12_looked_40 rfl fX12_118 rfl rfl rfl (XK_now (A := A) hX).1 (XK_now (A := A) hX).2.1.1 ?_
        refine aw_iload_n (pc' := 44) rfl dX12_looked_43 rfl ?_
        refine aw_iald (pc' := 45) dX12_looked_44 rfl (XK_now (A := A) hX).2.1.2 (by omega) (by omega) ?_
        refine aw_aload_n (pc' := 46) rfl dX12_looked_45 rfl ?_
        refine aw_getp (pc' := 49) (k9 := 2) (p := 207) dX12_looked_46 rfl fX12_28 rfl rfl rfl (XO (A := A) hX) (X_now (A := A) hX) ?_
        refine aw_getp (pc' := 52) (k9 := 8) (p := 218) dX12_looked_49 rfl fX12_226 rfl rfl rfl (XK_now (A := A) hX).1 (XK_now (A := A) hX).2.2.2.2.2.2.1 ?_
        refine aw_getp (pc' := 55) (k9 := 1) (p := 220) dX12_looked_52 rfl fX12_198 rfl rfl rfl (XK_now (A := A) hX).2.2.2.2.2.2.2.1 (XK_now (A := A) hX).2.2.2.2.2.2.2.2.2.1 ?_
        refine aw_iload_n (pc' := 56) rfl dX12_looked_55 rfl ?_
        refine aw_iald (pc' := 57) dX12_looked_56 rfl (XK_now (A := A) hX).2.2.2.2.2.2.2.2.2.2.2 (by omega) (by omega) ?_
        refine aw_icmp_eq (pt := 62) (pf := 60) dX12_looked_57 (by decide) rfl (fun c_57 => ?_) (fun c_57 => ?_)
        · refine aw_iinc (pc' := 65) (lv' := [_, _, _]) dX12_looked_62 rfl rfl (by decide) (by first | exact w32_id (by omega) (by omega) | rfl) rfl ?_
          refine aw_goto (pc' := 2) dX12_looked_65 (by decide) ?_
          exact ih _ (by omega) (k + 1) _ rfl (by omega) (by omega) hd1 hX h8 hb (fun j g1 g2 => by by_cases e : j = k; subst e; exact c_57; exact hall j g1 (by omega)) hK hE
        · refine aw_iload_n (pc' := 61) rfl dX12_looked_60 rfl ?_
          refine AW.ret (some (vi _)) dX12_looked_61 trivial ?_
          exact hK k (by omega) (by omega) hall c_57

set_option maxRecDepth 20000 in
theorem x_looked {d : Nat}  {A : AHp} {Q : Option AV → AHp → Prop} (hd : 1 ≤ d) (hX : XLAY A) (h8 : 0 ≤ hv A 218 2 ∧ hv A 218 2 ≤ 8) (hb : (∀ j, 0 ≤ j → j < hv A 218 2 → 0 ≤ hv A 219 j ∧ hv A 219 j ≤ 4))
  (hK : ∀ k, 0 ≤ k → k < hv A 218 2 → (∀ j, 0 ≤ j → j < k → hv A 208 (hv A 219 j) = hv A 220 j) → hv A 208 (hv A 219 k) ≠ hv A 220 k → Q (some (vi k)) A) (hE : (∀ j, 0 ≤ j → j < hv A 218 2 → hv A 208 (hv A 219 j) = hv A 220 j) → Q (some (vi (-5))) A) : CALL d mX12_looked [vr 60] A Q := by
  refine CALL.of (by decide) (Nat.le_of_ble_eq_true rfl) ?_
  change AW d mX12_looked 0 [some (vr 60), none, none] [] A Q
  refine aw_iconst (pc' := 1) (by decide) dX12_looked_0 rfl ?_
  refine aw_istore_n (pc' := 2) (lv' := [_, _, _]) dX12_looked_1 rfl (by decide) rfl ?_
  exact lx_looked _ 0 _ rfl (by omega) h8.1 hd hX h8.2 hb (fun j g1 g2 => by omega) hK hE

set_option maxRecDepth 20000 in
theorem l_seen {d : Nat} {A : AHp} {a : Int} {Q : Option AV → AHp → Prop} : ∀ (m : Nat) (k : Int), (hv A 212 2 - k).toNat = m → 0 ≤ k → k ≤ hv A 212 2 → 1 ≤ d → XLAY A → NumsAt A a → hv A a 1 ≤ 60 → hv A 212 2 ≤ 5 → (∀ j, 0 ≤ j → j < hv A 212 2 → 0 ≤ hv A 213 j ∧ hv A 213 j ≤ 59) → (∀ j, 0 ≤ j → j < hv A 212 2 → in32 (hv A 214 j)) → (∀ j, 0 ≤ j → j < k → (0 ≤ hv A 213 j ∧ hv A 213 j < hv A a 1 ∧ hv A (a + 1) (hv A 213 j) = hv A 214 j)) → (∀ k, 0 ≤ k → k < hv A 212 2 → ¬ (0 ≤ hv A 213 k ∧ hv A 213 k < hv A a 1 ∧ hv A (a + 1) (hv A 213 k) = hv A 214 k) → Q (some (vi 0)) A) → ((∀ j, 0 ≤ j → j < hv A 212 2 → (0 ≤ hv A 213 j ∧ hv A 213 j < hv A a 1 ∧ hv A (a + 1) (hv A 213 j) = hv A 214 j)) → Q (some (vi 1)) A) → AW d mX12_hasAllSeen 2 [some (vr 60), some (vr a), some (vi k)] [] A Q := by
  intro m
  induction m using Nat.strongRecOn with
  | _ m ih =>
    intro k hm hk0 hkn hd1 hX hN h60 h5 hb hr hall hK hE
    refine aw_iload_n (pc' := 3) rfl dX12_hasAllSeen_2 rfl ?_
    refine aw_aload_n (pc' := 4) rfl dX12_hasAllSeen_3 rfl ?_
    refine aw_getp (pc' := 7) (k9 := 2) (p := 207) dX12_hasAllSeen_4 rfl fX12_28 rfl rfl rfl (XO (A := A) hX) (X_now (A := A) hX) ?_
    refine aw_getp (pc' := 10) (k9 := 6) (p := 212) dX12_hasAllSeen_7 rfl fX12_173 rfl rfl rfl (XK_now (A := A) hX).1 (XK_now (A := A) hX).2.2.2.2.1.1 ?_
    refine aw_geti (pc' := 13) (k9 := 2) dX12_hasAllSeen_10 rfl fX12_194 rfl (by decide) rfl (XK_now (A := A) hX).2.2.2.2.1.2.1 ?_
    refine aw_icmp_ge (pt := 57) (pf := 16) dX12_hasAllSeen_13 (by decide) rfl (fun c_13 => ?_) (fun c_13 => ?_)
    · refine aw_iconst (pc' := 58) (by decide) dX12_hasAllSeen_57 rfl ?_
      refine AW.ret (some (vi _)) dX12_hasAllSeen_58 (Or.inr rfl) ?_
      exact hE (fun j g1 g2 => hall j g1 (by omega))
    · have hbk := hb k (by omega) (by omega)
      obtain ⟨hr1, hr2⟩ := hr k (by omega) (by omega)
      refine aw_aload_n (pc' := 17) rfl dX12_hasAllSeen_16 rfl ?_
      refine aw_aload_n (pc' := 18) rfl dX12_hasAllSeen_17 rfl ?_
      refine aw_getp (pc' := 21) (k9 := 2) (p := 207) dX12_hasAllSeen_18 rfl fX12_28 rfl rfl rfl (XO (A := A) hX) (X_now (A := A) hX) ?_
      refine aw_getp (pc' := 24) (k9 := 6) (p := 212) dX12_hasAllSeen_21 rfl fX12_173 rfl rfl rfl (XK_now (A := A) hX).1 (XK_now (A := A) hX).2.2.2.2.1.1 ?_
      refine aw_getp (pc' := 27) (k9 := 0) (p := 213) dX12_hasAllSeen_24 rfl fX12_195 rfl rfl rfl (XK_now (A := A) hX).2.2.2.2.1.2.1 (XK_now (A := A) hX).2.2.2.2.1.2.2.1 ?_
      refine aw_iload_n (pc' := 28) rfl dX12_hasAllSeen_27 rfl ?_
      refine aw_iald (pc' := 29) dX12_hasAllSeen_28 rfl (XK_now (A := A) hX).2.2.2.2.1.2.2.2.2.1 (by omega) (by omega) ?_
      refine aw_callV (ci := 4) (d' := d - 1) (as := [_]) (pc' := 32) (by decide) rfl kX5_at iX5_at sX5_at lX12_144 hN.1 dX12_hasAllSeen_29 rfl rfl (Nat.le_of_ble_eq_true rfl) (by omega) ?_
      refine x_at (by omega) hN h60 (fun q0 => ?_) (fun q1 q2 => ?_)
      · refine aw_aload_n (pc' := 33) rfl dX12_hasAllSeen_32 rfl ?_
        refine aw_getp (pc' := 36) (k9 := 2) (p := 207) dX12_hasAllSeen_33 rfl fX12_28 rfl rfl rfl (XO (A := A) hX) (X_now (A := A) hX) ?_
        refine aw_getp (pc' := 39) (k9 := 6) (p := 212) dX12_hasAllSeen_36 rfl fX12_173 rfl rfl rfl (XK_now (A := A) hX).1 (XK_now (A := A) hX).2.2.2.2.1.1 ?_
        refine aw_getp (pc' := 42) (k9 := 1) (p := 214) dX12_hasAllSeen_39 rfl fX12_198 rfl rfl rfl (XK_now (A := A) hX).2.2.2.2.1.2.1 (XK_now (A := A) hX).2.2.2.2.1.2.2.2.1 ?_
        refine aw_iload_n (pc' := 43) rfl dX12_hasAllSeen_42 rfl ?_
        refine aw_iald (pc' := 44) dX12_hasAllSeen_43 rfl (XK_now (A := A) hX).2.2.2.2.1.2.2.2.2.2 (by omega) (by omega) ?_
        refine aw_i2l (pc' := 45) dX12_hasAllSeen_44 rfl ?_
        refine aw_lcmp (pc' := 46) dX12_hasAllSeen_45 rfl ?_
        refine aw_if_eq (pt := 51) (pf := 49) dX12_hasAllSeen_46 (by decide) rfl (fun c_46 => ?_) (fun c_46 => ?_)
        · replace c_46 := (cmp_eq).mp c_46
          refine aw_iinc (pc' := 54) (lv' := [_, _, _]) dX12_hasAllSeen_51 rfl rfl (by decide) (by first | exact w32_id (by omega) (by omega) | rfl) rfl ?_
          refine aw_goto (pc' := 2) dX12_hasAllSeen_54 (by decide) ?_
          first | (exfalso; omega) | exact ih _ (by omega) (k + 1) rfl (by omega) (by omega) hd1 hX hN h60 h5 hb hr (fun j g1 g2 => by by_cases e : j = k; subst e; exact ⟨q1, q2, c_46⟩; exact hall j g1 (by omega)) hK hE
        · replace c_46 := (not_congr cmp_eq).mp c_46
          refine aw_iconst (pc' := 50) (by decide) dX12_hasAllSeen_49 rfl ?_
          refine AW.ret (some (vi _)) dX12_hasAllSeen_50 (Or.inl rfl) ?_
          exact hK k (by omega) (by omega) (fun z => by first | exact absurd z.2.2 c_46 | exact absurd (And.intro z.1 z.2.1) (by assumption))
      · refine aw_aload_n (pc' := 33) rfl dX12_hasAllSeen_32 rfl ?_
        refine aw_getp (pc' := 36) (k9 := 2) (p := 207) dX12_hasAllSeen_33 rfl fX12_28 rfl rfl rfl (XO (A := A) hX) (X_now (A := A) hX) ?_
        refine aw_getp (pc' := 39) (k9 := 6) (p := 212) dX12_hasAllSeen_36 rfl fX12_173 rfl rfl rfl (XK_now (A := A) hX).1 (XK_now (A := A) hX).2.2.2.2.1.1 ?_
        refine aw_getp (pc' := 42) (k9 := 1) (p := 214) dX12_hasAllSeen_39 rfl fX12_198 rfl rfl rfl (XK_now (A := A) hX).2.2.2.2.1.2.1 (XK_now (A := A) hX).2.2.2.2.1.2.2.2.1 ?_
        refine aw_iload_n (pc' := 43) rfl dX12_hasAllSeen_42 rfl ?_
        refine aw_iald (pc' := 44) dX12_hasAllSeen_43 rfl (XK_now (A := A) hX).2.2.2.2.1.2.2.2.2.2 (by omega) (by omega) ?_
        refine aw_i2l (pc' := 45) dX12_hasAllSeen_44 rfl ?_
        refine aw_lcmp (pc' := 46) dX12_hasAllSeen_45 rfl ?_
        refine aw_if_eq (pt := 51) (pf := 49) dX12_hasAllSeen_46 (by decide) rfl (fun c_46 => ?_) (fun c_46 => ?_)
        · replace c_46 := (cmp_eq).mp c_46
          refine aw_iinc (pc' := 54) (lv' := [_, _, _]) dX12_hasAllSeen_51 rfl rfl (by decide) (by first | exact w32_id (by omega) (by omega) | rfl) rfl ?_
          refine aw_goto (pc' := 2) dX12_hasAllSeen_54 (by decide) ?_
          first | (exfalso; omega) | exact ih _ (by omega) (k + 1) rfl (by omega) (by omega) hd1 hX hN h60 h5 hb hr (fun j g1 g2 => by by_cases e : j = k; subst e; exact ⟨q1, q2, c_46⟩; exact hall j g1 (by omega)) hK hE
        · replace c_46 := (not_congr cmp_eq).mp c_46
          refine aw_iconst (pc' := 50) (by decide) dX12_hasAllSeen_49 rfl ?_
          refine AW.ret (some (vi _)) dX12_hasAllSeen_50 (Or.inl rfl) ?_
          exact hK k (by omega) (by omega) (fun z => by first | exact absurd z.2.2 c_46 | exact absurd (And.intro z.1 z.2.1) (by assumption))
