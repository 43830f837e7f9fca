/-! ===== texts of the words: length, charAt; Math.max ===== -/
theorem and255x {x : Int} (h0 : 0 ≤ x) (h1 : x < 128) : (Int32.ofInt x &&& Int32.ofInt 255).toInt = x := by
  have h : ∀ n : Nat, n < 128 → (Int32.ofInt (n : Int) &&& Int32.ofInt 255).toInt = (n : Int) := by decide +kernel
  have := h x.toNat (by omega)
  rw [show ((x.toNat : Nat) : Int) = x by omega] at this
  exact this
theorem slen_b (k : Nat) : sLen k ≤ 4 := by
  unfold sLen
  have h : ∀ a ∈ txL, a ≤ 4 := by decide
  rw [List.getD_eq_getElem?_getD]
  cases e : txL[k]? with
  | none => exact Nat.zero_le _
  | some a => exact h a (List.mem_of_getElem? e)
theorem schr_b (k : Nat) (i : Int) : 0 ≤ sChr k i ∧ sChr k i < 128 := by
  unfold sChr
  have h : ∀ l ∈ txB, ∀ a ∈ l, 0 ≤ a ∧ a < 128 := by decide
  rw [List.getD_eq_getElem?_getD, List.getD_eq_getElem?_getD]
  cases e : txB[k]? with
  | none => simp
  | some l =>
    simp only [Option.getD_some]
    cases e2 : l[i.toNat]? with
    | none => simp
    | some a => exact h l (List.mem_of_getElem? e) a (List.mem_of_getElem? e2)
set_option maxRecDepth 20000 in
theorem c_max {d : Nat} {a b : Int} {A : AHp} {Q : Option AV → AHp → Prop} (hd : 0 ≤ d) (hQ : Q (some (vi (max a b))) A) : CALL d mJ9_max_7cf53 [vi a, vi b] A Q := by
  refine CALL.ofF (by decide +kernel) (Nat.le_of_ble_eq_true rfl) ?_
  change AW d mJ9_max_7cf53 0 [some (vi a), some (vi b)] [] A Q
  refine aw_iload_n (pc' := 1) rfl dJ9_max_7cf53_0 rfl ?_
  refine aw_iload_n (pc' := 2) rfl dJ9_max_7cf53_1 rfl ?_
  refine aw_icmp_lt (pt := 9) (pf := 5) dJ9_max_7cf53_2 (by decide) rfl (fun c_2 => ?_) (fun c_2 => ?_)
  · refine aw_iload_n (pc' := 10) rfl dJ9_max_7cf53_9 rfl ?_
    refine AW.ret (some (vi _)) dJ9_max_7cf53_10 trivial ?_
    first | (rw [show max a b = a by omega] at hQ; exact hQ) | (rw [show max a b = b by omega] at hQ; exact hQ)
  · refine aw_iload_n (pc' := 6) rfl dJ9_max_7cf53_5 rfl ?_
    refine aw_goto (pc' := 10) dJ9_max_7cf53_6 (by decide) ?_
    refine AW.ret (some (vi _)) dJ9_max_7cf53_10 trivial ?_
    first | (rw [show max a b = a by omega] at hQ; exact hQ) | (rw [show max a b = b by omega] at hQ; exact hQ)

set_option maxRecDepth 20000 in
theorem c_coder {d : Nat} {o : Int} {A : AHp} {Q : Option AV → AHp → Prop} (hd : 0 ≤ d) (h1 : 16 ≤ o) (h2 : o ≤ 30) (hQ : Q (some (vi 0)) A) : CALL d mJ0_coder_7d493 [vr o] A Q := by
  refine CALL.ofF (by decide +kernel) (Nat.le_of_ble_eq_true rfl) ?_
  change AW d mJ0_coder_7d493 0 [some (vr o)] [] A Q
  refine aw_gsC (pc' := 3) fJ0_38 dJ0_coder_7d493_0 rfl ?_
  refine aw_if_eq (pt := 13) (pf := 6) dJ0_coder_7d493_3 (by decide) rfl (fun c_3 => absurd c_3 (by decide)) (fun _ => ?_)
  refine aw_aload_n (pc' := 7) rfl dJ0_coder_7d493_6 rfl ?_
  refine aw_sCod (pc' := 10) (by omega) (by omega) fJ0_15 dJ0_coder_7d493_7 rfl ?_
  refine aw_goto (pc' := 14) dJ0_coder_7d493_10 (by decide) ?_
  refine AW.ret (some (vi _)) dJ0_coder_7d493_14 (Or.inl rfl) ?_
  exact hQ

set_option maxRecDepth 20000 in
theorem c_strlen {d : Nat} {o : Int} {A : AHp} {Q : Option AV → AHp → Prop} (hd : 1 ≤ d) (h1 : 16 ≤ o) (h2 : o ≤ 30) (hQ : Q (some (vi (sLen (o - 16).toNat))) A) : CALL d mJ0_length_8abf5 [vr o] A Q := by
  refine CALL.ofF (by decide +kernel) (Nat.le_of_ble_eq_true rfl) ?_
  change AW d mJ0_length_8abf5 0 [some (vr o)] [] A Q
  have hsb := slen_b (o + 25 - 41).toNat
  refine aw_aload_n (pc' := 1) rfl dJ0_length_8abf5_0 rfl ?_
  refine aw_sVal (pc' := 4) (by omega) (by omega) fJ0_9 dJ0_length_8abf5_1 rfl ?_
  refine aw_sLen (pc' := 5) (by omega) (by omega) dJ0_length_8abf5_4 rfl ?_
  refine aw_aload_n (pc' := 6) rfl dJ0_length_8abf5_5 rfl ?_
  refine aw_callStr (d' := d - 1) (as := []) (pc' := 9) rfl kJ0_coder_7d493 iJ0_coder_7d493 sJ0_coder_7d493 lJ0_335 (by omega) (by omega) dJ0_length_8abf5_6 rfl rfl (Nat.le_of_ble_eq_true rfl) (by omega) ?_
  refine c_coder (by omega) h1 h2 ?_
  refine aw_ishr0 (pc' := 10) (by omega) (by omega) dJ0_length_8abf5_9 rfl ?_
  refine AW.ret (some (vi _)) dJ0_length_8abf5_10 trivial ?_
  rw [show o + 25 - 41 = o - 16 by omega]
  exact hQ

set_option maxRecDepth 20000 in
theorem c_isLatin1 {d : Nat} {o : Int} {A : AHp} {Q : Option AV → AHp → Prop} (hd : 0 ≤ d) (h1 : 16 ≤ o) (h2 : o ≤ 30) (hQ : Q (some (vi 1)) A) : CALL d mJ0_isLatin1_aae02 [vr o] A Q := by
  refine CALL.ofF (by decide +kernel) (Nat.le_of_ble_eq_true rfl) ?_
  change AW d mJ0_isLatin1_aae02 0 [some (vr o)] [] A Q
  refine aw_gsC (pc' := 3) fJ0_38 dJ0_isLatin1_aae02_0 rfl ?_
  refine aw_if_eq (pt := 17) (pf := 6) dJ0_isLatin1_aae02_3 (by decide) rfl (fun c_3 => absurd c_3 (by decide)) (fun _ => ?_)
  refine aw_aload_n (pc' := 7) rfl dJ0_isLatin1_aae02_6 rfl ?_
  refine aw_sCod (pc' := 10) (by omega) (by omega) fJ0_15 dJ0_isLatin1_aae02_7 rfl ?_
  refine aw_if_ne (pt := 17) (pf := 13) dJ0_isLatin1_aae02_10 (by decide) rfl (fun c_10 => ?_) (fun c_10 => ?_)
  · exfalso
    omega
  · replace c_10 := Classical.not_not.mp c_10
    refine aw_iconst (pc' := 14) (by decide) dJ0_isLatin1_aae02_13 rfl ?_
    refine aw_goto (pc' := 18) dJ0_isLatin1_aae02_14 (by decide) ?_
    refine AW.ret (some (vi _)) dJ0_isLatin1_aae02_18 (Or.inr rfl) ?_
    exact hQ

set_option maxRecDepth 20000 in
theorem c_pchk {d : Nat} {i n f : Int} {A : AHp} {Q : Option AV → AHp → Prop} (hd : 0 ≤ d) (h0 : 0 ≤ i) (h1 : i < n) (hQ : Q (some (vi i)) A) : CALL d mJ3_checkIndex_8e157 [vi i, vi n, vr f] A Q := by
  refine CALL.ofF (by decide +kernel) (Nat.le_of_ble_eq_true rfl) ?_
  change AW d mJ3_checkIndex_8e157 0 [some (vi i), some (vi n), some (vr f)] [] A Q
  refine aw_iload_n (pc' := 1) rfl dJ3_checkIndex_8e157_0 rfl ?_
  refine aw_if_lt (pt := 9) (pf := 4) dJ3_checkIndex_8e157_1 (by decide) rfl (fun c_1 => ?_) (fun c_1 => ?_)
  · exfalso
    omega
  · refine aw_iload_n (pc' := 5) rfl dJ3_checkIndex_8e157_4 rfl ?_
    refine aw_iload_n (pc' := 6) rfl dJ3_checkIndex_8e157_5 rfl ?_
    refine aw_icmp_lt (pt := 16) (pf := 9) dJ3_checkIndex_8e157_6 (by decide) rfl (fun c_6 => ?_) (fun c_6 => ?_)
    · refine aw_iload_n (pc' := 17) rfl dJ3_checkIndex_8e157_16 rfl ?_
      refine AW.ret (some (vi _)) dJ3_checkIndex_8e157_17 trivial ?_
      exact hQ
    · exfalso
      omega

set_option maxRecDepth 20000 in
theorem c_schk {d : Nat} {i n : Int} {A : AHp} {Q : Option AV → AHp → Prop} (hd : 1 ≤ d) (h0 : 0 ≤ i) (h1 : i < n) (hQ : Q none A) : CALL d mJ0_checkIndex_df160 [vi i, vi n] A Q := by
  refine CALL.ofF (by decide +kernel) (Nat.le_of_ble_eq_true rfl) ?_
  change AW d mJ0_checkIndex_df160 0 [some (vi i), some (vi n)] [] A Q
  refine aw_iload_n (pc' := 1) rfl dJ0_checkIndex_df160_0 rfl ?_
  refine aw_iload_n (pc' := 2) rfl dJ0_checkIndex_df160_1 rfl ?_
  refine aw_gsF (pc' := 5) fJ0_1053 dJ0_checkIndex_df160_2 rfl ?_
  refine aw_callS (d' := d - 1) (as := [_, _, _]) (pc' := 8) kJ3_checkIndex_8e157 tJ3_checkIndex_8e157 lJ0_1059 dJ0_checkIndex_df160_5 rfl rfl (Nat.le_of_ble_eq_true rfl) (by omega) ?_
  refine c_pchk (by omega) h0 h1 ?_
  refine aw_pop (pc' := 9) rfl dJ0_checkIndex_df160_8 rfl ?_
  refine AW.ret none dJ0_checkIndex_df160_9 trivial ?_
  exact hQ

set_option maxRecDepth 20000 in
theorem c_lchr {d : Nat} {b i : Int} {A : AHp} {Q : Option AV → AHp → Prop} (hd : 2 ≤ d) (h1 : 41 ≤ b) (h2 : b ≤ 55) (h0 : 0 ≤ i) (h3 : i < sLen (b - 41).toNat) (hQ : Q (some (vi (sChr (b - 41).toNat i))) A) : CALL d mJ1_charAt_3b067 [vr b, vi i] A Q := by
  refine CALL.ofF (by decide +kernel) (Nat.le_of_ble_eq_true rfl) ?_
  change AW d mJ1_charAt_3b067 0 [some (vr b), some (vi i)] [] A Q
  have hcb := schr_b (b - 41).toNat i
  refine aw_iload_n (pc' := 1) rfl dJ1_charAt_3b067_0 rfl ?_
  refine aw_aload_n (pc' := 2) rfl dJ1_charAt_3b067_1 rfl ?_
  refine aw_sLen (pc' := 3) (by omega) (by omega) dJ1_charAt_3b067_2 rfl ?_
  refine aw_callS (d' := d - 1) (as := [_, _]) (pc' := 6) kJ0_checkIndex_df160 tJ0_checkIndex_df160 lJ1_9 dJ1_charAt_3b067_3 rfl rfl (Nat.le_of_ble_eq_true rfl) (by omega) ?_
  refine c_schk (by omega) h0 h3 ?_
  refine aw_aload_n (pc' := 7) rfl dJ1_charAt_3b067_6 rfl ?_
  refine aw_iload_n (pc' := 8) rfl dJ1_charAt_3b067_7 rfl ?_
  refine aw_sChr (pc' := 9) (by omega) (by omega) (by omega) (by omega) dJ1_charAt_3b067_8 rfl ?_
  refine aw_sipush (pc' := 12) (by decide +kernel) dJ1_charAt_3b067_9 rfl ?_
  refine aw_iand (pc' := 13) (and255x hcb.1 hcb.2) dJ1_charAt_3b067_12 rfl ?_
  refine aw_i2cs (pc' := 14) (by omega) (by omega) dJ1_charAt_3b067_13 rfl ?_
  refine AW.ret (some (vi _)) dJ1_charAt_3b067_14 (And.intro hcb.1 (Int.lt_trans hcb.2 (by decide))) ?_
  exact hQ

set_option maxRecDepth 20000 in
theorem c_charAt {d : Nat} {o i : Int} {A : AHp} {Q : Option AV → AHp → Prop} (hd : 3 ≤ d) (h1 : 16 ≤ o) (h2 : o ≤ 30) (h0 : 0 ≤ i) (h3 : i < sLen (o - 16).toNat) (hQ : Q (some (vi (sChr (o - 16).toNat i))) A) : CALL d mJ0_charAt_5068e [vr o, vi i] A Q := by
  refine CALL.ofF (by decide +kernel) (Nat.le_of_ble_eq_true rfl) ?_
  change AW d mJ0_charAt_5068e 0 [some (vr o), some (vi i)] [] A Q
  have hcb := schr_b (o + 25 - 41).toNat i
  have e41 : o + 25 - 41 = o - 16 := by omega
  refine aw_aload_n (pc' := 1) rfl dJ0_charAt_5068e_0 rfl ?_
  refine aw_callStr (d' := d - 1) (as := []) (pc' := 4) rfl kJ0_isLatin1_aae02 iJ0_isLatin1_aae02 sJ0_isLatin1_aae02 lJ0_492 (by omega) (by omega) dJ0_charAt_5068e_1 rfl rfl (Nat.le_of_ble_eq_true rfl) (by omega) ?_
  refine c_isLatin1 (by omega) h1 h2 ?_
  refine aw_if_eq (pt := 16) (pf := 7) dJ0_charAt_5068e_4 (by decide) rfl (fun c_4 => absurd c_4 (by decide)) (fun _ => ?_)
  refine aw_aload_n (pc' := 8) rfl dJ0_charAt_5068e_7 rfl ?_
  refine aw_sVal (pc' := 11) (by omega) (by omega) fJ0_9 dJ0_charAt_5068e_8 rfl ?_
  refine aw_iload_n (pc' := 12) rfl dJ0_charAt_5068e_11 rfl ?_
  refine aw_callS (d' := d - 1) (as := [_, _]) (pc' := 15) kJ1_charAt_3b067 tJ1_charAt_3b067 lJ0_495 dJ0_charAt_5068e_12 rfl rfl (Nat.le_of_ble_eq_true rfl) (by omega) ?_
  refine c_lchr (by omega) (by omega) (by omega) h0 (by rw [e41]; exact h3) ?_
  refine AW.ret (some (vi _)) dJ0_charAt_5068e_15 (And.intro hcb.1 (Int.lt_trans hcb.2 (by decide))) ?_
  rw [e41]
  exact hQ
