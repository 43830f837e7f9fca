/-! ===== a pair keeps the script, and the reference's object ===== -/
def MID (A : AHp) (v : Sg) (B1 : AHp) : Prop := (hk B1 33 = hk A 33 ∧ hl B1 33 = hl A 33 ∧ ∀ k, hv B1 33 k = v 33 k) ∧ isO B1 307 12
def KEP (v : Sg) (B2 : AHp) : Prop := ∀ k, hv B2 33 k = v 33 k
def PAIR2 (A : AHp) (v : Sg) (M1 M2 : MD) (as : List AV) : Prop := CALL 900 M1 (vr 60 :: as) (cl A v) (fun r1 B1 => MID A v B1 ∧ CALL 900 M2 (vr 307 :: as) B1 (fun r2 B2 => KEP (hv B1) B2 ∧ (r1 = r2 ∧ ∃ B w, B2 = cl B w ∧ RR B w ∧ (GRO A B ∧ hn B ≤ hn A + 301))))
theorem zc_feed {d : Nat} {s : Int} {A : AHp} {z : Sg} {Q : Option AV → AHp → Prop} (hd : 1 ≤ d) (hM : MLAY A) (ht : 0 ≤ z 307 17 ∧ z 307 17 ≤ 100) (hBad : ¬ (0 ≤ s ∧ s ≤ 127) → Q (some (vi (-2))) (cl A z)) (hFull : 0 ≤ s → s ≤ 127 → z 307 17 = 100 → Q (some (vi (-4))) (cl A z)) (hOk : 0 ≤ s → s ≤ 127 → z 307 17 < 100 → Q (some (vi (z 307 17 + 1))) (cl A (sset (sset z 322 (z 307 17) s) 307 17 (z 307 17 + 1)))) : CALL d mX13_feed [vr 307, vi s] (cl A z) (fun r B => KEP z B ∧ Q r B) := by
  refine yc_feed (Q := fun r B => KEP z B ∧ Q r B) hd hM ht (by
    intros
    refine ⟨fun k => ?_, ?_⟩
    · first | rfl | (rw [hv_cl]; simp (disch := omega) only [sset_1, sfil_o]) | (rw [hv_cl]; exact scpy_n (by omega)) | (rw [hv_cl]; exact scpy_n (Or.inl (by omega)))
    · apply hBad <;> assumption) (by
    intros
    refine ⟨fun k => ?_, ?_⟩
    · first | rfl | (rw [hv_cl]; simp (disch := omega) only [sset_1, sfil_o]) | (rw [hv_cl]; exact scpy_n (by omega)) | (rw [hv_cl]; exact scpy_n (Or.inl (by omega)))
    · apply hFull <;> assumption) (by
    intros
    refine ⟨fun k => ?_, ?_⟩
    · first | rfl | (rw [hv_cl]; simp (disch := omega) only [sset_1, sfil_o]) | (rw [hv_cl]; exact scpy_n (by omega)) | (rw [hv_cl]; exact scpy_n (Or.inl (by omega)))
    · apply hOk <;> assumption)
theorem zx_feed {d : Nat} {s : Int} {A : AHp} {z : Sg} {Q : Option AV → AHp → Prop} (hd : 1 ≤ d) (hX : XLAY A) (hM : MLAY A) (ht : 0 ≤ z 61 2 ∧ z 61 2 ≤ 100) (hBad : ¬ (0 ≤ s ∧ s ≤ 127) → Q (some (vi (-2))) (cl A z)) (hFull : 0 ≤ s → s ≤ 127 → z 61 2 = 100 → Q (some (vi (-4))) (cl A z)) (hOk : 0 ≤ s → s ≤ 127 → z 61 2 < 100 → Q (some (vi (z 61 2 + 1))) (cl A (sset (sset z 63 (z 61 2) s) 61 2 (z 61 2 + 1)))) : CALL d mX12_feed [vr 60, vi s] (cl A z) (fun r B => MID A z B ∧ Q r B) := by
  refine yx_feed (Q := fun r B => MID A z B ∧ Q r B) hd hX ht (by
    intros
    refine ⟨⟨⟨rfl, rfl, fun k => ?_⟩, MO hM⟩, ?_⟩
    · first | rfl | (rw [hv_cl]; simp (disch := omega) only [sset_1, sfil_o]) | (rw [hv_cl]; exact scpy_n (by omega)) | (rw [hv_cl]; exact scpy_n (Or.inl (by omega)))
    · apply hBad <;> assumption) (by
    intros
    refine ⟨⟨⟨rfl, rfl, fun k => ?_⟩, MO hM⟩, ?_⟩
    · first | rfl | (rw [hv_cl]; simp (disch := omega) only [sset_1, sfil_o]) | (rw [hv_cl]; exact scpy_n (by omega)) | (rw [hv_cl]; exact scpy_n (Or.inl (by omega)))
    · apply hFull <;> assumption) (by
    intros
    refine ⟨⟨⟨rfl, rfl, fun k => ?_⟩, MO hM⟩, ?_⟩
    · first | rfl | (rw [hv_cl]; simp (disch := omega) only [sset_1, sfil_o]) | (rw [hv_cl]; exact scpy_n (by omega)) | (rw [hv_cl]; exact scpy_n (Or.inl (by omega)))
    · apply hOk <;> assumption)
theorem zc_define {d : Nat} {f l : Int} {A : AHp} {z : Sg} {Q : Option AV → AHp → Prop} (hd : 2 ≤ d) (hM : MLAY A) (hln : 0 ≤ z 307 12 ∧ z 307 12 ≤ 8) (hN : ¬ (0 ≤ f ∧ f ≤ 2 ∧ (l = -1 ∨ (0 ≤ l ∧ l < z 307 12))) → Q (some (vi (-1))) (cl A z)) (hO1 : 0 ≤ f → f ≤ 2 → l = -1 → Q (some (vi (z 321 f))) (cl A (sset z 321 f (-5)))) (hO2 : 0 ≤ f → f ≤ 2 → 0 ≤ l → l < z 307 12 → Q (some (vi (z 321 f))) (cl A (sset z 321 f l))) : CALL d mX13_define [vr 307, vi f, vi l] (cl A z) (fun r B => KEP z B ∧ Q r B) := by
  refine yc_define (Q := fun r B => KEP z B ∧ Q r B) hd hM hln (by
    intros
    refine ⟨fun k => ?_, ?_⟩
    · first | rfl | (rw [hv_cl]; simp (disch := omega) only [sset_1, sfil_o]) | (rw [hv_cl]; exact scpy_n (by omega)) | (rw [hv_cl]; exact scpy_n (Or.inl (by omega)))
    · apply hN <;> assumption) (by
    intros
    refine ⟨fun k => ?_, ?_⟩
    · first | rfl | (rw [hv_cl]; simp (disch := omega) only [sset_1, sfil_o]) | (rw [hv_cl]; exact scpy_n (by omega)) | (rw [hv_cl]; exact scpy_n (Or.inl (by omega)))
    · apply hO1 <;> assumption) (by
    intros
    refine ⟨fun k => ?_, ?_⟩
    · first | rfl | (rw [hv_cl]; simp (disch := omega) only [sset_1, sfil_o]) | (rw [hv_cl]; exact scpy_n (by omega)) | (rw [hv_cl]; exact scpy_n (Or.inl (by omega)))
    · apply hO2 <;> assumption)
theorem zx_define {d : Nat} {f l : Int} {A : AHp} {z : Sg} {Q : Option AV → AHp → Prop} (hd : 2 ≤ d) (hX : XLAY A) (hM : MLAY A) (hln : 0 ≤ z 64 1 ∧ z 64 1 ≤ 8) (hN : ¬ (0 ≤ f ∧ f ≤ 2 ∧ (l = -1 ∨ (0 ≤ l ∧ l < z 64 1))) → Q (some (vi (-1))) (cl A z)) (hO1 : 0 ≤ f → f ≤ 2 → l = -1 → Q (some (vi (z 209 f))) (cl A (sset z 209 f (-5)))) (hO2 : 0 ≤ f → f ≤ 2 → 0 ≤ l → l < z 64 1 → Q (some (vi (z 209 f))) (cl A (sset z 209 f l))) : CALL d mX12_define [vr 60, vi f, vi l] (cl A z) (fun r B => MID A z B ∧ Q r B) := by
  refine yx_define (Q := fun r B => MID A z B ∧ Q r B) hd hX hln (by
    intros
    refine ⟨⟨⟨rfl, rfl, fun k => ?_⟩, MO hM⟩, ?_⟩
    · first | rfl | (rw [hv_cl]; simp (disch := omega) only [sset_1, sfil_o]) | (rw [hv_cl]; exact scpy_n (by omega)) | (rw [hv_cl]; exact scpy_n (Or.inl (by omega)))
    · apply hN <;> assumption) (by
    intros
    refine ⟨⟨⟨rfl, rfl, fun k => ?_⟩, MO hM⟩, ?_⟩
    · first | rfl | (rw [hv_cl]; simp (disch := omega) only [sset_1, sfil_o]) | (rw [hv_cl]; exact scpy_n (by omega)) | (rw [hv_cl]; exact scpy_n (Or.inl (by omega)))
    · apply hO1 <;> assumption) (by
    intros
    refine ⟨⟨⟨rfl, rfl, fun k => ?_⟩, MO hM⟩, ?_⟩
    · first | rfl | (rw [hv_cl]; simp (disch := omega) only [sset_1, sfil_o]) | (rw [hv_cl]; exact scpy_n (by omega)) | (rw [hv_cl]; exact scpy_n (Or.inl (by omega)))
    · apply hO2 <;> assumption)
theorem zc_trap {d : Nat} {l : Int} {A : AHp} {z : Sg} {Q : Option AV → AHp → Prop} (hd : 2 ≤ d) (hM : MLAY A) (hln : 0 ≤ z 307 12 ∧ z 307 12 ≤ 8) (hN : ¬ (l = -1 ∨ (0 ≤ l ∧ l < z 307 12)) → Q (some (vi (-1))) (cl A z)) (hO1 : l = -1 → Q (some (vi (z 307 15))) (cl A (sset z 307 15 (-5)))) (hO2 : 0 ≤ l → l < z 307 12 → Q (some (vi (z 307 15))) (cl A (sset z 307 15 l))) : CALL d mX13_trap [vr 307, vi l] (cl A z) (fun r B => KEP z B ∧ Q r B) := by
  refine yc_trap (Q := fun r B => KEP z B ∧ Q r B) hd hM hln (by
    intros
    refine ⟨fun k => ?_, ?_⟩
    · first | rfl | (rw [hv_cl]; simp (disch := omega) only [sset_1, sfil_o]) | (rw [hv_cl]; exact scpy_n (by omega)) | (rw [hv_cl]; exact scpy_n (Or.inl (by omega)))
    · apply hN <;> assumption) (by
    intros
    refine ⟨fun k => ?_, ?_⟩
    · first | rfl | (rw [hv_cl]; simp (disch := omega) only [sset_1, sfil_o]) | (rw [hv_cl]; exact scpy_n (by omega)) | (rw [hv_cl]; exact scpy_n (Or.inl (by omega)))
    · apply hO1 <;> assumption) (by
    intros
    refine ⟨fun k => ?_, ?_⟩
    · first | rfl | (rw [hv_cl]; simp (disch := omega) only [sset_1, sfil_o]) | (rw [hv_cl]; exact scpy_n (by omega)) | (rw [hv_cl]; exact scpy_n (Or.inl (by omega)))
    · apply hO2 <;> assumption)
theorem zx_trap {d : Nat} {l : Int} {A : AHp} {z : Sg} {Q : Option AV → AHp → Prop} (hd : 2 ≤ d) (hX : XLAY A) (hM : MLAY A) (hln : 0 ≤ z 64 1 ∧ z 64 1 ≤ 8) (hN : ¬ (l = -1 ∨ (0 ≤ l ∧ l < z 64 1)) → Q (some (vi (-1))) (cl A z)) (hO1 : l = -1 → Q (some (vi (z 207 2))) (cl A (sset z 207 2 (-5)))) (hO2 : 0 ≤ l → l < z 64 1 → Q (some (vi (z 207 2))) (cl A (sset z 207 2 l))) : CALL d mX12_trap [vr 60, vi l] (cl A z) (fun r B => MID A z B ∧ Q r B) := by
  refine yx_trap (Q := fun r B => MID A z B ∧ Q r B) hd hX hln (by
    intros
    refine ⟨⟨⟨rfl, rfl, fun k => ?_⟩, MO hM⟩, ?_⟩
    · first | rfl | (rw [hv_cl]; simp (disch := omega) only [sset_1, sfil_o]) | (rw [hv_cl]; exact scpy_n (by omega)) | (rw [hv_cl]; exact scpy_n (Or.inl (by omega)))
    · apply hN <;> assumption) (by
    intros
    refine ⟨⟨⟨rfl, rfl, fun k => ?_⟩, MO hM⟩, ?_⟩
    · first | rfl | (rw [hv_cl]; simp (disch := omega) only [sset_1, sfil_o]) | (rw [hv_cl]; exact scpy_n (by omega)) | (rw [hv_cl]; exact scpy_n (Or.inl (by omega)))
    · apply hO1 <;> assumption) (by
    intros
    refine ⟨⟨⟨rfl, rfl, fun k => ?_⟩, MO hM⟩, ?_⟩
    · first | rfl | (rw [hv_cl]; simp (disch := omega) only [sset_1, sfil_o]) | (rw [hv_cl]; exact scpy_n (by omega)) | (rw [hv_cl]; exact scpy_n (Or.inl (by omega)))
    · apply hO2 <;> assumption)
theorem zc_value {d : Nat} {n v : Int} {A : AHp} {z : Sg} {Q : Option AV → AHp → Prop} (hd : 1 ≤ d) (hM : MLAY A) (hN : ¬ (0 ≤ n ∧ n ≤ 4) → Q (some (vl (-9223372036854775808))) (cl A z)) (hO : 0 ≤ n → n ≤ 4 → Q (some (vl (z 320 n))) (cl A (sset z 320 n v))) : CALL d mX13_value [vr 307, vi n, vi v] (cl A z) (fun r B => KEP z B ∧ Q r B) := by
  refine yc_value (Q := fun r B => KEP z B ∧ Q r B) hd hM (by
    intros
    refine ⟨fun k => ?_, ?_⟩
    · first | rfl | (rw [hv_cl]; simp (disch := omega) only [sset_1, sfil_o]) | (rw [hv_cl]; exact scpy_n (by omega)) | (rw [hv_cl]; exact scpy_n (Or.inl (by omega)))
    · apply hN <;> assumption) (by
    intros
    refine ⟨fun k => ?_, ?_⟩
    · first | rfl | (rw [hv_cl]; simp (disch := omega) only [sset_1, sfil_o]) | (rw [hv_cl]; exact scpy_n (by omega)) | (rw [hv_cl]; exact scpy_n (Or.inl (by omega)))
    · apply hO <;> assumption)
theorem zx_value {d : Nat} {n v : Int} {A : AHp} {z : Sg} {Q : Option AV → AHp → Prop} (hd : 1 ≤ d) (hX : XLAY A) (hM : MLAY A) (hN : ¬ (0 ≤ n ∧ n ≤ 4) → Q (some (vl (-9223372036854775808))) (cl A z)) (hO : 0 ≤ n → n ≤ 4 → Q (some (vl (z 208 n))) (cl A (sset z 208 n v))) : CALL d mX12_value [vr 60, vi n, vi v] (cl A z) (fun r B => MID A z B ∧ Q r B) := by
  refine yx_value (Q := fun r B => MID A z B ∧ Q r B) hd hX (by
    intros
    refine ⟨⟨⟨rfl, rfl, fun k => ?_⟩, MO hM⟩, ?_⟩
    · first | rfl | (rw [hv_cl]; simp (disch := omega) only [sset_1, sfil_o]) | (rw [hv_cl]; exact scpy_n (by omega)) | (rw [hv_cl]; exact scpy_n (Or.inl (by omega)))
    · apply hN <;> assumption) (by
    intros
    refine ⟨⟨⟨rfl, rfl, fun k => ?_⟩, MO hM⟩, ?_⟩
    · first | rfl | (rw [hv_cl]; simp (disch := omega) only [sset_1, sfil_o]) | (rw [hv_cl]; exact scpy_n (by omega)) | (rw [hv_cl]; exact scpy_n (Or.inl (by omega)))
    · apply hO <;> assumption)
theorem zc_told {d : Nat} {w : Int} {A : AHp} {z : Sg} {Q : Option AV → AHp → Prop} (hd : 1 ≤ d) (hM : MLAY A) (hm : 0 ≤ z 307 39 ∧ z 307 39 ≤ 60) (h0 : w = 0 → Q (some (vl (z 307 39))) (cl A z)) (h1 : w = 1 → Q (some (vl (z 307 40))) (cl A z)) (h2 : w = 2 → Q (some (vl (z 307 41))) (cl A z)) (hV : 10 ≤ w → w ≤ 14 → Q (some (vl (z 320 (w - 10)))) (cl A z)) (hF : 20 ≤ w → w ≤ 22 → Q (some (vl (z 321 (w - 20)))) (cl A z)) (hT : w = 30 → Q (some (vl (z 307 15))) (cl A z)) (hO : 40 ≤ w → w < 40 + z 307 39 → Q (some (vl (z 332 (w - 40)))) (cl A z)) (hN : ¬ (0 ≤ w ∧ w ≤ 2) → ¬ (10 ≤ w ∧ w ≤ 14) → ¬ (20 ≤ w ∧ w ≤ 22) → w ≠ 30 → ¬ (40 ≤ w ∧ w < 40 + z 307 39) → Q (some (vl (-9223372036854775808))) (cl A z)) : CALL d mX13_told [vr 307, vi w] (cl A z) (fun r B => KEP z B ∧ Q r B) := by
  refine yc_told (Q := fun r B => KEP z B ∧ Q r B) hd hM hm (by
    intros
    refine ⟨fun k => ?_, ?_⟩
    · first | rfl | (rw [hv_cl]; simp (disch := omega) only [sset_1, sfil_o]) | (rw [hv_cl]; exact scpy_n (by omega)) | (rw [hv_cl]; exact scpy_n (Or.inl (by omega)))
    · apply h0 <;> assumption) (by
    intros
    refine ⟨fun k => ?_, ?_⟩
    · first | rfl | (rw [hv_cl]; simp (disch := omega) only [sset_1, sfil_o]) | (rw [hv_cl]; exact scpy_n (by omega)) | (rw [hv_cl]; exact scpy_n (Or.inl (by omega)))
    · apply h1 <;> assumption) (by
    intros
    refine ⟨fun k => ?_, ?_⟩
    · first | rfl | (rw [hv_cl]; simp (disch := omega) only [sset_1, sfil_o]) | (rw [hv_cl]; exact scpy_n (by omega)) | (rw [hv_cl]; exact scpy_n (Or.inl (by omega)))
    · apply h2 <;> assumption) (by
    intros
    refine ⟨fun k => ?_, ?_⟩
    · first | rfl | (rw [hv_cl]; simp (disch := omega) only [sset_1, sfil_o]) | (rw [hv_cl]; exact scpy_n (by omega)) | (rw [hv_cl]; exact scpy_n (Or.inl (by omega)))
    · apply hV <;> assumption) (by
    intros
    refine ⟨fun k => ?_, ?_⟩
    · first | rfl | (rw [hv_cl]; simp (disch := omega) only [sset_1, sfil_o]) | (rw [hv_cl]; exact scpy_n (by omega)) | (rw [hv_cl]; exact scpy_n (Or.inl (by omega)))
    · apply hF <;> assumption) (by
    intros
    refine ⟨fun k => ?_, ?_⟩
    · first | rfl | (rw [hv_cl]; simp (disch := omega) only [sset_1, sfil_o]) | (rw [hv_cl]; exact scpy_n (by omega)) | (rw [hv_cl]; exact scpy_n (Or.inl (by omega)))
    · apply hT <;> assumption) (by
    intros
    refine ⟨fun k => ?_, ?_⟩
    · first | rfl | (rw [hv_cl]; simp (disch := omega) only [sset_1, sfil_o]) | (rw [hv_cl]; exact scpy_n (by omega)) | (rw [hv_cl]; exact scpy_n (Or.inl (by omega)))
    · apply hO <;> assumption) (by
    intros
    refine ⟨fun k => ?_, ?_⟩
    · first | rfl | (rw [hv_cl]; simp (disch := omega) only [sset_1, sfil_o]) | (rw [hv_cl]; exact scpy_n (by omega)) | (rw [hv_cl]; exact scpy_n (Or.inl (by omega)))
    · apply hN <;> assumption)
theorem zx_told {d : Nat} {w : Int} {A : AHp} {z : Sg} {Q : Option AV → AHp → Prop} (hd : 2 ≤ d) (hX : XLAY A) (hM : MLAY A) (hm : 0 ≤ z 210 1 ∧ z 210 1 ≤ 60) (hw9 : in32 w) (h0 : w = 0 → Q (some (vl (z 210 1))) (cl A z)) (h1 : w = 1 → Q (some (vl (z 207 4))) (cl A z)) (h2 : w = 2 → Q (some (vl (z 207 5))) (cl A z)) (hV : 10 ≤ w → w ≤ 14 → Q (some (vl (z 208 (w - 10)))) (cl A z)) (hF : 20 ≤ w → w ≤ 22 → Q (some (vl (z 209 (w - 20)))) (cl A z)) (hT : w = 30 → Q (some (vl (z 207 2))) (cl A z)) (hO : 40 ≤ w → w < 40 + z 210 1 → Q (some (vl (z 211 (w - 40)))) (cl A z)) (hN : ¬ (0 ≤ w ∧ w ≤ 2) → ¬ (10 ≤ w ∧ w ≤ 14) → ¬ (20 ≤ w ∧ w ≤ 22) → w ≠ 30 → ¬ (40 ≤ w ∧ w < 40 + z 210 1) → Q (some (vl (-9223372036854775808))) (cl A z)) : CALL d mX12_told [vr 60, vi w] (cl A z) (fun r B => MID A z B ∧ Q r B) := by
  refine yx_told (Q := fun r B => MID A z B ∧ Q r B) hd hX hm hw9 (by
    intros
    refine ⟨⟨⟨rfl, rfl, fun k => ?_⟩, MO hM⟩, ?_⟩
    · first | rfl | (rw [hv_cl]; simp (disch := omega) only [sset_1, sfil_o]) | (rw [hv_cl]; exact scpy_n (by omega)) | (rw [hv_cl]; exact scpy_n (Or.inl (by omega)))
    · apply h0 <;> assumption) (by
    intros
    refine ⟨⟨⟨rfl, rfl, fun k => ?_⟩, MO hM⟩, ?_⟩
    · first | rfl | (rw [hv_cl]; simp (disch := omega) only [sset_1, sfil_o]) | (rw [hv_cl]; exact scpy_n (by omega)) | (rw [hv_cl]; exact scpy_n (Or.inl (by omega)))
    · apply h1 <;> assumption) (by
    intros
    refine ⟨⟨⟨rfl, rfl, fun k => ?_⟩, MO hM⟩, ?_⟩
    · first | rfl | (rw [hv_cl]; simp (disch := omega) only [sset_1, sfil_o]) | (rw [hv_cl]; exact scpy_n (by omega)) | (rw [hv_cl]; exact scpy_n (Or.inl (by omega)))
    · apply h2 <;> assumption) (by
    intros
    refine ⟨⟨⟨rfl, rfl, fun k => ?_⟩, MO hM⟩, ?_⟩
    · first | rfl | (rw [hv_cl]; simp (disch := omega) only [sset_1, sfil_o]) | (rw [hv_cl]; exact scpy_n (by omega)) | (rw [hv_cl]; exact scpy_n (Or.inl (by omega)))
    · apply hV <;> assumption) (by
    intros
    refine ⟨⟨⟨rfl, rfl, fun k => ?_⟩, MO hM⟩, ?_⟩
    · first | rfl | (rw [hv_cl]; simp (disch := omega) only [sset_1, sfil_o]) | (rw [hv_cl]; exact scpy_n (by omega)) | (rw [hv_cl]; exact scpy_n (Or.inl (by omega)))
    · apply hF <;> assumption) (by
    intros
    refine ⟨⟨⟨rfl, rfl, fun k => ?_⟩, MO hM⟩, ?_⟩
    · first | rfl | (rw [hv_cl]; simp (disch := omega) only [sset_1, sfil_o]) | (rw [hv_cl]; exact scpy_n (by omega)) | (rw [hv_cl]; exact scpy_n (Or.inl (by omega)))
    · apply hT <;> assumption) (by
    intros
    refine ⟨⟨⟨rfl, rfl, fun k => ?_⟩, MO hM⟩, ?_⟩
    · first | rfl | (rw [hv_cl]; simp (disch := omega) only [sset_1, sfil_o]) | (rw [hv_cl]; exact scpy_n (by omega)) | (rw [hv_cl]; exact scpy_n (Or.inl (by omega)))
    · apply hO <;> assumption) (by
    intros
    refine ⟨⟨⟨rfl, rfl, fun k => ?_⟩, MO hM⟩, ?_⟩
    · first | rfl | (rw [hv_cl]; simp (disch := omega) only [sset_1, sfil_o]) | (rw [hv_cl]; exact scpy_n (by omega)) | (rw [hv_cl]; exact scpy_n (Or.inl (by omega)))
    · apply hN <;> assumption)
theorem zc_see {d : Nat} {p v : Int} {A : AHp} {z : Sg} {Q : Option AV → AHp → Prop} (hd : 1 ≤ d) (hM : MLAY A) (hs9 : 0 ≤ z 307 49 ∧ z 307 49 ≤ 5) (hC : p = -1 → Q (some (vi 0)) (cl A (sset z 307 49 0))) (hB : p ≠ -1 → ¬ (0 ≤ p ∧ p ≤ 59) → Q (some (vi (-2))) (cl A z)) (hF : 0 ≤ p → p ≤ 59 → z 307 49 = 5 → Q (some (vi (-4))) (cl A z)) (hO : 0 ≤ p → p ≤ 59 → z 307 49 < 5 → Q (some (vi (z 307 49 + 1))) (cl A (sset (sset (sset z 339 (2 * z 307 49) p) 339 (2 * z 307 49 + 1) v) 307 49 (z 307 49 + 1)))) : CALL d mX13_see [vr 307, vi p, vi v] (cl A z) (fun r B => KEP z B ∧ Q r B) := by
  refine yc_see (Q := fun r B => KEP z B ∧ Q r B) hd hM hs9 (by
    intros
    refine ⟨fun k => ?_, ?_⟩
    · first | rfl | (rw [hv_cl]; simp (disch := omega) only [sset_1, sfil_o]) | (rw [hv_cl]; exact scpy_n (by omega)) | (rw [hv_cl]; exact scpy_n (Or.inl (by omega)))
    · apply hC <;> assumption) (by
    intros
    refine ⟨fun k => ?_, ?_⟩
    · first | rfl | (rw [hv_cl]; simp (disch := omega) only [sset_1, sfil_o]) | (rw [hv_cl]; exact scpy_n (by omega)) | (rw [hv_cl]; exact scpy_n (Or.inl (by omega)))
    · apply hB <;> assumption) (by
    intros
    refine ⟨fun k => ?_, ?_⟩
    · first | rfl | (rw [hv_cl]; simp (disch := omega) only [sset_1, sfil_o]) | (rw [hv_cl]; exact scpy_n (by omega)) | (rw [hv_cl]; exact scpy_n (Or.inl (by omega)))
    · apply hF <;> assumption) (by
    intros
    refine ⟨fun k => ?_, ?_⟩
    · first | rfl | (rw [hv_cl]; simp (disch := omega) only [sset_1, sfil_o]) | (rw [hv_cl]; exact scpy_n (by omega)) | (rw [hv_cl]; exact scpy_n (Or.inl (by omega)))
    · apply hO <;> assumption)
theorem zx_see {d : Nat} {p v : Int} {A : AHp} {z : Sg} {Q : Option AV → AHp → Prop} (hd : 1 ≤ d) (hX : XLAY A) (hM : MLAY A) (hs9 : 0 ≤ z 212 2 ∧ z 212 2 ≤ 5) (hC : p = -1 → Q (some (vi 0)) (cl A (sset z 212 2 0))) (hB : p ≠ -1 → ¬ (0 ≤ p ∧ p ≤ 59) → Q (some (vi (-2))) (cl A z)) (hF : 0 ≤ p → p ≤ 59 → z 212 2 = 5 → Q (some (vi (-4))) (cl A z)) (hO : 0 ≤ p → p ≤ 59 → z 212 2 < 5 → Q (some (vi (z 212 2 + 1))) (cl A (sset (sset (sset z 213 (z 212 2) p) 214 (z 212 2) v) 212 2 (z 212 2 + 1)))) : CALL d mX12_see [vr 60, vi p, vi v] (cl A z) (fun r B => MID A z B ∧ Q r B) := by
  refine yx_see (Q := fun r B => MID A z B ∧ Q r B) hd hX hs9 (by
    intros
    refine ⟨⟨⟨rfl, rfl, fun k => ?_⟩, MO hM⟩, ?_⟩
    · first | rfl | (rw [hv_cl]; simp (disch := omega) only [sset_1, sfil_o]) | (rw [hv_cl]; exact scpy_n (by omega)) | (rw [hv_cl]; exact scpy_n (Or.inl (by omega)))
    · apply hC <;> assumption) (by
    intros
    refine ⟨⟨⟨rfl, rfl, fun k => ?_⟩, MO hM⟩, ?_⟩
    · first | rfl | (rw [hv_cl]; simp (disch := omega) only [sset_1, sfil_o]) | (rw [hv_cl]; exact scpy_n (by omega)) | (rw [hv_cl]; exact scpy_n (Or.inl (by omega)))
    · apply hB <;> assumption) (by
    intros
    refine ⟨⟨⟨rfl, rfl, fun k => ?_⟩, MO hM⟩, ?_⟩
    · first | rfl | (rw [hv_cl]; simp (disch := omega) only [sset_1, sfil_o]) | (rw [hv_cl]; exact scpy_n (by omega)) | (rw [hv_cl]; exact scpy_n (Or.inl (by omega)))
    · apply hF <;> assumption) (by
    intros
    refine ⟨⟨⟨rfl, rfl, fun k => ?_⟩, MO hM⟩, ?_⟩
    · first | rfl | (rw [hv_cl]; simp (disch := omega) only [sset_1, sfil_o]) | (rw [hv_cl]; exact scpy_n (by omega)) | (rw [hv_cl]; exact scpy_n (Or.inl (by omega)))
    · apply hO <;> assumption)
theorem zc_plan {d : Nat} {w n : Int} {A : AHp} {z : Sg} {Q : Option AV → AHp → Prop} (hd : 2 ≤ d) (hM : MLAY A) (hln : 0 ≤ z 307 12 ∧ z 307 12 ≤ 8) (hs9 : 0 ≤ z 307 52 ∧ z 307 52 ≤ 10) (hC : w = -1 → Q (some (vi 0)) (cl A (sset z 307 52 0))) (hN : w ≠ -1 → ¬ (w = 0 ∧ 0 ≤ n ∧ n < z 307 12 ∨ w = 1 ∧ 0 ≤ n ∧ n ≤ 4 ∨ w = 2 ∧ 0 ≤ n ∧ n ≤ 2 ∨ w = 3) → Q (some (vi (-1))) (cl A z)) (hF : (w = 0 ∧ 0 ≤ n ∧ n < z 307 12 ∨ w = 1 ∧ 0 ≤ n ∧ n ≤ 4 ∨ w = 2 ∧ 0 ≤ n ∧ n ≤ 2 ∨ w = 3) → z 307 52 = 10 → Q (some (vi (-4))) (cl A z)) (hO : (w = 0 ∧ 0 ≤ n ∧ n < z 307 12 ∨ w = 1 ∧ 0 ≤ n ∧ n ≤ 4 ∨ w = 2 ∧ 0 ≤ n ∧ n ≤ 2 ∨ w = 3) → z 307 52 < 10 → Q (some (vi (z 307 52 + 1))) (cl A (sset (sset (sset z 341 (2 * z 307 52) w) 341 (2 * z 307 52 + 1) n) 307 52 (z 307 52 + 1)))) : CALL d mX13_plan [vr 307, vi w, vi n] (cl A z) (fun r B => KEP z B ∧ Q r B) := by
  refine yc_plan (Q := fun r B => KEP z B ∧ Q r B) hd hM hln hs9 (by
    intros
    refine ⟨fun k => ?_, ?_⟩
    · first | rfl | (rw [hv_cl]; simp (disch := omega) only [sset_1, sfil_o]) | (rw [hv_cl]; exact scpy_n (by omega)) | (rw [hv_cl]; exact scpy_n (Or.inl (by omega)))
    · apply hC <;> assumption) (by
    intros
    refine ⟨fun k => ?_, ?_⟩
    · first | rfl | (rw [hv_cl]; simp (disch := omega) only [sset_1, sfil_o]) | (rw [hv_cl]; exact scpy_n (by omega)) | (rw [hv_cl]; exact scpy_n (Or.inl (by omega)))
    · apply hN <;> assumption) (by
    intros
    refine ⟨fun k => ?_, ?_⟩
    · first | rfl | (rw [hv_cl]; simp (disch := omega) only [sset_1, sfil_o]) | (rw [hv_cl]; exact scpy_n (by omega)) | (rw [hv_cl]; exact scpy_n (Or.inl (by omega)))
    · apply hF <;> assumption) (by
    intros
    refine ⟨fun k => ?_, ?_⟩
    · first | rfl | (rw [hv_cl]; simp (disch := omega) only [sset_1, sfil_o]) | (rw [hv_cl]; exact scpy_n (by omega)) | (rw [hv_cl]; exact scpy_n (Or.inl (by omega)))
    · apply hO <;> assumption)
theorem zx_plan {d : Nat} {w n : Int} {A : AHp} {z : Sg} {Q : Option AV → AHp → Prop} (hd : 2 ≤ d) (hX : XLAY A) (hM : MLAY A) (hln : 0 ≤ z 64 1 ∧ z 64 1 ≤ 8) (hs9 : 0 ≤ z 215 2 ∧ z 215 2 ≤ 10) (hC : w = -1 → Q (some (vi 0)) (cl A (sset z 215 2 0))) (hN : w ≠ -1 → ¬ (w = 0 ∧ 0 ≤ n ∧ n < z 64 1 ∨ w = 1 ∧ 0 ≤ n ∧ n ≤ 4 ∨ w = 2 ∧ 0 ≤ n ∧ n ≤ 2 ∨ w = 3) → Q (some (vi (-1))) (cl A z)) (hF : (w = 0 ∧ 0 ≤ n ∧ n < z 64 1 ∨ w = 1 ∧ 0 ≤ n ∧ n ≤ 4 ∨ w = 2 ∧ 0 ≤ n ∧ n ≤ 2 ∨ w = 3) → z 215 2 = 10 → Q (some (vi (-4))) (cl A z)) (hO : (w = 0 ∧ 0 ≤ n ∧ n < z 64 1 ∨ w = 1 ∧ 0 ≤ n ∧ n ≤ 4 ∨ w = 2 ∧ 0 ≤ n ∧ n ≤ 2 ∨ w = 3) → z 215 2 < 10 → Q (some (vi (z 215 2 + 1))) (cl A (sset (sset (sset z 216 (z 215 2) w) 217 (z 215 2) n) 215 2 (z 215 2 + 1)))) : CALL d mX12_plan [vr 60, vi w, vi n] (cl A z) (fun r B => MID A z B ∧ Q r B) := by
  refine yx_plan (Q := fun r B => MID A z B ∧ Q r B) hd hX hln hs9 (by
    intros
    refine ⟨⟨⟨rfl, rfl, fun k => ?_⟩, MO hM⟩, ?_⟩
    · first | rfl | (rw [hv_cl]; simp (disch := omega) only [sset_1, sfil_o]) | (rw [hv_cl]; exact scpy_n (by omega)) | (rw [hv_cl]; exact scpy_n (Or.inl (by omega)))
    · apply hC <;> assumption) (by
    intros
    refine ⟨⟨⟨rfl, rfl, fun k => ?_⟩, MO hM⟩, ?_⟩
    · first | rfl | (rw [hv_cl]; simp (disch := omega) only [sset_1, sfil_o]) | (rw [hv_cl]; exact scpy_n (by omega)) | (rw [hv_cl]; exact scpy_n (Or.inl (by omega)))
    · apply hN <;> assumption) (by
    intros
    refine ⟨⟨⟨rfl, rfl, fun k => ?_⟩, MO hM⟩, ?_⟩
    · first | rfl | (rw [hv_cl]; simp (disch := omega) only [sset_1, sfil_o]) | (rw [hv_cl]; exact scpy_n (by omega)) | (rw [hv_cl]; exact scpy_n (Or.inl (by omega)))
    · apply hF <;> assumption) (by
    intros
    refine ⟨⟨⟨rfl, rfl, fun k => ?_⟩, MO hM⟩, ?_⟩
    · first | rfl | (rw [hv_cl]; simp (disch := omega) only [sset_1, sfil_o]) | (rw [hv_cl]; exact scpy_n (by omega)) | (rw [hv_cl]; exact scpy_n (Or.inl (by omega)))
    · apply hO <;> assumption)
theorem zc_book {d : Nat} {n v : Int} {A : AHp} {z : Sg} {Q : Option AV → AHp → Prop} (hd : 2 ≤ d) (hM : MLAY A) (hs9 : 0 ≤ z 307 54 ∧ z 307 54 ≤ 8) (hC : n = -1 → Q (some (vi 0)) (cl A (sset z 307 54 0))) (hN : n ≠ -1 → ¬ (0 ≤ n ∧ n ≤ 4) → Q (some (vi (-1))) (cl A z)) (hF : 0 ≤ n → n ≤ 4 → z 307 54 = 8 → Q (some (vi (-4))) (cl A z)) (hO : 0 ≤ n → n ≤ 4 → z 307 54 < 8 → Q (some (vi (z 307 54 + 1))) (cl A (sset (sset (sset z 342 (2 * z 307 54) n) 342 (2 * z 307 54 + 1) v) 307 54 (z 307 54 + 1)))) : CALL d mX13_book [vr 307, vi n, vi v] (cl A z) (fun r B => KEP z B ∧ Q r B) := by
  refine yc_book (Q := fun r B => KEP z B ∧ Q r B) hd hM hs9 (by
    intros
    refine ⟨fun k => ?_, ?_⟩
    · first | rfl | (rw [hv_cl]; simp (disch := omega) only [sset_1, sfil_o]) | (rw [hv_cl]; exact scpy_n (by omega)) | (rw [hv_cl]; exact scpy_n (Or.inl (by omega)))
    · apply hC <;> assumption) (by
    intros
    refine ⟨fun k => ?_, ?_⟩
    · first | rfl | (rw [hv_cl]; simp (disch := omega) only [sset_1, sfil_o]) | (rw [hv_cl]; exact scpy_n (by omega)) | (rw [hv_cl]; exact scpy_n (Or.inl (by omega)))
    · apply hN <;> assumption) (by
    intros
    refine ⟨fun k => ?_, ?_⟩
    · first | rfl | (rw [hv_cl]; simp (disch := omega) only [sset_1, sfil_o]) | (rw [hv_cl]; exact scpy_n (by omega)) | (rw [hv_cl]; exact scpy_n (Or.inl (by omega)))
    · apply hF <;> assumption) (by
    intros
    refine ⟨fun k => ?_, ?_⟩
    · first | rfl | (rw [hv_cl]; simp (disch := omega) only [sset_1, sfil_o]) | (rw [hv_cl]; exact scpy_n (by omega)) | (rw [hv_cl]; exact scpy_n (Or.inl (by omega)))
    · apply hO <;> assumption)
theorem zx_book {d : Nat} {n v : Int} {A : AHp} {z : Sg} {Q : Option AV → AHp → Prop} (hd : 1 ≤ d) (hX : XLAY A) (hM : MLAY A) (hs9 : 0 ≤ z 218 2 ∧ z 218 2 ≤ 8) (hC : n = -1 → Q (some (vi 0)) (cl A (sset z 218 2 0))) (hN : n ≠ -1 → ¬ (0 ≤ n ∧ n ≤ 4) → Q (some (vi (-1))) (cl A z)) (hF : 0 ≤ n → n ≤ 4 → z 218 2 = 8 → Q (some (vi (-4))) (cl A z)) (hO : 0 ≤ n → n ≤ 4 → z 218 2 < 8 → Q (some (vi (z 218 2 + 1))) (cl A (sset (sset (sset z 219 (z 218 2) n) 220 (z 218 2) v) 218 2 (z 218 2 + 1)))) : CALL d mX12_book [vr 60, vi n, vi v] (cl A z) (fun r B => MID A z B ∧ Q r B) := by
  refine yx_book (Q := fun r B => MID A z B ∧ Q r B) hd hX hs9 (by
    intros
    refine ⟨⟨⟨rfl, rfl, fun k => ?_⟩, MO hM⟩, ?_⟩
    · first | rfl | (rw [hv_cl]; simp (disch := omega) only [sset_1, sfil_o]) | (rw [hv_cl]; exact scpy_n (by omega)) | (rw [hv_cl]; exact scpy_n (Or.inl (by omega)))
    · apply hC <;> assumption) (by
    intros
    refine ⟨⟨⟨rfl, rfl, fun k => ?_⟩, MO hM⟩, ?_⟩
    · first | rfl | (rw [hv_cl]; simp (disch := omega) only [sset_1, sfil_o]) | (rw [hv_cl]; exact scpy_n (by omega)) | (rw [hv_cl]; exact scpy_n (Or.inl (by omega)))
    · apply hN <;> assumption) (by
    intros
    refine ⟨⟨⟨rfl, rfl, fun k => ?_⟩, MO hM⟩, ?_⟩
    · first | rfl | (rw [hv_cl]; simp (disch := omega) only [sset_1, sfil_o]) | (rw [hv_cl]; exact scpy_n (by omega)) | (rw [hv_cl]; exact scpy_n (Or.inl (by omega)))
    · apply hF <;> assumption) (by
    intros
    refine ⟨⟨⟨rfl, rfl, fun k => ?_⟩, MO hM⟩, ?_⟩
    · first | rfl | (rw [hv_cl]; simp (disch := omega) only [sset_1, sfil_o]) | (rw [hv_cl]; exact scpy_n (by omega)) | (rw [hv_cl]; exact scpy_n (Or.inl (by omega)))
    · apply hO <;> assumption)
theorem zc_looked {d : Nat} {A : AHp} {z : Sg} {Q : Option AV → AHp → Prop} (hd : 0 ≤ d) (hM : MLAY A) (h8 : 0 ≤ z 307 54 ∧ z 307 54 ≤ 8) (hb : ∀ j, 0 ≤ j → j < z 307 54 → 0 ≤ z 342 (2 * j) ∧ z 342 (2 * j) ≤ 4) (hK : ∀ k, 0 ≤ k → k < z 307 54 → (∀ j, 0 ≤ j → j < k → z 320 (z 342 (2 * j)) = z 342 (2 * j + 1)) → z 320 (z 342 (2 * k)) ≠ z 342 (2 * k + 1) → Q (some (vi k)) (cl A z)) (hE : (∀ j, 0 ≤ j → j < z 307 54 → z 320 (z 342 (2 * j)) = z 342 (2 * j + 1)) → Q (some (vi (-5))) (cl A z)) : CALL d mX13_looked [vr 307] (cl A z) (fun r B => KEP z B ∧ Q r B) := by
  refine yc_looked (Q := fun r B => KEP z B ∧ Q r B) hd hM h8 hb (by
    intros
    refine ⟨fun k => ?_, ?_⟩
    · first | rfl | (rw [hv_cl]; simp (disch := omega) only [sset_1, sfil_o]) | (rw [hv_cl]; exact scpy_n (by omega)) | (rw [hv_cl]; exact scpy_n (Or.inl (by omega)))
    · apply hK <;> assumption) (by
    intros
    refine ⟨fun k => ?_, ?_⟩
    · first | rfl | (rw [hv_cl]; simp (disch := omega) only [sset_1, sfil_o]) | (rw [hv_cl]; exact scpy_n (by omega)) | (rw [hv_cl]; exact scpy_n (Or.inl (by omega)))
    · apply hE <;> assumption)
theorem zx_looked {d : Nat} {A : AHp} {z : Sg} {Q : Option AV → AHp → Prop} (hd : 1 ≤ d) (hX : XLAY A) (hM : MLAY A) (h8 : 0 ≤ z 218 2 ∧ z 218 2 ≤ 8) (hb : (∀ j, 0 ≤ j → j < z 218 2 → 0 ≤ z 219 j ∧ z 219 j ≤ 4)) (hK : ∀ k, 0 ≤ k → k < z 218 2 → (∀ j, 0 ≤ j → j < k → z 208 (z 219 j) = z 220 j) → z 208 (z 219 k) ≠ z 220 k → Q (some (vi k)) (cl A z)) (hE : (∀ j, 0 ≤ j → j < z 218 2 → z 208 (z 219 j) = z 220 j) → Q (some (vi (-5))) (cl A z)) : CALL d mX12_looked [vr 60] (cl A z) (fun r B => MID A z B ∧ Q r B) := by
  refine yx_looked (Q := fun r B => MID A z B ∧ Q r B) hd hX h8 hb (by
    intros
    refine ⟨⟨⟨rfl, rfl, fun k => ?_⟩, MO hM⟩, ?_⟩
    · first | rfl | (rw [hv_cl]; simp (disch := omega) only [sset_1, sfil_o]) | (rw [hv_cl]; exact scpy_n (by omega)) | (rw [hv_cl]; exact scpy_n (Or.inl (by omega)))
    · apply hK <;> assumption) (by
    intros
    refine ⟨⟨⟨rfl, rfl, fun k => ?_⟩, MO hM⟩, ?_⟩
    · first | rfl | (rw [hv_cl]; simp (disch := omega) only [sset_1, sfil_o]) | (rw [hv_cl]; exact scpy_n (by omega)) | (rw [hv_cl]; exact scpy_n (Or.inl (by omega)))
    · apply hE <;> assumption)
theorem zc_read {d : Nat} {t i : Int} {A : AHp} {z : Sg} {Q : Option AV → AHp → Prop} (hd : 1 ≤ d) (hM : MLAY A) (hsz : ∀ t, 0 ≤ t → t ≤ 5 → 0 ≤ z 348 t ∧ z 348 t ≤ 60) (hN : ¬ (0 ≤ t ∧ t ≤ 5 ∧ 0 ≤ i ∧ i < z 348 t) → Q (some (vl (-9223372036854775808))) (cl A z)) (hO : 0 ≤ t → t ≤ 5 → 0 ≤ i → i < z 348 t → Q (some (vl (z 349 (60 * t + i)))) (cl A z)) : CALL d mX13_read [vr 307, vi t, vi i] (cl A z) (fun r B => KEP z B ∧ Q r B) := by
  refine yc_read (Q := fun r B => KEP z B ∧ Q r B) hd hM hsz (by
    intros
    refine ⟨fun k => ?_, ?_⟩
    · first | rfl | (rw [hv_cl]; simp (disch := omega) only [sset_1, sfil_o]) | (rw [hv_cl]; exact scpy_n (by omega)) | (rw [hv_cl]; exact scpy_n (Or.inl (by omega)))
    · apply hN <;> assumption) (by
    intros
    refine ⟨fun k => ?_, ?_⟩
    · first | rfl | (rw [hv_cl]; simp (disch := omega) only [sset_1, sfil_o]) | (rw [hv_cl]; exact scpy_n (by omega)) | (rw [hv_cl]; exact scpy_n (Or.inl (by omega)))
    · apply hO <;> assumption)
theorem zx_read {d : Nat} {t i : Int} {A : AHp} {z : Sg} {Q : Option AV → AHp → Prop} (hd : 1 ≤ d) (hX : XLAY A) (hM : MLAY A) (hTP : ∀ i : Int, 0 ≤ i → i < 6 → z 266 i = 295 + 2 * i) (hsz : ∀ t, 0 ≤ t → t ≤ 5 → 0 ≤ z (295 + 2 * t) 1 ∧ z (295 + 2 * t) 1 ≤ 60) (hN : ¬ (0 ≤ t ∧ t ≤ 5 ∧ 0 ≤ i ∧ i < z (295 + 2 * t) 1) → Q (some (vl (-9223372036854775808))) (cl A z)) (hO : 0 ≤ t → t ≤ 5 → 0 ≤ i → i < z (295 + 2 * t) 1 → Q (some (vl (z (295 + 2 * t + 1) i))) (cl A z)) : CALL d mX12_read [vr 60, vi t, vi i] (cl A z) (fun r B => MID A z B ∧ Q r B) := by
  refine yx_read (Q := fun r B => MID A z B ∧ Q r B) hd hX hTP hsz (by
    intros
    refine ⟨⟨⟨rfl, rfl, fun k => ?_⟩, MO hM⟩, ?_⟩
    · first | rfl | (rw [hv_cl]; simp (disch := omega) only [sset_1, sfil_o]) | (rw [hv_cl]; exact scpy_n (by omega)) | (rw [hv_cl]; exact scpy_n (Or.inl (by omega)))
    · apply hN <;> assumption) (by
    intros
    refine ⟨⟨⟨rfl, rfl, fun k => ?_⟩, MO hM⟩, ?_⟩
    · first | rfl | (rw [hv_cl]; simp (disch := omega) only [sset_1, sfil_o]) | (rw [hv_cl]; exact scpy_n (by omega)) | (rw [hv_cl]; exact scpy_n (Or.inl (by omega)))
    · apply hO <;> assumption)
theorem zc_item {d : Nat} {t i v : Int} {A : AHp} {z : Sg} {Q : Option AV → AHp → Prop} (hd : 1 ≤ d) (hM : MLAY A) (hsz : ∀ t, 0 ≤ t → t ≤ 5 → 0 ≤ z 348 t ∧ z 348 t ≤ 60) (hN : ¬ (0 ≤ t ∧ t ≤ 5) → Q (some (vi (-1))) (cl A z)) (h0 : 0 ≤ t → t ≤ 5 → z 347 t = -1 → Q (some (vi (-11))) (cl A z)) (hP : 0 ≤ t → t ≤ 5 → z 347 t ≠ -1 → ¬ (0 ≤ i ∧ i < z 348 t) → Q (some (vi (-13))) (cl A z)) (hO : 0 ≤ t → t ≤ 5 → z 347 t ≠ -1 → 0 ≤ i → i < z 348 t → Q (some (vi 1)) (cl A (sset z 349 (60 * t + i) (lowB (z 347 t) v)))) : CALL d mX13_item [vr 307, vi t, vi i, vl v] (cl A z) (fun r B => KEP z B ∧ Q r B) := by
  refine yc_item (Q := fun r B => KEP z B ∧ Q r B) hd hM hsz (by
    intros
    refine ⟨fun k => ?_, ?_⟩
    · first | rfl | (rw [hv_cl]; simp (disch := omega) only [sset_1, sfil_o]) | (rw [hv_cl]; exact scpy_n (by omega)) | (rw [hv_cl]; exact scpy_n (Or.inl (by omega)))
    · apply hN <;> assumption) (by
    intros
    refine ⟨fun k => ?_, ?_⟩
    · first | rfl | (rw [hv_cl]; simp (disch := omega) only [sset_1, sfil_o]) | (rw [hv_cl]; exact scpy_n (by omega)) | (rw [hv_cl]; exact scpy_n (Or.inl (by omega)))
    · apply h0 <;> assumption) (by
    intros
    refine ⟨fun k => ?_, ?_⟩
    · first | rfl | (rw [hv_cl]; simp (disch := omega) only [sset_1, sfil_o]) | (rw [hv_cl]; exact scpy_n (by omega)) | (rw [hv_cl]; exact scpy_n (Or.inl (by omega)))
    · apply hP <;> assumption) (by
    intros
    refine ⟨fun k => ?_, ?_⟩
    · first | rfl | (rw [hv_cl]; simp (disch := omega) only [sset_1, sfil_o]) | (rw [hv_cl]; exact scpy_n (by omega)) | (rw [hv_cl]; exact scpy_n (Or.inl (by omega)))
    · apply hO <;> assumption)
theorem zx_item {d : Nat} {t i v : Int} {A : AHp} {z : Sg} {Q : Option AV → AHp → Prop} (hd : 1 ≤ d) (hX : XLAY A) (hM : MLAY A) (hTP : ∀ i : Int, 0 ≤ i → i < 6 → z 266 i = 295 + 2 * i) (hsz : ∀ t, 0 ≤ t → t ≤ 5 → 0 ≤ z (295 + 2 * t) 1 ∧ z (295 + 2 * t) 1 ≤ 60) (hso : ∀ t, 0 ≤ t → t ≤ 5 → -1 ≤ z (295 + 2 * t) 0 ∧ z (295 + 2 * t) 0 ≤ 4) (hN : ¬ (0 ≤ t ∧ t ≤ 5) → Q (some (vi (-1))) (cl A z)) (h0 : 0 ≤ t → t ≤ 5 → z (295 + 2 * t) 0 = -1 → Q (some (vi (-11))) (cl A z)) (hP : 0 ≤ t → t ≤ 5 → z (295 + 2 * t) 0 ≠ -1 → ¬ (0 ≤ i ∧ i < z (295 + 2 * t) 1) → Q (some (vi (-13))) (cl A z)) (hO : 0 ≤ t → t ≤ 5 → z (295 + 2 * t) 0 ≠ -1 → 0 ≤ i → i < z (295 + 2 * t) 1 → Q (some (vi 1)) (cl A (sset z (295 + 2 * t + 1) i (lowB (z (295 + 2 * t) 0) v)))) : CALL d mX12_item [vr 60, vi t, vi i, vl v] (cl A z) (fun r B => MID A z B ∧ Q r B) := by
  refine yx_item (Q := fun r B => MID A z B ∧ Q r B) hd hX hTP hsz hso (by
    intros
    refine ⟨⟨⟨rfl, rfl, fun k => ?_⟩, MO hM⟩, ?_⟩
    · first | rfl | (rw [hv_cl]; simp (disch := omega) only [sset_1, sfil_o]) | (rw [hv_cl]; exact scpy_n (by omega)) | (rw [hv_cl]; exact scpy_n (Or.inl (by omega)))
    · apply hN <;> assumption) (by
    intros
    refine ⟨⟨⟨rfl, rfl, fun k => ?_⟩, MO hM⟩, ?_⟩
    · first | rfl | (rw [hv_cl]; simp (disch := omega) only [sset_1, sfil_o]) | (rw [hv_cl]; exact scpy_n (by omega)) | (rw [hv_cl]; exact scpy_n (Or.inl (by omega)))
    · apply h0 <;> assumption) (by
    intros
    refine ⟨⟨⟨rfl, rfl, fun k => ?_⟩, MO hM⟩, ?_⟩
    · first | rfl | (rw [hv_cl]; simp (disch := omega) only [sset_1, sfil_o]) | (rw [hv_cl]; exact scpy_n (by omega)) | (rw [hv_cl]; exact scpy_n (Or.inl (by omega)))
    · apply hP <;> assumption) (by
    intros
    refine ⟨⟨⟨rfl, rfl, fun k => ?_⟩, MO hM⟩, ?_⟩
    · first | rfl | (rw [hv_cl]; simp (disch := omega) only [sset_1, sfil_o]) | (rw [hv_cl]; exact scpy_n (by omega)) | (rw [hv_cl]; exact scpy_n (Or.inl (by omega)))
    · apply hO <;> assumption)
theorem zc_tape {d : Nat} {t s n : Int} {A : AHp} {z : Sg} {Q : Option AV → AHp → Prop} (hd : 1 ≤ d) (hM : MLAY A) (hN : ¬ (0 ≤ t ∧ t ≤ 5) → Q (some (vi (-1))) (cl A z)) (hB : 0 ≤ t → t ≤ 5 → (¬ (-1 ≤ s ∧ s ≤ 4) ∨ s ≠ -1 ∧ 60 < n) → Q (some (vi (-2))) (cl A z)) (hS : 0 ≤ t → t ≤ 5 → -1 ≤ s → s ≤ 4 → s ≠ -1 → n < 0 → Q (some (vi (-14))) (cl A z)) (hO1 : 0 ≤ t → t ≤ 5 → s = -1 → Q (some (vi 1)) (cl A (sfil (sset (sset z 347 t s) 348 t 0) 349 (60 * t) 60 0))) (hO2 : 0 ≤ t → t ≤ 5 → 0 ≤ s → s ≤ 4 → 0 ≤ n → n ≤ 60 → Q (some (vi 1)) (cl A (sfil (sset (sset z 347 t s) 348 t n) 349 (60 * t) 60 0))) : CALL d mX13_tape [vr 307, vi t, vi s, vi n] (cl A z) (fun r B => KEP z B ∧ Q r B) := by
  refine yc_tape (Q := fun r B => KEP z B ∧ Q r B) hd hM (by
    intros
    refine ⟨fun k => ?_, ?_⟩
    · first | rfl | (rw [hv_cl]; simp (disch := omega) only [sset_1, sfil_o]) | (rw [hv_cl]; exact scpy_n (by omega)) | (rw [hv_cl]; exact scpy_n (Or.inl (by omega)))
    · apply hN <;> assumption) (by
    intros
    refine ⟨fun k => ?_, ?_⟩
    · first | rfl | (rw [hv_cl]; simp (disch := omega) only [sset_1, sfil_o]) | (rw [hv_cl]; exact scpy_n (by omega)) | (rw [hv_cl]; exact scpy_n (Or.inl (by omega)))
    · apply hB <;> assumption) (by
    intros
    refine ⟨fun k => ?_, ?_⟩
    · first | rfl | (rw [hv_cl]; simp (disch := omega) only [sset_1, sfil_o]) | (rw [hv_cl]; exact scpy_n (by omega)) | (rw [hv_cl]; exact scpy_n (Or.inl (by omega)))
    · apply hS <;> assumption) (by
    intros
    refine ⟨fun k => ?_, ?_⟩
    · first | rfl | (rw [hv_cl]; simp (disch := omega) only [sset_1, sfil_o]) | (rw [hv_cl]; exact scpy_n (by omega)) | (rw [hv_cl]; exact scpy_n (Or.inl (by omega)))
    · apply hO1 <;> assumption) (by
    intros
    refine ⟨fun k => ?_, ?_⟩
    · first | rfl | (rw [hv_cl]; simp (disch := omega) only [sset_1, sfil_o]) | (rw [hv_cl]; exact scpy_n (by omega)) | (rw [hv_cl]; exact scpy_n (Or.inl (by omega)))
    · apply hO2 <;> assumption)
theorem zx_tape {d : Nat} {t s n : Int} {A : AHp} {z : Sg} {Q : Option AV → AHp → Prop} (hd : 1 ≤ d) (hX : XLAY A) (hM : MLAY A) (hTP : ∀ i : Int, 0 ≤ i → i < 6 → z 266 i = 295 + 2 * i) (hsz : ∀ t, 0 ≤ t → t ≤ 5 → 0 ≤ z (295 + 2 * t) 1) (hN : ¬ (0 ≤ t ∧ t ≤ 5) → Q (some (vi (-1))) (cl A z)) (hB : 0 ≤ t → t ≤ 5 → (¬ (-1 ≤ s ∧ s ≤ 4) ∨ s ≠ -1 ∧ 60 < n) → Q (some (vi (-2))) (cl A z)) (hS : 0 ≤ t → t ≤ 5 → -1 ≤ s → s ≤ 4 → s ≠ -1 → n < 0 → Q (some (vi (-14))) (cl A z)) (hO1 : 0 ≤ t → t ≤ 5 → s = -1 → Q (some (vi 1)) (cl A (sfil (sset (sset z (295 + 2 * t) 0 (-1)) (295 + 2 * t) 1 0) (295 + 2 * t + 1) 0 60 0))) (hO2 : 0 ≤ t → t ≤ 5 → 0 ≤ s → s ≤ 4 → 0 ≤ n → n ≤ 60 → Q (some (vi 1)) (cl A (sfil (sset (sset z (295 + 2 * t) 0 s) (295 + 2 * t) 1 n) (295 + 2 * t + 1) 0 60 0))) : CALL d mX12_tape [vr 60, vi t, vi s, vi n] (cl A z) (fun r B => MID A z B ∧ Q r B) := by
  refine yx_tape (Q := fun r B => MID A z B ∧ Q r B) hd hX hTP hsz (by
    intros
    refine ⟨⟨⟨rfl, rfl, fun k => ?_⟩, MO hM⟩, ?_⟩
    · first | rfl | (rw [hv_cl]; simp (disch := omega) only [sset_1, sfil_o]) | (rw [hv_cl]; exact scpy_n (by omega)) | (rw [hv_cl]; exact scpy_n (Or.inl (by omega)))
    · apply hN <;> assumption) (by
    intros
    refine ⟨⟨⟨rfl, rfl, fun k => ?_⟩, MO hM⟩, ?_⟩
    · first | rfl | (rw [hv_cl]; simp (disch := omega) only [sset_1, sfil_o]) | (rw [hv_cl]; exact scpy_n (by omega)) | (rw [hv_cl]; exact scpy_n (Or.inl (by omega)))
    · apply hB <;> assumption) (by
    intros
    refine ⟨⟨⟨rfl, rfl, fun k => ?_⟩, MO hM⟩, ?_⟩
    · first | rfl | (rw [hv_cl]; simp (disch := omega) only [sset_1, sfil_o]) | (rw [hv_cl]; exact scpy_n (by omega)) | (rw [hv_cl]; exact scpy_n (Or.inl (by omega)))
    · apply hS <;> assumption) (by
    intros
    refine ⟨⟨⟨rfl, rfl, fun k => ?_⟩, MO hM⟩, ?_⟩
    · first | rfl | (rw [hv_cl]; simp (disch := omega) only [sset_1, sfil_o]) | (rw [hv_cl]; exact scpy_n (by omega)) | (rw [hv_cl]; exact scpy_n (Or.inl (by omega)))
    · apply hO1 <;> assumption) (by
    intros
    refine ⟨⟨⟨rfl, rfl, fun k => ?_⟩, MO hM⟩, ?_⟩
    · first | rfl | (rw [hv_cl]; simp (disch := omega) only [sset_1, sfil_o]) | (rw [hv_cl]; exact scpy_n (by omega)) | (rw [hv_cl]; exact scpy_n (Or.inl (by omega)))
    · apply hO2 <;> assumption)
theorem zc_shift {d : Nat} {t i o j n : Int} {A : AHp} {z : Sg} {Q : Option AV → AHp → Prop} (hd : 1 ≤ d) (hM : MLAY A) (hsz : ∀ t, 0 ≤ t → t ≤ 5 → 0 ≤ z 348 t ∧ z 348 t ≤ 60) (hN : ¬ (0 ≤ t ∧ t ≤ 5 ∧ 0 ≤ o ∧ o ≤ 5) → Q (some (vi (-1))) (cl A z)) (h0 : 0 ≤ t → t ≤ 5 → 0 ≤ o → o ≤ 5 → (z 347 t = -1 ∨ z 347 o = -1) → Q (some (vi (-11))) (cl A z)) (hC : 0 ≤ t → t ≤ 5 → 0 ≤ o → o ≤ 5 → z 347 t ≠ -1 → z 347 o ≠ -1 → z 347 t ≠ z 347 o → Q (some (vi (-12))) (cl A z)) (hP : 0 ≤ t → t ≤ 5 → 0 ≤ o → o ≤ 5 → z 347 t ≠ -1 → z 347 t = z 347 o → ¬ (0 ≤ n ∧ 0 ≤ i ∧ 0 ≤ j ∧ n ≤ z 348 t - i ∧ n ≤ z 348 o - j) → Q (some (vi (-13))) (cl A z)) (hO : 0 ≤ t → t ≤ 5 → 0 ≤ o → o ≤ 5 → z 347 t ≠ -1 → z 347 t = z 347 o → 0 ≤ n → 0 ≤ i → 0 ≤ j → n ≤ z 348 t - i → n ≤ z 348 o - j → Q (some (vi n)) (cl A (scpy z 349 (60 * t + i) 349 (60 * o + j) n))) : CALL d mX13_shift [vr 307, vi t, vi i, vi o, vi j, vi n] (cl A z) (fun r B => KEP z B ∧ Q r B) := by
  refine yc_shift (Q := fun r B => KEP z B ∧ Q r B) hd hM hsz (by
    intros
    refine ⟨fun k => ?_, ?_⟩
    · first | rfl | (rw [hv_cl]; simp (disch := omega) only [sset_1, sfil_o]) | (rw [hv_cl]; exact scpy_n (by omega)) | (rw [hv_cl]; exact scpy_n (Or.inl (by omega)))
    · apply hN <;> assumption) (by
    intros
    refine ⟨fun k => ?_, ?_⟩
    · first | rfl | (rw [hv_cl]; simp (disch := omega) only [sset_1, sfil_o]) | (rw [hv_cl]; exact scpy_n (by omega)) | (rw [hv_cl]; exact scpy_n (Or.inl (by omega)))
    · apply h0 <;> assumption) (by
    intros
    refine ⟨fun k => ?_, ?_⟩
    · first | rfl | (rw [hv_cl]; simp (disch := omega) only [sset_1, sfil_o]) | (rw [hv_cl]; exact scpy_n (by omega)) | (rw [hv_cl]; exact scpy_n (Or.inl (by omega)))
    · apply hC <;> assumption) (by
    intros
    refine ⟨fun k => ?_, ?_⟩
    · first | rfl | (rw [hv_cl]; simp (disch := omega) only [sset_1, sfil_o]) | (rw [hv_cl]; exact scpy_n (by omega)) | (rw [hv_cl]; exact scpy_n (Or.inl (by omega)))
    · apply hP <;> assumption) (by
    intros
    refine ⟨fun k => ?_, ?_⟩
    · first | rfl | (rw [hv_cl]; simp (disch := omega) only [sset_1, sfil_o]) | (rw [hv_cl]; exact scpy_n (by omega)) | (rw [hv_cl]; exact scpy_n (Or.inl (by omega)))
    · apply hO <;> assumption)
theorem zx_shift {d : Nat} {t i o j n : Int} {A : AHp} {z : Sg} {Q : Option AV → AHp → Prop} (hd : 2 ≤ d) (hX : XLAY A) (hM : MLAY A) (hTP : ∀ i : Int, 0 ≤ i → i < 6 → z 266 i = 295 + 2 * i) (hsz : ∀ t, 0 ≤ t → t ≤ 5 → 0 ≤ z (295 + 2 * t) 1 ∧ z (295 + 2 * t) 1 ≤ 60) (hso : ∀ t, 0 ≤ t → t ≤ 5 → -1 ≤ z (295 + 2 * t) 0) (hN : ¬ (0 ≤ t ∧ t ≤ 5 ∧ 0 ≤ o ∧ o ≤ 5) → Q (some (vi (-1))) (cl A z)) (h0 : 0 ≤ t → t ≤ 5 → 0 ≤ o → o ≤ 5 → (z (295 + 2 * t) 0 = -1 ∨ z (295 + 2 * o) 0 = -1) → Q (some (vi (-11))) (cl A z)) (hC : 0 ≤ t → t ≤ 5 → 0 ≤ o → o ≤ 5 → z (295 + 2 * t) 0 ≠ -1 → z (295 + 2 * o) 0 ≠ -1 → z (295 + 2 * t) 0 ≠ z (295 + 2 * o) 0 → Q (some (vi (-12))) (cl A z)) (hP : 0 ≤ t → t ≤ 5 → 0 ≤ o → o ≤ 5 → z (295 + 2 * t) 0 ≠ -1 → z (295 + 2 * t) 0 = z (295 + 2 * o) 0 → ¬ (0 ≤ n ∧ 0 ≤ i ∧ 0 ≤ j ∧ n ≤ z (295 + 2 * t) 1 - i ∧ n ≤ z (295 + 2 * o) 1 - j) → Q (some (vi (-13))) (cl A z)) (hO : 0 ≤ t → t ≤ 5 → 0 ≤ o → o ≤ 5 → z (295 + 2 * t) 0 ≠ -1 → z (295 + 2 * t) 0 = z (295 + 2 * o) 0 → 0 ≤ n → 0 ≤ i → 0 ≤ j → n ≤ z (295 + 2 * t) 1 - i → n ≤ z (295 + 2 * o) 1 - j → Q (some (vi n)) (cl A (scpy z (295 + 2 * t + 1) i (295 + 2 * o + 1) j n))) : CALL d mX12_shift [vr 60, vi t, vi i, vi o, vi j, vi n] (cl A z) (fun r B => MID A z B ∧ Q r B) := by
  refine yx_shift (Q := fun r B => MID A z B ∧ Q r B) hd hX hTP hsz hso (by
    intros
    refine ⟨⟨⟨rfl, rfl, fun k => ?_⟩, MO hM⟩, ?_⟩
    · first | rfl | (rw [hv_cl]; simp (disch := omega) only [sset_1, sfil_o]) | (rw [hv_cl]; exact scpy_n (by omega)) | (rw [hv_cl]; exact scpy_n (Or.inl (by omega)))
    · apply hN <;> assumption) (by
    intros
    refine ⟨⟨⟨rfl, rfl, fun k => ?_⟩, MO hM⟩, ?_⟩
    · first | rfl | (rw [hv_cl]; simp (disch := omega) only [sset_1, sfil_o]) | (rw [hv_cl]; exact scpy_n (by omega)) | (rw [hv_cl]; exact scpy_n (Or.inl (by omega)))
    · apply h0 <;> assumption) (by
    intros
    refine ⟨⟨⟨rfl, rfl, fun k => ?_⟩, MO hM⟩, ?_⟩
    · first | rfl | (rw [hv_cl]; simp (disch := omega) only [sset_1, sfil_o]) | (rw [hv_cl]; exact scpy_n (by omega)) | (rw [hv_cl]; exact scpy_n (Or.inl (by omega)))
    · apply hC <;> assumption) (by
    intros
    refine ⟨⟨⟨rfl, rfl, fun k => ?_⟩, MO hM⟩, ?_⟩
    · first | rfl | (rw [hv_cl]; simp (disch := omega) only [sset_1, sfil_o]) | (rw [hv_cl]; exact scpy_n (by omega)) | (rw [hv_cl]; exact scpy_n (Or.inl (by omega)))
    · apply hP <;> assumption) (by
    intros
    refine ⟨⟨⟨rfl, rfl, fun k => ?_⟩, MO hM⟩, ?_⟩
    · first | rfl | (rw [hv_cl]; simp (disch := omega) only [sset_1, sfil_o]) | (rw [hv_cl]; exact scpy_n (by omega)) | (rw [hv_cl]; exact scpy_n (Or.inl (by omega)))
    · apply hO <;> assumption)
theorem zc_judge {d : Nat} {t i : Int} {A : AHp} {z : Sg} {Q : Option AV → AHp → Prop} (hd : 1 ≤ d) (hM : MLAY A) (h8 : 0 ≤ z 307 39 ∧ z 307 39 ≤ 60) (hsz : ∀ t, 0 ≤ t → t ≤ 5 → 0 ≤ z 348 t ∧ z 348 t ≤ 60) (hi : in32 i) (hN : ¬ (0 ≤ t ∧ t ≤ 5) → Q (some (vi (-1))) (cl A z)) (hC : 0 ≤ t → t ≤ 5 → z 347 t ≠ -1 → z 347 t ≠ 2 → Q (some (vi (-12))) (cl A z)) (hA : 0 ≤ t → t ≤ 5 → z 347 t = -1 ∨ z 347 t = 2 → (∀ k, 0 ≤ k → k < z 307 39 → (∀ j, 0 ≤ j → j < k → z 347 t ≠ -1 ∧ 0 ≤ i ∧ j < z 348 t - i ∧ z 349 (60 * t + i + j) = z 332 j) → (z 347 t = -1 ∨ i < 0 ∨ z 348 t - i ≤ k) → Q (some (vi (100 + k))) (cl A z))) (hB : 0 ≤ t → t ≤ 5 → z 347 t = -1 ∨ z 347 t = 2 → (∀ k, 0 ≤ k → k < z 307 39 → (∀ j, 0 ≤ j → j < k → z 347 t ≠ -1 ∧ 0 ≤ i ∧ j < z 348 t - i ∧ z 349 (60 * t + i + j) = z 332 j) → z 347 t ≠ -1 → 0 ≤ i → k < z 348 t - i → z 349 (60 * t + i + k) ≠ z 332 k → Q (some (vi k)) (cl A z))) (hE : 0 ≤ t → t ≤ 5 → z 347 t = -1 ∨ z 347 t = 2 → ((∀ j, 0 ≤ j → j < z 307 39 → z 347 t ≠ -1 ∧ 0 ≤ i ∧ j < z 348 t - i ∧ z 349 (60 * t + i + j) = z 332 j) → Q (some (vi (-5))) (cl A z))) : CALL d mX13_judge [vr 307, vi t, vi i] (cl A z) (fun r B => KEP z B ∧ Q r B) := by
  refine yc_judge (Q := fun r B => KEP z B ∧ Q r B) hd hM h8 hsz hi (by
    intros
    refine ⟨fun k => ?_, ?_⟩
    · first | rfl | (rw [hv_cl]; simp (disch := omega) only [sset_1, sfil_o]) | (rw [hv_cl]; exact scpy_n (by omega)) | (rw [hv_cl]; exact scpy_n (Or.inl (by omega)))
    · apply hN <;> assumption) (by
    intros
    refine ⟨fun k => ?_, ?_⟩
    · first | rfl | (rw [hv_cl]; simp (disch := omega) only [sset_1, sfil_o]) | (rw [hv_cl]; exact scpy_n (by omega)) | (rw [hv_cl]; exact scpy_n (Or.inl (by omega)))
    · apply hC <;> assumption) (by
    intros
    refine ⟨fun k => ?_, ?_⟩
    · first | rfl | (rw [hv_cl]; simp (disch := omega) only [sset_1, sfil_o]) | (rw [hv_cl]; exact scpy_n (by omega)) | (rw [hv_cl]; exact scpy_n (Or.inl (by omega)))
    · apply hA <;> assumption) (by
    intros
    refine ⟨fun k => ?_, ?_⟩
    · first | rfl | (rw [hv_cl]; simp (disch := omega) only [sset_1, sfil_o]) | (rw [hv_cl]; exact scpy_n (by omega)) | (rw [hv_cl]; exact scpy_n (Or.inl (by omega)))
    · apply hB <;> assumption) (by
    intros
    refine ⟨fun k => ?_, ?_⟩
    · first | rfl | (rw [hv_cl]; simp (disch := omega) only [sset_1, sfil_o]) | (rw [hv_cl]; exact scpy_n (by omega)) | (rw [hv_cl]; exact scpy_n (Or.inl (by omega)))
    · apply hE <;> assumption)
theorem zx_judge {d : Nat} {t i : Int} {A : AHp} {z : Sg} {Q : Option AV → AHp → Prop} (hd : 1 ≤ d) (hX : XLAY A) (hM : MLAY A) (hTP : ∀ i : Int, 0 ≤ i → i < 6 → z 266 i = 295 + 2 * i) (h8 : 0 ≤ z 210 1 ∧ z 210 1 ≤ 60) (hsz : ∀ t, 0 ≤ t → t ≤ 5 → 0 ≤ z (295 + 2 * t) 1 ∧ z (295 + 2 * t) 1 ≤ 60) (hN : ¬ (0 ≤ t ∧ t ≤ 5) → Q (some (vi (-1))) (cl A z)) (hC : 0 ≤ t → t ≤ 5 → 0 ≤ z (295 + 2 * t) 0 → z (295 + 2 * t) 0 ≠ 2 → Q (some (vi (-12))) (cl A z)) (h0 : 0 ≤ t → t ≤ 5 → (z (295 + 2 * t) 0 < 0 ∨ z (295 + 2 * t) 0 = 2) → z 210 1 = 0 → Q (some (vi (-5))) (cl A z)) (hA : 0 ≤ t → t ≤ 5 → (z (295 + 2 * t) 0 < 0 ∨ z (295 + 2 * t) 0 = 2) → (∀ k, 0 ≤ k → k < z 210 1 → (∀ j, 0 ≤ j → j < k → (0 ≤ i ∧ i < z (295 + 2 * t) 1 - j ∧ z (295 + 2 * t + 1) (i + j) = z 211 j)) → (i < 0 ∨ z (295 + 2 * t) 1 - k ≤ i) → Q (some (vi (100 + k))) (cl A z))) (hB : 0 ≤ t → t ≤ 5 → (z (295 + 2 * t) 0 < 0 ∨ z (295 + 2 * t) 0 = 2) → (∀ k, 0 ≤ k → k < z 210 1 → (∀ j, 0 ≤ j → j < k → (0 ≤ i ∧ i < z (295 + 2 * t) 1 - j ∧ z (295 + 2 * t + 1) (i + j) = z 211 j)) → 0 ≤ i → i < z (295 + 2 * t) 1 - k → z (295 + 2 * t + 1) (i + k) ≠ z 211 k → Q (some (vi k)) (cl A z))) (hE : 0 ≤ t → t ≤ 5 → (z (295 + 2 * t) 0 < 0 ∨ z (295 + 2 * t) 0 = 2) → ((∀ j, 0 ≤ j → j < z 210 1 → (0 ≤ i ∧ i < z (295 + 2 * t) 1 - j ∧ z (295 + 2 * t + 1) (i + j) = z 211 j)) → Q (some (vi (-5))) (cl A z))) : CALL d mX12_judge [vr 60, vi t, vi i] (cl A z) (fun r B => MID A z B ∧ Q r B) := by
  refine yx_judge (Q := fun r B => MID A z B ∧ Q r B) hd hX hTP h8 hsz (by
    intros
    refine ⟨⟨⟨rfl, rfl, fun k => ?_⟩, MO hM⟩, ?_⟩
    · first | rfl | (rw [hv_cl]; simp (disch := omega) only [sset_1, sfil_o]) | (rw [hv_cl]; exact scpy_n (by omega)) | (rw [hv_cl]; exact scpy_n (Or.inl (by omega)))
    · apply hN <;> assumption) (by
    intros
    refine ⟨⟨⟨rfl, rfl, fun k => ?_⟩, MO hM⟩, ?_⟩
    · first | rfl | (rw [hv_cl]; simp (disch := omega) only [sset_1, sfil_o]) | (rw [hv_cl]; exact scpy_n (by omega)) | (rw [hv_cl]; exact scpy_n (Or.inl (by omega)))
    · apply hC <;> assumption) (by
    intros
    refine ⟨⟨⟨rfl, rfl, fun k => ?_⟩, MO hM⟩, ?_⟩
    · first | rfl | (rw [hv_cl]; simp (disch := omega) only [sset_1, sfil_o]) | (rw [hv_cl]; exact scpy_n (by omega)) | (rw [hv_cl]; exact scpy_n (Or.inl (by omega)))
    · apply h0 <;> assumption) (by
    intros
    refine ⟨⟨⟨rfl, rfl, fun k => ?_⟩, MO hM⟩, ?_⟩
    · first | rfl | (rw [hv_cl]; simp (disch := omega) only [sset_1, sfil_o]) | (rw [hv_cl]; exact scpy_n (by omega)) | (rw [hv_cl]; exact scpy_n (Or.inl (by omega)))
    · apply hA <;> assumption) (by
    intros
    refine ⟨⟨⟨rfl, rfl, fun k => ?_⟩, MO hM⟩, ?_⟩
    · first | rfl | (rw [hv_cl]; simp (disch := omega) only [sset_1, sfil_o]) | (rw [hv_cl]; exact scpy_n (by omega)) | (rw [hv_cl]; exact scpy_n (Or.inl (by omega)))
    · apply hB <;> assumption) (by
    intros
    refine ⟨⟨⟨rfl, rfl, fun k => ?_⟩, MO hM⟩, ?_⟩
    · first | rfl | (rw [hv_cl]; simp (disch := omega) only [sset_1, sfil_o]) | (rw [hv_cl]; exact scpy_n (by omega)) | (rw [hv_cl]; exact scpy_n (Or.inl (by omega)))
    · apply hE <;> assumption)
theorem zc_count {d : Nat} {w : Int} {A : AHp} {z : Sg} {Q : Option AV → AHp → Prop} (hd : 1 ≤ d) (hM : MLAY A) (h0 : w = 0 → Q (some (vi (z 307 12))) (cl A z)) (h1 : w = 1 → ∀ n, n = (if 0 ≤ z 333 0 then 1 else 0) + (if 0 ≤ z 333 1 then 1 else 0) + (if 0 ≤ z 333 2 then 1 else 0) + (if 0 ≤ z 333 3 then 1 else 0) → Q (some (vi n)) (cl A z)) (h2 : w = 2 → Q (some (vi (z 307 49))) (cl A z)) (h3 : w = 3 → Q (some (vi (z 307 52))) (cl A z)) (h4 : w = 4 → Q (some (vi (z 307 54))) (cl A z)) (h5 : w = 5 → Q (some (vi (z 307 17))) (cl A z)) (hB : ¬ (0 ≤ w ∧ w ≤ 5) → Q (some (vi (-2))) (cl A z)) : CALL d mX13_count [vr 307, vi w] (cl A z) (fun r B => KEP z B ∧ Q r B) := by
  refine yc_count (Q := fun r B => KEP z B ∧ Q r B) hd hM (by
    intros
    refine ⟨fun k => ?_, ?_⟩
    · first | rfl | (rw [hv_cl]; simp (disch := omega) only [sset_1, sfil_o]) | (rw [hv_cl]; exact scpy_n (by omega)) | (rw [hv_cl]; exact scpy_n (Or.inl (by omega)))
    · apply h0 <;> assumption) (by
    intros
    refine ⟨fun k => ?_, ?_⟩
    · first | rfl | (rw [hv_cl]; simp (disch := omega) only [sset_1, sfil_o]) | (rw [hv_cl]; exact scpy_n (by omega)) | (rw [hv_cl]; exact scpy_n (Or.inl (by omega)))
    · apply h1 <;> assumption) (by
    intros
    refine ⟨fun k => ?_, ?_⟩
    · first | rfl | (rw [hv_cl]; simp (disch := omega) only [sset_1, sfil_o]) | (rw [hv_cl]; exact scpy_n (by omega)) | (rw [hv_cl]; exact scpy_n (Or.inl (by omega)))
    · apply h2 <;> assumption) (by
    intros
    refine ⟨fun k => ?_, ?_⟩
    · first | rfl | (rw [hv_cl]; simp (disch := omega) only [sset_1, sfil_o]) | (rw [hv_cl]; exact scpy_n (by omega)) | (rw [hv_cl]; exact scpy_n (Or.inl (by omega)))
    · apply h3 <;> assumption) (by
    intros
    refine ⟨fun k => ?_, ?_⟩
    · first | rfl | (rw [hv_cl]; simp (disch := omega) only [sset_1, sfil_o]) | (rw [hv_cl]; exact scpy_n (by omega)) | (rw [hv_cl]; exact scpy_n (Or.inl (by omega)))
    · apply h4 <;> assumption) (by
    intros
    refine ⟨fun k => ?_, ?_⟩
    · first | rfl | (rw [hv_cl]; simp (disch := omega) only [sset_1, sfil_o]) | (rw [hv_cl]; exact scpy_n (by omega)) | (rw [hv_cl]; exact scpy_n (Or.inl (by omega)))
    · apply h5 <;> assumption) (by
    intros
    refine ⟨fun k => ?_, ?_⟩
    · first | rfl | (rw [hv_cl]; simp (disch := omega) only [sset_1, sfil_o]) | (rw [hv_cl]; exact scpy_n (by omega)) | (rw [hv_cl]; exact scpy_n (Or.inl (by omega)))
    · apply hB <;> assumption)
theorem zx_count {d : Nat} {w : Int} {A : AHp} {z : Sg} {Q : Option AV → AHp → Prop} (hd : 2 ≤ d) (hX : XLAY A) (hM : MLAY A) (h0 : w = 0 → Q (some (vi (z 64 1))) (cl A z)) (h1 : w = 1 → ∀ n, n = (if z 264 0 ≠ -5 then 1 else 0) + (if z 264 1 ≠ -5 then 1 else 0) + (if z 264 2 ≠ -5 then 1 else 0) + (if z 264 3 ≠ -5 then 1 else 0) → Q (some (vi n)) (cl A z)) (h2 : w = 2 → Q (some (vi (z 212 2))) (cl A z)) (h3 : w = 3 → Q (some (vi (z 215 2))) (cl A z)) (h4 : w = 4 → Q (some (vi (z 218 2))) (cl A z)) (h5 : w = 5 → Q (some (vi (z 61 2))) (cl A z)) (hB : ¬ (0 ≤ w ∧ w ≤ 5) → Q (some (vi (-2))) (cl A z)) : CALL d mX12_count [vr 60, vi w] (cl A z) (fun r B => MID A z B ∧ Q r B) := by
  refine yx_count (Q := fun r B => MID A z B ∧ Q r B) hd hX (by
    intros
    refine ⟨⟨⟨rfl, rfl, fun k => ?_⟩, MO hM⟩, ?_⟩
    · first | rfl | (rw [hv_cl]; simp (disch := omega) only [sset_1, sfil_o]) | (rw [hv_cl]; exact scpy_n (by omega)) | (rw [hv_cl]; exact scpy_n (Or.inl (by omega)))
    · apply h0 <;> assumption) (by
    intros
    refine ⟨⟨⟨rfl, rfl, fun k => ?_⟩, MO hM⟩, ?_⟩
    · first | rfl | (rw [hv_cl]; simp (disch := omega) only [sset_1, sfil_o]) | (rw [hv_cl]; exact scpy_n (by omega)) | (rw [hv_cl]; exact scpy_n (Or.inl (by omega)))
    · apply h1 <;> assumption) (by
    intros
    refine ⟨⟨⟨rfl, rfl, fun k => ?_⟩, MO hM⟩, ?_⟩
    · first | rfl | (rw [hv_cl]; simp (disch := omega) only [sset_1, sfil_o]) | (rw [hv_cl]; exact scpy_n (by omega)) | (rw [hv_cl]; exact scpy_n (Or.inl (by omega)))
    · apply h2 <;> assumption) (by
    intros
    refine ⟨⟨⟨rfl, rfl, fun k => ?_⟩, MO hM⟩, ?_⟩
    · first | rfl | (rw [hv_cl]; simp (disch := omega) only [sset_1, sfil_o]) | (rw [hv_cl]; exact scpy_n (by omega)) | (rw [hv_cl]; exact scpy_n (Or.inl (by omega)))
    · apply h3 <;> assumption) (by
    intros
    refine ⟨⟨⟨rfl, rfl, fun k => ?_⟩, MO hM⟩, ?_⟩
    · first | rfl | (rw [hv_cl]; simp (disch := omega) only [sset_1, sfil_o]) | (rw [hv_cl]; exact scpy_n (by omega)) | (rw [hv_cl]; exact scpy_n (Or.inl (by omega)))
    · apply h4 <;> assumption) (by
    intros
    refine ⟨⟨⟨rfl, rfl, fun k => ?_⟩, MO hM⟩, ?_⟩
    · first | rfl | (rw [hv_cl]; simp (disch := omega) only [sset_1, sfil_o]) | (rw [hv_cl]; exact scpy_n (by omega)) | (rw [hv_cl]; exact scpy_n (Or.inl (by omega)))
    · apply h5 <;> assumption) (by
    intros
    refine ⟨⟨⟨rfl, rfl, fun k => ?_⟩, MO hM⟩, ?_⟩
    · first | rfl | (rw [hv_cl]; simp (disch := omega) only [sset_1, sfil_o]) | (rw [hv_cl]; exact scpy_n (by omega)) | (rw [hv_cl]; exact scpy_n (Or.inl (by omega)))
    · apply hB <;> assumption)
theorem zc_stop {d : Nat} {j : Int} {A : AHp} {z : Sg} {Q : Option AV → AHp → Prop} (hd : 1 ≤ d) (hM : MLAY A) (hN : ¬ (0 ≤ j ∧ j ≤ 3) ∨ z 333 j < 0 → Q (some (vi (-1))) (cl A z)) (hO : 0 ≤ j → j ≤ 3 → 0 ≤ z 333 j → Q (some (vi (z 333 j))) (cl A (sset z 333 j (-1)))) : CALL d mX13_stop [vr 307, vi j] (cl A z) (fun r B => KEP z B ∧ Q r B) := by
  refine yc_stop (Q := fun r B => KEP z B ∧ Q r B) hd hM (by
    intros
    refine ⟨fun k => ?_, ?_⟩
    · first | rfl | (rw [hv_cl]; simp (disch := omega) only [sset_1, sfil_o]) | (rw [hv_cl]; exact scpy_n (by omega)) | (rw [hv_cl]; exact scpy_n (Or.inl (by omega)))
    · apply hN <;> assumption) (by
    intros
    refine ⟨fun k => ?_, ?_⟩
    · first | rfl | (rw [hv_cl]; simp (disch := omega) only [sset_1, sfil_o]) | (rw [hv_cl]; exact scpy_n (by omega)) | (rw [hv_cl]; exact scpy_n (Or.inl (by omega)))
    · apply hO <;> assumption)
theorem zx_stop {d : Nat} {j : Int} {A : AHp} {z : Sg} {Q : Option AV → AHp → Prop} (hd : 1 ≤ d) (hX : XLAY A) (hM : MLAY A) (hN : ¬ (0 ≤ j ∧ j ≤ 3 ∧ z 264 j ≠ -5) → Q (some (vi (-1))) (cl A z)) (hO : 0 ≤ j → j ≤ 3 → z 264 j ≠ -5 → Q (some (vi (z 264 j))) (cl A (sset z 264 j (-5)))) : CALL d mX12_stop [vr 60, vi j] (cl A z) (fun r B => MID A z B ∧ Q r B) := by
  refine yx_stop (Q := fun r B => MID A z B ∧ Q r B) hd hX (by
    intros
    refine ⟨⟨⟨rfl, rfl, fun k => ?_⟩, MO hM⟩, ?_⟩
    · first | rfl | (rw [hv_cl]; simp (disch := omega) only [sset_1, sfil_o]) | (rw [hv_cl]; exact scpy_n (by omega)) | (rw [hv_cl]; exact scpy_n (Or.inl (by omega)))
    · apply hN <;> assumption) (by
    intros
    refine ⟨⟨⟨rfl, rfl, fun k => ?_⟩, MO hM⟩, ?_⟩
    · first | rfl | (rw [hv_cl]; simp (disch := omega) only [sset_1, sfil_o]) | (rw [hv_cl]; exact scpy_n (by omega)) | (rw [hv_cl]; exact scpy_n (Or.inl (by omega)))
    · apply hO <;> assumption)
theorem zc_job {d : Nat} {l : Int} {A : AHp} {z : Sg} {Q : Option AV → AHp → Prop} (hd : 2 ≤ d) (hM : MLAY A) (hln : 0 ≤ z 307 12 ∧ z 307 12 ≤ 8) (hN : ¬ (0 ≤ l ∧ l < z 307 12) → Q (some (vi (-1))) (cl A z)) (hF : 0 ≤ l → l < z 307 12 → (∀ i, 0 ≤ i → i ≤ 3 → 0 ≤ z 333 i) → Q (some (vi (-4))) (cl A z)) (hO : 0 ≤ l → l < z 307 12 → ∀ j, 0 ≤ j → j ≤ 3 → (∀ i, 0 ≤ i → i < j → 0 ≤ z 333 i) → z 333 j < 0 → Q (some (vi j)) (cl A (sset (sset (sset (sset (sset z 333 j l) 334 j 60) 335 j (z 309 (60 * l))) 336 j 0) 337 j 0))) : CALL d mX13_job [vr 307, vi l] (cl A z) (fun r B => KEP z B ∧ Q r B) := by
  refine yc_job (Q := fun r B => KEP z B ∧ Q r B) hd hM hln (by
    intros
    refine ⟨fun k => ?_, ?_⟩
    · first | rfl | (rw [hv_cl]; simp (disch := omega) only [sset_1, sfil_o]) | (rw [hv_cl]; exact scpy_n (by omega)) | (rw [hv_cl]; exact scpy_n (Or.inl (by omega)))
    · apply hN <;> assumption) (by
    intros
    refine ⟨fun k => ?_, ?_⟩
    · first | rfl | (rw [hv_cl]; simp (disch := omega) only [sset_1, sfil_o]) | (rw [hv_cl]; exact scpy_n (by omega)) | (rw [hv_cl]; exact scpy_n (Or.inl (by omega)))
    · apply hF <;> assumption) (by
    intros
    refine ⟨fun k => ?_, ?_⟩
    · first | rfl | (rw [hv_cl]; simp (disch := omega) only [sset_1, sfil_o]) | (rw [hv_cl]; exact scpy_n (by omega)) | (rw [hv_cl]; exact scpy_n (Or.inl (by omega)))
    · apply hO <;> assumption)
