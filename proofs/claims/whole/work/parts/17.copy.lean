/-! ===== copies, the clone of the row of words, casts, shifts of ints, JDK's little ones ===== -/
section CPY
variable {d : Nat} {M : MD} {pc pc' : Nat} {lv : LV} {st : List AV} {A : AHp} {Q : Option AV → AHp → Prop} {o i n x : Int} {idx : Nat}
def CPW (own : String) (idx : Nat) : Prop := Cond.methodLink own idx arraycopyName ∈ TB ∧ Cond.native arraycopyName ∈ TB ∧ Cond.static arraycopyName ∈ TB ∧ Cond.initialized "java/lang/System" ∈ TB
theorem i_nn {z : Int} (h0 : 0 ≤ z) (h : in32 z) : ¬ Int32.ofInt z < 0 := by rw [i32_0, i32_lt h (by decide)]; omega
theorem aw_copy {kd t0 : Nat} {ty : FieldType} {o1 sp dp n0 n1 : Int} (ht : ∀ G, (tysL G)[t0]? = some (gC G kd, ty)) (hkd : (kd = 20 ∧ ty = .int) ∨ (kd = 21 ∧ ty = .long)) (hw : CPW M.1.cls idx) (hd1 : 2 ≤ d) (hws : WSd st)
    (hd : decode M.2.1 pc = .ok (.invokestatic idx, 3)) (hp : pc + 3 = pc') (hO : isA A o kd n0) (hO1 : isA A o1 kd n1) (h1 : 0 ≤ sp) (h2 : 0 ≤ dp) (h3 : 0 ≤ n) (h4 : sp + n ≤ n0) (h5 : dp + n ≤ n1)
    (kk : AW d M pc' lv st (hcpy A o sp o1 dp n) Q) : AW d M pc lv (vi n :: vi dp :: vr o1 :: vi sp :: vr o :: st) A Q := by
  subst hp
  refine AW.wr (A1 := hcpy A o sp o1 dp n) rfl rfl (fun l G p e R s m args below meth c H locs ls C S Qr hC hS hl9 ho hst hva kk => ?_) kk
  have hn9 : in32 n := okh hst
  have hdp : in32 dp := okh (okt hst)
  have hsp : in32 sp := okh (okt (okt (okt hst)))
  change W p l e R s m args below meth c H locs C S Qr (F0 m pc ls (.int (Int32.ofInt n) :: .int (Int32.ofInt dp) :: rR G o1 :: .int (Int32.ofInt sp) :: rR G o :: st.map (rV G)))
  rw [rR_dyn hO.1, rR_dyn hO1.1]
  have hts := hC.2.2.2.2.2.1
  obtain ⟨-, b0, b1, b2⟩ := hS.2.2.1 o hO.1 hO.2.1
  obtain ⟨-, c0, c1, c2⟩ := hS.2.2.1 o1 hO1.1 hO1.2.1
  rw [hO.2.2.2] at b0 b1
  rw [hO1.2.2.2] at c0 c1
  have hcat : ((st.map (rV G)).map fun v => v.category).sum ≤ 8 := by
    have e : (st.map (rV G)).map (fun v => v.category) = st.map acat := by
      rw [List.map_map]
      apply List.map_congr_left
      intro a _
      exact rV_cat G a
    rw [e]
    exact hws
  have nn : ∀ z : Int, 0 ≤ z → in32 z → ((Int32.ofInt z).toInt = z) := fun z _ h => i32_t h
  obtain ⟨mkv, e0, e1, r0, r1, rlong⟩ : ∃ mkv : Int → Value, entE G A o = .inl (gC G kd, n0.toNat, (if kd = 21 then .inr (.inl fun j => Int64.ofInt (hv A o j)) else .inl fun j => Int32.ofInt (hv A o j))) ∧ entE G A o1 = .inl (gC G kd, n1.toNat, (if kd = 21 then .inr (.inl fun j => Int64.ofInt (hv A o1 j)) else .inl fun j => Int32.ofInt (hv A o1 j))) ∧
      H[rA G o]? = some (arrV (gC G kd) n0.toNat (fun j => mkv (hv A o j))) ∧ H[rA G o1]? = some (arrV (gC G kd) n1.toNat (fun j => mkv (hv A o1 j))) ∧
      ((∀ z, fits ty (mkv z) = true) ∧ (∀ (U : State) (cm : ClassId) (z : Int), U.takes cm (mkv z)) ∧ ∀ H1 : Heap, H1[rA G o1]? = some (arrV (gC G kd) n1.toNat (fun j => mkv (hv (hcpy A o sp o1 dp n) o1 j))) → va_at (gD G) vwCl (rA G o1, entE G (hcpy A o sp o1 dp n) o1) H1) := by
    rcases hkd with ⟨rfl, rfl⟩ | ⟨rfl, rfl⟩
    · have q0 := ent_int (G := G) (A := A) (o := o) hO.2.2.1 (Or.inl rfl)
      have q1 := ent_int (G := G) (A := A) (o := o1) hO1.2.2.1 (Or.inl rfl)
      rw [hO.2.2.2] at q0
      rw [hO1.2.2.2] at q1
      refine ⟨fun z => .int (Int32.ofInt z), q0, q1, ?_, ?_, fun z => rfl, fun U cm z => trivial, fun H1 h => ?_⟩
      · rw [q0] at b2
        exact b2
      · rw [q1] at c2
        exact c2
      · rw [ent_int (A := hcpy A o sp o1 dp n) (o := o1) (kd := 20) (by rw [hk_cpy]; exact hO1.2.2.1) (Or.inl rfl)]
        show H1[rA G o1]? = some (vp_cell _ _)
        rw [h, hl_cpy, hO1.2.2.2, vp_cell_i]
    · have q0 := ent_long (G := G) (A := A) (o := o) hO.2.2.1
      have q1 := ent_long (G := G) (A := A) (o := o1) hO1.2.2.1
      rw [hO.2.2.2] at q0
      rw [hO1.2.2.2] at q1
      refine ⟨fun z => .long (Int64.ofInt z), q0, q1, ?_, ?_, fun z => rfl, fun U cm z => trivial, fun H1 h => ?_⟩
      · rw [q0] at b2
        exact b2
      · rw [q1] at c2
        exact c2
      · rw [ent_long (A := hcpy A o sp o1 dp n) (o := o1) (by rw [hk_cpy]; exact hO1.2.2.1)]
        show H1[rA G o1]? = some (vp_cell _ _)
        rw [h, hl_cpy, hO1.2.2.2, vp_cell_l]
  obtain ⟨hfits, hnr, hfin⟩ := rlong
  intro T hT X
  obtain ⟨-, k0, hk0, cm0, hkk0⟩ := (hC.2.2.2.2.2.2.1.1.1.2 t0 _ (ht G)).1 n0.toNat (fun j => mkv (hv A o j))
  obtain ⟨-, k1, hk1, cm1, hkk1⟩ := (hC.2.2.2.2.2.2.1.1.1.2 t0 _ (ht G)).1 n1.toNat (fun j => mkv (hv A o1 j))
  have hprim : refKind ty = false := by rcases hkd with ⟨-, rfl⟩ | ⟨-, rfl⟩ <;> rfl
  obtain ⟨vm', X', step⟩ := X.arraycopy hC.1 hC.2.2.2.2.1 (hts _ hw.1) (hts _ hw.2.1) (hts _ hw.2.2.1) (hts _ hw.2.2.2) (src := rA G o) (dst := rA G o1) (cs := arrV (gC G kd) n0.toNat (fun j => mkv (hv A o j))) (cd := arrV (gC G kd) n1.toNat (fun j => mkv (hv A o1 j))) (srcPos := Int32.ofInt sp) (destPos := Int32.ofInt dp) (n := Int32.ofInt n) (by rw [hT]; exact r0) (by rw [hT]; exact r1)
    (fun _ h => by cases h) (fun _ h => by cases h) (fun h => by cases h) (fun h => by cases h) hk0 hk1 hkk0 hkk1 (by simp [hprim]) (i_nn h1 hsp) (i_nn h2 hdp) (i_nn h3 hn9)
    (by rw [i32_t hsp, i32_t hn9, arrV_size]; omega)
    (by rw [i32_t hdp, i32_t hn9, arrV_size]; omega)
    (fun vm₁ _ i hi => by
      have e : (arrV (gC G kd) n0.toNat (fun j => mkv (hv A o j))).slots.getD ((Int32.ofInt sp).toNatClampNeg + i) .null = mkv (hv A o ((Int32.ofInt sp).toNatClampNeg + i : Nat)) := by
        rw [i32_n hn9] at hi
        rw [Array.getD_eq_getD_getElem?, arrV_read _ _ (by rw [i32_n hsp]; omega)]
        rfl
      refine ⟨?_, ?_⟩
      · rw [e]
        exact hfits _
      · rw [e]
        exact hnr _ _ _)
    (g := F0 m pc ls (.int (Int32.ofInt n) :: .int (Int32.ofInt dp) :: .ref (rA G o1) :: .int (Int32.ofInt sp) :: .ref (rA G o) :: st.map (rV G))) rfl (by rw [hC.2.2.1]; exact hl9.1) (rest := st.map (rV G)) rfl (by rw [hC.2.1]; exact hd) (by have := hC.2.2.2.2.2.2.2.1; omega)
    (by
      have q1 := hC.2.2.2.2.2.2.2.2.1
      have q2 : nativeFrameWords "java/lang/System" "arraycopy" 5 + 11 ≤ 60 := by decide
      show 2 * 0 + _ + _ ≤ _
      omega)
  have e9 : copied (arrV (gC G kd) n0.toNat (fun j => mkv (hv A o j))) (arrV (gC G kd) n1.toNat (fun j => mkv (hv A o1 j))) (Int32.ofInt sp) (Int32.ofInt dp) (Int32.ofInt n) = arrV (gC G kd) n1.toNat (fun j => mkv (hv (hcpy A o sp o1 dp n) o1 j)) := by
    have := va_copied (fun z => mkv z) (gC G kd) (gC G kd) (n0 := n0.toNat) (n1 := n1.toNat) (sp := sp.toNat) (dp := dp.toNat) (n := n.toNat) (fun j => hv A o j) (fun j => hv A o1 j) (by omega)
    show (arrV _ _ _).storeRun (Int32.ofInt dp).toNatClampNeg ((arrV _ _ _).stretch (Int32.ofInt sp).toNatClampNeg (Int32.ofInt n).toNatClampNeg) = _
    rw [i32_n hdp, i32_n hsp, i32_n hn9, this]
    congr 1
    funext j
    congr 1
    rw [hv_cpy]
    unfold va_cpy
    by_cases q : dp.toNat ≤ j ∧ j < dp.toNat + n.toNat
    · rw [if_pos q, if_pos ⟨rfl, by omega, by omega⟩]
      show hv A o ((sp.toNat + (j - dp.toNat) : Nat) : Int) = hv A o (sp + ((j : Int) - dp))
      congr 1
      omega
    · rw [if_neg q, if_neg (by omega)]
  rw [e9] at X' step
  have hl8 : rA G o1 < H.size := (Array.getElem?_eq_some_iff.mp r1).1
  generalize hNew : arrV (gC G kd) n1.toNat (fun j => mkv (hv (hcpy A o sp o1 dp n) o1 j)) = cnew at X' step hfin
  have hheap : ((T.setVm vm').setCell (rA G o1) cnew).heap = H.setIfInBounds (rA G o1) cnew := by rw [← hT]; rfl
  have oq : ∀ q : Nat, q ≠ rA G o1 → (H.setIfInBounds (rA G o1) cnew)[q]? = H[q]? := fun q hq => by simp [Array.getElem?_setIfInBounds, Ne.symm hq]
  have hokx : ∀ k, 0 ≤ k → okS (hk A o1) k (hv (hcpy A o sp o1 dp n) o1 k) := by
    intro k hk9
    rw [hv_cpy]
    split
    · next q =>
      have := (hS.2.2.2.1 o hO.1 hO.2.1 (sp + (k - dp)) (by omega)).1
      rw [hO.2.2.1] at this
      rw [hO1.2.2.1]
      rcases hkd with ⟨rfl, -⟩ | ⟨rfl, -⟩
      · have h9 := okS_20 this
        unfold okS
        rw [if_pos rfl]
        exact h9
      · have h9 := okS_21 this
        unfold okS
        rw [if_neg (by omega), if_pos rfl]
        exact h9
    · exact (hS.2.2.2.1 o1 hO1.1 hO1.2.1 k hk9).1
  obtain ⟨t, a1, b9⟩ := kk _ _ (hS.putX (A' := hcpy A o sp o1 dp n) hO1.1 hO1.2.1 rfl (fun x k hx => by rw [hv_cpy, if_neg (fun q => hx q.1)]) (hfin _ (by simp [Array.getElem?_setIfInBounds, hl8])) (by simp) oq hokx) ⟨by simp; exact hva.1, fun q g1 g2 => by
      rw [oq q (fun e => g2 (by rw [e]; exact frA_dyn hO1.1))]
      exact hva.2.1 q g1 g2, fun q hq => by
      rcases List.mem_append.mp hq with h | h
      · exact hva.2.2 q h
      · obtain ⟨z, -, hz⟩ := List.mem_map.mp h
        rw [← hz]
        exact frA_dyn hO1.1⟩ (okt (okt (okt (okt (okt hst))))) _ hheap X'
  exact ⟨t, step t a1, b9⟩
end CPY
