/-! ===== rows of arrays ===== -/
theorem vp_of {i n : Int} (h : in32 i) (h0 : 0 ≤ i) (h1 : i < n) : vp_in (Int32.ofInt i) n.toNat := by
  rintro (q | q)
  · rw [i32_0, i32_lt h (by decide)] at q
    omega
  · rw [i32_n h] at q
    omega
theorem toNat_c {i : Int} (h0 : 0 ≤ i) : ((i.toNat : Nat) : Int) = i := Int.toNat_of_nonneg h0
theorem okS_20 {k x : Int} (h : okS 20 k x) : in32 x := by unfold okS at h; rw [if_pos rfl] at h; exact h
theorem okS_21 {k x : Int} (h : okS 21 k x) : in64 x := by unfold okS at h; rw [if_neg (by omega), if_pos rfl] at h; exact h
theorem okS_22 {k x : Int} (h : okS 22 k x) : -128 ≤ x ∧ x ≤ 127 := by unfold okS at h; rw [if_neg (by omega), if_neg (by omega), if_pos rfl] at h; exact h
theorem okS_23 {k x : Int} (h : okS 23 k x) : x = 0 ∨ x = 1 := by unfold okS at h; rw [if_neg (by omega), if_neg (by omega), if_neg (by omega), if_pos rfl] at h; exact h
theorem okS_r {kd : Nat} {k x : Int} (h : 30 ≤ kd) : okS kd k x := by unfold okS; rw [if_neg (by omega), if_neg (by omega), if_neg (by omega), if_neg (by omega), if_neg (by omega)]; trivial
theorem SIM.arr {G : Gp} {A : AHp} {H : Heap} (h : SIM G A H) {o n : Int} {kd : Nat} (hO : isA A o kd n) {x : va_E} (hx : entE G A o = x) : va_P (gD G) vwCl [(rA G o, x)] H := by
  rw [← hx]
  exact h.at1 hO.1 hO.2.1
section ARR
variable {d : Nat} {M : MD} {pc pc' : Nat} {lv : LV} {st : List AV} {A : AHp} {Q : Option AV → AHp → Prop} {o i n x : Int}
theorem aw_iald (hd : decode M.2.1 pc = .ok (.iaload, 1)) (hp : pc + 1 = pc') (hO : isA A o 20 n) (h0 : 0 ≤ i) (h1 : i < n) (kk : AW d M pc' lv (vi (hv A o i) :: st) A Q) : AW d M pc lv (vi i :: vr o :: st) A Q := by
  subst hp
  refine AW.pure (fun l G p e R s m args below meth c H locs ls C S Qr hC hS hl ho hst hva kk => ?_) kk
  have hi : in32 i := okh hst
  change W p l e R s m args below meth c H locs C S Qr (F0 m pc ls (.int (Int32.ofInt i) :: rR G o :: st.map (rV G)))
  rw [rR_dyn hO.1]
  refine va_iald hC.1 hC.2.1 hC.2.2.2.2.2.2.1.1.1 (hS.arr hO (ent_int hO.2.2.1 (Or.inl rfl))) 0 0 rfl rfl (by rw [hO.2.2.2]; exact vp_of hi h0 h1) hd ?_
  rw [i32_n hi, toNat_c h0]
  exact kk ls hl ho (okc (by have := (hS.2.2.2.1 o hO.1 hO.2.1 i h0).1; rw [hO.2.2.1] at this; exact okS_20 this) (okt (okt hst)))
theorem aw_lald (hd : decode M.2.1 pc = .ok (.laload, 1)) (hp : pc + 1 = pc') (hO : isA A o 21 n) (h0 : 0 ≤ i) (h1 : i < n) (kk : AW d M pc' lv (vl (hv A o i) :: st) A Q) : AW d M pc lv (vi i :: vr o :: st) A Q := by
  subst hp
  refine AW.pure (fun l G p e R s m args below meth c H locs ls C S Qr hC hS hl ho hst hva kk => ?_) kk
  have hi : in32 i := okh hst
  change W p l e R s m args below meth c H locs C S Qr (F0 m pc ls (.int (Int32.ofInt i) :: rR G o :: st.map (rV G)))
  rw [rR_dyn hO.1]
  refine va_lald hC.1 hC.2.1 hC.2.2.2.2.2.2.1.1.1 (hS.arr hO (ent_long hO.2.2.1)) 0 1 rfl rfl (by rw [hO.2.2.2]; exact vp_of hi h0 h1) hd ?_
  rw [i32_n hi, toNat_c h0]
  exact kk ls hl ho (okc (by have := (hS.2.2.2.1 o hO.1 hO.2.1 i h0).1; rw [hO.2.2.1] at this; exact okS_21 this) (okt (okt hst)))
theorem aw_bald (hd : decode M.2.1 pc = .ok (.baload, 1)) (hp : pc + 1 = pc') (hO : isA A o 22 n) (h0 : 0 ≤ i) (h1 : i < n) (kk : AW d M pc' lv (vi (hv A o i) :: st) A Q) : AW d M pc lv (vi i :: vr o :: st) A Q := by
  subst hp
  refine AW.pure (fun l G p e R s m args below meth c H locs ls C S Qr hC hS hl ho hst hva kk => ?_) kk
  have hi : in32 i := okh hst
  change W p l e R s m args below meth c H locs C S Qr (F0 m pc ls (.int (Int32.ofInt i) :: rR G o :: st.map (rV G)))
  rw [rR_dyn hO.1]
  refine va_bald hC.1 hC.2.1 hC.2.2.2.2.2.2.1.1.1 (hS.arr hO (ent_int hO.2.2.1 (Or.inr (Or.inl rfl)))) 0 2 rfl rfl (by rw [hO.2.2.2]; exact vp_of hi h0 h1) hd ?_
  rw [i32_n hi, toNat_c h0]
  exact kk ls hl ho (okc (by have := (hS.2.2.2.1 o hO.1 hO.2.1 i h0).1; rw [hO.2.2.1] at this; have := okS_22 this; show in32 _; unfold in32; omega) (okt (okt hst)))
theorem aw_zald (hd : decode M.2.1 pc = .ok (.baload, 1)) (hp : pc + 1 = pc') (hO : isA A o 23 n) (h0 : 0 ≤ i) (h1 : i < n) (kk : hv A o i = 0 ∨ hv A o i = 1 → AW d M pc' lv (vi (hv A o i) :: st) A Q) (hz : hv A o i = 0 ∨ hv A o i = 1) : AW d M pc lv (vi i :: vr o :: st) A Q := by
  subst hp
  refine AW.pure (fun l G p e R s m args below meth c H locs ls C S Qr hC hS hl ho hst hva kk => ?_) (kk hz)
  have hi : in32 i := okh hst
  change W p l e R s m args below meth c H locs C S Qr (F0 m pc ls (.int (Int32.ofInt i) :: rR G o :: st.map (rV G)))
  rw [rR_dyn hO.1]
  refine va_zald hC.1 hC.2.1 hC.2.2.2.2.2.2.1.1.1 (hS.arr hO (ent_int hO.2.2.1 (Or.inr (Or.inr rfl)))) 0 3 rfl rfl (by rw [hO.2.2.2]; exact vp_of hi h0 h1) hd ?_
  rw [i32_n hi, toNat_c h0]
  exact kk ls hl ho (okc (by show in32 _; unfold in32; omega) (okt (okt hst)))
theorem aw_aald {kd t0 : Nat} {Cn : String} (ht : ∀ G, (tysL G)[t0]? = some (gC G kd, .object Cn)) (hkd : 30 ≤ kd) (hd : decode M.2.1 pc = .ok (.aaload, 1)) (hp : pc + 1 = pc') (hO : isA A o kd n) (h0 : 0 ≤ i) (h1 : i < n) (kk : AW d M pc' lv (vr (hv A o i) :: st) A Q) : AW d M pc lv (vi i :: vr o :: st) A Q := by
  subst hp
  refine AW.pure (fun l G p e R s m args below meth c H locs ls C S Qr hC hS hl ho hst hva kk => ?_) kk
  have hi : in32 i := okh hst
  change W p l e R s m args below meth c H locs C S Qr (F0 m pc ls (.int (Int32.ofInt i) :: rR G o :: st.map (rV G)))
  rw [rR_dyn hO.1]
  refine va_aldq hC.1 hC.2.1 hC.2.2.2.2.2.2.1.1.1 (hS.arr hO (ent_ref hO.2.2.1 hkd)) 0 t0 rfl (ht G) (by rw [hO.2.2.2]; exact vp_of hi h0 h1) hd ?_
  rw [i32_n hi, toNat_c h0, rO_rf]
  exact kk ls hl ho (okc trivial (okt (okt hst)))
theorem aw_alen (hd : decode M.2.1 pc = .ok (.arraylength, 1)) (hp : pc + 1 = pc') (hO : isA A o 20 n) (kk : AW d M pc' lv (vi n :: st) A Q) : AW d M pc lv (vr o :: st) A Q := by
  subst hp
  refine AW.pure (fun l G p e R s m args below meth c H locs ls C S Qr hC hS hl9 ho hst hva kk => ?_) kk
  change W p l e R s m args below meth c H locs C S Qr (F0 m pc ls (rR G o :: st.map (rV G)))
  rw [rR_dyn hO.1]
  obtain ⟨-, b0, b1, -⟩ := hS.2.2.1 o hO.1 hO.2.1
  rw [hO.2.2.2] at b0 b1
  refine va_alen (v := Int32.ofInt n) hC.1 hC.2.1 hC.2.2.2.2.2.2.1.1.1 (hS.arr hO (ent_int hO.2.2.1 (Or.inl rfl))) 0 0 rfl rfl ?_ hd (kk ls hl9 ho (okc (by show in32 n; unfold in32; omega) (okt hst)))
  show Int32.ofNat (hl A o).toNat = _
  rw [hO.2.2.2]
  apply Int32.toInt_inj.mp
  rw [i32_t (by unfold in32; omega)]
  have := nI_toInt (n := n.toNat) (by omega)
  unfold nI at this
  rw [this]
  omega
end ARR
theorem arr_st {G : Gp} {A : AHp} {o i x n : Int} {kd : Nat} {H1 : Heap} (h1 : kd = 20 ∨ kd = 22 ∨ kd = 23) (hO : isA A o kd n) (h0 : 0 ≤ i) (e : H1[rA G o]? = some ((vp_cell (gC G kd) (n.toNat, .inl fun j => Int32.ofInt (hv A o j))).setSlot i.toNat (.int (Int32.ofInt x)))) : va_at (gD G) vwCl (rA G o, entE G (hset A o i x) o) H1 := by
  rw [ent_int (A := hset A o i x) (kd := kd) (by rw [hk_set]; exact hO.2.2.1) h1]
  show H1[rA G o]? = some (vp_cell _ _)
  rw [e, hl_set, hO.2.2.2, vp_cell_i, vp_cell_i, arrV_store]
  congr 2
  funext q
  unfold updV
  rw [hv_set]
  by_cases hq : q = i.toNat
  · rw [if_pos hq, if_pos ⟨rfl, by omega⟩]
  · rw [if_neg hq, if_neg (by omega)]
section ARS
variable {d : Nat} {M : MD} {pc pc' : Nat} {lv : LV} {st : List AV} {A : AHp} {Q : Option AV → AHp → Prop} {o i n x : Int}
theorem frA_dyn {G : Gp} {o : Int} (h : 60 ≤ o) : frA G (rA G o) := by show gB G ≤ rA G o; rw [rA_dyn h]; omega
theorem aw_iast (hd : decode M.2.1 pc = .ok (.iastore, 1)) (hp : pc + 1 = pc') (hO : isA A o 20 n) (h0 : 0 ≤ i) (h1 : i < n) (kk : AW d M pc' lv st (hset A o i x) Q) : AW d M pc lv (vi x :: vi i :: vr o :: st) A Q := by
  subst hp
  refine AW.wr (A1 := hset A o i x) rfl rfl (fun l G p e R s m args below meth c H locs ls C S Qr hC hS hl ho hst hva kk => ?_) kk
  have hx : in32 x := okh hst
  have hi : in32 i := okh (okt hst)
  change W p l e R s m args below meth c H locs C S Qr (F0 m pc ls (.int (Int32.ofInt x) :: .int (Int32.ofInt i) :: rR G o :: st.map (rV G)))
  rw [rR_dyn hO.1]
  have hP := hS.arr hO (ent_int hO.2.2.1 (Or.inl rfl)) 0 _ rfl
  rw [hO.2.2.2] at hP
  refine W.iast hC.1 hC.2.1 (cell := vp_cell (gC G 20) (n.toNat, .inl fun j => Int32.ofInt (hv A o j))) hP ((hC.2.2.2.2.2.2.1.1.1.2 0 _ rfl).1 n.toNat (fun j => .int (Int32.ofInt (hv A o j)))) (fun q => by cases q) (by show ¬ (_ ∨ (arrV _ _ _).slots.size ≤ _); rw [arrV_size]; exact vp_of hi h0 h1) rfl rfl hd fun H1 e z oq => ?_
  rw [i32_n hi] at e
  exact kk H1 _ (hS.put hO.1 hO.2.1 (arr_st (Or.inl rfl) hO h0 e) z oq (by rw [hO.2.2.1]; unfold okS; rw [if_pos rfl]; exact hx)) (hva.put z oq (frA_dyn hO.1)) (okt (okt (okt hst)))
theorem i8_id {x : Int} (h0 : -128 ≤ x) (h1 : x ≤ 127) : (Int32.ofInt x).toInt8.toInt = x := by
  rw [Int32.toInt_toInt8, i32_t (by unfold in32; omega)]
  show x.bmod 256 = x
  rw [Int.bmod_def]
  split <;> omega
theorem nar_b {x : Int} (h0 : -128 ≤ x) (h1 : x ≤ 127) : narrow .byte (.int (Int32.ofInt x)) = .int (Int32.ofInt x) := by
  show Value.int (Int32.ofInt x).toInt8.toInt32 = _
  congr 1
  apply Int32.toInt_inj.mp
  rw [Int8.toInt_toInt32, i8_id h0 h1, i32_t (by unfold in32; omega)]
theorem aw_bast (hd : decode M.2.1 pc = .ok (.bastore, 1)) (hp : pc + 1 = pc') (hO : isA A o 22 n) (h0 : 0 ≤ i) (h1 : i < n) (hx : -128 ≤ x ∧ x ≤ 127) (kk : AW d M pc' lv st (hset A o i x) Q) : AW d M pc lv (vi x :: vi i :: vr o :: st) A Q := by
  subst hp
  refine AW.wr (A1 := hset A o i x) rfl rfl (fun l G p e R s m args below meth c H locs ls C S Qr hC hS hl ho hst hva kk => ?_) kk
  have hi : in32 i := okh (okt hst)
  change W p l e R s m args below meth c H locs C S Qr (F0 m pc ls (.int (Int32.ofInt x) :: .int (Int32.ofInt i) :: rR G o :: st.map (rV G)))
  rw [rR_dyn hO.1]
  have hP := hS.arr hO (ent_int hO.2.2.1 (Or.inr (Or.inl rfl))) 0 _ rfl
  rw [hO.2.2.2] at hP
  refine W.bast hC.1 hC.2.1 (cell := vp_cell (gC G 22) (n.toNat, .inl fun j => Int32.ofInt (hv A o j))) hP ((hC.2.2.2.2.2.2.1.1.1.2 2 _ rfl).1 n.toNat (fun j => .int (Int32.ofInt (hv A o j)))) (fun q => by cases q) (by show ¬ (_ ∨ (arrV _ _ _).slots.size ≤ _); rw [arrV_size]; exact vp_of hi h0 h1) rfl rfl hd fun H1 e z oq => ?_
  rw [i32_n hi, nar_b hx.1 hx.2] at e
  exact kk H1 _ (hS.put hO.1 hO.2.1 (arr_st (Or.inr (Or.inl rfl)) hO h0 e) z oq (by rw [hO.2.2.1]; unfold okS; rw [if_neg (by omega), if_neg (by omega), if_pos rfl]; exact hx)) (hva.put z oq (frA_dyn hO.1)) (okt (okt (okt hst)))
theorem aw_zast (hd : decode M.2.1 pc = .ok (.bastore, 1)) (hp : pc + 1 = pc') (hO : isA A o 23 n) (h0 : 0 ≤ i) (h1 : i < n) (hx : x = 0 ∨ x = 1) (kk : AW d M pc' lv st (hset A o i x) Q) : AW d M pc lv (vi x :: vi i :: vr o :: st) A Q := by
  subst hp
  refine AW.wr (A1 := hset A o i x) rfl rfl (fun l G p e R s m args below meth c H locs ls C S Qr hC hS hl ho hst hva kk => ?_) kk
  have hi : in32 i := okh (okt hst)
  change W p l e R s m args below meth c H locs C S Qr (F0 m pc ls (.int (Int32.ofInt x) :: .int (Int32.ofInt i) :: rR G o :: st.map (rV G)))
  rw [rR_dyn hO.1]
  have hP := hS.arr hO (ent_int hO.2.2.1 (Or.inr (Or.inr rfl))) 0 _ rfl
  rw [hO.2.2.2] at hP
  refine W.zast hC.1 hC.2.1 (cell := vp_cell (gC G 23) (n.toNat, .inl fun j => Int32.ofInt (hv A o j))) hP ((hC.2.2.2.2.2.2.1.1.1.2 3 _ rfl).1 n.toNat (fun j => .int (Int32.ofInt (hv A o j)))) (fun q => by cases q) (by show ¬ (_ ∨ (arrV _ _ _).slots.size ≤ _); rw [arrV_size]; exact vp_of hi h0 h1) rfl rfl hd fun H1 e z oq => ?_
  rw [i32_n hi, show narrow .boolean (.int (Int32.ofInt x)) = .int (Int32.ofInt x) by rcases hx with rfl | rfl <;> rfl] at e
  exact kk H1 _ (hS.put hO.1 hO.2.1 (arr_st (Or.inr (Or.inr rfl)) hO h0 e) z oq (by rw [hO.2.2.1]; unfold okS; rw [if_neg (by omega), if_neg (by omega), if_neg (by omega), if_pos rfl]; exact hx)) (hva.put z oq (frA_dyn hO.1)) (okt (okt (okt hst)))
theorem aw_last (hd : decode M.2.1 pc = .ok (.lastore, 1)) (hp : pc + 1 = pc') (hO : isA A o 21 n) (h0 : 0 ≤ i) (h1 : i < n) (kk : AW d M pc' lv st (hset A o i x) Q) : AW d M pc lv (vl x :: vi i :: vr o :: st) A Q := by
  subst hp
  refine AW.wr (A1 := hset A o i x) rfl rfl (fun l G p e R s m args below meth c H locs ls C S Qr hC hS hl ho hst hva kk => ?_) kk
  have hx : in64 x := okh hst
  have hi : in32 i := okh (okt hst)
  change W p l e R s m args below meth c H locs C S Qr (F0 m pc ls (.long (Int64.ofInt x) :: .int (Int32.ofInt i) :: rR G o :: st.map (rV G)))
  rw [rR_dyn hO.1]
  have hP := hS.arr hO (ent_long hO.2.2.1) 0 _ rfl
  rw [hO.2.2.2] at hP
  refine W.last hC.1 hC.2.1 (cell := vp_cell (gC G 21) (n.toNat, .inr (.inl fun j => Int64.ofInt (hv A o j)))) hP ((hC.2.2.2.2.2.2.1.1.1.2 1 _ rfl).1 n.toNat (fun j => .long (Int64.ofInt (hv A o j)))) (fun q => by cases q) (by show ¬ (_ ∨ (arrV _ _ _).slots.size ≤ _); rw [arrV_size]; exact vp_of hi h0 h1) rfl rfl hd fun H1 e z oq => ?_
  rw [i32_n hi] at e
  refine kk H1 _ (hS.put hO.1 hO.2.1 ?_ z oq (by rw [hO.2.2.1]; unfold okS; rw [if_neg (by omega), if_pos rfl]; exact hx)) (hva.put z oq (frA_dyn hO.1)) (okt (okt (okt hst)))
  rw [ent_long (A := hset A o i x) (by rw [hk_set]; exact hO.2.2.1)]
  show H1[rA G o]? = some (vp_cell _ _)
  rw [e, hl_set, hO.2.2.2, vp_cell_l, vp_cell_l, arrV_store]
  congr 2
  funext q
  unfold updV
  rw [hv_set]
  by_cases hq : q = i.toNat
  · rw [if_pos hq, if_pos ⟨rfl, by omega⟩]
  · rw [if_neg hq, if_neg (by omega)]
theorem aw_aast {kd t0 ci : Nat} (ht : ∀ G, (tysL G)[t0]? = some (gC G kd, .object (clC ci))) (hci : ci < 12) (hkd : 30 ≤ kd) (hd : decode M.2.1 pc = .ok (.aastore, 1)) (hp : pc + 1 = pc') (hO : isA A o kd n) (h0 : 0 ≤ i) (h1 : i < n) (hX : isO A x (ci + 1)) (kk : AW d M pc' lv st (hset A o i x) Q) : AW d M pc lv (vr x :: vi i :: vr o :: st) A Q := by
  subst hp
  refine AW.wr (A1 := hset A o i x) rfl rfl (fun l G p e R s m args below meth c H locs ls C S Qr hC hS hl ho hst hva kk => ?_) kk
  have hi : in32 i := okh (okt hst)
  change W p l e R s m args below meth c H locs C S Qr (F0 m pc ls (rR G x :: .int (Int32.ofInt i) :: rR G o :: st.map (rV G)))
  rw [rR_dyn hO.1, rR_dyn hX.1]
  have hP := hS.arr hO (ent_ref hO.2.2.1 hkd) 0 _ rfl
  rw [hO.2.2.2] at hP
  have hPx := (hS.2.2.1 x hX.1 hX.2.1).2.2.2
  rw [ent_obj hX.2.2 hci] at hPx
  obtain ⟨r', hr', cellV, g1, g2, g3, -⟩ := hPx
  have hK := hC.2.2.2.2.2.2.1.1.1
  have hcls := (hK.1 ci _ (cl_at hci)).2
  obtain ⟨kA, comp, k1, k2, k3, -⟩ := (hK.2 t0 _ (ht G)).2
  have hcomp : comp = (gD G).1 ci := Option.some.inj (k3.symm.trans hcls.1)
  subst hcomp
  obtain ⟨kC, hkC, -⟩ := hcls.2
  refine W.aast hC.1 hC.2.1 (cell := vp_cell (gC G kd) (n.toNat, .inr (.inr (.inr (.inr fun j => rO G (hv A o j)))))) hP (fun q h => by cases h) (fun h => by cases h) k1 k2 rfl hkC ⟨by rw [i32_0, i32_lt hi (by decide)]; omega, by show _ < (arrV _ _ _).slots.size; rw [arrV_size, i32_n hi]; omega⟩ g1 (fun q h => by rw [g3] at h; cases h) (by rw [g2]; exact hkC) (by rw [g2]; exact va_assign hcls) rfl rfl hd fun H1 e z oq => ?_
  rw [i32_n hi] at e
  refine kk H1 _ (hS.put hO.1 hO.2.1 ?_ z oq (by rw [hO.2.2.1]; exact okS_r hkd)) (hva.put z oq (frA_dyn hO.1)) (okt (okt (okt hst)))
  rw [ent_ref (A := hset A o i x) (kd := kd) (by rw [hk_set]; exact hO.2.2.1) hkd]
  show H1[rA G o]? = some (vp_cell _ _)
  rw [e, hl_set, hO.2.2.2, vp_cell_q, vp_cell_q, arrV_store]
  congr 2
  funext q
  unfold updV
  rw [hv_set]
  by_cases hq : q = i.toNat
  · rw [if_pos hq, if_pos ⟨rfl, by omega⟩, rO_rf, rR_dyn hX.1]
  · rw [if_neg hq, if_neg (by omega)]
end ARS
