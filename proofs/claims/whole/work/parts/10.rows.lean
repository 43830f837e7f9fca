/-! ===== rows: an instruction each ===== -/
theorem okc {a : AV} {st : List AV} (h : okV a) (hs : ∀ x ∈ st, okV x) : ∀ x ∈ a :: st, okV x := fun x hx => (List.mem_cons.mp hx).elim (fun e => e ▸ h) (hs x)
theorem okt {a : AV} {st : List AV} (hs : ∀ x ∈ a :: st, okV x) : ∀ x ∈ st, okV x := fun x hx => hs x (List.mem_cons_of_mem _ hx)
theorem okh {a : AV} {st : List AV} (hs : ∀ x ∈ a :: st, okV x) : okV a := hs a List.mem_cons_self
theorem aw_iconst {d : Nat} {M : MD} {pc pc' : Nat} {lv : LV} {st : List AV} {A : AHp} {Q : Option AV → AHp → Prop} {n : Int} (hn : -128 ≤ n ∧ n ≤ 127) (hd : decode M.2.1 pc = .ok (.iconst n, 1)) (hp : pc + 1 = pc') (k : AW d M pc' lv (vi n :: st) A Q) : AW d M pc lv st A Q := by
  subst hp
  refine AW.pure (fun l G p e R s m args below meth c H locs ls C S Qr hC hS hl ho hst hva kk => ?_) k
  exact lv_iconst hC.1 hC.2.1 hd rfl (kk ls hl ho (okc (by show in32 n; unfold in32; omega) hst))
theorem aw_bipush {d : Nat} {M : MD} {pc pc' : Nat} {lv : LV} {st : List AV} {A : AHp} {Q : Option AV → AHp → Prop} {n : Int} (hn : (Int8.ofInt n).toInt32 = Int32.ofInt n ∧ -128 ≤ n ∧ n ≤ 127) (hd : decode M.2.1 pc = .ok (.bipush n, 2)) (hp : pc + 2 = pc') (k : AW d M pc' lv (vi n :: st) A Q) : AW d M pc lv st A Q := by
  subst hp
  refine AW.pure (fun l G p e R s m args below meth c H locs ls C S Qr hC hS hl ho hst hva kk => ?_) k
  exact lv_bipush hC.1 hC.2.1 hd hn.1 (kk ls hl ho (okc (by show in32 n; unfold in32; omega) hst))
theorem aw_sipush {d : Nat} {M : MD} {pc pc' : Nat} {lv : LV} {st : List AV} {A : AHp} {Q : Option AV → AHp → Prop} {n : Int} (hn : (Int16.ofInt n).toInt32 = Int32.ofInt n ∧ -32768 ≤ n ∧ n ≤ 32767) (hd : decode M.2.1 pc = .ok (.sipush n, 3)) (hp : pc + 3 = pc') (k : AW d M pc' lv (vi n :: st) A Q) : AW d M pc lv st A Q := by
  subst hp
  refine AW.pure (fun l G p e R s m args below meth c H locs ls C S Qr hC hS hl ho hst hva kk => ?_) k
  exact lv_sipush hC.1 hC.2.1 hd hn.1 (kk ls hl ho (okc (by show in32 n; unfold in32; omega) hst))
theorem aw_lconst {d : Nat} {M : MD} {pc pc' : Nat} {lv : LV} {st : List AV} {A : AHp} {Q : Option AV → AHp → Prop} {n : Fin 2} {x : Int} (hn : Int64.ofNat (n : Nat) = Int64.ofInt x ∧ 0 ≤ x ∧ x ≤ 1) (hd : decode M.2.1 pc = .ok (.lconst n, 1)) (hp : pc + 1 = pc') (k : AW d M pc' lv (vl x :: st) A Q) : AW d M pc lv st A Q := by
  subst hp
  refine AW.pure (fun l G p e R s m args below meth c H locs ls C S Qr hC hS hl ho hst hva kk => ?_) k
  exact lv_lconst hC.1 hC.2.1 hd hn.1 (kk ls hl ho (okc (by show in64 x; unfold in64; omega) hst))
theorem aw_null {d : Nat} {M : MD} {pc pc' : Nat} {lv : LV} {st : List AV} {A : AHp} {Q : Option AV → AHp → Prop}  (hd : decode M.2.1 pc = .ok (.aconst_null, 1)) (hp : pc + 1 = pc') (k : AW d M pc' lv (vr 0 :: st) A Q) : AW d M pc lv st A Q := by
  subst hp
  refine AW.pure (fun l G p e R s m args below meth c H locs ls C S Qr hC hS hl ho hst hva kk => ?_) k
  exact lv_null hC.1 hC.2.1 hd (kk ls hl ho (okc trivial hst))
theorem aw_ldc {d : Nat} {M : MD} {pc pc' : Nat} {lv : LV} {st : List AV} {A : AHp} {Q : Option AV → AHp → Prop} {idx : Nat} {x : Int} (hw : Cond.constant M.1.cls idx (Int32.ofInt x) ∈ TB) (hx : in32 x) (hd : decode M.2.1 pc = .ok (.ldc idx, 2)) (hp : pc + 2 = pc') (k : AW d M pc' lv (vi x :: st) A Q) : AW d M pc lv st A Q := by
  subst hp
  refine AW.pure (fun l G p e R s m args below meth c H locs ls C S Qr hC hS hl ho hst hva kk => ?_) k
  exact lv_ldc hC.1 hC.2.1 hC.2.2.2.2.1 (hC.2.2.2.2.2.1 _ hw) hd (kk ls hl ho (okc hx hst))
theorem aw_ldc2 {d : Nat} {M : MD} {pc pc' : Nat} {lv : LV} {st : List AV} {A : AHp} {Q : Option AV → AHp → Prop} {idx : Nat} {x : Int} (hw : Cond.constantLong M.1.cls idx (Int64.ofInt x) ∈ TB) (hx : in64 x) (hd : decode M.2.1 pc = .ok (.ldc2_w idx, 3)) (hp : pc + 3 = pc') (k : AW d M pc' lv (vl x :: st) A Q) : AW d M pc lv st A Q := by
  subst hp
  refine AW.pure (fun l G p e R s m args below meth c H locs ls C S Qr hC hS hl ho hst hva kk => ?_) k
  exact lv_ldc2 hC.1 hC.2.1 hC.2.2.2.2.1 (hC.2.2.2.2.2.1 _ hw) hd (kk ls hl ho (okc hx hst))
theorem aw_ldcS {d : Nat} {M : MD} {pc pc' : Nat} {lv : LV} {st : List AV} {A : AHp} {Q : Option AV → AHp → Prop} {idx : Nat} {j : Nat} (hj : j < 14) (hM : M.1.cls = RX13) (hi : mpL.getD j 0 = idx) (hd : decode M.2.1 pc = .ok (.ldc idx, 2)) (hp : pc + 2 = pc') (k : AW d M pc' lv (vr (16 + (j : Int)) :: st) A Q) : AW d M pc lv st A Q := by
  subst hp
  refine AW.pure (fun l G p e R s m args below meth c H locs ls C S Qr hC hS hl ho hst hva kk => ?_) k
  subst hi
  have hz := hC.2.2.2.2.2.2.1.1.2.2.2 j hj
  have hown := hC.2.2.2.2.1
  rw [hM] at hown
  have hr : rR G (16 + (j : Int)) = .ref (gA G (16 + j)) := by
    unfold rR rA
    rw [if_neg (by omega), if_pos (by omega)]
    rw [show (16 + (j : Int)).toNat = 16 + j by omega]
  refine va_ldcS hC.1 hC.2.1 hown hz hd ?_
  rw [← hr]
  exact kk ls hl ho (okc trivial hst)
theorem aw_iload_n {d : Nat} {M : MD} {pc pc' : Nat} {lv : LV} {st : List AV} {A : AHp} {Q : Option AV → AHp → Prop} {i : Fin 4} {x : Int} (hv : lvG lv i = some (vi x)) (hd : decode M.2.1 pc = .ok (.iload_n i, 1)) (hp : pc + 1 = pc') (k : AW d M pc' lv (vi x :: st) A Q) : AW d M pc lv st A Q := by
  subst hp
  refine AW.pure (fun l G p e R s m args below meth c H locs ls C S Qr hC hS hl ho hst hva kk => ?_) k
  exact lv_iload_n hC.1 hC.2.1 hd rfl (hl.at hv) (kk ls hl ho (okc (ho.at hv) hst))
theorem aw_iload {d : Nat} {M : MD} {pc pc' : Nat} {lv : LV} {st : List AV} {A : AHp} {Q : Option AV → AHp → Prop} {i : Nat} {x : Int} (hv : lvG lv i = some (vi x)) (hd : decode M.2.1 pc = .ok (.iload i, 2)) (hp : pc + 2 = pc') (k : AW d M pc' lv (vi x :: st) A Q) : AW d M pc lv st A Q := by
  subst hp
  refine AW.pure (fun l G p e R s m args below meth c H locs ls C S Qr hC hS hl ho hst hva kk => ?_) k
  exact lv_iload hC.1 hC.2.1 hd (hl.at hv) (kk ls hl ho (okc (ho.at hv) hst))
theorem aw_lload_n {d : Nat} {M : MD} {pc pc' : Nat} {lv : LV} {st : List AV} {A : AHp} {Q : Option AV → AHp → Prop} {i : Fin 4} {x : Int} (hv : lvG lv i = some (vl x)) (hd : decode M.2.1 pc = .ok (.lload_n i, 1)) (hp : pc + 1 = pc') (k : AW d M pc' lv (vl x :: st) A Q) : AW d M pc lv st A Q := by
  subst hp
  refine AW.pure (fun l G p e R s m args below meth c H locs ls C S Qr hC hS hl ho hst hva kk => ?_) k
  exact lv_lload_n hC.1 hC.2.1 hd rfl (hl.at hv) (kk ls hl ho (okc (ho.at hv) hst))
theorem aw_lload {d : Nat} {M : MD} {pc pc' : Nat} {lv : LV} {st : List AV} {A : AHp} {Q : Option AV → AHp → Prop} {i : Nat} {x : Int} (hv : lvG lv i = some (vl x)) (hd : decode M.2.1 pc = .ok (.lload i, 2)) (hp : pc + 2 = pc') (k : AW d M pc' lv (vl x :: st) A Q) : AW d M pc lv st A Q := by
  subst hp
  refine AW.pure (fun l G p e R s m args below meth c H locs ls C S Qr hC hS hl ho hst hva kk => ?_) k
  exact lv_lload hC.1 hC.2.1 hd (hl.at hv) (kk ls hl ho (okc (ho.at hv) hst))
theorem aw_aload_n {d : Nat} {M : MD} {pc pc' : Nat} {lv : LV} {st : List AV} {A : AHp} {Q : Option AV → AHp → Prop} {i : Fin 4} {x : Int} (hv : lvG lv i = some (vr x)) (hd : decode M.2.1 pc = .ok (.aload_n i, 1)) (hp : pc + 1 = pc') (k : AW d M pc' lv (vr x :: st) A Q) : AW d M pc lv st A Q := by
  subst hp
  refine AW.pure (fun l G p e R s m args below meth c H locs ls C S Qr hC hS hl ho hst hva kk => ?_) k
  have h1 := hl.at hv
  have k1 := kk ls hl ho (okc (ho.at hv) hst)
  change ls[(i : Nat)]? = some (.val (rR G x)) at h1
  change W p l e R s m args below meth c H locs C S Qr (F0 m (pc + 1) ls (rR G x :: st.map (rV G))) at k1
  rcases rR_ref G x with hr | ⟨a, hr⟩
  · rw [hr] at h1 k1
    exact lv_aload_nN hC.1 hC.2.1 hd rfl h1 k1
  · rw [hr] at h1 k1
    exact lv_aload_n hC.1 hC.2.1 hd rfl h1 k1
theorem aw_aload {d : Nat} {M : MD} {pc pc' : Nat} {lv : LV} {st : List AV} {A : AHp} {Q : Option AV → AHp → Prop} {i : Nat} {x : Int} (hv : lvG lv i = some (vr x)) (hd : decode M.2.1 pc = .ok (.aload i, 2)) (hp : pc + 2 = pc') (k : AW d M pc' lv (vr x :: st) A Q) : AW d M pc lv st A Q := by
  subst hp
  refine AW.pure (fun l G p e R s m args below meth c H locs ls C S Qr hC hS hl ho hst hva kk => ?_) k
  have h1 := hl.at hv
  have k1 := kk ls hl ho (okc (ho.at hv) hst)
  change ls[(i : Nat)]? = some (.val (rR G x)) at h1
  change W p l e R s m args below meth c H locs C S Qr (F0 m (pc + 2) ls (rR G x :: st.map (rV G))) at k1
  rcases rR_ref G x with hr | ⟨a, hr⟩
  · rw [hr] at h1 k1
    exact lv_aloadN hC.1 hC.2.1 hd h1 k1
  · rw [hr] at h1 k1
    exact lv_aload hC.1 hC.2.1 hd h1 k1
theorem aw_istore_n {d : Nat} {M : MD} {pc pc' : Nat} {lv : LV} {st : List AV} {A : AHp} {Q : Option AV → AHp → Prop} {lv' : LV} {i : Fin 4} {x : Int} (hd : decode M.2.1 pc = .ok (.istore_n i, 1)) (hp : pc + 1 = pc') (hi : (i : Nat) < M.2.2.1) (hl' : st1 lv i (vi x) = lv') (k : AW d M pc' lv' st A Q) : AW d M pc lv (vi x :: st) A Q := by
  subst hp
  subst hl'
  refine AW.pure (fun l G p e R s m args below meth c H locs ls C S Qr hC hS hl ho hst hva kk => ?_) k
  exact lv_istore_n hC.1 hC.2.1 hd rfl hl.has hi rfl (fun ls' hl2 => kk ls' (lvOK.of1 hl2) (okL_s1 ho (okh hst)) (okt hst))
theorem aw_istore {d : Nat} {M : MD} {pc pc' : Nat} {lv : LV} {st : List AV} {A : AHp} {Q : Option AV → AHp → Prop} {lv' : LV} {i : Nat} {x : Int} (hd : decode M.2.1 pc = .ok (.istore i, 2)) (hp : pc + 2 = pc') (hi : (i : Nat) < M.2.2.1) (hl' : st1 lv i (vi x) = lv') (k : AW d M pc' lv' st A Q) : AW d M pc lv (vi x :: st) A Q := by
  subst hp
  subst hl'
  refine AW.pure (fun l G p e R s m args below meth c H locs ls C S Qr hC hS hl ho hst hva kk => ?_) k
  exact lv_istore hC.1 hC.2.1 hd hl.has hi rfl (fun ls' hl2 => kk ls' (lvOK.of1 hl2) (okL_s1 ho (okh hst)) (okt hst))
theorem aw_lstore_n {d : Nat} {M : MD} {pc pc' : Nat} {lv : LV} {st : List AV} {A : AHp} {Q : Option AV → AHp → Prop} {lv' : LV} {i : Fin 4} {x : Int} (hd : decode M.2.1 pc = .ok (.lstore_n i, 1)) (hp : pc + 1 = pc') (hi : (i : Nat) + 1 < M.2.2.1) (hl' : st2 lv i (vl x) = lv') (k : AW d M pc' lv' st A Q) : AW d M pc lv (vl x :: st) A Q := by
  subst hp
  subst hl'
  refine AW.pure (fun l G p e R s m args below meth c H locs ls C S Qr hC hS hl ho hst hva kk => ?_) k
  exact lv_lstore_n hC.1 hC.2.1 hd rfl hl.has hi rfl (fun ls' hl2 => kk ls' (lvOK.of2 hl2) (okL_s2 ho (okh hst)) (okt hst))
theorem aw_lstore {d : Nat} {M : MD} {pc pc' : Nat} {lv : LV} {st : List AV} {A : AHp} {Q : Option AV → AHp → Prop} {lv' : LV} {i : Nat} {x : Int} (hd : decode M.2.1 pc = .ok (.lstore i, 2)) (hp : pc + 2 = pc') (hi : (i : Nat) + 1 < M.2.2.1) (hl' : st2 lv i (vl x) = lv') (k : AW d M pc' lv' st A Q) : AW d M pc lv (vl x :: st) A Q := by
  subst hp
  subst hl'
  refine AW.pure (fun l G p e R s m args below meth c H locs ls C S Qr hC hS hl ho hst hva kk => ?_) k
  exact lv_lstore hC.1 hC.2.1 hd hl.has hi rfl (fun ls' hl2 => kk ls' (lvOK.of2 hl2) (okL_s2 ho (okh hst)) (okt hst))
theorem aw_astore_n {d : Nat} {M : MD} {pc pc' : Nat} {lv : LV} {st : List AV} {A : AHp} {Q : Option AV → AHp → Prop} {lv' : LV} {i : Fin 4} {x : Int} (hd : decode M.2.1 pc = .ok (.astore_n i, 1)) (hp : pc + 1 = pc') (hi : (i : Nat) < M.2.2.1) (hl' : st1 lv i (vr x) = lv') (k : AW d M pc' lv' st A Q) : AW d M pc lv (vr x :: st) A Q := by
  subst hp
  subst hl'
  refine AW.pure (fun l G p e R s m args below meth c H locs ls C S Qr hC hS hl ho hst hva kk => ?_) k
  change W p l e R s m args below meth c H locs C S Qr (F0 m pc ls (rR G x :: st.map (rV G)))
  rcases rR_ref G x with hr | ⟨a, hr⟩
  · rw [hr]
    exact lv_astore_nN hC.1 hC.2.1 hd rfl hl.has hi rfl (fun ls' hl2 => kk ls' (lvOK.of1 (v := vr x) (by show lv_has ls' _ ((_, rR G x) :: _); rw [hr]; exact hl2)) (okL_s1 ho trivial) (okt hst))
  · rw [hr]
    exact lv_astore_n hC.1 hC.2.1 hd rfl hl.has hi rfl (fun ls' hl2 => kk ls' (lvOK.of1 (v := vr x) (by show lv_has ls' _ ((_, rR G x) :: _); rw [hr]; exact hl2)) (okL_s1 ho trivial) (okt hst))
theorem aw_astore {d : Nat} {M : MD} {pc pc' : Nat} {lv : LV} {st : List AV} {A : AHp} {Q : Option AV → AHp → Prop} {lv' : LV} {i : Nat} {x : Int} (hd : decode M.2.1 pc = .ok (.astore i, 2)) (hp : pc + 2 = pc') (hi : (i : Nat) < M.2.2.1) (hl' : st1 lv i (vr x) = lv') (k : AW d M pc' lv' st A Q) : AW d M pc lv (vr x :: st) A Q := by
  subst hp
  subst hl'
  refine AW.pure (fun l G p e R s m args below meth c H locs ls C S Qr hC hS hl ho hst hva kk => ?_) k
  change W p l e R s m args below meth c H locs C S Qr (F0 m pc ls (rR G x :: st.map (rV G)))
  rcases rR_ref G x with hr | ⟨a, hr⟩
  · rw [hr]
    exact lv_astoreN hC.1 hC.2.1 hd hl.has hi rfl (fun ls' hl2 => kk ls' (lvOK.of1 (v := vr x) (by show lv_has ls' _ ((_, rR G x) :: _); rw [hr]; exact hl2)) (okL_s1 ho trivial) (okt hst))
  · rw [hr]
    exact lv_astore hC.1 hC.2.1 hd hl.has hi rfl (fun ls' hl2 => kk ls' (lvOK.of1 (v := vr x) (by show lv_has ls' _ ((_, rR G x) :: _); rw [hr]; exact hl2)) (okL_s1 ho trivial) (okt hst))
theorem aw_iinc {d : Nat} {M : MD} {pc pc' : Nat} {lv : LV} {st : List AV} {A : AHp} {Q : Option AV → AHp → Prop} {lv' : LV} {i : Nat} {n x y : Int} (hd : decode M.2.1 pc = .ok (.iinc i n, 3)) (hp : pc + 3 = pc') (hv : lvG lv i = some (vi x)) (hi : i < M.2.2.1) (hy : w32 (x + n) = y) (hl' : st1 lv i (vi y) = lv') (k : AW d M pc' lv' st A Q) : AW d M pc lv st A Q := by
  subst hp
  subst hl'
  subst hy
  refine AW.pure (fun l G p e R s m args below meth c H locs ls C S Qr hC hS hl ho hst hva kk => ?_) k
  obtain ⟨j, hj⟩ := List.getElem?_of_mem (lvR_mem.mpr ⟨vi x, lvG_iff.mp hv, rfl⟩ : (i, rV G (vi x)) ∈ lvR G lv)
  exact lv_iinc (v := Int32.ofInt (w32 (x + n))) hC.1 hC.2.1 hd hl.has hj (by rw [i32_w, Int32.ofInt_add]) hi rfl (fun ls' hl2 => kk ls' (lvOK.of1 (v := vi (w32 (x + n))) hl2) (okL_s1 ho (w32_in _)) hst)
theorem aw_iadd {d : Nat} {M : MD} {pc pc' : Nat} {lv : LV} {st : List AV} {A : AHp} {Q : Option AV → AHp → Prop} {x y z : Int} (hz : w32 (x + y) = z) (hd : decode M.2.1 pc = .ok (.iadd, 1)) (hp : pc + 1 = pc') (k : AW d M pc' lv (vi z :: st) A Q) : AW d M pc lv (vi y :: vi x :: st) A Q := by
  subst hp
  refine AW.pure (fun l G p e R s m args below meth c H locs ls C S Qr hC hS hl ho hst hva kk => ?_) k
  subst hz
  have hy : in32 y := okh hst
  have hx : in32 x := okh (okt hst)
  have k1 := kk ls hl ho (okc (w32_in _) (okt (okt hst)))
  refine lv_iadd hC.1 hC.2.1 hd ?_
  rw [i32_add]
  exact k1
theorem aw_isub {d : Nat} {M : MD} {pc pc' : Nat} {lv : LV} {st : List AV} {A : AHp} {Q : Option AV → AHp → Prop} {x y z : Int} (hz : w32 (x - y) = z) (hd : decode M.2.1 pc = .ok (.isub, 1)) (hp : pc + 1 = pc') (k : AW d M pc' lv (vi z :: st) A Q) : AW d M pc lv (vi y :: vi x :: st) A Q := by
  subst hp
  refine AW.pure (fun l G p e R s m args below meth c H locs ls C S Qr hC hS hl ho hst hva kk => ?_) k
  subst hz
  have hy : in32 y := okh hst
  have hx : in32 x := okh (okt hst)
  have k1 := kk ls hl ho (okc (w32_in _) (okt (okt hst)))
  refine lv_isub hC.1 hC.2.1 hd ?_
  rw [i32_sub]
  exact k1
theorem aw_imul {d : Nat} {M : MD} {pc pc' : Nat} {lv : LV} {st : List AV} {A : AHp} {Q : Option AV → AHp → Prop} {x y z : Int} (hz : w32 (x * y) = z) (hd : decode M.2.1 pc = .ok (.imul, 1)) (hp : pc + 1 = pc') (k : AW d M pc' lv (vi z :: st) A Q) : AW d M pc lv (vi y :: vi x :: st) A Q := by
  subst hp
  refine AW.pure (fun l G p e R s m args below meth c H locs ls C S Qr hC hS hl ho hst hva kk => ?_) k
  subst hz
  have hy : in32 y := okh hst
  have hx : in32 x := okh (okt hst)
  have k1 := kk ls hl ho (okc (w32_in _) (okt (okt hst)))
  refine lv_imul hC.1 hC.2.1 hd ?_
  rw [i32_mul]
  exact k1
theorem aw_irem {d : Nat} {M : MD} {pc pc' : Nat} {lv : LV} {st : List AV} {A : AHp} {Q : Option AV → AHp → Prop} {x y z : Int} (hne : ¬ y = 0) (hz : x.tmod y = z) (hd : decode M.2.1 pc = .ok (.irem, 1)) (hp : pc + 1 = pc') (k : AW d M pc' lv (vi z :: st) A Q) : AW d M pc lv (vi y :: vi x :: st) A Q := by
  subst hp
  refine AW.pure (fun l G p e R s m args below meth c H locs ls C S Qr hC hS hl ho hst hva kk => ?_) k
  subst hz
  have hy : in32 y := okh hst
  have hx : in32 x := okh (okt hst)
  have k1 := kk ls hl ho (okc (w_tmod hx hy) (okt (okt hst)))
  refine lv_irem hC.1 hC.2.1 hd (by rw [i32_0, i32_eq hy (by decide)]; exact hne) ?_
  rw [i32_rem hx hy]
  exact k1
theorem aw_iand {d : Nat} {M : MD} {pc pc' : Nat} {lv : LV} {st : List AV} {A : AHp} {Q : Option AV → AHp → Prop} {x y z : Int} (hz : (Int32.ofInt x &&& Int32.ofInt y).toInt = z) (hd : decode M.2.1 pc = .ok (.iand, 1)) (hp : pc + 1 = pc') (k : AW d M pc' lv (vi z :: st) A Q) : AW d M pc lv (vi y :: vi x :: st) A Q := by
  subst hp
  refine AW.pure (fun l G p e R s m args below meth c H locs ls C S Qr hC hS hl ho hst hva kk => ?_) k
  subst hz
  have k1 := kk ls hl ho (okc (i32_in _) (okt (okt hst)))
  refine lv_iand hC.1 hC.2.1 hd ?_
  change W p l e R s m args below meth c H locs C S Qr (F0 m (pc + 1) ls (.int (Int32.ofInt _) :: st.map (rV G))) at k1
  rw [i32_of] at k1
  exact k1
theorem aw_land {d : Nat} {M : MD} {pc pc' : Nat} {lv : LV} {st : List AV} {A : AHp} {Q : Option AV → AHp → Prop} {x y z : Int} (hz : (Int64.ofInt x &&& Int64.ofInt y).toInt = z) (hd : decode M.2.1 pc = .ok (.land, 1)) (hp : pc + 1 = pc') (k : AW d M pc' lv (vl z :: st) A Q) : AW d M pc lv (vl y :: vl x :: st) A Q := by
  subst hp
  refine AW.pure (fun l G p e R s m args below meth c H locs ls C S Qr hC hS hl ho hst hva kk => ?_) k
  subst hz
  have k1 := kk ls hl ho (okc (i64_in _) (okt (okt hst)))
  refine lv_land hC.1 hC.2.1 hd ?_
  change W p l e R s m args below meth c H locs C S Qr (F0 m (pc + 1) ls (.long (Int64.ofInt _) :: st.map (rV G))) at k1
  rw [i64_of] at k1
  exact k1
theorem aw_lor {d : Nat} {M : MD} {pc pc' : Nat} {lv : LV} {st : List AV} {A : AHp} {Q : Option AV → AHp → Prop} {x y z : Int} (hz : (Int64.ofInt x ||| Int64.ofInt y).toInt = z) (hd : decode M.2.1 pc = .ok (.lor, 1)) (hp : pc + 1 = pc') (k : AW d M pc' lv (vl z :: st) A Q) : AW d M pc lv (vl y :: vl x :: st) A Q := by
  subst hp
  refine AW.pure (fun l G p e R s m args below meth c H locs ls C S Qr hC hS hl ho hst hva kk => ?_) k
  subst hz
  have k1 := kk ls hl ho (okc (i64_in _) (okt (okt hst)))
  refine lv_lor hC.1 hC.2.1 hd ?_
  change W p l e R s m args below meth c H locs C S Qr (F0 m (pc + 1) ls (.long (Int64.ofInt _) :: st.map (rV G))) at k1
  rw [i64_of] at k1
  exact k1
theorem aw_ladd {d : Nat} {M : MD} {pc pc' : Nat} {lv : LV} {st : List AV} {A : AHp} {Q : Option AV → AHp → Prop} {x y z : Int} (hz : w64 (x + y) = z) (hd : decode M.2.1 pc = .ok (.ladd, 1)) (hp : pc + 1 = pc') (k : AW d M pc' lv (vl z :: st) A Q) : AW d M pc lv (vl y :: vl x :: st) A Q := by
  subst hp
  refine AW.pure (fun l G p e R s m args below meth c H locs ls C S Qr hC hS hl ho hst hva kk => ?_) k
  subst hz
  have k1 := kk ls hl ho (okc (w64_in _) (okt (okt hst)))
  refine lv_ladd hC.1 hC.2.1 hd ?_
  rw [i64_add]
  exact k1
theorem aw_lneg {d : Nat} {M : MD} {pc pc' : Nat} {lv : LV} {st : List AV} {A : AHp} {Q : Option AV → AHp → Prop} {x z : Int} (hz : w64 (-x) = z) (hd : decode M.2.1 pc = .ok (.lneg, 1)) (hp : pc + 1 = pc') (k : AW d M pc' lv (vl z :: st) A Q) : AW d M pc lv (vl x :: st) A Q := by
  subst hp
  refine AW.pure (fun l G p e R s m args below meth c H locs ls C S Qr hC hS hl ho hst hva kk => ?_) k
  subst hz
  have k1 := kk ls hl ho (okc (w64_in _) (okt hst))
  refine lv_lneg hC.1 hC.2.1 hd ?_
  rw [i64_neg]
  exact k1
theorem aw_lshl {d : Nat} {M : MD} {pc pc' : Nat} {lv : LV} {st : List AV} {A : AHp} {Q : Option AV → AHp → Prop} {x y z : Int} (hz : (Int64.ofInt x <<< ((Int32.ofInt y).toInt64 &&& 63)).toInt = z) (hd : decode M.2.1 pc = .ok (.lshl, 1)) (hp : pc + 1 = pc') (k : AW d M pc' lv (vl z :: st) A Q) : AW d M pc lv (vi y :: vl x :: st) A Q := by
  subst hp
  refine AW.pure (fun l G p e R s m args below meth c H locs ls C S Qr hC hS hl ho hst hva kk => ?_) k
  subst hz
  have k1 := kk ls hl ho (okc (i64_in _) (okt (okt hst)))
  refine lv_lshl hC.1 hC.2.1 hd rfl ?_
  change W p l e R s m args below meth c H locs C S Qr (F0 m (pc + 1) ls (.long (Int64.ofInt _) :: st.map (rV G))) at k1
  rw [i64_of] at k1
  exact k1
theorem aw_ldiv {d : Nat} {M : MD} {pc pc' : Nat} {lv : LV} {st : List AV} {A : AHp} {Q : Option AV → AHp → Prop} {x y z : Int} (hne : ¬ y = 0) (hz : w64 (x.tdiv y) = z) (hd : decode M.2.1 pc = .ok (.ldiv, 1)) (hp : pc + 1 = pc') (k : AW d M pc' lv (vl z :: st) A Q) : AW d M pc lv (vl y :: vl x :: st) A Q := by
  subst hp
  refine AW.pure (fun l G p e R s m args below meth c H locs ls C S Qr hC hS hl ho hst hva kk => ?_) k
  subst hz
  have hy : in64 y := okh hst
  have hx : in64 x := okh (okt hst)
  have k1 := kk ls hl ho (okc (w64_in _) (okt (okt hst)))
  refine lv_ldiv hC.1 hC.2.1 hd (by rw [i64_0, i64_eq hy (by decide)]; exact hne) ?_
  rw [i64_div hx hy]
  exact k1
theorem aw_lrem {d : Nat} {M : MD} {pc pc' : Nat} {lv : LV} {st : List AV} {A : AHp} {Q : Option AV → AHp → Prop} {x y z : Int} (hne : ¬ y = 0) (hz : x.tmod y = z) (hd : decode M.2.1 pc = .ok (.lrem, 1)) (hp : pc + 1 = pc') (k : AW d M pc' lv (vl z :: st) A Q) : AW d M pc lv (vl y :: vl x :: st) A Q := by
  subst hp
  refine AW.pure (fun l G p e R s m args below meth c H locs ls C S Qr hC hS hl ho hst hva kk => ?_) k
  subst hz
  have hy : in64 y := okh hst
  have hx : in64 x := okh (okt hst)
  have k1 := kk ls hl ho (okc (w_tmod64 hx hy) (okt (okt hst)))
  refine lv_lrem hC.1 hC.2.1 hd (by rw [i64_0, i64_eq hy (by decide)]; exact hne) ?_
  rw [i64_rem hx hy]
  exact k1
theorem aw_i2l {d : Nat} {M : MD} {pc pc' : Nat} {lv : LV} {st : List AV} {A : AHp} {Q : Option AV → AHp → Prop} {x : Int} (hd : decode M.2.1 pc = .ok (.i2l, 1)) (hp : pc + 1 = pc') (k : AW d M pc' lv (vl x :: st) A Q) : AW d M pc lv (vi x :: st) A Q := by
  subst hp
  refine AW.pure (fun l G p e R s m args below meth c H locs ls C S Qr hC hS hl ho hst hva kk => ?_) k
  have hx : in32 x := okh hst
  exact lv_i2l hC.1 hC.2.1 hd (i32_l hx) (kk ls hl ho (okc (in32_64 hx) (okt hst)))
theorem aw_l2i {d : Nat} {M : MD} {pc pc' : Nat} {lv : LV} {st : List AV} {A : AHp} {Q : Option AV → AHp → Prop} {x z : Int} (hz : w32 x = z) (hd : decode M.2.1 pc = .ok (.l2i, 1)) (hp : pc + 1 = pc') (k : AW d M pc' lv (vi z :: st) A Q) : AW d M pc lv (vl x :: st) A Q := by
  subst hp
  refine AW.pure (fun l G p e R s m args below meth c H locs ls C S Qr hC hS hl ho hst hva kk => ?_) k
  subst hz
  have hx : in64 x := okh hst
  exact lv_l2i hC.1 hC.2.1 hd (i64_i hx) (kk ls hl ho (okc (w32_in _) (okt hst)))
theorem aw_i2b {d : Nat} {M : MD} {pc pc' : Nat} {lv : LV} {st : List AV} {A : AHp} {Q : Option AV → AHp → Prop} {x z : Int} (hz : (Int32.ofInt x).toInt8.toInt = z) (hd : decode M.2.1 pc = .ok (.i2b, 1)) (hp : pc + 1 = pc') (k : AW d M pc' lv (vi z :: st) A Q) : AW d M pc lv (vi x :: st) A Q := by
  subst hp
  refine AW.pure (fun l G p e R s m args below meth c H locs ls C S Qr hC hS hl ho hst hva kk => ?_) k
  subst hz
  have hb1 : in32 (Int32.ofInt x).toInt8.toInt := by
    have h1 := Int8.le_toInt (Int32.ofInt x).toInt8
    have h2 := Int8.toInt_lt (Int32.ofInt x).toInt8
    unfold in32
    omega
  exact lv_i2b hC.1 hC.2.1 hd (by apply Int32.toInt_inj.mp; rw [i32_t hb1, Int8.toInt_toInt32]) (kk ls hl ho (okc hb1 (okt hst)))
theorem aw_i2s {d : Nat} {M : MD} {pc pc' : Nat} {lv : LV} {st : List AV} {A : AHp} {Q : Option AV → AHp → Prop} {x z : Int} (hz : (Int32.ofInt x).toInt16.toInt = z) (hd : decode M.2.1 pc = .ok (.i2s, 1)) (hp : pc + 1 = pc') (k : AW d M pc' lv (vi z :: st) A Q) : AW d M pc lv (vi x :: st) A Q := by
  subst hp
  refine AW.pure (fun l G p e R s m args below meth c H locs ls C S Qr hC hS hl ho hst hva kk => ?_) k
  subst hz
  have hb1 : in32 (Int32.ofInt x).toInt16.toInt := by
    have h1 := Int16.le_toInt (Int32.ofInt x).toInt16
    have h2 := Int16.toInt_lt (Int32.ofInt x).toInt16
    unfold in32
    omega
  exact lv_i2s hC.1 hC.2.1 hd (by apply Int32.toInt_inj.mp; rw [i32_t hb1, Int16.toInt_toInt32]) (kk ls hl ho (okc hb1 (okt hst)))
theorem aw_lcmp {d : Nat} {M : MD} {pc pc' : Nat} {lv : LV} {st : List AV} {A : AHp} {Q : Option AV → AHp → Prop} {x y : Int} (hd : decode M.2.1 pc = .ok (.lcmp, 1)) (hp : pc + 1 = pc') (k : AW d M pc' lv (vi (if x = y then 0 else if x < y then -1 else 1) :: st) A Q) : AW d M pc lv (vl y :: vl x :: st) A Q := by
  subst hp
  refine AW.pure (fun l G p e R s m args below meth c H locs ls C S Qr hC hS hl ho hst hva kk => ?_) k
  have hy : in64 y := okh hst
  have hx : in64 x := okh (okt hst)
  have k1 := kk ls hl ho (okc (by show in32 _; split; decide; split <;> decide) (okt (okt hst)))
  refine W.lcmp hC.1 hC.2.1 hd ?_
  rw [lcmp_of hx hy]
  exact k1
theorem aw_dup {d : Nat} {M : MD} {pc pc' : Nat} {lv : LV} {st : List AV} {A : AHp} {Q : Option AV → AHp → Prop} {a : AV} (ha : acat a = 1) (hd : decode M.2.1 pc = .ok (.dup, 1)) (hp : pc + 1 = pc') (k : AW d M pc' lv (a :: a :: st) A Q) : AW d M pc lv (a :: st) A Q := by
  subst hp
  refine AW.pure (fun l G p e R s m args below meth c H locs ls C S Qr hC hS hl ho hst hva kk => ?_) k
  exact lv_dup hC.1 hC.2.1 hd (by rw [rV_cat]; exact ha) (kk ls hl ho (okc (okh hst) hst))
theorem aw_pop {d : Nat} {M : MD} {pc pc' : Nat} {lv : LV} {st : List AV} {A : AHp} {Q : Option AV → AHp → Prop} {a : AV} (ha : acat a = 1) (hd : decode M.2.1 pc = .ok (.pop, 1)) (hp : pc + 1 = pc') (k : AW d M pc' lv st A Q) : AW d M pc lv (a :: st) A Q := by
  subst hp
  refine AW.pure (fun l G p e R s m args below meth c H locs ls C S Qr hC hS hl ho hst hva kk => ?_) k
  exact lv_pop hC.1 hC.2.1 hd (by rw [rV_cat]; exact ha) (kk ls hl ho (okt hst))
theorem aw_dup2 {d : Nat} {M : MD} {pc pc' : Nat} {lv : LV} {st : List AV} {A : AHp} {Q : Option AV → AHp → Prop} {a b : AV} (ha : acat a = 1) (hb : acat b = 1) (hd : decode M.2.1 pc = .ok (.dup2, 1)) (hp : pc + 1 = pc') (k : AW d M pc' lv (a :: b :: a :: b :: st) A Q) : AW d M pc lv (a :: b :: st) A Q := by
  subst hp
  refine AW.pure (fun l G p e R s m args below meth c H locs ls C S Qr hC hS hl ho hst hva kk => ?_) k
  exact lv_dup2_11 hC.1 hC.2.1 hd (by rw [rV_cat]; exact ha) (by rw [rV_cat]; exact hb) (kk ls hl ho (okc (okh hst) (okc (okh (okt hst)) hst)))
theorem aw_goto {d : Nat} {M : MD} {pc pc' : Nat} {lv : LV} {st : List AV} {A : AHp} {Q : Option AV → AHp → Prop} {off : Int} (hd : decode M.2.1 pc = .ok (.goto off, 3)) (hp : (pc : Int) + off = (pc' : Int)) (k : AW d M pc' lv st A Q) : AW d M pc lv st A Q := by
  refine AW.pure (fun l G p e R s m args below meth c H locs ls C S Qr hC hS hl ho hst hva kk => ?_) k
  exact lv_goto hC.1 hC.2.1 hd hp (kk ls hl ho hst)
theorem aw_if_eq {d : Nat} {M : MD} {pc pt pf : Nat} {lv : LV} {st : List AV} {A : AHp} {Q : Option AV → AHp → Prop} {x : Int} {off : Int} (hd : decode M.2.1 pc = .ok (.ifCond .eq off, 3)) (ht : (pc : Int) + off = (pt : Int)) (hf : pc + 3 = pf) (kt : (x = 0) → AW d M pt lv st A Q) (kf : ¬ (x = 0) → AW d M pf lv st A Q) : AW d M pc lv (vi x :: st) A Q := by
  subst hf
  by_cases hc : (x = 0)
  · refine AW.pure (fun l G p e R s m args below meth c H locs ls C S Qr hC hS hl ho hst hva kk => ?_) (kt hc)
    have hx : in32 x := okh hst
    have z0 : in32 (0 : Int) := by decide
    exact lv_if_eq hC.1 hC.2.1 hd ht (fun _ => kk ls hl ho (okt hst)) (fun q => absurd (i32_0 ▸ (i32_eq hx z0).mpr hc) q)
  · refine AW.pure (fun l G p e R s m args below meth c H locs ls C S Qr hC hS hl ho hst hva kk => ?_) (kf hc)
    have hx : in32 x := okh hst
    have z0 : in32 (0 : Int) := by decide
    exact lv_if_eq hC.1 hC.2.1 hd ht (fun q => absurd ((i32_eq hx z0).mp (i32_0 ▸ q)) hc) (fun _ => kk ls hl ho (okt hst))
theorem aw_if_ne {d : Nat} {M : MD} {pc pt pf : Nat} {lv : LV} {st : List AV} {A : AHp} {Q : Option AV → AHp → Prop} {x : Int} {off : Int} (hd : decode M.2.1 pc = .ok (.ifCond .ne off, 3)) (ht : (pc : Int) + off = (pt : Int)) (hf : pc + 3 = pf) (kt : (¬ x = 0) → AW d M pt lv st A Q) (kf : ¬ (¬ x = 0) → AW d M pf lv st A Q) : AW d M pc lv (vi x :: st) A Q := by
  subst hf
  by_cases hc : (¬ x = 0)
  · refine AW.pure (fun l G p e R s m args below meth c H locs ls C S Qr hC hS hl ho hst hva kk => ?_) (kt hc)
    have hx : in32 x := okh hst
    have z0 : in32 (0 : Int) := by decide
    exact lv_if_ne hC.1 hC.2.1 hd ht (fun _ => kk ls hl ho (okt hst)) (fun q => absurd ((i32_eq hx z0).mp (i32_0 ▸ q)) hc)
  · refine AW.pure (fun l G p e R s m args below meth c H locs ls C S Qr hC hS hl ho hst hva kk => ?_) (kf hc)
    have hx : in32 x := okh hst
    have z0 : in32 (0 : Int) := by decide
    exact lv_if_ne hC.1 hC.2.1 hd ht (fun q => absurd (i32_0 ▸ (i32_eq hx z0).mpr (Classical.not_not.mp hc)) q) (fun _ => kk ls hl ho (okt hst))
theorem aw_if_lt {d : Nat} {M : MD} {pc pt pf : Nat} {lv : LV} {st : List AV} {A : AHp} {Q : Option AV → AHp → Prop} {x : Int} {off : Int} (hd : decode M.2.1 pc = .ok (.ifCond .lt off, 3)) (ht : (pc : Int) + off = (pt : Int)) (hf : pc + 3 = pf) (kt : (x < 0) → AW d M pt lv st A Q) (kf : ¬ (x < 0) → AW d M pf lv st A Q) : AW d M pc lv (vi x :: st) A Q := by
  subst hf
  by_cases hc : (x < 0)
  · refine AW.pure (fun l G p e R s m args below meth c H locs ls C S Qr hC hS hl ho hst hva kk => ?_) (kt hc)
    have hx : in32 x := okh hst
    have z0 : in32 (0 : Int) := by decide
    exact lv_if_lt hC.1 hC.2.1 hd ht (fun _ => kk ls hl ho (okt hst)) (fun q => absurd (i32_0 ▸ (i32_lt hx z0).mpr hc) q)
  · refine AW.pure (fun l G p e R s m args below meth c H locs ls C S Qr hC hS hl ho hst hva kk => ?_) (kf hc)
    have hx : in32 x := okh hst
    have z0 : in32 (0 : Int) := by decide
    exact lv_if_lt hC.1 hC.2.1 hd ht (fun q => absurd ((i32_lt hx z0).mp (i32_0 ▸ q)) hc) (fun _ => kk ls hl ho (okt hst))
theorem aw_if_ge {d : Nat} {M : MD} {pc pt pf : Nat} {lv : LV} {st : List AV} {A : AHp} {Q : Option AV → AHp → Prop} {x : Int} {off : Int} (hd : decode M.2.1 pc = .ok (.ifCond .ge off, 3)) (ht : (pc : Int) + off = (pt : Int)) (hf : pc + 3 = pf) (kt : (0 ≤ x) → AW d M pt lv st A Q) (kf : ¬ (0 ≤ x) → AW d M pf lv st A Q) : AW d M pc lv (vi x :: st) A Q := by
  subst hf
  by_cases hc : (0 ≤ x)
  · refine AW.pure (fun l G p e R s m args below meth c H locs ls C S Qr hC hS hl ho hst hva kk => ?_) (kt hc)
    have hx : in32 x := okh hst
    have z0 : in32 (0 : Int) := by decide
    exact lv_if_ge hC.1 hC.2.1 hd ht (fun _ => kk ls hl ho (okt hst)) (fun q => absurd (i32_0 ▸ (i32_le z0 hx).mpr hc) q)
  · refine AW.pure (fun l G p e R s m args below meth c H locs ls C S Qr hC hS hl ho hst hva kk => ?_) (kf hc)
    have hx : in32 x := okh hst
    have z0 : in32 (0 : Int) := by decide
    exact lv_if_ge hC.1 hC.2.1 hd ht (fun q => absurd ((i32_le z0 hx).mp (i32_0 ▸ q)) hc) (fun _ => kk ls hl ho (okt hst))
theorem aw_if_gt {d : Nat} {M : MD} {pc pt pf : Nat} {lv : LV} {st : List AV} {A : AHp} {Q : Option AV → AHp → Prop} {x : Int} {off : Int} (hd : decode M.2.1 pc = .ok (.ifCond .gt off, 3)) (ht : (pc : Int) + off = (pt : Int)) (hf : pc + 3 = pf) (kt : (0 < x) → AW d M pt lv st A Q) (kf : ¬ (0 < x) → AW d M pf lv st A Q) : AW d M pc lv (vi x :: st) A Q := by
  subst hf
  by_cases hc : (0 < x)
  · refine AW.pure (fun l G p e R s m args below meth c H locs ls C S Qr hC hS hl ho hst hva kk => ?_) (kt hc)
    have hx : in32 x := okh hst
    have z0 : in32 (0 : Int) := by decide
    exact lv_if_gt hC.1 hC.2.1 hd ht (fun _ => kk ls hl ho (okt hst)) (fun q => absurd (i32_0 ▸ (i32_lt z0 hx).mpr hc) q)
  · refine AW.pure (fun l G p e R s m args below meth c H locs ls C S Qr hC hS hl ho hst hva kk => ?_) (kf hc)
    have hx : in32 x := okh hst
    have z0 : in32 (0 : Int) := by decide
    exact lv_if_gt hC.1 hC.2.1 hd ht (fun q => absurd ((i32_lt z0 hx).mp (i32_0 ▸ q)) hc) (fun _ => kk ls hl ho (okt hst))
theorem aw_if_le {d : Nat} {M : MD} {pc pt pf : Nat} {lv : LV} {st : List AV} {A : AHp} {Q : Option AV → AHp → Prop} {x : Int} {off : Int} (hd : decode M.2.1 pc = .ok (.ifCond .le off, 3)) (ht : (pc : Int) + off = (pt : Int)) (hf : pc + 3 = pf) (kt : (x ≤ 0) → AW d M pt lv st A Q) (kf : ¬ (x ≤ 0) → AW d M pf lv st A Q) : AW d M pc lv (vi x :: st) A Q := by
  subst hf
  by_cases hc : (x ≤ 0)
  · refine AW.pure (fun l G p e R s m args below meth c H locs ls C S Qr hC hS hl ho hst hva kk => ?_) (kt hc)
    have hx : in32 x := okh hst
    have z0 : in32 (0 : Int) := by decide
    exact lv_if_le hC.1 hC.2.1 hd ht (fun _ => kk ls hl ho (okt hst)) (fun q => absurd (i32_0 ▸ (i32_le hx z0).mpr hc) q)
  · refine AW.pure (fun l G p e R s m args below meth c H locs ls C S Qr hC hS hl ho hst hva kk => ?_) (kf hc)
    have hx : in32 x := okh hst
    have z0 : in32 (0 : Int) := by decide
    exact lv_if_le hC.1 hC.2.1 hd ht (fun q => absurd ((i32_le hx z0).mp (i32_0 ▸ q)) hc) (fun _ => kk ls hl ho (okt hst))
theorem aw_icmp_eq {d : Nat} {M : MD} {pc pt pf : Nat} {lv : LV} {st : List AV} {A : AHp} {Q : Option AV → AHp → Prop} {x y : Int} {off : Int} (hd : decode M.2.1 pc = .ok (.if_icmp .eq off, 3)) (ht : (pc : Int) + off = (pt : Int)) (hf : pc + 3 = pf) (kt : (x = y) → AW d M pt lv st A Q) (kf : ¬ (x = y) → AW d M pf lv st A Q) : AW d M pc lv (vi y :: vi x :: st) A Q := by
  subst hf
  by_cases hc : (x = y)
  · refine AW.pure (fun l G p e R s m args below meth c H locs ls C S Qr hC hS hl ho hst hva kk => ?_) (kt hc)
    have hy : in32 y := okh hst
    have hx : in32 x := okh (okt hst)
    exact lv_icmp_eq hC.1 hC.2.1 hd ht (fun _ => kk ls hl ho (okt (okt hst))) (fun q => absurd ((i32_eq hx hy).mpr hc) q)
  · refine AW.pure (fun l G p e R s m args below meth c H locs ls C S Qr hC hS hl ho hst hva kk => ?_) (kf hc)
    have hy : in32 y := okh hst
    have hx : in32 x := okh (okt hst)
    exact lv_icmp_eq hC.1 hC.2.1 hd ht (fun q => absurd ((i32_eq hx hy).mp q) hc) (fun _ => kk ls hl ho (okt (okt hst)))
theorem aw_icmp_ne {d : Nat} {M : MD} {pc pt pf : Nat} {lv : LV} {st : List AV} {A : AHp} {Q : Option AV → AHp → Prop} {x y : Int} {off : Int} (hd : decode M.2.1 pc = .ok (.if_icmp .ne off, 3)) (ht : (pc : Int) + off = (pt : Int)) (hf : pc + 3 = pf) (kt : (¬ x = y) → AW d M pt lv st A Q) (kf : ¬ (¬ x = y) → AW d M pf lv st A Q) : AW d M pc lv (vi y :: vi x :: st) A Q := by
  subst hf
  by_cases hc : (¬ x = y)
  · refine AW.pure (fun l G p e R s m args below meth c H locs ls C S Qr hC hS hl ho hst hva kk => ?_) (kt hc)
    have hy : in32 y := okh hst
    have hx : in32 x := okh (okt hst)
    exact lv_icmp_ne hC.1 hC.2.1 hd ht (fun _ => kk ls hl ho (okt (okt hst))) (fun q => absurd ((i32_eq hx hy).mp q) hc)
  · refine AW.pure (fun l G p e R s m args below meth c H locs ls C S Qr hC hS hl ho hst hva kk => ?_) (kf hc)
    have hy : in32 y := okh hst
    have hx : in32 x := okh (okt hst)
    exact lv_icmp_ne hC.1 hC.2.1 hd ht (fun q => absurd ((i32_eq hx hy).mpr (Classical.not_not.mp hc)) q) (fun _ => kk ls hl ho (okt (okt hst)))
theorem aw_icmp_lt {d : Nat} {M : MD} {pc pt pf : Nat} {lv : LV} {st : List AV} {A : AHp} {Q : Option AV → AHp → Prop} {x y : Int} {off : Int} (hd : decode M.2.1 pc = .ok (.if_icmp .lt off, 3)) (ht : (pc : Int) + off = (pt : Int)) (hf : pc + 3 = pf) (kt : (x < y) → AW d M pt lv st A Q) (kf : ¬ (x < y) → AW d M pf lv st A Q) : AW d M pc lv (vi y :: vi x :: st) A Q := by
  subst hf
  by_cases hc : (x < y)
  · refine AW.pure (fun l G p e R s m args below meth c H locs ls C S Qr hC hS hl ho hst hva kk => ?_) (kt hc)
    have hy : in32 y := okh hst
    have hx : in32 x := okh (okt hst)
    exact lv_icmp_lt hC.1 hC.2.1 hd ht (fun _ => kk ls hl ho (okt (okt hst))) (fun q => absurd ((i32_lt hx hy).mpr hc) q)
  · refine AW.pure (fun l G p e R s m args below meth c H locs ls C S Qr hC hS hl ho hst hva kk => ?_) (kf hc)
    have hy : in32 y := okh hst
    have hx : in32 x := okh (okt hst)
    exact lv_icmp_lt hC.1 hC.2.1 hd ht (fun q => absurd ((i32_lt hx hy).mp q) hc) (fun _ => kk ls hl ho (okt (okt hst)))
theorem aw_icmp_ge {d : Nat} {M : MD} {pc pt pf : Nat} {lv : LV} {st : List AV} {A : AHp} {Q : Option AV → AHp → Prop} {x y : Int} {off : Int} (hd : decode M.2.1 pc = .ok (.if_icmp .ge off, 3)) (ht : (pc : Int) + off = (pt : Int)) (hf : pc + 3 = pf) (kt : (y ≤ x) → AW d M pt lv st A Q) (kf : ¬ (y ≤ x) → AW d M pf lv st A Q) : AW d M pc lv (vi y :: vi x :: st) A Q := by
  subst hf
  by_cases hc : (y ≤ x)
  · refine AW.pure (fun l G p e R s m args below meth c H locs ls C S Qr hC hS hl ho hst hva kk => ?_) (kt hc)
    have hy : in32 y := okh hst
    have hx : in32 x := okh (okt hst)
    exact lv_icmp_ge hC.1 hC.2.1 hd ht (fun _ => kk ls hl ho (okt (okt hst))) (fun q => absurd ((i32_le hy hx).mpr hc) q)
  · refine AW.pure (fun l G p e R s m args below meth c H locs ls C S Qr hC hS hl ho hst hva kk => ?_) (kf hc)
    have hy : in32 y := okh hst
    have hx : in32 x := okh (okt hst)
    exact lv_icmp_ge hC.1 hC.2.1 hd ht (fun q => absurd ((i32_le hy hx).mp q) hc) (fun _ => kk ls hl ho (okt (okt hst)))
theorem aw_icmp_gt {d : Nat} {M : MD} {pc pt pf : Nat} {lv : LV} {st : List AV} {A : AHp} {Q : Option AV → AHp → Prop} {x y : Int} {off : Int} (hd : decode M.2.1 pc = .ok (.if_icmp .gt off, 3)) (ht : (pc : Int) + off = (pt : Int)) (hf : pc + 3 = pf) (kt : (y < x) → AW d M pt lv st A Q) (kf : ¬ (y < x) → AW d M pf lv st A Q) : AW d M pc lv (vi y :: vi x :: st) A Q := by
  subst hf
  by_cases hc : (y < x)
  · refine AW.pure (fun l G p e R s m args below meth c H locs ls C S Qr hC hS hl ho hst hva kk => ?_) (kt hc)
    have hy : in32 y := okh hst
    have hx : in32 x := okh (okt hst)
    exact lv_icmp_gt hC.1 hC.2.1 hd ht (fun _ => kk ls hl ho (okt (okt hst))) (fun q => absurd ((i32_lt hy hx).mpr hc) q)
  · refine AW.pure (fun l G p e R s m args below meth c H locs ls C S Qr hC hS hl ho hst hva kk => ?_) (kf hc)
    have hy : in32 y := okh hst
    have hx : in32 x := okh (okt hst)
    exact lv_icmp_gt hC.1 hC.2.1 hd ht (fun q => absurd ((i32_lt hy hx).mp q) hc) (fun _ => kk ls hl ho (okt (okt hst)))
theorem aw_icmp_le {d : Nat} {M : MD} {pc pt pf : Nat} {lv : LV} {st : List AV} {A : AHp} {Q : Option AV → AHp → Prop} {x y : Int} {off : Int} (hd : decode M.2.1 pc = .ok (.if_icmp .le off, 3)) (ht : (pc : Int) + off = (pt : Int)) (hf : pc + 3 = pf) (kt : (x ≤ y) → AW d M pt lv st A Q) (kf : ¬ (x ≤ y) → AW d M pf lv st A Q) : AW d M pc lv (vi y :: vi x :: st) A Q := by
  subst hf
  by_cases hc : (x ≤ y)
  · refine AW.pure (fun l G p e R s m args below meth c H locs ls C S Qr hC hS hl ho hst hva kk => ?_) (kt hc)
    have hy : in32 y := okh hst
    have hx : in32 x := okh (okt hst)
    exact lv_icmp_le hC.1 hC.2.1 hd ht (fun _ => kk ls hl ho (okt (okt hst))) (fun q => absurd ((i32_le hx hy).mpr hc) q)
  · refine AW.pure (fun l G p e R s m args below meth c H locs ls C S Qr hC hS hl ho hst hva kk => ?_) (kf hc)
    have hy : in32 y := okh hst
    have hx : in32 x := okh (okt hst)
    exact lv_icmp_le hC.1 hC.2.1 hd ht (fun q => absurd ((i32_le hx hy).mp q) hc) (fun _ => kk ls hl ho (okt (okt hst)))
theorem aw_ifnull {d : Nat} {M : MD} {pc pt pf : Nat} {lv : LV} {st : List AV} {A : AHp} {Q : Option AV → AHp → Prop} {x : Int} (hx34 : ¬ x = 34) {off : Int} (hd : decode M.2.1 pc = .ok (.ifnull off, 3)) (ht : (pc : Int) + off = (pt : Int)) (hf : pc + 3 = pf) (kt : (x = 0) → AW d M pt lv st A Q) (kf : ¬ (x = 0) → AW d M pf lv st A Q) : AW d M pc lv (vr x :: st) A Q := by
  subst hf
  by_cases hc : (x = 0)
  · refine AW.pure (fun l G p e R s m args below meth c H locs ls C S Qr hC hS hl ho hst hva kk => ?_) (kt hc)
    change W p l e R s m args below meth c H locs C S Qr (F0 m pc ls (rR G x :: st.map (rV G)))
    rw [show rR G x = .null by unfold rR; rw [if_pos (by omega)]]
    exact lv_ifnullN hC.1 hC.2.1 hd ht (kk ls hl ho (okt hst))
  · refine AW.pure (fun l G p e R s m args below meth c H locs ls C S Qr hC hS hl ho hst hva kk => ?_) (kf hc)
    change W p l e R s m args below meth c H locs C S Qr (F0 m pc ls (rR G x :: st.map (rV G)))
    rw [show rR G x = .ref (rA G x) by unfold rR; rw [if_neg (by omega)]]
    exact lv_ifnull hC.1 hC.2.1 hd (kk ls hl ho (okt hst))
theorem aw_ifnonnull {d : Nat} {M : MD} {pc pt pf : Nat} {lv : LV} {st : List AV} {A : AHp} {Q : Option AV → AHp → Prop} {x : Int} (hx34 : ¬ x = 34) {off : Int} (hd : decode M.2.1 pc = .ok (.ifnonnull off, 3)) (ht : (pc : Int) + off = (pt : Int)) (hf : pc + 3 = pf) (kt : (¬ x = 0) → AW d M pt lv st A Q) (kf : ¬ (¬ x = 0) → AW d M pf lv st A Q) : AW d M pc lv (vr x :: st) A Q := by
  subst hf
  by_cases hc : (¬ x = 0)
  · refine AW.pure (fun l G p e R s m args below meth c H locs ls C S Qr hC hS hl ho hst hva kk => ?_) (kt hc)
    change W p l e R s m args below meth c H locs C S Qr (F0 m pc ls (rR G x :: st.map (rV G)))
    rw [show rR G x = .ref (rA G x) by unfold rR; rw [if_neg (by omega)]]
    exact lv_ifnonnull hC.1 hC.2.1 hd ht (kk ls hl ho (okt hst))
  · refine AW.pure (fun l G p e R s m args below meth c H locs ls C S Qr hC hS hl ho hst hva kk => ?_) (kf hc)
    change W p l e R s m args below meth c H locs C S Qr (F0 m pc ls (rR G x :: st.map (rV G)))
    rw [show rR G x = .null by unfold rR; rw [if_pos (by omega)]]
    exact lv_ifnonnullN hC.1 hC.2.1 hd (kk ls hl ho (okt hst))
theorem aw_tabIn {d : Nat} {M : MD} {pc pc' : Nat} {lv : LV} {st : List AV} {A : AHp} {Q : Option AV → AHp → Prop} {dflt lo hi : Int} {offs : Array Int} {len : Nat} {x off : Int} (hd : decode M.2.1 pc = .ok (.tableswitch dflt lo hi offs, len)) (h1 : lo ≤ x) (h2 : x ≤ hi) (ho : offs[(x - lo).toNat]? = some off) (ht : (pc : Int) + off = (pc' : Int)) (k : AW d M pc' lv st A Q) : AW d M pc lv (vi x :: st) A Q := by
  refine AW.pure (fun l G p e R s m args below meth c H locs ls C S Qr hC hS hl ho' hst hva kk => ?_) k
  have hx : in32 x := okh hst
  have e := i32_t hx
  exact lv_tableIn hC.1 hC.2.1 hd (by rw [e]; omega) (by rw [e]; omega) (by rw [e]; exact ho) ht (kk ls hl ho' (okt hst))
theorem aw_tabOut {d : Nat} {M : MD} {pc pc' : Nat} {lv : LV} {st : List AV} {A : AHp} {Q : Option AV → AHp → Prop} {dflt lo hi : Int} {offs : Array Int} {len : Nat} {x : Int} (hd : decode M.2.1 pc = .ok (.tableswitch dflt lo hi offs, len)) (h1 : x < lo ∨ hi < x) (ht : (pc : Int) + dflt = (pc' : Int)) (k : AW d M pc' lv st A Q) : AW d M pc lv (vi x :: st) A Q := by
  refine AW.pure (fun l G p e R s m args below meth c H locs ls C S Qr hC hS hl ho' hst hva kk => ?_) k
  have hx : in32 x := okh hst
  have e := i32_t hx
  exact lv_tableOut hC.1 hC.2.1 hd (by rw [e]; exact h1) ht (kk ls hl ho' (okt hst))
