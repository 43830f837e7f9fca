/-! ===== the clone of the row of words, the cast behind it, rows of texts, receivers that are constants ===== -/
section MSC
variable {d : Nat} {M : MD} {pc pc' : Nat} {lv : LV} {st rest as : List AV} {A : AHp} {Q : Option AV → AHp → Prop} {o i n x : Int} {idx : Nat} {d' : Nat} {M' : MD} {nn : Nat}
theorem lv_cats {G : Gp} (h : WSd st) : ((st.map (rV G)).map fun v => v.category).sum ≤ 8 := by
  have e : (st.map (rV G)).map (fun v => v.category) = st.map acat := by
    rw [List.map_map]
    apply List.map_congr_left
    intro a _
    exact rV_cat G a
  rw [e]
  exact h
theorem aw_ishr0 (h0 : 0 ≤ x) (h1 : x < 100) (hd : decode M.2.1 pc = .ok (.ishr, 1)) (hp : pc + 1 = pc') (k : AW d M pc' lv (vi x :: st) A Q) : AW d M pc lv (vi 0 :: vi x :: st) A Q := by
  subst hp
  refine AW.pure (fun l G p e R s m args below meth c H locs ls C S Qr hC hS hl9 ho hst hva kk => ?_) k
  have key : ∀ k : Nat, k < 100 → Int32.ofInt k >>> (Int32.ofInt 0 &&& 31) = Int32.ofInt k := by decide +kernel
  have k1 := kk ls hl9 ho (okc (okh (okt hst)) (okt (okt hst)))
  change W p l e R s m args below meth c H locs C S Qr (F0 m (pc + 1) ls (.int (Int32.ofInt x) :: st.map (rV G))) at k1
  have e1 := key x.toNat (by omega)
  rw [show ((x.toNat : Nat) : Int) = x by omega] at e1
  rw [← e1] at k1
  exact lv_ishr hC.1 hC.2.1 hd k1
theorem aw_i2cs (h0 : 0 ≤ x) (h1 : x < 128) (hd : decode M.2.1 pc = .ok (.i2c, 1)) (hp : pc + 1 = pc') (k : AW d M pc' lv (vi x :: st) A Q) : AW d M pc lv (vi x :: st) A Q := by
  subst hp
  refine AW.pure (fun l G p e R s m args below meth c H locs ls C S Qr hC hS hl9 ho hst hva kk => ?_) k
  have key : ∀ k : Nat, k < 128 → ((Int32.ofInt k).toUInt32 % 65536).toInt32 = Int32.ofInt k := by decide +kernel
  have e1 := key x.toNat (by omega)
  rw [show ((x.toNat : Nat) : Int) = x by omega] at e1
  exact lv_i2c hC.1 hC.2.1 hd e1 (kk ls hl9 ho hst)
theorem and255 {x : Int} (h0 : 0 ≤ x) (h1 : x < 128) : (Int32.ofInt x &&& Int32.ofInt 255).toInt = x := by
  have key : ∀ k : Nat, k < 128 → (Int32.ofInt k &&& Int32.ofInt 255).toInt = k := by decide +kernel
  have e1 := key x.toNat (by omega)
  rw [show ((x.toNat : Nat) : Int) = x by omega] at e1
  exact e1
theorem aw_clone (hd1 : 2 ≤ d) (hws : WSd st) {own ad : String} (hown : M.1.cls = own) (hadn : ad = "[LShellLines$Word;") (hlink : Cond.methodLink M.1.cls idx ⟨ad, "clone", "()Ljava/lang/Object;"⟩ ∈ TB) (hsame : Cond.sameMethod ad "java/lang/Object" "clone" "()Ljava/lang/Object;" ∈ TB)
    (hnat : Cond.native ⟨"java/lang/Object", "clone", "()Ljava/lang/Object;"⟩ ∈ TB) (hinst : Cond.instanceMethod ⟨"java/lang/Object", "clone", "()Ljava/lang/Object;"⟩ ∈ TB)
    (hsel : Cond.selects ad ⟨ad, "clone", "()Ljava/lang/Object;"⟩ ⟨"java/lang/Object", "clone", "()Ljava/lang/Object;"⟩ ∈ TB) (hcl : Cond.castable ad "java/lang/Cloneable" ∈ NWL)
    (hd : decode M.2.1 pc = .ok (.invokevirtual idx, 3)) (hp : pc + 3 = pc') (kk : AW d M pc' lv (vr (hn A) :: st) (hnew A 50 15 15 (fun i => if 0 ≤ i ∧ i < 15 then 1 + i else 0)) Q) : AW d M pc lv (vr 32 :: st) A Q := by
  subst hp
  subst hadn
  refine AW.al (sl := 15) (hn_new _ _ _ _ _) (hs_new _ _ _ _ _) (fun l G p e R s m args below meth c H locs ls C S Qr hC hS hl9 ho hst hva hcc hss kk => ?_) kk
  have hts := hC.2.2.2.2.2.1
  have hcas := va_Nw.use (A := args) rfl (hC.2.2.2.2.2.2.1.1.2.1 _ hcl)
  obtain ⟨cell, t1, t2, t3, t4, t5, t6⟩ := hC.2.2.2.2.2.2.1.2.2.1.2.1
  have hcell : H[gA G 32]? = some cell := by
    rw [hva.2.1 _ (Array.getElem?_eq_some_iff.mp t1).1 t6]
    exact t1
  obtain ⟨hAr, kB, compB, u1, u2, u3, u4⟩ := hC.2.2.2.2.2.2.1.1.1.2 8 (gC G 50, .object RX11) rfl
  have hcls : gC G 50 = cell.cls := Option.some.inj (u4.symm.trans t4)
  obtain ⟨c0, t0', f1, f2, f3⟩ := Cond.castable_spec hcas
  have e0 : c0 = cell.cls := Option.some.inj (f1.symm.trans t4)
  subst e0
  have hsz : cell.slots.size = 15 := by rw [t5]; exact Array.size_ofFn
  change W p l e R s m args below meth c H locs C S Qr (F0 m pc ls (rR G 32 :: st.map (rV G)))
  rw [rR_st (by omega) (by omega) (by omega)]
  intro T hT X
  rw [hcls] at u1
  obtain ⟨k', hk', hke⟩ := X.warmed.alike.2.2 _ _ u1
  have hkind' : k'.kind = .array compB (.object RX11) := by rw [hke]; exact u2
  obtain ⟨vm', X', stp⟩ := X.cloneArray hC.1 hC.2.2.2.2.1 (hts _ hlink) (hts _ hsame) (hts _ hnat) (hts _ hinst) (hts _ hsel) (a := gA G 32) (cell := cell) (by rw [hT]; exact hcell) t2 t3 t4 f2 f3
    (fun i v hv9 => by
      have hv8 : ∃ a, v = .ref a := by
        rw [t5, Array.getElem?_ofFn] at hv9
        split at hv9
        · exact ⟨_, (Option.some.inj hv9).symm⟩
        · cases hv9
      obtain ⟨a, rfl⟩ := hv8
      simp [State.fitsSlot, State.slotType?, hk', hkind', fits])
    (g := F0 m pc ls (.ref (gA G 32) :: st.map (rV G))) rfl (by rw [hC.2.2.1]; exact hl9.1) rfl (by rw [hC.2.1]; exact hd) (by have := hC.2.2.2.2.2.2.2.1; omega) (by have := lv_cats (G := G) hws; have := hC.2.2.2.2.2.2.2.2.1; show 2 * 0 + _ + 14 ≤ _; omega) hcc (by rw [hsz]; exact hss) (hloader := Vm.clonesLoader_of_array u1 u2)
  generalize hnc : ({ cls := cell.cls, slots := cell.slots } : Cell) = nc at X' stp
  rw [hsz] at X'
  generalize hH1 : H.push nc = H1
  have z1 : H1.size = H.size + 1 := by rw [← hH1, Array.size_push]
  have e1 : H1[H.size]? = some nc := by rw [← hH1, Array.getElem?_push_size]
  have o1 : ∀ q : Nat, q < H.size → H1[q]? = H[q]? := fun q hq => by rw [← hH1, Array.getElem?_push, if_neg (Nat.ne_of_lt hq)]
  have hk1 := kk H1 (hS.push (kd := 50) (n := 15) (by omega) (by omega) (by omega) ?_ z1 o1 (fun k hk => okS_r (by omega)) (fun k _ _ => okS_0)) (va_psh hva z1 o1) (okc trivial (okt hst))
  · change W p l e R s m args below meth c H1 locs (C + 1) (S + 15) Qr (F0 m (pc + 3) ls (rR G (hn A) :: st.map (rV G))) at hk1
    rw [hn_r hS] at hk1
    obtain ⟨t, b1, b2⟩ := hk1 ((T.setVm vm').pushCell nc) (by rw [← hH1, ← hT]; rfl) X'
    refine ⟨t, stp t ?_, b2⟩
    rw [hT]
    exact b1
  · have e3 : rA G (hn A) = H.size := by rw [rA_dyn hS.2.1, ← hS.1]
    rw [ent_ref (A := hnew A 50 15 15 (fun i => if 0 ≤ i ∧ i < 15 then 1 + i else 0)) (kd := 50) (by rw [hk_new, if_pos rfl]) (by omega)]
    show H1[rA G (hn A)]? = some (vp_cell _ _)
    rw [e3, e1, ← hnc, vp_cell_q, hl_new, if_pos rfl, hcls]
    unfold arrV
    congr 1
    show ({ cls := cell.cls, slots := cell.slots } : Cell) = { cls := cell.cls, slots := _, vm := .none }
    congr 1
    rw [t5]
    show _ = Array.ofFn (n := 15) _
    congr 1
    funext j
    have hj := j.isLt
    show Value.ref (gA G (1 + j.val)) = va_rf (rO G (hv (hnew A 50 15 15 fun i => if 0 ≤ i ∧ i < 15 then 1 + i else 0) (hn A) (j.val : Int)))
    rw [hv_new, if_pos rfl, if_pos (by omega), rO_rf, rR_st (by omega) (by omega) (by omega)]
    congr 2
theorem aw_cast {kd : Nat} {Cn : String} (hkd : 30 ≤ kd) {t0 : Nat} (ht : ∀ G, (tysL G)[t0]? = some (gC G kd, .object Cn)) {nm : String} (hnm : nm = "[" ++ (FieldType.object Cn).toString) (hw : Cond.classLink M.1.cls idx nm ∈ TB) (hO : isA A o kd n)
    (hd : decode M.2.1 pc = .ok (.checkcast idx, 3)) (hp : pc + 3 = pc') (kk : AW d M pc' lv (vr o :: st) A Q) : AW d M pc lv (vr o :: st) A Q := by
  subst hp
  refine AW.pure (fun l G p e R s m args below meth c H locs ls C S Qr hC hS hl9 ho hst hva kk => ?_) kk
  have k1 := kk ls hl9 ho hst
  change W p l e R s m args below meth c H locs C S Qr (F0 m (pc + 3) ls (rR G o :: st.map (rV G))) at k1
  change W p l e R s m args below meth c H locs C S Qr (F0 m pc ls (rR G o :: st.map (rV G)))
  rw [rR_dyn hO.1] at k1 ⊢
  obtain ⟨-, kB, compB, u1, u2, u3, u4⟩ := hC.2.2.2.2.2.2.1.1.1.2 t0 _ (ht G)
  exact va_castA hC.1 hC.2.1 hC.2.2.2.2.1 (hC.2.2.2.2.2.1 _ hw) (hS.arr hO (ent_ref hO.2.2.1 hkd)) 0 rfl (by rw [hnm]; exact u4) hd k1
/-- a text is laid into a row of texts -/
theorem aw_aastS {ys : MethodName} {bs : ByteArray} {ns : Nat} {rs : Option FieldType} (hys : ys.cls = "java/lang/String") (hcs : Cond.code ys bs ns rs ∈ TB) (hX1 : 16 ≤ x) (hX2 : x ≤ 30) (hd : decode M.2.1 pc = .ok (.aastore, 1)) (hp : pc + 1 = pc') (hO : isA A o 51 n) (h0 : 0 ≤ i) (h1 : i < n) (kk : AW d M pc' lv st (hset A o i x) Q) : AW d M pc lv (vr x :: vi i :: vr o :: st) A Q := by
  subst hp
  refine AW.wr (A1 := hset A o i x) rfl rfl (fun l G p e R s m args below meth c H locs ls C S Qr hC hS hl9 ho hst hva kk => ?_) kk
  have hi : in32 i := okh (okt hst)
  change W p l e R s m args below meth c H locs C S Qr (F0 m pc ls (rR G x :: .int (Int32.ofInt i) :: rR G o :: st.map (rV G)))
  rw [rR_dyn hO.1, rR_st (by omega) (by omega) (by omega)]
  have hP := hS.arr hO (ent_ref hO.2.2.1 (by omega)) 0 _ rfl
  rw [hO.2.2.2] at hP
  have hsv := hC.2.2.2.2.2.2.1.2.1.2.2.1 (x - 16).toNat (by omega)
  obtain ⟨cellV, g1, g3, g2, g4⟩ := hsv.1
  have ex : 16 + (x - 16).toNat = x.toNat := by omega
  change s.heap[gA G (16 + (x - 16).toNat)]? = some cellV at g1
  change ¬ frA G (gA G (16 + (x - 16).toNat)) at g4
  rw [ex] at g1 g4
  have g1' : H[gA G x.toNat]? = some cellV := by
    rw [hva.2.1 _ (Array.getElem?_eq_some_iff.mp g1).1 g4]
    exact g1
  obtain ⟨-, kA, comp, k1, k2, k3, -⟩ := hC.2.2.2.2.2.2.1.1.1.2 9 (gC G 51, .object "java/lang/String") rfl
  have hcomp : comp = cellV.cls := Option.some.inj (k3.symm.trans g2)
  subst hcomp
  obtain ⟨kC, hkC, hsub⟩ : ∃ kC : Class, s.vm.classes[cellV.cls]? = some kC ∧ s.vm.assignable cellV.cls cellV.cls = true := by
    obtain ⟨mk, hnamed⟩ := Cond.code_named (hC.2.2.2.2.2.1 _ hcs)
    obtain ⟨kP, hkP, -⟩ := className_of_methodNamed hnamed
    have hf := findClass_of_methodNamed hnamed
    rw [hys] at hf
    have e9 : mk.cls = cellV.cls := Option.some.inj (hf.symm.trans g2)
    exact ⟨kP, by rw [← e9]; exact hkP, va_asg _ _⟩
  refine W.aast hC.1 hC.2.1 (cell := vp_cell (gC G 51) (n.toNat, .inr (.inr (.inr (.inr fun j => rO G (hv A o j)))))) hP (fun q h => by cases h) (fun h => by cases h) k1 k2 rfl hkC ⟨by rw [i32_0, i32_lt hi (by decide)]; omega, by show _ < (arrV _ _ _).slots.size; rw [arrV_size, i32_n hi]; omega⟩ g1' (fun q h => by rw [h] at g3; cases g3) hkC hsub rfl rfl hd fun H1 e z oq => ?_
  rw [i32_n hi] at e
  refine kk H1 _ (hS.put hO.1 hO.2.1 ?_ z oq (by rw [hO.2.2.1]; exact okS_r (by omega))) (hva.put z oq (frA_dyn hO.1)) (okt (okt (okt hst)))
  rw [ent_ref (A := hset A o i x) (kd := 51) (by rw [hk_set]; exact hO.2.2.1) (by omega)]
  show H1[rA G o]? = some (vp_cell _ _)
  rw [e, hl_set, hO.2.2.2, vp_cell_q, vp_cell_q, arrV_store]
  congr 2
  funext q
  unfold updV
  rw [hv_set]
  by_cases hq : q = i.toNat
  · rw [if_pos hq, if_pos ⟨rfl, by omega⟩, rO_rf, rR_st (by omega) (by omega) (by omega)]
  · rw [if_neg hq, if_neg (by omega)]
/-- a call of a text's own method -/
theorem aw_callStr (hcl : M'.1.cls = "java/lang/String") (hm : MOK M' nn) (hin : Cond.instanceMethod M'.1 ∈ TB) (hse : Cond.selects M'.1.cls M'.1 M'.1 ∈ TB) (hln : Cond.methodLink M.1.cls idx M'.1 ∈ TB) (h1o : 16 ≤ o) (h2o : o ≤ 30) (hd : decode M.2.1 pc = .ok (.invokevirtual idx, 3)) (hp : pc + 3 = pc') (hn1 : as.length = nn) (hws : WSd rest) (hdd : d' + 1 ≤ d)
    (kk : CALL d' M' (vr o :: as) A (fun r A1 => AW d M pc' lv (r.toList ++ rest) A1 Q)) : AW d M pc lv (as.reverse ++ vr o :: rest) A Q := by
  subst hp
  refine AW.after kk (fun a ha => List.mem_append_right _ (List.mem_cons_of_mem _ ha)) (fun l G p e R s m args below meth c H locs ls C S mc ms r1 A1 hC hS hl9 hst9 hva h1 h2 hM => ?_)
  have hts := hC.2.2.2.2.2.1
  have hrr : rR G o = .ref (gA G o.toNat) := rR_st (by omega) (by omega) (by omega)
  have hrecv := vk_recv (hC.2.2.2.2.2.2.1.2.1.2.2) (i := (o - 16).toNat) (by omega) hva
  rw [← hcl] at hrecv
  have ex : 16 + (o - 16).toNat = o.toNat := by omega
  change ∃ cell : Cell, H[gA G (16 + (o - 16).toNat)]? = some cell ∧ _ at hrecv
  rw [ex] at hrecv
  have hP9 : ∀ U : State, U.heap = H → s.WarmedH U.vm → Pcm G (vr o :: as) A (Value.ref (gA G o.toNat) :: as.map (rV G)).toArray U := by
    intro U hU hW
    have := pcm_of (as := vr o :: as) hC.2.2.2.2.2.2.1 hS (fun a ha => hst9 a (mem_as ha)) hva U hU hW
    rw [List.map_cons] at this
    change Pcm G (vr o :: as) A (rR G o :: as.map (rV G)).toArray U at this
    rw [hrr] at this
    exact this
  have hQ9 : Qcm G r1 A1 ((vr o :: as).map (rV G)).toArray = Qcm G r1 A1 (Value.ref (gA G o.toNat) :: as.map (rV G)).toArray := rfl
  rw [hQ9]
  have hst8 : (as.reverse ++ vr o :: rest).map (rV G) = (as.map (rV G)).reverse ++ .ref (gA G o.toNat) :: rest.map (rV G) := by
    rw [List.map_append, List.map_reverse, List.map_cons]
    show _ ++ rR G o :: _ = _
    rw [hrr]
  refine va_runV (b := gA G o.toNat) (C := M'.1.cls) (As := as.map (rV G)) ⟨hC.1, hC.2.1, hC.2.2.1, hC.2.2.2.2.1, hts⟩ hM ⟨callB_of nn hts (WSm_good hm.1) rfl rfl rfl (hts _ hm.2.1) (hts _ hln) ⟨hm.2.2.1, hm.2.2.2.1, hm.2.2.2.2.1⟩ (rm_ok hC hdd hm), hts _ hin, hts _ hse⟩ ⟨ok_blind _ _ _, hrecv, hP9⟩ rfl (by rw [List.length_map]; exact hn1) hl9.1 hst8 (ws_room hws) hd ⟨h1, h2⟩
/-- Enum.ordinal, asked of a word -/
theorem aw_callOrd (hm : MOK M' 0) (hy : M'.1 = ⟨"java/lang/Enum", "ordinal", "()I"⟩) (hw : ∀ w ∈ ([.methodLink M.1.cls idx ⟨RX11, "ordinal", "()I"⟩, .sameMethod RX11 "java/lang/Enum" "ordinal" "()I", .selects RX11 ⟨RX11, "ordinal", "()I"⟩ M'.1, .instanceMethod M'.1] : List Cond), w ∈ TB) (h1o : 1 ≤ o) (h2o : o ≤ 15) (hd : decode M.2.1 pc = .ok (.invokevirtual idx, 3)) (hp : pc + 3 = pc') (hws : WSd rest) (hdd : d' + 1 ≤ d)
    (kk : CALL d' M' [vr o] A (fun r A1 => AW d M pc' lv (r.toList ++ rest) A1 Q)) : AW d M pc lv (vr o :: rest) A Q := by
  subst hp
  refine AW.after kk (fun a ha => List.mem_cons_of_mem _ ha) (fun l G p e R s m args below meth c H locs ls C S mc ms r1 A1 hC hS hl9 hst9 hva h1 h2 hM => ?_)
  have hts := hC.2.2.2.2.2.1
  have hrr : rR G o = .ref (gA G o.toNat) := rR_st (by omega) (by omega) (by omega)
  have hrecv := va_recvE (hC.2.2.2.2.2.2.1.2.1.1) (i := (o - 1).toNat) (by show _ < 15; omega) hva
  have ex : 1 + (o - 1).toNat = o.toNat := by omega
  change ∃ cell : Cell, H[gA G (1 + (o - 1).toNat)]? = some cell ∧ _ at hrecv
  rw [ex] at hrecv
  have hP9 : ∀ U : State, U.heap = H → s.WarmedH U.vm → Pcm G [vr o] A (Value.ref (gA G o.toNat) :: ([] : List AV).map (rV G)).toArray U := by
    intro U hU hW
    have := pcm_of (as := [vr o]) hC.2.2.2.2.2.2.1 hS (fun a ha => hst9 a (by rcases List.mem_cons.mp ha with rfl | h; exact List.mem_cons_self; cases h)) hva U hU hW
    rw [List.map_cons] at this
    change Pcm G [vr o] A (rR G o :: ([] : List AV).map (rV G)).toArray U at this
    rw [hrr] at this
    exact this
  have hQ9 : Qcm G r1 A1 (([vr o] : List AV).map (rV G)).toArray = Qcm G r1 A1 (Value.ref (gA G o.toNat) :: ([] : List AV).map (rV G)).toArray := rfl
  rw [hQ9]
  have hG : GoodIn TB (va_wsU M.1.cls idx RX11 "java/lang/Enum" ⟨RX11, "ordinal", "()I"⟩ M'.1 (WSm M')) := by
    have hall : ∀ w ∈ va_wsU M.1.cls idx RX11 "java/lang/Enum" ⟨RX11, "ordinal", "()I"⟩ M'.1 (WSm M'), w ∈ TB := by
      intro w hw9
      unfold va_wsU at hw9
      rcases List.mem_append.mp hw9 with h | h
      · simp only [List.mem_cons, List.not_mem_nil, or_false] at h
        rcases h with rfl | rfl | rfl | rfl | rfl
        · exact hw _ (by simp)
        · exact hw _ (by simp)
        · exact hw _ (by simp)
        · exact hw _ (by simp)
        · exact hm.2.1
      · rcases List.mem_cons.mp h with rfl | h
        · exact hm.1
        · exact h
    exact fun w h => ⟨hall w h, good_of_word (TB_good w (hall w h))⟩
  have hst8 : (vr o :: rest).map (rV G) = (([] : List AV).map (rV G)).reverse ++ .ref (gA G o.toNat) :: rest.map (rV G) := by
    rw [List.map_cons]
    show rR G o :: _ = _
    rw [hrr]
    rfl
  have cw := va_cwU (R := R) (rm := RMd d' mc ms) (mc := mc) (ms := ms) (bytes := M'.2.1) (maxL := M'.2.2.1) (ret := M'.2.2.2) (ws' := TB) 0 hts hG rfl rfl rfl hy ⟨by decide, by decide, by decide +kernel⟩ (rm_ok hC hdd hm)
  exact va_runU (b := gA G o.toNat) (C := RX11) (As := ([] : List AV).map (rV G)) ⟨hC.1, hC.2.1, hC.2.2.1, hC.2.2.2.2.1, hts⟩ hM cw ⟨ok_blind _ _ _, hrecv, hP9⟩ rfl rfl hl9.1 hst8 (ws_room hws) hd ⟨h1, h2⟩
end MSC
