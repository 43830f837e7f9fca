/-! ===== rows that make things; Object.<init> ===== -/
section ALC
variable {d : Nat} {M : MD} {pc pc' : Nat} {lv : LV} {st st' : List AV} {A A1 : AHp} {Q : Option AV → AHp → Prop} {o i n x : Int} {sl : Nat}
theorem AW.al (e1 : hn A1 = hn A + 1) (e2 : hs A1 = hs A + sl)
    (h : ∀ (l : Launch) (G : Gp) (p : Program) (e : Env) (R : Room) (s : State) (m : MethodId) (args : Array Value) (below : List Frame) (meth : Method) (c : Code) (H : Heap) (locs : List Loc) (ls : Array Slot) (C S : Nat) (Qr : State → Prop),
      CXd d M G p R s m args meth c → SIM G A H → lvOK G ls M.2.2.1 lv → okL lv → (∀ a ∈ st, okV a) → va_S (frA G) s.heap H locs → C + 1 ≤ R.cells → S + sl ≤ R.slots →
      (∀ (H1 : Heap), SIM G A1 H1 → va_S (frA G) s.heap H1 locs → (∀ a ∈ st', okV a) → W p l e R s m args below meth c H1 locs (C + 1) (S + sl) Qr (F0 m pc' ls (st'.map (rV G)))) →
      W p l e R s m args below meth c H locs C S Qr (F0 m pc ls (st.map (rV G))))
    (k : AW d M pc' lv st' A1 Q) : AW d M pc lv st A Q := by
  obtain ⟨r, A', h1, h2, h3, hW⟩ := k
  rw [e1] at h2
  rw [e2] at h3
  refine ⟨r, A', h1, by omega, by omega, fun l G p e R s m args below meth c H locs ls C S Qr hC hS hl9 ho hst hva hrm hret => ?_⟩
  rw [e1, e2] at hW
  have q1 : C + 1 + (hn A' - (hn A + 1)).toNat = C + (hn A' - hn A).toNat := by omega
  have q2 : S + sl + (hs A' - (hs A + sl)) = S + (hs A' - hs A) := by omega
  exact h l G p e R s m args below meth c H locs ls C S Qr hC hS hl9 ho hst hva (by omega) (by omega) (fun H1 hS1 hva1 hst1 => hW l G p e R s m args below meth c H1 locs ls (C + 1) (S + sl) Qr hC hS1 hl9 ho hst1 hva1 (by rw [q1, q2]; exact hrm) (by rw [q1, q2]; exact hret))
theorem hn_r {G : Gp} {A : AHp} {H : Heap} (h : SIM G A H) : rR G (hn A) = .ref H.size := by
  have h1 := h.2.1
  rw [rR_dyn h1, rA_dyn h1, ← h.1]
theorem va_psh {A0 : Nat → Prop} {H0 H H1 : Heap} {locs : List Loc} (hS : va_S A0 H0 H locs) (z : H1.size = H.size + 1) (oq : ∀ q : Nat, q < H.size → H1[q]? = H[q]?) : va_S A0 H0 H1 locs :=
  ⟨Nat.le_trans hS.1 (by omega), fun q h1 h2 => by rw [oq q (Nat.lt_of_lt_of_le h1 hS.1)]; exact hS.2.1 q h1 h2, hS.2.2⟩
theorem dfl_i {ty : FieldType} (h : ty = .int ∨ ty = .byte ∨ ty = .boolean) : defaultValue ty = .int (Int32.ofInt 0) := by
  rcases h with rfl | rfl | rfl <;> rfl
theorem aw_newa {atype : ArrayType} {kd t0 : Nat} (ht : ∀ G, (tysL G)[t0]? = some (gC G kd, newarray.typeOf atype)) (hkd : (kd = 20 ∧ newarray.typeOf atype = .int) ∨ (kd = 22 ∧ newarray.typeOf atype = .byte) ∨ (kd = 23 ∧ newarray.typeOf atype = .boolean) ∨ (kd = 21 ∧ newarray.typeOf atype = .long)) (hw : Cond.arrayClass (newarray.typeOf atype) ∈ TB)
    (hd : decode M.2.1 pc = .ok (.newarray atype, 2)) (hp : pc + 2 = pc') (h0 : 0 ≤ n) (h1 : n < 65536) (kk : AW d M pc' lv (vr (hn A) :: st) (hnew A kd n n.toNat (fun _ => 0)) Q) : AW d M pc lv (vi n :: st) A Q := by
  subst hp
  refine AW.al (sl := n.toNat) (hn_new _ _ _ _ _) (hs_new _ _ _ _ _) (fun l G p e R s m args below meth c H locs ls C S Qr hC hS hl9 ho hst hva hcc hss kk => ?_) kk
  have hn32 : in32 n := by unfold in32; omega
  have hb : n.toNat * componentBytes (newarray.typeOf atype) ≤ 536870912 := by
    have : componentBytes (newarray.typeOf atype) ≤ 8 := by cases atype <;> decide
    have := Nat.mul_le_mul (Nat.le_refl n.toNat) this
    omega
  change W p l e R s m args below meth c H locs C S Qr (F0 m pc ls (.int (Int32.ofInt n) :: st.map (rV G)))
  refine va_newaK (N := n.toNat) hC.1 hC.2.1 (hC.2.2.2.2.2.1 _ hw) rfl hd rfl (by rw [i32_0, i32_lt hn32 (by decide)]; omega) (i32_n hn32) hb hcc hss rfl fun H1 cA e1 z o1 hAr hfc => ?_
  have hRA := (hC.2.2.2.2.2.2.1.1.1.2 t0 _ (ht G)).2
  have hcA : gC G kd = cA := by
    have q : s.vm.findClass ("[" ++ (newarray.typeOf atype).toString) = some (gC G kd) := by
      revert hRA
      cases atype <;> exact fun h => h
    exact Option.some.inj (q.symm.trans hfc)
  subst hcA
  have hk1 := kk H1 (hS.push (kd := kd) (by omega) h0 (by omega) ?_ z o1 (fun k hk => ?_) (fun k _ _ => okS_0)) (va_psh hva z o1) (okc trivial (okt hst))
  · change W p l e R s m args below meth c H1 locs (C + 1) (S + n.toNat) Qr (F0 m (pc + 2) ls (rR G (hn A) :: st.map (rV G))) at hk1
    rw [hn_r hS] at hk1
    exact hk1
  · have e3 : rA G (hn A) = H.size := by rw [rA_dyn hS.2.1, ← hS.1]
    have z1 : hk (hnew A kd n n.toNat (fun _ => 0)) (hn A) = kd := by rw [hk_new, if_pos rfl]
    have z2 : hl (hnew A kd n n.toNat (fun _ => 0)) (hn A) = n := by rw [hl_new, if_pos rfl]
    have z3 : ∀ j, hv (hnew A kd n n.toNat (fun _ => 0)) (hn A) j = 0 := fun j => by rw [hv_new, if_pos rfl]
    rcases hkd with ⟨a1, a2⟩ | ⟨a1, a2⟩ | ⟨a1, a2⟩ | ⟨a1, a2⟩
    · rw [ent_int z1 (by omega)]
      show H1[rA G (hn A)]? = some (vp_cell _ _)
      rw [e3, e1, vp_cell_i, z2, a2]
      simp only [z3]
      rfl
    · rw [ent_int z1 (by omega)]
      show H1[rA G (hn A)]? = some (vp_cell _ _)
      rw [e3, e1, vp_cell_i, z2, a2]
      simp only [z3]
      rfl
    · rw [ent_int z1 (by omega)]
      show H1[rA G (hn A)]? = some (vp_cell _ _)
      rw [e3, e1, vp_cell_i, z2, a2]
      simp only [z3]
      rfl
    · subst a1
      rw [ent_long z1]
      show H1[rA G (hn A)]? = some (vp_cell _ _)
      rw [e3, e1, vp_cell_l, z2, a2]
      simp only [z3]
      rfl
  · rcases hkd with ⟨rfl, -⟩ | ⟨rfl, -⟩ | ⟨rfl, -⟩ | ⟨rfl, -⟩
    · unfold okS; rw [if_pos rfl]; decide
    · unfold okS; rw [if_neg (by omega), if_neg (by omega), if_pos rfl]; decide
    · unfold okS; rw [if_neg (by omega), if_neg (by omega), if_neg (by omega), if_pos rfl]; exact Or.inl rfl
    · unfold okS; rw [if_neg (by omega), if_pos rfl]; decide
theorem aw_newq {idx : Nat} {kd t0 : Nat} {Cn : String} (ht : ∀ G, (tysL G)[t0]? = some (gC G kd, .object Cn)) (hkd : 30 ≤ kd) (hw : Cond.classLink M.1.cls idx Cn ∈ TB) (hao : Cn ∈ aoL)
    (hd : decode M.2.1 pc = .ok (.anewarray idx, 3)) (hp : pc + 3 = pc') (h0 : 0 ≤ n) (h1 : n < 65536) (kk : AW d M pc' lv (vr (hn A) :: st) (hnew A kd n n.toNat (fun _ => 0)) Q) : AW d M pc lv (vi n :: st) A Q := by
  subst hp
  refine AW.al (sl := n.toNat) (hn_new _ _ _ _ _) (hs_new _ _ _ _ _) (fun l G p e R s m args below meth c H locs ls C S Qr hC hS hl9 ho hst hva hcc hss kk => ?_) kk
  have hn32 : in32 n := by unfold in32; omega
  change W p l e R s m args below meth c H locs C S Qr (F0 m pc ls (.int (Int32.ofInt n) :: st.map (rV G)))
  have hover := va_AO.use (A := args) (hC.2.2.2.2.2.2.1.1.2.2.1 Cn hao)
  refine W.anew hC.1 hC.2.1 hC.2.2.2.2.1 (hC.2.2.2.2.2.1 _ hw) hover rfl hd rfl (by rw [i32_0, i32_lt hn32 (by decide)]; omega) (by rw [i32_n hn32]; omega) hcc (by rw [i32_n hn32]; exact hss) fun cA kA comp f1 f2 f3 f4 => ?_
  rw [i32_n hn32]
  generalize hH1 : H.push ({ cls := cA, slots := Array.replicate n.toNat .null, vm := .none } : Cell) = H1
  have z1 : H1.size = H.size + 1 := by rw [← hH1, Array.size_push]
  have e1 : H1[H.size]? = some (arrV cA n.toNat (fun _ => .null)) := by rw [← hH1, Array.getElem?_push_size, ← arrV_new]
  have o1 : ∀ q : Nat, q < H.size → H1[q]? = H[q]? := fun q hq => by rw [← hH1, Array.getElem?_push, if_neg (Nat.ne_of_lt hq)]
  obtain ⟨kA', comp', -, -, -, r4⟩ := (hC.2.2.2.2.2.2.1.1.1.2 t0 _ (ht G)).2
  have hcA : gC G kd = cA := Option.some.inj (r4.symm.trans f1)
  subst hcA
  have hk1 := kk H1 (hS.push (kd := kd) (by omega) h0 (by omega) ?_ z1 o1 (fun k hk => okS_r hkd) (fun k _ _ => okS_0)) (va_psh hva z1 o1) (okc trivial (okt hst))
  · change W p l e R s m args below meth c H1 locs (C + 1) (S + n.toNat) Qr (F0 m (pc + 3) ls (rR G (hn A) :: st.map (rV G))) at hk1
    rw [hn_r hS] at hk1
    exact hk1
  · have e3 : rA G (hn A) = H.size := by rw [rA_dyn hS.2.1, ← hS.1]
    have y1 : hk (hnew A kd n n.toNat (fun _ => 0)) (hn A) = kd := by rw [hk_new, if_pos rfl]
    have y2 : hl (hnew A kd n n.toNat (fun _ => 0)) (hn A) = n := by rw [hl_new, if_pos rfl]
    have y3 : ∀ j, hv (hnew A kd n n.toNat (fun _ => 0)) (hn A) j = 0 := fun j => by rw [hv_new, if_pos rfl]
    rw [ent_ref y1 hkd]
    show H1[rA G (hn A)]? = some (vp_cell _ _)
    rw [e3, e1, vp_cell_q, y2]
    simp only [y3]
    rfl
theorem dfl_at : ∀ ci, ci < 12 → ∀ j, j < clN ci → tk (tyC ci j) = 0 ∨ tk (tyC ci j) = 1 ∨ tk (tyC ci j) = 2 := by decide +kernel
theorem dfl_tk {G : Gp} {ty : FieldType} (h : tk ty = 0 ∨ tk ty = 1 ∨ tk ty = 2) : defaultValue ty = fvl G ty 0 := by
  have h0 : rR G 0 = .null := by unfold rR; rw [if_pos (Or.inl rfl)]
  cases ty <;> first | rfl | (simp [tk] at h; done) | exact h0.symm
theorem aw_new {idx ci : Nat} (hci : ci < 12) (hw : Cond.classLink M.1.cls idx (clC ci) ∈ TB) (hw2 : Cond.instantiable (clC ci) (clN ci) ∈ TB) (hw3 : Cond.initialized (clC ci) ∈ TB)
    (hd : decode M.2.1 pc = .ok (.new idx, 3)) (hp : pc + 3 = pc') (kk : AW d M pc' lv (vr (hn A) :: st) (hnew A (ci + 1) 0 (clN ci) (fun _ => 0)) Q) : AW d M pc lv st A Q := by
  subst hp
  refine AW.al (sl := clN ci) (hn_new _ _ _ _ _) (hs_new _ _ _ _ _) (fun l G p e R s m args below meth c H locs ls C S Qr hC hS hl9 ho hst hva hcc hss kk => ?_) kk
  have hts := hC.2.2.2.2.2.1
  have hKn := hC.2.2.2.2.2.2.1.1.1.1 ci _ (cl_at hci)
  refine W.newcK hC.1 hC.2.1 hC.2.2.2.2.1 (hts _ hw) (hts _ hw2) (hts _ hw3) rfl hd hcc hss hKn.2.1 rfl fun H1 kC hkC e1 z1 o1 => ?_
  have hk1 := kk H1 (hS.push (kd := ci + 1) (by omega) (Int.le_refl 0) (by omega) ?_ z1 o1 (fun k hk => ?_) (fun k _ _ => okS_0)) (va_psh hva z1 o1) (okc trivial hst)
  · change W p l e R s m args below meth c H1 locs (C + 1) (S + clN ci) Qr (F0 m (pc + 3) ls (rR G (hn A) :: st.map (rV G))) at hk1
    rw [hn_r hS] at hk1
    exact hk1
  · have e3 : rA G (hn A) = H.size := by rw [rA_dyn hS.2.1, ← hS.1]
    rw [e3, ent_obj (A := hnew A (ci + 1) 0 (clN ci) (fun _ => 0)) (by rw [hk_new, if_pos rfl]) hci]
    refine ⟨_, cl_at hci, (u_born (tyC ci) hts (cl_tb hci) hKn hkC e1 (cl_ty ci hci)).to (fun j hj => ?_)⟩
    unfold vp_V
    rw [List.getD_eq_getElem?_getD, fs_at hj]
    show _ = fvl G (tyC ci j) (hx _ _ _ _)
    rw [show hx (hnew A (ci + 1) 0 (clN ci) fun _ => 0) ci (hn A) j = 0 by unfold hx; split; rw [hp_new, if_pos rfl]; rw [hv_new, if_pos rfl]]
    exact dfl_tk (dfl_at ci hci j hj)
  · unfold okS
    rw [if_neg (by omega), if_neg (by omega), if_neg (by omega), if_neg (by omega), if_pos (by omega)]
    split <;> first | trivial | exact Or.inl rfl | decide
theorem aw_obj {idx : Nat} (hw : Cond.methodLink M.1.cls idx Lib.objectInit ∈ TB) (hw2 : Cond.instanceMethod Lib.objectInit ∈ TB) (hw3 : Cond.code Lib.objectInit ⟨#[0xb1]⟩ 1 none ∈ TB) (hd1 : 1 ≤ d) (hst : (st.map acat).sum ≤ 8)
    (hd : decode M.2.1 pc = .ok (.invokespecial idx, 3)) (hp : pc + 3 = pc') (ho60 : 60 ≤ o) (kk : AW d M pc' lv st A Q) : AW d M pc lv (vr o :: st) A Q := by
  subst hp
  refine AW.pure (fun l G p e R s m args below meth c H locs ls C S Qr hC hS hl9 ho hst9 hva kk => ?_) kk
  have hts := hC.2.2.2.2.2.1
  change W p l e R s m args below meth c H locs C S Qr (F0 m pc ls (rR G o :: st.map (rV G)))
  rw [rR_dyn ho60]
  have h8 : ((st.map (rV G)).map fun v => v.category).sum ≤ 8 := by
    rw [List.map_map]
    have : (st.map ((fun v => v.category) ∘ rV G)) = st.map acat := by
      apply List.map_congr_left
      intro a _
      exact rV_cat G a
    rw [this]
    exact hst
  refine W.objInit hC.1 hC.2.1 hC.2.2.2.2.1 (hts _ hw) (hts _ hw2) (hts _ hw3) rfl (by rw [hC.2.2.1]; exact hl9.1) rfl hd (by have := hC.2.2.2.2.2.2.2.1; omega) (by show 2 * 0 + _ + 12 ≤ _; have := hC.2.2.2.2.2.2.2.2.1; omega) ?_
  exact kk ls hl9 ho (okt hst9)
end ALC
