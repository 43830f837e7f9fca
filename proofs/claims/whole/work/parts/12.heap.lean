def isO (A : AHp) (o : Int) (kd : Nat) : Prop := 60 ≤ o ∧ o < hn A ∧ hk A o = kd
def isA (A : AHp) (o : Int) (kd : Nat) (n : Int) : Prop := 60 ≤ o ∧ o < hn A ∧ hk A o = kd ∧ hl A o = n
/-- the field that an instruction of a class names: its class, its place -/
def FL (own : String) (idx ci k : Nat) : Prop := ci < 12 ∧ k < clN ci ∧ Cond.fieldLink own idx (clT ci k).1 (clT ci k).2.1 (clT ci k).2.2.1 ∈ TB
theorem ent_obj {G : Gp} {A : AHp} {o : Int} {ci : Nat} (h : hk A o = ci + 1) (hc : ci < 12) : entE G A o = .inr (ci, fsE G A ci o) := by
  unfold entE
  rw [if_pos (by omega), h]
  rfl
theorem ent_long {G : Gp} {A : AHp} {o : Int} (h : hk A o = 21) : entE G A o = .inl (gC G 21, (hl A o).toNat, .inr (.inl fun j => Int64.ofInt (hv A o j))) := by
  unfold entE
  rw [if_neg (by omega), if_pos h]
theorem ent_int {G : Gp} {A : AHp} {o : Int} {kd : Nat} (h : hk A o = kd) (h1 : kd = 20 ∨ kd = 22 ∨ kd = 23) : entE G A o = .inl (gC G kd, (hl A o).toNat, .inl fun j => Int32.ofInt (hv A o j)) := by
  unfold entE
  rw [if_neg (by omega), if_neg (by omega), if_pos (by omega), h]
theorem ent_ref {G : Gp} {A : AHp} {o : Int} {kd : Nat} (h : hk A o = kd) (h1 : 30 ≤ kd) : entE G A o = .inl (gC G kd, (hl A o).toNat, .inr (.inr (.inr (.inr fun j => rO G (hv A o j))))) := by
  unfold entE
  rw [if_neg (by omega), if_neg (by omega), if_neg (by omega), h]
theorem fs_at {G : Gp} {A : AHp} {o : Int} {ci k : Nat} (hk : k < clN ci) : (fsE G A ci o)[k]? = some (fvl G (tyC ci k) (hx A ci o k)) := by
  unfold fsE
  rw [List.getElem?_map, List.getElem?_range hk]
  rfl
theorem fs_len {G : Gp} {A : AHp} {o : Int} {ci : Nat} : (fsE G A ci o).length = clN ci := by
  unfold fsE
  rw [List.length_map, List.length_range]
/-- a type's values: ints 0, references 1, booleans 2 -/
def tk (ty : FieldType) : Nat := match ty with
  | .int => 0 | .object _ => 1 | .array _ => 1 | .boolean => 2 | _ => 9
theorem fvl_i {G : Gp} {ty : FieldType} {x : Int} (h : tk ty = 0 ∨ tk ty = 2) : fvl G ty x = .int (Int32.ofInt x) := by
  cases ty <;> first | rfl | (simp [tk] at h)
theorem fvl_r {G : Gp} {ty : FieldType} {x : Int} (h : tk ty = 1) : fvl G ty x = rR G x := by
  cases ty <;> first | rfl | (simp [tk] at h)
theorem okS_i {ci k : Nat} {x : Int} (hc : ci < 12) (h : tk (tyC ci k) = 0 ∨ tk (tyC ci k) = 2) (ho : okS (ci + 1) k x) : in32 x := by
  unfold okS at ho
  rw [if_neg (by omega), if_neg (by omega), if_neg (by omega), if_neg (by omega), if_pos (by omega)] at ho
  rw [show ci + 1 - 1 = ci by omega, show ((k : Int)).toNat = k by omega] at ho
  generalize tyC ci k = ty at h ho
  cases ty <;> first | exact ho | (simp [tk] at h; done) | (rcases ho with rfl | rfl <;> decide)
theorem okS_mk {ci k : Nat} {x : Int} (hc : ci < 12) (h : (tk (tyC ci k) = 0 ∧ in32 x) ∨ tk (tyC ci k) = 1 ∨ (tk (tyC ci k) = 2 ∧ (x = 0 ∨ x = 1))) : okS (ci + 1) k x := by
  unfold okS
  rw [if_neg (by omega), if_neg (by omega), if_neg (by omega), if_neg (by omega), if_pos (by omega)]
  rw [show ci + 1 - 1 = ci by omega, show ((k : Int)).toNat = k by omega]
  generalize tyC ci k = ty at h ⊢
  cases ty <;> simp [tk] at h <;> first | exact h | trivial
theorem ot_get {d : Nat} {M : MD} {pc pc' : Nat} {lv : LV} {st : List AV} {A : AHp} {Q : Option AV → AHp → Prop} {o : Int} {v : AV} {idx ci k : Nat} (hd : decode M.2.1 pc = .ok (.getfield idx, 3)) (hp : pc + 3 = pc') (hf : FL M.1.cls idx ci k) (hO : isO A o (ci + 1))
    (hv1 : ∀ G, fvl G (tyC ci k) (hx A ci o k) = rV G v) (hok : okS (ci + 1) k (hx A ci o k) → okV v) (kk : AW d M pc' lv (v :: st) A Q) : AW d M pc lv (vr o :: st) A Q := by
  subst hp
  refine AW.pure (fun l G p e R s m args below meth c H locs ls C S Qr hC hS hl ho hst hva kk => ?_) kk
  obtain ⟨hc, hk1, hw⟩ := hf
  have hP := hS.at1 hO.1 hO.2.1
  rw [ent_obj hO.2.2 hc] at hP
  change W p l e R s m args below meth c H locs C S Qr (F0 m pc ls (rR G o :: st.map (rV G)))
  rw [rR_dyn hO.1]
  refine va_get (T := clT ci) (N := clN ci) (C := clC ci) (ci := ci) hC.1 hC.2.1 hC.2.2.2.2.2.1 (cl_tb hc) hC.2.2.2.2.1 hC.2.2.2.2.2.2.1.1.1 hP 0 rfl (cl_at hc) k hk1 (hC.2.2.2.2.2.1 _ hw) (fun _ h9 => h9) (fs_at hk1) hd ?_
  rw [hv1 G]
  exact kk ls hl ho (okc (hok (by have h1 := hS.2.2.2.1 o hO.1 hO.2.1 k (by omega); rw [hO.2.2] at h1; unfold hx; split; exact h1.2 (by omega); exact h1.1)) (okt hst))
theorem aw_geti {d : Nat} {M : MD} {pc pc' : Nat} {lv : LV} {st : List AV} {A : AHp} {Q : Option AV → AHp → Prop} {o : Int} {idx ci k : Nat} (hd : decode M.2.1 pc = .ok (.getfield idx, 3)) (hp9 : pc + 3 = pc') (hf : FL M.1.cls idx ci k) {k9 : Int} (hk9 : (k : Int) = k9) (ht : tk (tyC ci k) = 0 ∨ tk (tyC ci k) = 2) (hfin : (clT ci k).2.2.2 = false) (hO : isO A o (ci + 1))
    (kk : AW d M pc' lv (vi (hv A o k9) :: st) A Q) : AW d M pc lv (vr o :: st) A Q := by
  subst hk9
  have e : hx A ci o k = hv A o k := if_neg (by rw [hfin]; decide)
  rw [← e] at kk
  exact ot_get (v := vi (hx A ci o k)) hd hp9 hf hO (fun G => fvl_i ht) (fun h => okS_i hf.1 ht h) kk
theorem aw_getfi {d : Nat} {M : MD} {pc pc' : Nat} {lv : LV} {st : List AV} {A : AHp} {Q : Option AV → AHp → Prop} {o : Int} {idx ci k : Nat} (hd : decode M.2.1 pc = .ok (.getfield idx, 3)) (hp9 : pc + 3 = pc') (hf : FL M.1.cls idx ci k) {k9 : Int} (hk9 : (k : Int) = k9) (ht : tk (tyC ci k) = 0 ∨ tk (tyC ci k) = 2) (hfin : (clT ci k).2.2.2 = true) (hO : isO A o (ci + 1))
    (kk : AW d M pc' lv (vi (hp A o k9) :: st) A Q) : AW d M pc lv (vr o :: st) A Q := by
  subst hk9
  have e : hx A ci o k = hp A o k := if_pos hfin
  rw [← e] at kk
  exact ot_get (v := vi (hx A ci o k)) hd hp9 hf hO (fun G => fvl_i ht) (fun h => okS_i hf.1 ht h) kk
theorem aw_getr {d : Nat} {M : MD} {pc pc' : Nat} {lv : LV} {st : List AV} {A : AHp} {Q : Option AV → AHp → Prop} {o : Int} {idx ci k : Nat} (hd : decode M.2.1 pc = .ok (.getfield idx, 3)) (hp9 : pc + 3 = pc') (hf : FL M.1.cls idx ci k) {k9 : Int} (hk9 : (k : Int) = k9) (ht : tk (tyC ci k) = 1) (hfin : (clT ci k).2.2.2 = false) (hO : isO A o (ci + 1))
    (kk : AW d M pc' lv (vr (hv A o k9) :: st) A Q) : AW d M pc lv (vr o :: st) A Q := by
  subst hk9
  have e : hx A ci o k = hv A o k := if_neg (by rw [hfin]; decide)
  rw [← e] at kk
  exact ot_get (v := vr (hx A ci o k)) hd hp9 hf hO (fun G => fvl_r ht) (fun h => trivial) kk
theorem aw_getfr {d : Nat} {M : MD} {pc pc' : Nat} {lv : LV} {st : List AV} {A : AHp} {Q : Option AV → AHp → Prop} {o : Int} {idx ci k : Nat} (hd : decode M.2.1 pc = .ok (.getfield idx, 3)) (hp9 : pc + 3 = pc') (hf : FL M.1.cls idx ci k) {k9 : Int} (hk9 : (k : Int) = k9) (ht : tk (tyC ci k) = 1) (hfin : (clT ci k).2.2.2 = true) (hO : isO A o (ci + 1))
    (kk : AW d M pc' lv (vr (hp A o k9) :: st) A Q) : AW d M pc lv (vr o :: st) A Q := by
  subst hk9
  have e : hx A ci o k = hp A o k := if_pos hfin
  rw [← e] at kk
  exact ot_get (v := vr (hx A ci o k)) hd hp9 hf hO (fun G => fvl_r ht) (fun h => trivial) kk
/-- a row that writes one place -/
theorem AW.wr {d : Nat} {M : MD} {pc pc' : Nat} {lv : LV} {st st' : List AV} {A A1 : AHp} {Q : Option AV → AHp → Prop} (e1 : hn A1 = hn A) (e2 : hs A1 = hs A)
    (h : ∀ (l : Launch) (G : Gp) (p : Program) (e : Env) (R : Room) (s : State) (m : MethodId) (args : Array Value) (below : List Frame) (meth : Method) (c : Code) (H : Heap) (locs : List Loc) (ls : Array Slot) (C S : Nat) (Qr : State → Prop),
      CXd d M G p R s m args meth c → SIM G A H → lvOK G ls M.2.2.1 lv → okL lv → (∀ a ∈ st, okV a) → va_S (frA G) s.heap H locs →
      (∀ (H1 : Heap) (locs1 : List Loc), SIM G A1 H1 → va_S (frA G) s.heap H1 locs1 → (∀ a ∈ st', okV a) → W p l e R s m args below meth c H1 locs1 C S Qr (F0 m pc' ls (st'.map (rV G)))) →
      W p l e R s m args below meth c H locs C S Qr (F0 m pc ls (st.map (rV G))))
    (k : AW d M pc' lv st' A1 Q) : AW d M pc lv st A Q := by
  obtain ⟨r, A', h1, h2, h3, hW⟩ := k
  rw [e1] at h2
  rw [e2] at h3
  refine ⟨r, A', h1, h2, h3, fun l G p e R s m args below meth c H locs ls C S Qr hC hS hl ho hst hva hrm hret => ?_⟩
  rw [e1, e2] at hW
  exact h l G p e R s m args below meth c H locs ls C S Qr hC hS hl ho hst hva (fun H1 locs1 hS1 hva1 hst1 => hW l G p e R s m args below meth c H1 locs1 ls C S Qr hC hS1 hl ho hst1 hva1 hrm hret)
def hput (A : AHp) (ci : Nat) (o : Int) (k : Nat) (x : Int) : AHp := if (clT ci k).2.2.2 = true then hpset A o k x else hset A o k x
theorem hput_k (A : AHp) (ci : Nat) (o : Int) (k : Nat) (x : Int) : hk (hput A ci o k x) = hk A := by unfold hput; split <;> rfl
theorem hput_n (A : AHp) (ci : Nat) (o : Int) (k : Nat) (x : Int) : hn (hput A ci o k x) = hn A := by unfold hput; split <;> rfl
theorem hput_s (A : AHp) (ci : Nat) (o : Int) (k : Nat) (x : Int) : hs (hput A ci o k x) = hs A := by unfold hput; split <;> rfl
theorem hput_x (A : AHp) (ci : Nat) (o : Int) (k : Nat) (x : Int) (j : Nat) : hx (hput A ci o k x) ci o j = if j = k then x else hx A ci o j := by
  unfold hput hx
  by_cases e : j = k
  · subst e
    rw [if_pos rfl]
    by_cases f : (clT ci j).2.2.2 = true
    · rw [if_pos f, if_pos f, hp_pset, if_pos ⟨rfl, rfl⟩]
    · rw [if_neg f, if_neg f, hv_set, if_pos ⟨rfl, rfl⟩]
  · rw [if_neg e]
    have e2 : ¬ (o = o ∧ (j : Int) = (k : Int)) := fun q => e (by omega)
    by_cases f : (clT ci k).2.2.2 = true
    · rw [if_pos f]
      by_cases g : (clT ci j).2.2.2 = true
      · rw [if_pos g, if_pos g, hp_pset, if_neg e2]
      · rw [if_neg g, if_neg g, hv_pset]
    · rw [if_neg f]
      by_cases g : (clT ci j).2.2.2 = true
      · rw [if_pos g, if_pos g, hp_set]
      · rw [if_neg g, if_neg g, hv_set, if_neg e2]
theorem put_at {G : Gp} {A : AHp} {o x : Int} {ci k : Nat} {D9 : va_G} {H1 : Heap} {cell : Cell} (hc : ci < 12) (hk1 : k < clN ci) (hO : hk A o = ci + 1) (q2 : cell.cls = (gD G).1 ci) (q3 : cell.vm = .none)
    (q4 : ∀ j, j < clN ci → cell.slots[(gD G).2 ci j]? = some (vp_V (fsE G A ci o) j)) (hap : ∀ a b, a < clN ci → b < clN ci → a ≠ b → (gD G).2 ci a ≠ (gD G).2 ci b)
    (e1 : H1[rA G o]? = some (cell.setSlot ((gD G).2 ci k) (fvl G (tyC ci k) x))) : va_at (gD G) vwCl (rA G o, entE G (hput A ci o k x) o) H1 := by
  rw [ent_obj (A := hput A ci o k x) (by rw [hput_k]; exact hO) hc]
  refine ⟨_, cl_at hc, t_OB.to (V := updV (vp_V (fsE G A ci o)) k (fvl G (tyC ci k) x)) ⟨_, e1, q2, q3, t_set q4 hap hk1 _⟩ (fun j hj => ?_)⟩
  have g1 : vp_V (fsE G (hput A ci o k x) ci o) j = fvl G (tyC ci j) (hx (hput A ci o k x) ci o j) := by
    unfold vp_V
    rw [List.getD_eq_getElem?_getD, fs_at hj]
    rfl
  have g2 : vp_V (fsE G A ci o) j = fvl G (tyC ci j) (hx A ci o j) := by
    unfold vp_V
    rw [List.getD_eq_getElem?_getD, fs_at hj]
    rfl
  rw [g1]
  unfold updV
  by_cases e : j = k
  · subst e
    rw [if_pos rfl, hput_x, if_pos rfl]
  · rw [if_neg e, g2, hput_x, if_neg e]
theorem put_sim {G : Gp} {A : AHp} {H H1 : Heap} (h : SIM G A H) {o v : Int} {ci k : Nat} (h1 : 60 ≤ o) (h2 : o < hn A) (he : va_at (gD G) vwCl (rA G o, entE G (hput A ci o k v) o) H1) (z : H1.size = H.size)
    (oq : ∀ q : Nat, q ≠ rA G o → H1[q]? = H[q]?) (hok : okS (hk A o) k v) : SIM G (hput A ci o k v) H1 := by
  unfold hput at he ⊢
  by_cases f : (clT ci k).2.2.2 = true
  · rw [if_pos f] at he ⊢
    exact h.putF h1 h2 he z oq hok
  · rw [if_neg f] at he ⊢
    exact h.put h1 h2 he z oq hok
theorem ot_put {d : Nat} {M : MD} {pc pc' : Nat} {lv : LV} {st : List AV} {A : AHp} {Q : Option AV → AHp → Prop} {o x : Int} {v : AV} {idx ci k : Nat} (hd : decode M.2.1 pc = .ok (.putfield idx, 3)) (hp : pc + 3 = pc') (hf : FL M.1.cls idx ci k)
    (hfin : (clT ci k).2.2.2 = false ∨ ((clT ci k).2.2.2 = true ∧ M.1.name = "<init>" ∧ (clT ci k).1 = M.1.cls)) (hO : isO A o (ci + 1))
    (hv : ∀ G, fvl G (tyC ci k) x = rV G v) (hn : okV v → ∀ G, narrow (tyC ci k) (rV G v) = rV G v ∧ fits (tyC ci k) (rV G v) = true) (hok : okV v → okS (ci + 1) k x) (kk : AW d M pc' lv st (hput A ci o k x) Q) : AW d M pc lv (v :: vr o :: st) A Q := by
  subst hp
  refine AW.wr (A1 := hput A ci o k x) (hput_n _ _ _ _ _) (hput_s _ _ _ _ _) (fun l G p e R s m args below meth c H locs ls C S Qr hC hS hl ho hst hva kk => ?_) kk
  obtain ⟨hc, hk1, hw⟩ := hf
  have hV : okV v := okh hst
  have hP := (hS.2.2.1 o hO.1 hO.2.1).2.2.2
  rw [ent_obj hO.2.2 hc] at hP
  obtain ⟨r, h1, cell, q1, q2, q3, q4⟩ := hP
  have hr : r = (clC ci, clT ci, clN ci) := Option.some.inj (h1.symm.trans (cl_at hc))
  subst hr
  have hK := hC.2.2.2.2.2.2.1.1.1
  have hts := hC.2.2.2.2.2.1
  have hown := hC.2.2.2.2.1
  obtain ⟨hSl, hfc, kC, hkC, hkind⟩ := hK.1 ci _ (cl_at hc)
  obtain ⟨cf, kf, fi, f, hi, hsl⟩ := hSl k hk1
  have hap := va_apart (own := "") (tys := tysL G) (D := gD G) hts (cl_tb hc) (tyC ci) (cl_ty ci hc) (cl_nm ci hc) hK (cl_at hc)
  have hap' : ∀ a b, a < clN ci → b < clN ci → a ≠ b → (gD G).2 ci a ≠ (gD G).2 ci b := hap
  have hlay := hts _ (cl_tb hc _ (u_in_lay hk1))
  have hst2 := (u_facts hfc hkC (u_lays hts (cl_tb hc) hk1) hi).1
  have hd2 := cl_ty ci hc k hk1
  change W p l e R s m args below meth c H locs C S Qr (F0 m pc ls (rV G v :: rR G o :: st.map (rV G)))
  rw [rR_dyn hO.1]
  have fin : ∀ H' : Heap, H'[rA G o]? = some (cell.setSlot f.slot (rV G v)) → H'.size = H.size → (∀ q, q ≠ rA G o → H'[q]? = H[q]?) → W p l e R s m args below meth c H' (locs ++ [⟨rA G o, f.slot⟩]) C S Qr (F0 m (pc + 3) ls (st.map (rV G))) := by
    intro H' e1 e2 e3
    rw [hsl, ← hv G] at e1
    refine kk H' _ (put_sim hS hO.1 hO.2.1 (put_at (D9 := gD G) hc hk1 hO.2.2 q2 q3 q4 hap' e1) e2 e3 (by rw [hO.2.2]; exact hok hV)) (hva.put e2 e3 (by show gB G ≤ rA G o; rw [rA_dyn hO.1]; omega)) (okt (okt hst))
  rcases hfin with hfin | ⟨hfin, hin2, hdecl⟩
  · unfold u_lay at hlay
    rw [if_neg (by rw [hfin]; decide)] at hlay
    have h6 := u_store hfc hkC hkind hlay hi hd2 (hn hV G).1 (hn hV G).2
    refine W.putK hC.1 hC.2.1 (f := f) ⟨hown, hts _ hw, ⟨_, _, _, hi⟩, hst2⟩ (by rw [q2]; exact h6) q1 q3 (by rw [hsl]; exact k2_hasslot (q4 k hk1)) rfl rfl hd fin
  · unfold u_lay at hlay
    rw [if_pos hfin] at hlay
    have hcf : m.cls = cf := by
      obtain ⟨_, _, c', _, _, _, -, -, hf', -, -, -, hown2, -⟩ := Cond.laysFinal_spec hlay
      have e1 : c' = cf := by have := hi.symm.trans hf'; simp at this; exact this.1.symm
      rw [hdecl] at hown2
      rw [← e1]; exact Option.some.inj (hown.symm.trans hown2)
    have h6 := u_fits hfc hkC hkind (Or.inr hlay) hi hd2 (hn hV G).1 (hn hV G).2
    exact W.putFinK hC.1 hC.2.1 hown (hts _ hw) hi hst2 hcf (hC.2.2.2.2.2.2.2.2.2.2 hin2) (by rw [q2]; exact h6) q1 q3 (by rw [hsl]; exact k2_hasslot (q4 k hk1)) rfl rfl hd fin
theorem fit_i {ty : FieldType} {x : Int} (h : tk ty = 0) : narrow ty (.int (Int32.ofInt x)) = .int (Int32.ofInt x) ∧ fits ty (.int (Int32.ofInt x)) = true := by
  cases ty <;> simp [tk] at h <;> exact ⟨rfl, rfl⟩
theorem fit_z {ty : FieldType} {x : Int} (h : tk ty = 2) (hx : x = 0 ∨ x = 1) : narrow ty (.int (Int32.ofInt x)) = .int (Int32.ofInt x) ∧ fits ty (.int (Int32.ofInt x)) = true := by
  cases ty <;> simp [tk] at h
  rcases hx with rfl | rfl <;> exact ⟨rfl, by decide +kernel⟩
theorem fit_r {G : Gp} {ty : FieldType} {x : Int} (h : tk ty = 1) : narrow ty (rR G x) = rR G x ∧ fits ty (rR G x) = true := by
  rcases rR_ref G x with e | ⟨a, e⟩ <;> rw [e] <;> cases ty <;> simp [tk] at h <;> exact ⟨rfl, rfl⟩
theorem aw_puti {d : Nat} {M : MD} {pc pc' : Nat} {lv : LV} {st : List AV} {A : AHp} {Q : Option AV → AHp → Prop} {o x : Int} {idx ci k : Nat} (hd : decode M.2.1 pc = .ok (.putfield idx, 3)) (hp9 : pc + 3 = pc') (hf : FL M.1.cls idx ci k) {k9 : Int} (hk9 : (k : Int) = k9) (ht : tk (tyC ci k) = 0) (hfin : (clT ci k).2.2.2 = false) (hO : isO A o (ci + 1))
    (kk : AW d M pc' lv st (hset A o k9 x) Q) : AW d M pc lv (vi x :: vr o :: st) A Q := by
  subst hk9
  have e : hput A ci o k x = hset A o k x := if_neg (by rw [hfin]; decide)
  rw [← e] at kk
  exact ot_put (v := vi x) hd hp9 hf (Or.inl hfin) hO (fun G => fvl_i (Or.inl ht)) (fun _ G => fit_i ht) (fun h => okS_mk hf.1 (Or.inl ⟨ht, h⟩)) kk
theorem aw_putr {d : Nat} {M : MD} {pc pc' : Nat} {lv : LV} {st : List AV} {A : AHp} {Q : Option AV → AHp → Prop} {o x : Int} {idx ci k : Nat} (hd : decode M.2.1 pc = .ok (.putfield idx, 3)) (hp9 : pc + 3 = pc') (hf : FL M.1.cls idx ci k) {k9 : Int} (hk9 : (k : Int) = k9) (ht : tk (tyC ci k) = 1) (hfin : (clT ci k).2.2.2 = false) (hO : isO A o (ci + 1))
    (kk : AW d M pc' lv st (hset A o k9 x) Q) : AW d M pc lv (vr x :: vr o :: st) A Q := by
  subst hk9
  have e : hput A ci o k x = hset A o k x := if_neg (by rw [hfin]; decide)
  rw [← e] at kk
  exact ot_put (v := vr x) hd hp9 hf (Or.inl hfin) hO (fun G => fvl_r ht) (fun _ G => fit_r ht) (fun h => okS_mk hf.1 (Or.inr (Or.inl ht))) kk
theorem aw_putz {d : Nat} {M : MD} {pc pc' : Nat} {lv : LV} {st : List AV} {A : AHp} {Q : Option AV → AHp → Prop} {o x : Int} {idx ci k : Nat} (hd : decode M.2.1 pc = .ok (.putfield idx, 3)) (hp9 : pc + 3 = pc') (hf : FL M.1.cls idx ci k) {k9 : Int} (hk9 : (k : Int) = k9) (ht : tk (tyC ci k) = 2) (hfin : (clT ci k).2.2.2 = false) (hO : isO A o (ci + 1)) (hx : x = 0 ∨ x = 1)
    (kk : AW d M pc' lv st (hset A o k9 x) Q) : AW d M pc lv (vi x :: vr o :: st) A Q := by
  subst hk9
  have e : hput A ci o k x = hset A o k x := if_neg (by rw [hfin]; decide)
  rw [← e] at kk
  exact ot_put (v := vi x) hd hp9 hf (Or.inl hfin) hO (fun G => fvl_i (Or.inr ht)) (fun _ G => fit_z ht hx) (fun h => okS_mk hf.1 (Or.inr (Or.inr ⟨ht, hx⟩))) kk
theorem aw_putFi {d : Nat} {M : MD} {pc pc' : Nat} {lv : LV} {st : List AV} {A : AHp} {Q : Option AV → AHp → Prop} {o x : Int} {idx ci k : Nat} (hd : decode M.2.1 pc = .ok (.putfield idx, 3)) (hp9 : pc + 3 = pc') (hf : FL M.1.cls idx ci k) {k9 : Int} (hk9 : (k : Int) = k9) (ht : tk (tyC ci k) = 0) (hfin : (clT ci k).2.2.2 = true) (hin : M.1.name = "<init>") (hdc : (clT ci k).1 = M.1.cls) (hO : isO A o (ci + 1))
    (kk : AW d M pc' lv st (hpset A o k9 x) Q) : AW d M pc lv (vi x :: vr o :: st) A Q := by
  subst hk9
  have e : hput A ci o k x = hpset A o k x := if_pos hfin
  rw [← e] at kk
  exact ot_put (v := vi x) hd hp9 hf (Or.inr ⟨hfin, hin, hdc⟩) hO (fun G => fvl_i (Or.inl ht)) (fun _ G => fit_i ht) (fun h => okS_mk hf.1 (Or.inl ⟨ht, h⟩)) kk
theorem aw_putFr {d : Nat} {M : MD} {pc pc' : Nat} {lv : LV} {st : List AV} {A : AHp} {Q : Option AV → AHp → Prop} {o x : Int} {idx ci k : Nat} (hd : decode M.2.1 pc = .ok (.putfield idx, 3)) (hp9 : pc + 3 = pc') (hf : FL M.1.cls idx ci k) {k9 : Int} (hk9 : (k : Int) = k9) (ht : tk (tyC ci k) = 1) (hfin : (clT ci k).2.2.2 = true) (hin : M.1.name = "<init>") (hdc : (clT ci k).1 = M.1.cls) (hO : isO A o (ci + 1))
    (kk : AW d M pc' lv st (hpset A o k9 x) Q) : AW d M pc lv (vr x :: vr o :: st) A Q := by
  subst hk9
  have e : hput A ci o k x = hpset A o k x := if_pos hfin
  rw [← e] at kk
  exact ot_put (v := vr x) hd hp9 hf (Or.inr ⟨hfin, hin, hdc⟩) hO (fun G => fvl_r ht) (fun _ G => fit_r ht) (fun h => okS_mk hf.1 (Or.inr (Or.inl ht))) kk
theorem aw_putFz {d : Nat} {M : MD} {pc pc' : Nat} {lv : LV} {st : List AV} {A : AHp} {Q : Option AV → AHp → Prop} {o x : Int} {idx ci k : Nat} (hd : decode M.2.1 pc = .ok (.putfield idx, 3)) (hp9 : pc + 3 = pc') (hf : FL M.1.cls idx ci k) {k9 : Int} (hk9 : (k : Int) = k9) (ht : tk (tyC ci k) = 2) (hfin : (clT ci k).2.2.2 = true) (hin : M.1.name = "<init>") (hdc : (clT ci k).1 = M.1.cls) (hO : isO A o (ci + 1)) (hx : x = 0 ∨ x = 1)
    (kk : AW d M pc' lv st (hpset A o k9 x) Q) : AW d M pc lv (vi x :: vr o :: st) A Q := by
  subst hk9
  have e : hput A ci o k x = hpset A o k x := if_pos hfin
  rw [← e] at kk
  exact ot_put (v := vi x) hd hp9 hf (Or.inr ⟨hfin, hin, hdc⟩) hO (fun G => fvl_i (Or.inr ht)) (fun _ G => fit_z ht hx) (fun h => okS_mk hf.1 (Or.inr (Or.inr ⟨ht, hx⟩))) kk
