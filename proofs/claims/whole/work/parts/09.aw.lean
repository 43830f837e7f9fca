/-! ===== the machine seen through the abstract heap ===== -/
def TB : List Cond := lw_tbl.filter goodWord
theorem TB_good (w : Cond) (h : w ∈ TB) : goodWord w = true := (List.mem_filter.mp h).2
theorem TB_of {w : Cond} (h : w ∈ lw_tbl) (hg : goodWord w = true) : w ∈ TB := List.mem_filter.mpr ⟨h, hg⟩
/-- a method: name, code, places of locals, type of its answer -/
abbrev MD : Type := MethodName × ByteArray × Nat × Option FieldType
def WSm (M : MD) : List Cond := Cond.code M.1 M.2.1 M.2.2.1 M.2.2.2 :: TB
theorem WSm_good {M : MD} (h : Cond.code M.1 M.2.1 M.2.2.1 M.2.2.2 ∈ TB) : GoodIn TB (WSm M) := by
  intro w hw
  have hw' : w ∈ TB := by
    rcases List.mem_cons.mp hw with rfl | h1
    · exact h
    · exact h1
  exact ⟨hw', good_of_word (TB_good w hw')⟩
def RMd (d mc ms : Nat) : Room := { frames := d, cells := mc, slots := ms, locals := 45 * d }
/-- what a method of a type may answer -/
def rOK (t : Option FieldType) (r : Option AV) : Prop := match t, r with
  | none, none => True
  | some .int, some (.inl _) => True
  | some .boolean, some (.inl x) => x = 0 ∨ x = 1
  | some .char, some (.inl x) => 0 ≤ x ∧ x < 65536
  | some .byte, some (.inl x) => x = 0 ∨ x = 1
  | some .long, some (.inr (.inl _)) => True
  | some (.object _), some (.inr (.inr _)) => True
  | some (.array _), some (.inr (.inr _)) => True
  | _, _ => False
def retI (r : Option AV) : Instr := match r with
  | none => .return_
  | some (.inl _) => .ireturn
  | some (.inr (.inl _)) => .lreturn
  | some (.inr (.inr _)) => .areturn
def okO (r : Option AV) : Prop := ∀ a, r = some a → okV a
def Pcm (G : Gp) (as : List AV) (A : AHp) : Array Value → State → Prop := fun v U => v = (as.map (rV G)).toArray ∧ CTX G U U.heap ∧ SIM G A U.heap ∧ (∀ a ∈ as, okV a) ∧ gB G ≤ U.heap.size
def Qcm (G : Gp) (r : Option AV) (A' : AHp) : Array Value → State → Outcome → State → Prop := fun _ st o t => o = .returned (r.map (rV G)) ∧ SIM G A' t.heap ∧ okO r ∧ va_F (frA G) st t
/-- a call: it comes back with an answer and a heap that Q holds of; d is the depth that it may take -/
def CALL (d : Nat) (M : MD) (as : List AV) (A : AHp) (Q : Option AV → AHp → Prop) : Prop :=
  ∃ (r : Option AV) (A' : AHp), (Q r A' ∧ rOK M.2.2.2 r) ∧ hn A ≤ hn A' ∧ hs A ≤ hs A' ∧
    ∀ (l : Launch) (G : Gp), Met l M.1 (WSm M) (RMd d (hn A' - hn A).toNat (hs A' - hs A)) (Pcm G as A) (Qcm G r A') (hn A' - hn A).toNat (hs A' - hs A) (frA G)
def CXd (d : Nat) (M : MD) (G : Gp) (p : Program) (R : Room) (s : State) (m : MethodId) (args : Array Value) (meth : Method) (c : Code) : Prop :=
  p.tables.exec = Jvm.exec ∧ c.code = M.2.1 ∧ c.maxLocals = M.2.2.1 ∧ meth.sig.returnType = M.2.2.2 ∧ s.vm.findClass M.1.cls = some m.cls ∧ (∀ w ∈ TB, w.before args s = true) ∧ CTX G s s.heap ∧
  d ≤ R.frames ∧ 45 * d ≤ R.locals ∧ gB G ≤ s.heap.size ∧ (M.1.name = "<init>" → meth.name = "<init>")
def RTc (M : MD) (G : Gp) (p : Program) (l : Launch) (e : Env) (R : Room) (s : State) (m : MethodId) (args : Array Value) (below : List Frame) (meth : Method) (c : Code) (C S : Nat) (r : Option AV) (A' : AHp) (Qr : State → Prop) : Prop :=
  ∀ (pc : Nat) (H : Heap) (locs : List Loc) (ls : Array Slot), SIM G A' H → okO r → va_S (frA G) s.heap H locs → decode M.2.1 pc = .ok (retI r, 1) → rOK M.2.2.2 r → W p l e R s m args below meth c H locs C S Qr (F0 m pc ls (r.toList.map (rV G)))
def AW (d : Nat) (M : MD) (pc : Nat) (lv : LV) (st : List AV) (A : AHp) (Q : Option AV → AHp → Prop) : Prop :=
  ∃ (r : Option AV) (A' : AHp), (Q r A' ∧ rOK M.2.2.2 r) ∧ hn A ≤ hn A' ∧ hs A ≤ hs A' ∧
    ∀ (l : Launch) (G : Gp) (p : Program) (e : Env) (R : Room) (s : State) (m : MethodId) (args : Array Value) (below : List Frame) (meth : Method) (c : Code) (H : Heap) (locs : List Loc) (ls : Array Slot) (C S : Nat) (Qr : State → Prop),
      CXd d M G p R s m args meth c → SIM G A H → lvOK G ls M.2.2.1 lv → okL lv → (∀ a ∈ st, okV a) → va_S (frA G) s.heap H locs →
      (C + (hn A' - hn A).toNat ≤ R.cells ∧ S + (hs A' - hs A) ≤ R.slots) →
      RTc M G p l e R s m args below meth c (C + (hn A' - hn A).toNat) (S + (hs A' - hs A)) r A' Qr →
      W p l e R s m args below meth c H locs C S Qr (F0 m pc ls (st.map (rV G)))
theorem AW.mono {d : Nat} {M : MD} {pc : Nat} {lv : LV} {st : List AV} {A : AHp} {Q Q' : Option AV → AHp → Prop} (h : AW d M pc lv st A Q) (hq : ∀ r A', Q r A' → Q' r A') : AW d M pc lv st A Q' := by
  obtain ⟨r, A', h1, h2⟩ := h
  exact ⟨r, A', ⟨hq _ _ h1.1, h1.2⟩, h2⟩
theorem CALL.mono {d : Nat} {M : MD} {as : List AV} {A : AHp} {Q Q' : Option AV → AHp → Prop} (h : CALL d M as A Q) (hq : ∀ r A', Q r A' → Q' r A') : CALL d M as A Q' := by
  obtain ⟨r, A', h1, h2⟩ := h
  exact ⟨r, A', ⟨hq _ _ h1.1, h1.2⟩, h2⟩
/-- a row that changes locals and stack alone -/
theorem AW.pure {d : Nat} {M : MD} {pc pc' : Nat} {lv lv' : LV} {st st' : List AV} {A : AHp} {Q : Option AV → AHp → Prop}
    (h : ∀ (l : Launch) (G : Gp) (p : Program) (e : Env) (R : Room) (s : State) (m : MethodId) (args : Array Value) (below : List Frame) (meth : Method) (c : Code) (H : Heap) (locs : List Loc) (ls : Array Slot) (C S : Nat) (Qr : State → Prop),
      CXd d M G p R s m args meth c → SIM G A H → lvOK G ls M.2.2.1 lv → okL lv → (∀ a ∈ st, okV a) → va_S (frA G) s.heap H locs →
      (∀ ls', lvOK G ls' M.2.2.1 lv' → okL lv' → (∀ a ∈ st', okV a) → W p l e R s m args below meth c H locs C S Qr (F0 m pc' ls' (st'.map (rV G)))) →
      W p l e R s m args below meth c H locs C S Qr (F0 m pc ls (st.map (rV G))))
    (k : AW d M pc' lv' st' A Q) : AW d M pc lv st A Q := by
  obtain ⟨r, A', h1, h2, h3, hW⟩ := k
  refine ⟨r, A', h1, h2, h3, fun l G p e R s m args below meth c H locs ls C S Qr hC hS hl ho hst hva hrm hret => ?_⟩
  exact h l G p e R s m args below meth c H locs ls C S Qr hC hS hl ho hst hva (fun ls' hl' ho' hst' => hW l G p e R s m args below meth c H locs ls' C S Qr hC hS hl' ho' hst' hva hrm hret)
theorem AW.ret {d : Nat} {M : MD} {pc : Nat} {lv : LV} {A : AHp} {Q : Option AV → AHp → Prop} (r : Option AV) (hd : decode M.2.1 pc = .ok (retI r, 1)) (hr : rOK M.2.2.2 r) (hq : Q r A) : AW d M pc lv r.toList A Q := by
  refine ⟨r, A, ⟨hq, hr⟩, Int.le_refl _, Nat.le_refl _, fun l G p e R s m args below meth c H locs ls C S Qr hC hS hl ho hst hva hrm hret => ?_⟩
  have e1 : (hn A - hn A).toNat = 0 := by rw [Int.sub_self]; rfl
  have e2 : hs A - hs A = 0 := Nat.sub_self _
  rw [e1, e2] at hret
  refine hret pc H locs ls hS ?_ hva hd hr
  intro a ha
  subst ha
  exact hst a (by simp)
theorem rR_ref (G : Gp) (x : Int) : rR G x = .null ∨ ∃ a, rR G x = .ref a := by
  unfold rR
  split
  · exact Or.inl rfl
  · exact Or.inr ⟨_, rfl⟩
theorem CALL.of {d : Nat} {M : MD} {as : List AV} {A : AHp} {Q : Option AV → AHp → Prop} (hp : plainName M.1.cls = true) (hn1 : (aArgs as).length ≤ M.2.2.1) (h : AW d M 0 (aEnt M.2.2.1 as) [] A Q) : CALL d M as A Q := by
  obtain ⟨r, A', h1, h2, h3, hW⟩ := h
  refine ⟨r, A', h1, h2, h3, fun l G => ?_⟩
  refine Met.ofW (cc := M.2.1) (maxL := M.2.2.1) (ret := M.2.2.2) hp rfl ?_
  intro p e s m args below meth c s₁ B hml hv
  obtain ⟨rfl, hC, hS, hok, hgb⟩ := hv
  have hts := atoms_spec (ws := WSm M) B.pre
  have hlocks := B.notSynchronized
  have hr := B.returns
  have hx := B.exec
  have hb := B.bytes
  rw [lg_entry_eq]
  refine hW l G p e _ s m _ below meth c s.heap [] _ 0 0 _ ⟨hx, hb, hml, hr, findClass_of_methodNamed B.named, fun w hw => hts w (List.mem_cons_of_mem _ hw), hC, Nat.le_refl _, Nat.le_refl _, hgb, fun e => ((name_of_methodNamed B.named B.method).1).trans e⟩ hS
    (lvOK_ent (by rw [aLen]; exact hn1)) ?_ (fun a ha => by cases ha) va_S.rf ⟨?_, ?_⟩ ?_
  · intro i v hv
    exact aArgs_ok as hok i v (aEnt_get hv)
  · show 0 + _ ≤ _
    rw [Nat.zero_add]
    exact Nat.le_refl _
  · show 0 + _ ≤ _
    rw [Nat.zero_add]
    exact Nat.le_refl _
  · intro pc H locs ls hS' hor hva hd hro
    rw [Nat.zero_add, Nat.zero_add]
    have hq : ∀ t : State, t.heap = H → s.WarmedH t.vm → Qcm G r A' (as.map (rV G)).toArray s (.returned (r.map (rV G))) t := fun t ht hW' => ⟨rfl, by rw [ht]; exact hS', hor, hva.F ht⟩
    rcases r with _ | x | x | x
    · unfold rOK at hro
      split at hro
      · next e1 e2 => exact W.vret hx hb (hr.trans e1) hq hva.2.2 hd
      all_goals first | (next e1 e2 => cases e2) | exact hro.elim
    · unfold rOK at hro
      split at hro
      all_goals first | exact hro.elim | skip
      · next e1 e2 => cases e2
      · next e1 e2 => exact W.iret hx hb (hr.trans e1) hq hva.2.2 hd
      · next e1 e2 =>
        cases e2
        refine W.zret hx hb (hr.trans e1) ?_ hq hva.2.2 hd
        rcases hro with rfl | rfl <;> rfl
      · next e1 e2 =>
        cases e2
        refine W.zret hx hb (hr.trans e1) ?_ hq hva.2.2 hd
        have e3 : Int32.ofInt x = nI x.toNat := by
          apply Int32.toInt_inj.mp
          rw [i32_t (by unfold in32; omega), nI_toInt (by omega)]
          omega
        rw [e3]
        exact (pk_charN (by omega)).1
      · next e1 e2 =>
        cases e2
        refine W.zret hx hb (hr.trans e1) ?_ hq hva.2.2 hd
        rcases hro with rfl | rfl <;> rfl
      all_goals (next e1 e2 => cases e2)
    · unfold rOK at hro
      split at hro
      all_goals first | exact hro.elim | skip
      all_goals first | (next e1 e2 => exact W.lret hx hb (hr.trans e1) hq hva.2.2 hd) | (next e1 e2 => cases e2)
    · unfold rOK at hro
      split at hro
      all_goals first | exact hro.elim | skip
      · next e1 e2 => cases e2
      · next e1 e2 => cases e2
      · next e1 e2 => cases e2
      · next e1 e2 => cases e2
      · next e1 e2 => cases e2
      · next e1 e2 => cases e2
      · next e1 e2 => exact W.aret (v := rR G x) hx hb (hr.trans e1) (Or.inl ⟨_, rfl⟩) (rR_ref G x) hq hva.2.2 hd
      · next e1 e2 => exact W.aret (v := rR G x) hx hb (hr.trans e1) (Or.inr ⟨_, rfl⟩) (rR_ref G x) hq hva.2.2 hd
