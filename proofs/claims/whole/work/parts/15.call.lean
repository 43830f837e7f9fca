/-! ===== calls ===== -/
/-- what the tables say of a method: its code, its class, how many arguments -/
def MOK (M : MD) (n : Nat) : Prop := Cond.code M.1 M.2.1 M.2.2.1 M.2.2.2 ∈ TB ∧ Cond.initialized M.1.cls ∈ TB ∧ M.1.cls ≠ "java/lang/invoke/MethodHandle" ∧ M.1.cls ≠ "java/lang/invoke/VarHandle" ∧ (parseMethodDescriptor M.1.desc).map (fun d => d.parameters.length) = some n ∧ M.2.2.1 ≤ 20
def WSd (st : List AV) : Prop := (st.map acat).sum ≤ 8
theorem ws_room {G : Gp} {m : MethodId} {pc : Nat} {ls : Array Slot} {g rest : List AV} (h : WSd rest) : 2 * (F0 m pc ls (g.map (rV G))).monitorRoom + ((rest.map (rV G)).map fun v => v.category).sum ≤ 8 := by
  have e : (rest.map (rV G)).map (fun v => v.category) = rest.map acat := by
    rw [List.map_map]
    apply List.map_congr_left
    intro a _
    exact rV_cat G a
  rw [e]
  show 2 * 0 + _ ≤ 8
  unfold WSd at h
  omega
theorem rm_ok {d d' mc ms : Nat} {M M' : MD} {n : Nat} {G : Gp} {p : Program} {R : Room} {s : State} {m : MethodId} {args : Array Value} {meth : Method} {c : Code} (hC : CXd d M G p R s m args meth c) (hd : d' + 1 ≤ d) (hm : MOK M' n) : (RMd d' mc ms).frames + 1 ≤ R.frames ∧ 8 + (M'.2.2.1 + 11) + (RMd d' mc ms).locals ≤ R.locals := by
  have h1 := hC.2.2.2.2.2.2.2.1
  have h2 := hC.2.2.2.2.2.2.2.2.1
  have h3 := hm.2.2.2.2.2
  refine ⟨Nat.le_trans hd h1, ?_⟩
  show 8 + (M'.2.2.1 + 11) + 45 * d' ≤ R.locals
  omega
theorem NWL_tab : ∀ w ∈ NWL, w.onTables = true := by decide +kernel
theorem CTX.same {G : Gp} {u U : State} {H : Heap} (hv : u.vm = U.vm) (h : CTX G u H) : CTX G U H := by
  obtain ⟨⟨a1, a2, a3, a4⟩, ⟨b1, b2, b3⟩, ⟨c1, c2, c3, c4⟩, d1, d2, d3, d4⟩ := h
  have hvm : u.vm.Alike U.vm := by rw [hv]; exact Vm.Alike.refl _
  exact ⟨⟨va_K.moved hvm a1, fun w hw => va_Nw.same (NWL_tab w hw) hv (a2 w hw), fun c hc => va_AO.moved hvm (a3 c hc), fun j hj => vk_R.same hv.symm (a4 j hj)⟩, ⟨va_En.moved hvm b1, va_Ef.moved hvm b2, vk_S.moved hvm b3⟩,
    ⟨va_Z.moved hvm c1, VCL.moved hvm c2, va_Z.moved hvm c3, va_T.moved hvm c4⟩, va_Z.moved hvm d1, va_Z.moved hvm d2, va_T.moved hvm d3, d4⟩
theorem ok_blind (G : Gp) (as : List AV) (A : AHp) : FrameBlind (Pcm G as A) := by
  intro a U g mk h
  obtain ⟨h1, h2, h3, h4, h5⟩ := h
  exact ⟨h1, CTX.same (u := U) rfl h2, h3, h4, h5⟩
theorem pcm_of {G : Gp} {as : List AV} {A : AHp} {s : State} {H : Heap} {locs : List Loc} (hX : CTX G s s.heap) (hS : SIM G A H) (hok : ∀ a ∈ as, okV a) (hva : va_S (frA G) s.heap H locs) (U : State) (hU : U.heap = H) (hW : s.WarmedH U.vm) : Pcm G as A (as.map (rV G)).toArray U :=
  ⟨rfl, hX.to hU hW hva, by rw [hU]; exact hS, hok, by rw [hU, hS.1]; omega⟩
/-- a call's end: from what the callee says to the caller's next instruction -/
theorem AW.after {d : Nat} {M : MD} {pc : Nat} {lv : LV} {st rest as : List AV} {A : AHp} {Q : Option AV → AHp → Prop} {d' : Nat} {M' : MD}
    (hcall : CALL d' M' as A (fun r A1 => AW d M (pc + 3) lv (r.toList ++ rest) A1 Q)) (hrest : ∀ a ∈ rest, a ∈ st) 
    (run : ∀ (l : Launch) (G : Gp) (p : Program) (e : Env) (R : Room) (s : State) (m : MethodId) (args : Array Value) (below : List Frame) (meth : Method) (c : Code) (H : Heap) (locs : List Loc) (ls : Array Slot) (C S mc ms : Nat) (r1 : Option AV) (A1 : AHp),
      CXd d M G p R s m args meth c → SIM G A H → lvOK G ls M.2.2.1 lv → (∀ a ∈ st, okV a) → va_S (frA G) s.heap H locs → C + mc ≤ R.cells → S + ms ≤ R.slots →
      Met l M'.1 (WSm M') (RMd d' mc ms) (Pcm G as A) (Qcm G r1 A1) mc ms (frA G) →
      va_Run p l e R s m args below meth c H locs C S mc ms (F0 m pc ls (st.map (rV G))) (rest.map (rV G)) (Qcm G r1 A1 (as.map (rV G)).toArray) (frA G)) : AW d M pc lv st A Q := by
  obtain ⟨r1, A1, ⟨⟨r, A', hQ, a1, a2, hW⟩, _⟩, b1, b2, hM⟩ := hcall
  refine ⟨r, A', hQ, Int.le_trans b1 a1, Nat.le_trans b2 a2, fun l G p e R s m args below meth c H locs ls C S Qr hC hS hl9 ho hst hva hrm hret => ?_⟩
  have q1 : C + (hn A1 - hn A).toNat + (hn A' - hn A1).toNat = C + (hn A' - hn A).toNat := by omega
  have q2 : S + (hs A1 - hs A) + (hs A' - hs A1) = S + (hs A' - hs A) := by omega
  intro T hT X
  obtain ⟨v, st₀, t, T', L, h0, X', hL, e1, e2, ⟨ho1, hS1, hok1, hz, hk9⟩, stp⟩ := run l G p e R s m args below meth c H locs ls C S _ _ r1 A1 hC hS hl9 hst hva (by omega) (by omega) (hM l G) T hT X
  have hv1 : v = r1.map (rV G) := Outcome.returned.inj ho1
  subst hv1
  rw [h0] at hz hk9
  have hva1 : va_S (frA G) s.heap T'.heap (locs ++ L) := ⟨Nat.le_trans hva.1 (by rw [e1]; exact hz), fun q g1 g2 => by
      rw [e1, hk9 q (Nat.lt_of_lt_of_le g1 hva.1) g2]
      exact hva.2.1 q g1 g2, fun q hq => by
      rcases List.mem_append.mp hq with h | h
      · exact hva.2.2 q h
      · exact hL q h⟩
  have hst1 : ∀ a ∈ r1.toList ++ rest, okV a := by
    intro a ha
    rcases List.mem_append.mp ha with h | h
    · exact hok1 a (by simpa using h)
    · exact hst a (hrest a h)
  have K := hW l G p e R s m args below meth c T'.heap (locs ++ L) ls (C + (hn A1 - hn A).toNat) (S + (hs A1 - hs A)) Qr hC (by rw [e1]; exact hS1) hl9 ho hst1 hva1 (by rw [q1, q2]; exact hrm) (by rw [q1, q2]; exact hret)
  have e9 : (r1.toList ++ rest).map (rV G) = (r1.map (rV G)).toList ++ rest.map (rV G) := by
    rw [List.map_append]
    cases r1 <;> rfl
  rw [e9] at K
  obtain ⟨t2, c1, c2⟩ := K T' rfl X'
  exact ⟨t2, stp t2 c1, c2⟩
section CAL
variable {d : Nat} {M : MD} {pc pc' : Nat} {lv : LV} {rest as : List AV} {A : AHp} {Q : Option AV → AHp → Prop} {d' : Nat} {M' : MD} {n idx : Nat} {o : Int}
theorem st_rev {G : Gp} {as rest : List AV} : (as.reverse ++ rest).map (rV G) = (as.map (rV G)).reverse ++ rest.map (rV G) := by rw [List.map_append, List.map_reverse]
theorem aw_callS (hm : MOK M' n) (hst : Cond.static M'.1 ∈ TB) (hln : Cond.methodLink M.1.cls idx M'.1 ∈ TB) (hd : decode M.2.1 pc = .ok (.invokestatic idx, 3)) (hp : pc + 3 = pc') (hn1 : as.length = n) (hws : WSd rest) (hdd : d' + 1 ≤ d)
    (kk : CALL d' M' as A (fun r A1 => AW d M pc' lv (r.toList ++ rest) A1 Q)) : AW d M pc lv (as.reverse ++ rest) A Q := by
  subst hp
  refine AW.after kk (fun a ha => List.mem_append_right _ ha) (fun l G p e R s m args below meth c H locs ls C S mc ms r1 A1 hC hS hl9 hst9 hva h1 h2 hM => ?_)
  have hts := hC.2.2.2.2.2.1
  refine va_runS (As := as.map (rV G)) ⟨hC.1, hC.2.1, hC.2.2.1, hC.2.2.2.2.1, hts⟩ hM ⟨callB_of n hts (WSm_good hm.1) rfl rfl rfl (hts _ hm.2.1) (hts _ hln) ⟨hm.2.2.1, hm.2.2.2.1, hm.2.2.2.2.1⟩ (rm_ok hC hdd hm), hts _ hst⟩ ⟨ok_blind _ _ _, fun U hU hW => pcm_of hC.2.2.2.2.2.2.1 hS (fun a ha => hst9 a (List.mem_append_left _ (List.mem_reverse.mpr ha))) hva U hU hW⟩ rfl (by rw [List.length_map]; exact hn1) hl9.1 st_rev (ws_room hws) hd ⟨h1, h2⟩
theorem aw_callSN {host : String} (hm : MOK M' n) (hst : Cond.static M'.1 ∈ TB) (hln : Cond.methodLinkNest M.1.cls idx M'.1 host ∈ NWL) (hd : decode M.2.1 pc = .ok (.invokestatic idx, 3)) (hp : pc + 3 = pc') (hn1 : as.length = n) (hws : WSd rest) (hdd : d' + 1 ≤ d)
    (kk : CALL d' M' as A (fun r A1 => AW d M pc' lv (r.toList ++ rest) A1 Q)) : AW d M pc lv (as.reverse ++ rest) A Q := by
  subst hp
  refine AW.after kk (fun a ha => List.mem_append_right _ ha) (fun l G p e R s m args below meth c H locs ls C S mc ms r1 A1 hC hS hl9 hst9 hva h1 h2 hM => ?_)
  have hts := hC.2.2.2.2.2.1
  refine va_runSN (host := host) (As := as.map (rV G)) ⟨hC.1, hC.2.1, hC.2.2.1, hC.2.2.2.2.1, hts⟩ hM ⟨va_cnB n hts (WSm_good hm.1) rfl rfl rfl (hC.2.2.2.2.2.2.1.1.2.1 _ hln) (hts _ hm.2.1) ⟨hm.2.2.1, hm.2.2.2.1, hm.2.2.2.2.1⟩ (rm_ok hC hdd hm), hts _ hst, trivial⟩ ⟨ok_blind _ _ _, fun U hU hW => pcm_of hC.2.2.2.2.2.2.1 hS (fun a ha => hst9 a (List.mem_append_left _ (List.mem_reverse.mpr ha))) hva U hU hW⟩ rfl (by rw [List.length_map]; exact hn1) hl9.1 st_rev (ws_room hws) hd ⟨h1, h2⟩
theorem as_rev {o : Int} {as rest : List AV} {G : Gp} (h : 60 ≤ o) : (as.reverse ++ vr o :: rest).map (rV G) = (as.map (rV G)).reverse ++ .ref (rA G o) :: rest.map (rV G) := by
  rw [List.map_append, List.map_reverse, List.map_cons]
  show _ ++ rR G o :: _ = _
  rw [rR_dyn h]
theorem mem_as {o : Int} {as rest : List AV} {a : AV} (h : a ∈ vr o :: as) : a ∈ as.reverse ++ vr o :: rest := by
  rcases List.mem_cons.mp h with rfl | h
  · exact List.mem_append_right _ List.mem_cons_self
  · exact List.mem_append_left _ (List.mem_reverse.mpr h)
theorem recv {d : Nat} {M : MD} {G : Gp} {p : Program} {R : Room} {s : State} {m : MethodId} {args : Array Value} {meth : Method} {c : Code} {A : AHp} {H : Heap} {o : Int} {ci : Nat} (hC : CXd d M G p R s m args meth c) (hS : SIM G A H) (hO : isO A o (ci + 1)) (hci : ci < 12) : ∃ cell : Cell, H[rA G o]? = some cell ∧ cell.vm.isStatics = false ∧ s.vm.findClass (clC ci) = some cell.cls := by
  have hP := hS.at1 hO.1 hO.2.1
  rw [ent_obj hO.2.2 hci] at hP
  exact va_recv (q0 := 0) hC.2.2.2.2.2.2.1.1.1 hP (cl_at hci) rfl
theorem aw_callV {ci : Nat} (hci : ci < 12) (hcl : clC ci = M'.1.cls) (hm : MOK M' n) (hin : Cond.instanceMethod M'.1 ∈ TB) (hse : Cond.selects M'.1.cls M'.1 M'.1 ∈ TB) (hln : Cond.methodLink M.1.cls idx M'.1 ∈ TB) (hO : isO A o (ci + 1)) (hd : decode M.2.1 pc = .ok (.invokevirtual idx, 3)) (hp : pc + 3 = pc') (hn1 : as.length = n) (hws : WSd rest) (hdd : d' + 1 ≤ d)
    (kk : CALL d' M' (vr o :: as) A (fun r A1 => AW d M pc' lv (r.toList ++ rest) A1 Q)) : AW d M pc lv (as.reverse ++ vr o :: rest) A Q := by
  subst hp
  refine AW.after kk (fun a ha => List.mem_append_right _ (List.mem_cons_of_mem _ ha)) (fun l G p e R s m args below meth c H locs ls C S mc ms r1 A1 hC hS hl9 hst9 hva h1 h2 hM => ?_)
  have hts := hC.2.2.2.2.2.1
  have hrecv := recv hC hS hO hci
  rw [hcl] at hrecv
  have hP9 : ∀ U : State, U.heap = H → s.WarmedH U.vm → Pcm G (vr o :: as) A (Value.ref (rA G o) :: as.map (rV G)).toArray U := by
    intro U hU hW
    have := pcm_of (as := vr o :: as) hC.2.2.2.2.2.2.1 hS (fun a ha => hst9 a (mem_as ha)) hva U hU hW
    rw [List.map_cons] at this
    change Pcm G (vr o :: as) A (rR G o :: as.map (rV G)).toArray U at this
    rw [rR_dyn hO.1] at this
    exact this
  have hQ9 : Qcm G r1 A1 ((vr o :: as).map (rV G)).toArray = Qcm G r1 A1 (Value.ref (rA G o) :: as.map (rV G)).toArray := rfl
  rw [hQ9]
  refine va_runV (b := rA G o) (C := M'.1.cls) (As := as.map (rV G)) ⟨hC.1, hC.2.1, hC.2.2.1, hC.2.2.2.2.1, hts⟩ hM ⟨callB_of n hts (WSm_good hm.1) rfl rfl rfl (hts _ hm.2.1) (hts _ hln) ⟨hm.2.2.1, hm.2.2.2.1, hm.2.2.2.2.1⟩ (rm_ok hC hdd hm), hts _ hin, hts _ hse⟩ ⟨ok_blind _ _ _, hrecv, hP9⟩ rfl (by rw [List.length_map]; exact hn1) hl9.1 (as_rev hO.1) (ws_room hws) hd ⟨h1, h2⟩
theorem aw_callI (hret : M'.2.2.2 = none) (hm : MOK M' n) (hy : M'.1.name = "<init>") (hin : Cond.instanceMethod M'.1 ∈ TB) (hln : Cond.methodLink M.1.cls idx M'.1 ∈ TB) (ho60 : 60 ≤ o) (hd : decode M.2.1 pc = .ok (.invokespecial idx, 3)) (hp : pc + 3 = pc') (hn1 : as.length = n) (hws : WSd rest) (hdd : d' + 1 ≤ d)
    (kk : CALL d' M' (vr o :: as) A (fun r A1 => AW d M pc' lv (r.toList ++ rest) A1 Q)) : AW d M pc lv (as.reverse ++ vr o :: rest) A Q := by
  subst hp
  refine AW.after kk (fun a ha => List.mem_append_right _ (List.mem_cons_of_mem _ ha)) (fun l G p e R s m args below meth c H locs ls C S mc ms r1 A1 hC hS hl9 hst9 hva h1 h2 hM => ?_)
  have hts := hC.2.2.2.2.2.1
  have hP9 : ∀ U : State, U.heap = H → s.WarmedH U.vm → Pcm G (vr o :: as) A (Value.ref (rA G o) :: as.map (rV G)).toArray U := by
    intro U hU hW
    have := pcm_of (as := vr o :: as) hC.2.2.2.2.2.2.1 hS (fun a ha => hst9 a (mem_as ha)) hva U hU hW
    rw [List.map_cons] at this
    change Pcm G (vr o :: as) A (rR G o :: as.map (rV G)).toArray U at this
    rw [rR_dyn ho60] at this
    exact this
  have hQ9 : Qcm G r1 A1 ((vr o :: as).map (rV G)).toArray = Qcm G r1 A1 (Value.ref (rA G o) :: as.map (rV G)).toArray := rfl
  rw [hQ9]
  refine va_runI (b := rA G o) (bytes := M'.2.1) (maxL := M'.2.2.1) (As := as.map (rV G)) ⟨hC.1, hC.2.1, hC.2.2.1, hC.2.2.2.2.1, hts⟩ hM ⟨callB_of n hts (WSm_good hm.1) (by rw [← hret]; rfl) rfl rfl (hts _ hm.2.1) (hts _ hln) ⟨hm.2.2.1, hm.2.2.2.1, hm.2.2.2.2.1⟩ (rm_ok hC hdd hm), hy, hts _ hin⟩ ⟨ok_blind _ _ _, hP9⟩ rfl (by rw [List.length_map]; exact hn1) hl9.1 (as_rev ho60) (ws_room hws) hd ⟨h1, h2⟩
theorem aw_callIN {host : String} (hret : M'.2.2.2 = none) (hm : MOK M' n) (hy : M'.1.name = "<init>") (hin : Cond.instanceMethod M'.1 ∈ TB) (hln : Cond.methodLinkNest M.1.cls idx M'.1 host ∈ NWL) (ho60 : 60 ≤ o) (hd : decode M.2.1 pc = .ok (.invokespecial idx, 3)) (hp : pc + 3 = pc') (hn1 : as.length = n) (hws : WSd rest) (hdd : d' + 1 ≤ d)
    (kk : CALL d' M' (vr o :: as) A (fun r A1 => AW d M pc' lv (r.toList ++ rest) A1 Q)) : AW d M pc lv (as.reverse ++ vr o :: rest) A Q := by
  subst hp
  refine AW.after kk (fun a ha => List.mem_append_right _ (List.mem_cons_of_mem _ ha)) (fun l G p e R s m args below meth c H locs ls C S mc ms r1 A1 hC hS hl9 hst9 hva h1 h2 hM => ?_)
  have hts := hC.2.2.2.2.2.1
  have hP9 : ∀ U : State, U.heap = H → s.WarmedH U.vm → Pcm G (vr o :: as) A (Value.ref (rA G o) :: as.map (rV G)).toArray U := by
    intro U hU hW
    have := pcm_of (as := vr o :: as) hC.2.2.2.2.2.2.1 hS (fun a ha => hst9 a (mem_as ha)) hva U hU hW
    rw [List.map_cons] at this
    change Pcm G (vr o :: as) A (rR G o :: as.map (rV G)).toArray U at this
    rw [rR_dyn ho60] at this
    exact this
  have hQ9 : Qcm G r1 A1 ((vr o :: as).map (rV G)).toArray = Qcm G r1 A1 (Value.ref (rA G o) :: as.map (rV G)).toArray := rfl
  rw [hQ9]
  refine va_runIN (host := host) (b := rA G o) (bytes := M'.2.1) (maxL := M'.2.2.1) (As := as.map (rV G)) ⟨hC.1, hC.2.1, hC.2.2.1, hC.2.2.2.2.1, hts⟩ hM ⟨va_cnB n hts (WSm_good hm.1) (by rw [← hret]; rfl) rfl rfl (hC.2.2.2.2.2.2.1.1.2.1 _ hln) (hts _ hm.2.1) ⟨hm.2.2.1, hm.2.2.2.1, hm.2.2.2.2.1⟩ (rm_ok hC hdd hm), hy, hts _ hin⟩ ⟨ok_blind _ _ _, hP9⟩ rfl (by rw [List.length_map]; exact hn1) hl9.1 (as_rev ho60) (ws_room hws) hd ⟨h1, h2⟩
end CAL
