/-! ===== Math.min ===== -/
theorem CALL.ofF {d : Nat} {M : MD} {as : List AV} {A : AHp} {Q : Option AV → AHp → Prop} (hp : plainFor M.1 = true) (hn1 : (aArgs as).length ≤ M.2.2.1) (h : AW d M 0 (aEnt M.2.2.1 as) [] A Q) : CALL d M as A Q := by
  obtain ⟨r, A', h1, h2, h3, hW⟩ := h
  refine ⟨r, A', h1, h2, h3, fun l G => ?_⟩
  refine va_MetF (cc := M.2.1) (maxL := M.2.2.1) (ret := M.2.2.2) hp rfl ?_
  intro p e s m args below meth c s₁ B hml hv
  obtain ⟨rfl, hC, hS, hok, hgb⟩ := hv
  have hts := atoms_spec (ws := WSm M) B.pre
  have hlocks := B.notSynchronized
  have hr := B.returns
  have hx := B.exec
  have hb := B.bytes
  rw [lg_entry_eq]
  refine hW l G p e _ s m _ below meth c s.heap [] _ 0 0 _ ⟨hx, hb, hml, hr, findClass_of_methodNamed B.named, fun w hw => hts w (List.mem_cons_of_mem _ hw), hC, Nat.le_refl _, Nat.le_refl _, hgb, fun e => ((name_of_methodNamed B.named B.method).1).trans e⟩ hS
    (lvOK_ent (by rw [aLen]; exact hn1)) ?_ (fun a ha => by cases ha) va_S.rf ⟨?_, ?_⟩ ?_
  · intro i v hv
    exact aArgs_ok as hok i v (aEnt_get hv)
  · show 0 + _ ≤ _
    rw [Nat.zero_add]
    exact Nat.le_refl _
  · show 0 + _ ≤ _
    rw [Nat.zero_add]
    exact Nat.le_refl _
  · intro pc H locs ls hS' hor hva hd hro
    rw [Nat.zero_add, Nat.zero_add]
    have hq : ∀ t : State, t.heap = H → s.WarmedH t.vm → Qcm G r A' (as.map (rV G)).toArray s (.returned (r.map (rV G))) t := fun t ht hW' => ⟨rfl, by rw [ht]; exact hS', hor, hva.F ht⟩
    rcases r with _ | x | x | x
    · unfold rOK at hro
      split at hro
      · next e1 e2 => exact W.vret hx hb (hr.trans e1) hq hva.2.2 hd
      all_goals first | (next e1 e2 => cases e2) | exact hro.elim
    · unfold rOK at hro
      split at hro
      all_goals first | exact hro.elim | skip
      · next e1 e2 => cases e2
      · next e1 e2 => exact W.iret hx hb (hr.trans e1) hq hva.2.2 hd
      · next e1 e2 =>
        cases e2
        refine W.zret hx hb (hr.trans e1) ?_ hq hva.2.2 hd
        rcases hro with rfl | rfl <;> rfl
      · next e1 e2 =>
        cases e2
        refine W.zret hx hb (hr.trans e1) ?_ hq hva.2.2 hd
        have e3 : Int32.ofInt x = nI x.toNat := by
          apply Int32.toInt_inj.mp
          rw [i32_t (by unfold in32; omega), nI_toInt (by omega)]
          omega
        rw [e3]
        exact (pk_charN (by omega)).1
      · next e1 e2 =>
        cases e2
        refine W.zret hx hb (hr.trans e1) ?_ hq hva.2.2 hd
        rcases hro with rfl | rfl <;> rfl
      all_goals (next e1 e2 => cases e2)
    · unfold rOK at hro
      split at hro
      all_goals first | exact hro.elim | skip
      all_goals first | (next e1 e2 => exact W.lret hx hb (hr.trans e1) hq hva.2.2 hd) | (next e1 e2 => cases e2)
    · unfold rOK at hro
      split at hro
      all_goals first | exact hro.elim | skip
      · next e1 e2 => cases e2
      · next e1 e2 => cases e2
      · next e1 e2 => cases e2
      · next e1 e2 => cases e2
      · next e1 e2 => cases e2
      · next e1 e2 => cases e2
      · next e1 e2 => exact W.aret (v := rR G x) hx hb (hr.trans e1) (Or.inl ⟨_, rfl⟩) (rR_ref G x) hq hva.2.2 hd
      · next e1 e2 => exact W.aret (v := rR G x) hx hb (hr.trans e1) (Or.inr ⟨_, rfl⟩) (rR_ref G x) hq hva.2.2 hd

set_option maxRecDepth 20000 in
theorem c_min {d : Nat} {a b : Int} {A : AHp} {Q : Option AV → AHp → Prop} (hd : 0 ≤ d) (hQ : Q (some (vi (min a b))) A) : CALL d mJ9_min_7cf53 [vi a, vi b] A Q := by
  refine CALL.ofF (by decide +kernel) (Nat.le_of_ble_eq_true rfl) ?_
  change AW d mJ9_min_7cf53 0 [some (vi a), some (vi b)] [] A Q
  refine aw_iload_n (pc' := 1) rfl dJ9_min_7cf53_0 rfl ?_
  refine aw_iload_n (pc' := 2) rfl dJ9_min_7cf53_1 rfl ?_
  refine aw_icmp_gt (pt := 9) (pf := 5) dJ9_min_7cf53_2 (by decide) rfl (fun c_2 => ?_) (fun c_2 => ?_)
  · refine aw_iload_n (pc' := 10) rfl dJ9_min_7cf53_9 rfl ?_
    refine AW.ret (some (vi _)) dJ9_min_7cf53_10 trivial ?_
    first | (rw [show min a b = a by omega] at hQ; exact hQ) | (rw [show min a b = b by omega] at hQ; exact hQ)
  · refine aw_iload_n (pc' := 6) rfl dJ9_min_7cf53_5 rfl ?_
    refine aw_goto (pc' := 10) dJ9_min_7cf53_6 (by decide) ?_
    refine AW.ret (some (vi _)) dJ9_min_7cf53_10 trivial ?_
    first | (rw [show min a b = a by omega] at hQ; exact hQ) | (rw [show min a b = b by omega] at hQ; exact hQ)
