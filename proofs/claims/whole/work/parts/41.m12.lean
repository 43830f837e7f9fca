/-! ===== the reference: thinks, run ===== -/
noncomputable def thinksS (n : Nat) (l : Int) (s : Sg) : Option Sg := (runsS n l (scpy s 320 0 338 0 5)).bind fun t => some (scpy t 338 0 320 0 5)
noncomputable def runS (n : Nat) (l : Int) (s : Sg) : Option Sg := (runsS n l s).bind fun t => some (sset (sset (sset (scpy t 331 0 332 0 60) 307 39 (t 307 36)) 307 40 (t 307 37)) 307 41 (t 307 34))
set_option maxRecDepth 20000 in
theorem c_thinks {d : Nat} {n : Nat} {l : Int} {t : Sg} {A : AHp} {s : Sg} {Q : Option AV → AHp → Prop} (hd : 6 * n + 5 ≤ d) (hM : MLAY A) (hMin : ∀ (d : Nat) (A : AHp) (a b : Int) (Q : Option AV → AHp → Prop), Q (some (vi (min a b))) A → CALL d mJ9_min_7cf53 [vi a, vi b] A Q) (hl : 0 ≤ l ∧ l < 8) (h : thinksS n l s = some t) (hQ : Q none (lift A t)) : CALL d mX13_thinks [vr 307, vi l] (lift A s) Q := by
  refine CALL.of (by decide) (Nat.le_of_ble_eq_true rfl) ?_
  change AW d mX13_thinks 0 [some (vr 307), some (vi l)] [] (lift A s) Q
  unfold thinksS at h
  obtain ⟨t1, g1, g2⟩ := Option.bind_eq_some_iff.mp h
  rw [Option.some.injEq] at g2
  subst g2
  refine aw_aload_n (pc' := 1) rfl dX13_thinks_0 rfl ?_
  refine aw_getp (pc' := 4) (k9 := 13) (p := 320) dX13_thinks_1 rfl fX13_79 rfl rfl rfl (MO (A := (lift A s)) hM) (M_values (A := (lift A s)) hM) ?_
  refine aw_aload_n (pc' := 5) rfl dX13_thinks_4 rfl ?_
  refine aw_getp (pc' := 8) (k9 := 47) (p := 338) dX13_thinks_5 rfl fX13_138 rfl rfl rfl (MO (A := (lift A s)) hM) (M_wasValues (A := (lift A s)) hM) ?_
  refine aw_callS (d' := d - 1) (as := [_, _]) (pc' := 11) kX13_copies tX13_copies lX13_336 dX13_thinks_8 rfl rfl (Nat.le_of_ble_eq_true rfl) (by omega) ?_
  refine c_copies (n := 5) (by omega) (MA_values (A := (lift A _)) hM) (MA_wasValues (A := (lift A _)) hM) (by decide) (by decide) (by decide) ?_
  rw [lift_cpy (by decide) (by decide)]
  refine aw_aload_n (pc' := 12) rfl dX13_thinks_11 rfl ?_
  refine aw_iload_n (pc' := 13) rfl dX13_thinks_12 rfl ?_
  refine aw_callV (ci := 11) (d' := d - 1) (as := [_]) (pc' := 16) (by decide) rfl kX13_runs iX13_runs sX13_runs lX13_332 (MO (A := (lift A s)) hM) dX13_thinks_13 rfl rfl (Nat.le_of_ble_eq_true rfl) (by omega) ?_
  refine c_runs (by omega) hM hMin hl g1 ?_
  refine aw_aload_n (pc' := 17) rfl dX13_thinks_16 rfl ?_
  refine aw_getp (pc' := 20) (k9 := 47) (p := 338) dX13_thinks_17 rfl fX13_138 rfl rfl rfl (MO (A := (lift A s)) hM) (M_wasValues (A := (lift A s)) hM) ?_
  refine aw_aload_n (pc' := 21) rfl dX13_thinks_20 rfl ?_
  refine aw_getp (pc' := 24) (k9 := 13) (p := 320) dX13_thinks_21 rfl fX13_79 rfl rfl rfl (MO (A := (lift A s)) hM) (M_values (A := (lift A s)) hM) ?_
  refine aw_callS (d' := d - 1) (as := [_, _]) (pc' := 27) kX13_copies tX13_copies lX13_336 dX13_thinks_24 rfl rfl (Nat.le_of_ble_eq_true rfl) (by omega) ?_
  refine c_copies (n := 5) (by omega) (MA_wasValues (A := (lift A _)) hM) (MA_values (A := (lift A _)) hM) (by decide) (by decide) (by decide) ?_
  rw [lift_cpy (by decide) (by decide)]
  refine AW.ret none dX13_thinks_27 trivial ?_
  exact hQ
