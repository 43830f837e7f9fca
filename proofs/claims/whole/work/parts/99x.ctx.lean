/-! ===== the context at the law's entry: what the premises say ===== -/
def FLT : List Cond := flatC (Jvm.Cond.and given_1 narrow_1)
def exP : List Nat := [68, 77, 87, 98, 110, 123, 137, 60, 35, 152, 168, 185, 203, 222, 24]
def neP : List (List Nat) := [[0, 86, 96, 107, 119, 132, 146, 76, 75, 161, 177, 194, 212, 231, 74], [86, 0, 97, 108, 120, 133, 147, 85, 84, 162, 178, 195, 213, 232, 83], [96, 97, 0, 109, 121, 134, 148, 95, 94, 163, 179, 196, 214, 233, 93], [107, 108, 109, 0, 122, 135, 149, 106, 105, 164, 180, 197, 215, 234, 104], [119, 120, 121, 122, 0, 136, 150, 118, 117, 165, 181, 198, 216, 235, 116], [132, 133, 134, 135, 136, 0, 151, 131, 130, 166, 182, 199, 217, 236, 129], [146, 147, 148, 149, 150, 151, 0, 145, 144, 167, 183, 200, 218, 237, 143], [76, 85, 95, 106, 118, 131, 145, 0, 67, 160, 176, 193, 211, 230, 66], [75, 84, 94, 105, 117, 130, 144, 67, 0, 159, 175, 192, 210, 229, 41], [161, 162, 163, 164, 165, 166, 167, 160, 159, 0, 184, 201, 219, 238, 158], [177, 178, 179, 180, 181, 182, 183, 176, 175, 184, 0, 202, 220, 239, 174], [194, 195, 196, 197, 198, 199, 200, 193, 192, 201, 202, 0, 221, 240, 191], [212, 213, 214, 215, 216, 217, 218, 211, 210, 219, 220, 221, 0, 241, 209], [231, 232, 233, 234, 235, 236, 237, 230, 229, 238, 239, 240, 241, 0, 228], [74, 83, 93, 104, 116, 129, 143, 66, 41, 158, 174, 191, 209, 228, 0]]
def stP : List Nat := [423, 432, 440, 448, 456, 464, 473, 415, 407, 482, 489, 498, 504, 510, 402]
def eqP : List Nat := [431, 439, 447, 455, 463, 472, 481, 422, 414, 488, 497, 503, 509, 515]
theorem fx_ex : ∀ i, i < 15 → FLT[exP.getD i 0]? = some (Cond.exactly (Term.static RX11 (wdN.getD i "") "LShellLines$Word;") RX11) := by decide +kernel
theorem fx_f0 : ∀ i, i < 15 → FLT[exP.getD i 0 + 1]? = some (Cond.eq (Term.field (Term.static RX11 (wdN.getD i "") "LShellLines$Word;") "java/lang/Enum" "ordinal" "I") (Term.int (([0, 1, 2, 3, 4, 5, 6, 7, 8, 9, 10, 11, 12, 13, 14] : List Int32).getD i 0))) := by decide +kernel
theorem fx_tx : ∀ i, i < 15 → FLT[exP.getD i 0 + 2]? = some (Cond.eq (Term.field (Term.static RX11 (wdN.getD i "") "LShellLines$Word;") RX11 "text" "Ljava/lang/String;") (Term.string RX11 (wpL.getD i 0))) := by decide +kernel
theorem fx_f1 : ∀ i, i < 15 → FLT[exP.getD i 0 + 3]? = some (Cond.eq (Term.field (Term.static RX11 (wdN.getD i "") "LShellLines$Word;") RX11 "least" "I") (Term.int ((wdL.map Int32.ofInt).getD i 0))) := by decide +kernel
theorem fx_f2 : ∀ i, i < 15 → FLT[exP.getD i 0 + 4]? = some (Cond.eq (Term.field (Term.static RX11 (wdN.getD i "") "LShellLines$Word;") RX11 "most" "I") (Term.int ((wdM.map Int32.ofInt).getD i 0))) := by decide +kernel
theorem fx_f3 : ∀ i, i < 15 → FLT[exP.getD i 0 + 5]? = some (Cond.eq (Term.field (Term.static RX11 (wdN.getD i "") "LShellLines$Word;") RX11 "function" "I") (Term.int ((wdF.map Int32.ofInt).getD i 0))) := by decide +kernel
theorem fx_ne : ∀ i, i < 15 → ∀ j, j < 15 → i = j ∨ FLT[(neP.getD i []).getD j 0]? = some (Cond.not (Cond.eq (Term.static RX11 (wdN.getD i "") "LShellLines$Word;") (Term.static RX11 (wdN.getD j "") "LShellLines$Word;"))) ∨ FLT[(neP.getD i []).getD j 0]? = some (Cond.not (Cond.eq (Term.static RX11 (wdN.getD j "") "LShellLines$Word;") (Term.static RX11 (wdN.getD i "") "LShellLines$Word;"))) := by decide +kernel
theorem fx_s0 : ∀ i, i < 15 → FLT[stP.getD i 0]? = some (Cond.exactly (Term.string RX11 (wpL.getD i 0)) "java/lang/String") := by decide +kernel
theorem fx_s1 : ∀ i, i < 15 → FLT[stP.getD i 0 + 1]? = some (Cond.eq (Term.field (Term.string RX11 (wpL.getD i 0)) "java/lang/String" "coder" "B") (Term.int 0)) := by decide +kernel
theorem fx_s2 : ∀ i, i < 15 → FLT[stP.getD i 0 + 2]? = some (Cond.arrayOf (Term.field (Term.string RX11 (wpL.getD i 0)) "java/lang/String" "value" "[B") .byte) := by decide +kernel
theorem fx_s3 : ∀ i, i < 15 → FLT[stP.getD i 0 + 3]? = some (Cond.eq (Term.length (Term.field (Term.string RX11 (wpL.getD i 0)) "java/lang/String" "value" "[B")) (Term.int (Int32.ofNat (txL.getD i 0)))) := by decide +kernel
theorem fx_s4 : ∀ i, i < 15 → ∀ j, j < 4 → j < txL.getD i 0 → FLT[stP.getD i 0 + 4 + j]? = some (Cond.eq (Term.elem (Term.field (Term.string RX11 (wpL.getD i 0)) "java/lang/String" "value" "[B") (Term.int (Int32.ofNat j))) (Term.int (((txB.map fun l => l.map Int32.ofInt).getD i []).getD j 0))) := by decide +kernel
theorem tx_4 : ∀ i, i < 15 → txL.getD i 0 ≤ 4 := by decide +kernel
theorem tx_ne : ∀ i, i < 15 → ∀ j, j < 15 → txL.getD i 0 = txL.getD j 0 → (∀ k, k < 4 → k < txL.getD i 0 → ((txB.map fun l => l.map Int32.ofInt).getD i []).getD k 0 = ((txB.map fun l => l.map Int32.ofInt).getD j []).getD k 0) → i = j := by decide +kernel
theorem fx_eq : ∀ j, j < 14 → FLT[eqP.getD j 0]? = some (Cond.eq (Term.string RX13 (mpL.getD j 0)) (Term.string RX11 (wpL.getD j 0))) := by decide +kernel
theorem fx_v0 : FLT[5]? = some (Cond.exactly (Term.static RX11 "$VALUES" "[LShellLines$Word;") "[LShellLines$Word;") := by decide +kernel
theorem fx_v1 : FLT[6]? = some (Cond.arrayOf (Term.static RX11 "$VALUES" "[LShellLines$Word;") (.object RX11)) := by decide +kernel
theorem fx_v2 : FLT[7]? = some (Cond.eq (Term.length (Term.static RX11 "$VALUES" "[LShellLines$Word;")) (Term.int (Int32.ofNat 15))) := by decide +kernel
theorem fx_v3 : FLT[8]? = some (Cond.all (Term.static RX11 "$VALUES" "[LShellLines$Word;") (Cond.le (Term.index 0) (Term.int 14))) := by decide +kernel
theorem fx_v4 : ∀ j, j < 15 → FLT[9 + j]? = some (Cond.eq (Term.elem (Term.static RX11 "$VALUES" "[LShellLines$Word;") (Term.int (Int32.ofNat j))) (Term.static RX11 (wdN.getD j "") "LShellLines$Word;")) := by decide +kernel
theorem fx_w1 : FLT[43]? = some (Cond.arrayOf (Term.static RX0 "$SwitchMap$ShellLines$Word" "[I") .int) := by decide +kernel
theorem fx_w2 : FLT[44]? = some (Cond.eq (Term.length (Term.static RX0 "$SwitchMap$ShellLines$Word" "[I")) (Term.int (Int32.ofNat 15))) := by decide +kernel
theorem fx_w3 : ∀ j, j < 15 → FLT[45 + j]? = some (Cond.eq (Term.elem (Term.static RX0 "$SwitchMap$ShellLines$Word" "[I") (Term.int (Int32.ofNat j))) (Term.int (Int32.ofInt (swL.getD j 0)))) := by decide +kernel
theorem fx_cs : FLT[30]? = some (Cond.eq (Term.static "java/lang/String" "COMPACT_STRINGS" "Z") (Term.int 1)) := by decide +kernel
theorem fx_sf : FLT[31]? = some (Cond.isRef (Term.static "jdk/internal/util/Preconditions" "SIOOBE_FORMATTER" "Ljava/util/function/BiFunction;")) := by decide +kernel
theorem tw_ls : ∀ i, i < 15 → Cond.laysStatic RX11 (wdN.getD i "") "LShellLines$Word;" ∈ lw_tbl := by decide +kernel
theorem tw_in : Cond.initialized RX11 ∈ lw_tbl ∧ Cond.initialized RX0 ∈ lw_tbl ∧ Cond.initialized "java/lang/String" ∈ lw_tbl ∧ Cond.initialized "jdk/internal/util/Preconditions" ∈ lw_tbl := by decide +kernel
theorem tw_lv : Cond.laysStatic RX11 "$VALUES" "[LShellLines$Word;" ∈ lw_tbl ∧ Cond.laysStatic RX0 "$SwitchMap$ShellLines$Word" "[I" ∈ lw_tbl ∧ Cond.laysStatic "java/lang/String" "COMPACT_STRINGS" "Z" ∈ lw_tbl ∧ Cond.laysStatic "jdk/internal/util/Preconditions" "SIOOBE_FORMATTER" "Ljava/util/function/BiFunction;" ∈ lw_tbl := by decide +kernel
theorem tw_sr : ∀ j, j < 14 → Cond.stringRef RX13 (mpL.getD j 0) (wdT.getD j "") ∈ lw_tbl := by decide +kernel
theorem tw_new : ∀ ci, ci < 12 → Cond.instantiable (clC ci) (clN ci) ∈ lw_tbl := by decide +kernel
theorem tw_nw : ∀ c ∈ NWL, c ∈ lw_tbl := by decide +kernel
theorem tw_ao : ∀ c ∈ aoL, Cond.arrayOver (.object c) ∈ lw_tbl := by decide +kernel
theorem tw_ac : Cond.arrayClass .int ∈ lw_tbl ∧ Cond.arrayClass .long ∈ lw_tbl ∧ Cond.arrayClass .byte ∈ lw_tbl ∧ Cond.arrayClass .boolean ∈ lw_tbl := by decide +kernel
theorem tw_tab : ∀ w ∈ NWL, w.onTables = true := NWL_tab
section CXO
variable {args : Array Value} {s : State}
theorem fl_at (h : (Jvm.Cond.and given_1 narrow_1).before args s = true) {c : Cond} {i : Nat} (e : FLT[i]? = some c) : c.before args s = true := flat_of_before _ h c (List.mem_of_getElem? e)
theorem arr_p {ty : FieldType} (h : (Cond.arrayClass ty).before args s = true) : ∃ c, ArrOfT s c ty ∧ s.vm.findClass ("[" ++ ty.toString) = some c := by
  obtain ⟨c, k, comp, h1, h2, h3⟩ := Cond.arrayClass_spec (args := args) (first := s) (o := none) (s := s) (idx := []) (type := ty) h
  exact ⟨c, fun n z => ⟨fun k h => (by cases h), k, h2, comp, h3⟩, h1⟩
theorem arr_o {C : String} (h : (Cond.arrayOver (.object C)).before args s = true) : ∃ c, ArrOfT s c (.object C) ∧ va_RA s c (.object C) := by
  obtain ⟨comp, c, k, h1, h2, h3, h4, h5⟩ := Cond.arrayOver_spec (args := args) (first := s) (o := none) (s := s) (idx := []) (n := C) h
  exact ⟨c, fun n z => ⟨fun k h => (by cases h), k, h3, comp, h4⟩, k, comp, h3, h4, h1, h5⟩
theorem ofN_inj {N N' : Nat} (h1 : N < 2 ^ 31) (h2 : N' < 2 ^ 31) (e : Int32.ofNat N = Int32.ofNat N') : N = N' := by
  have a1 : (Int32.ofNat N).toNatClampNeg = N := Int32.toNatClampNeg_ofNat_of_lt h1
  have a2 : (Int32.ofNat N').toNatClampNeg = N' := Int32.toNatClampNeg_ofNat_of_lt h2
  rw [e, a2] at a1
  exact a1.symm
theorem T_same {ty : FieldType} {t N N' : Nat} {f f' : Nat → Value} {A : Nat → Prop} {U : State} {H : Heap} (h : va_T ty t N f A U H) (h' : va_T ty t N' f' A U H) (h1 : N < 2 ^ 31) (h2 : N' < 2 ^ 31) : N = N' ∧ ∀ j, j < N → f j = f' j := by
  obtain ⟨cell, a1, a2, a3, a4, a5, a6, a7⟩ := h
  obtain ⟨cell', b1, b2, b3, b4, b5, b6, b7⟩ := h'
  cases a1.symm.trans b1
  have e : N = N' := ofN_inj h1 h2 (a5.symm.trans b5)
  subst e
  exact ⟨rfl, fun j hj => Option.some.inj ((a6 j hj).symm.trans (b6 j hj))⟩
theorem OF_same {o n d : String} {v v' : Value} {t : Nat} {A : Nat → Prop} {U : State} {H : Heap} (h : va_OF o n d v t A U H) (h' : va_OF o n d v' t A U H) : v = v' := by
  obtain ⟨cf, k, i, f, cell, a1, a2, a3, a4, a5, a6⟩ := h
  obtain ⟨cf', k', i', f', cell', b1, b2, b3, b4, b5, b6⟩ := h'
  cases a1.symm.trans b1
  cases a3.symm.trans b3
  exact Option.some.inj (a5.symm.trans b5)
theorem en_to {E d : String} {nm : List String} {F : List (String × String × String × List Int32)} {ad ad' : Nat → Nat} {A : Nat → Prop} {U : State} {H : Heap} (e : ∀ i, i < nm.length → ad' i = ad i) (h : va_En E d nm F ad A U H) : va_En E d nm F ad' A U H :=
  ⟨fun i hi => by rw [e i hi]; exact h.1 i hi, fun i j hi hj q => h.2 i j hi hj (by rw [← e i hi, ← e j hj]; exact q)⟩
theorem ef_to {N : Nat} {o n d : String} {v v' : Nat → Value} {ad ad' : Nat → Nat} {A : Nat → Prop} {U : State} {H : Heap} (e : ∀ i, i < N → ad' i = ad i) (e' : ∀ i, i < N → v' i = v i) (h : va_Ef N o n d v ad A U H) : va_Ef N o n d v' ad' A U H := fun i hi => by rw [e i hi, e' i hi]; exact h i hi
theorem s_to {N : Nat} {len : List Nat} {byt : List (List Int32)} {aK aK' aV aV' : Nat → Nat} {A : Nat → Prop} {U : State} {H : Heap} (e : ∀ i, i < N → aK' i = aK i) (e' : ∀ i, i < N → aV' i = aV i) (h : vk_S N len byt aK aV A U H) : vk_S N len byt aK' aV' A U H :=
  ⟨fun i hi => by rw [e i hi, e' i hi]; exact h.1 i hi, fun i j hi hj q => h.2 i j hi hj (by rw [← e i hi, ← e j hj]; exact q)⟩
/-- the texts: their contents tell them apart -/
theorem s_of (h : (Jvm.Cond.and given_1 narrow_1).before args s = true) {A : Nat → Prop} (hA : ∀ a : Nat, a < s.heap.size → ¬ A a) : ∃ aK aV : Nat → Nat, vk_S 15 txL (txB.map fun l => l.map Int32.ofInt) aK aV A s s.heap ∧ ∀ i : Nat, i < 15 → (Term.string RX11 (wpL.getD i 0)).eval args s none [] s = some (.ref (aK i)) := by
  have h0 : ∀ i : Nat, ∃ q : Nat × Nat, i < 15 → (Term.string RX11 (wpL.getD i 0)).eval args s none [] s = some (.ref q.1) ∧ va_O "java/lang/String" q.1 A s s.heap ∧ va_OF "java/lang/String" "coder" "B" (.int 0) q.1 A s s.heap ∧ va_OF "java/lang/String" "value" "[B" (.ref q.2) q.1 A s s.heap ∧ va_T .byte q.2 (txL.getD i 0) (fun j => .int (((txB.map fun l => l.map Int32.ofInt).getD i []).getD j 0)) A s s.heap := by
    intro i
    by_cases hi : i < 15
    · obtain ⟨a, c, cA, kA, q1, q2, q3, q4, q5, q6, -⟩ := Cond.exactly_spec (args := args) (first := s) (o := none) (s := s) (idx := []) (t := Term.string RX11 (wpL.getD i 0)) (cls := "java/lang/String") (fl_at h (fx_s0 i hi))
      have h4 := tx_4 i hi
      obtain ⟨t, ht, hT⟩ := va_Tof (f := fun j => .int (((txB.map fun l => l.map Int32.ofInt).getD i []).getD j 0)) (A := A) (N := txL.getD i 0) (by omega) (fl_at h (fx_s2 i hi)) (va_eqt (fl_at h (fx_s3 i hi))) (fun j hj => va_eqt (fl_at h (fx_s4 i hi j (by omega) hj))) hA
      exact ⟨(a, t), fun _ => ⟨q1, ⟨cA, q3, q5, by rw [q6]; exact q2, hA a (Array.getElem?_eq_some_iff.mp q3).1⟩, vk_OFof q1 (va_eqt (fl_at h (fx_s1 i hi))) hA, vk_OFof q1 ht hA, hT⟩⟩
    · exact ⟨(0, 0), fun h => absurd h hi⟩
  obtain ⟨ad, had⟩ := Classical.axiomOfChoice h0
  refine ⟨fun i => (ad i).1, fun i => (ad i).2, ⟨fun i hi => (had i hi).2, fun i j hi hj e => ?_⟩, fun i hi => (had i hi).1⟩
  obtain ⟨-, -, -, v1, t1⟩ := had i hi
  obtain ⟨-, -, -, v2, t2⟩ := had j hj
  have e1 : (ad i).1 = (ad j).1 := e
  rw [e1] at v1
  have e2 : (ad i).2 = (ad j).2 := by
    have := OF_same v1 v2
    injection this
  rw [e2] at t1
  have h4 := tx_4 i hi
  have h5 := tx_4 j hj
  obtain ⟨z1, z2⟩ := T_same t1 t2 (by omega) (by omega)
  exact tx_ne i hi j hj z1 (fun k _ hk => Value.int.inj (z2 k hk))
/-- the words -/
theorem w_of (h : (Jvm.Cond.and given_1 narrow_1).before args s = true) (hts : ∀ w ∈ lw_tbl, w.before args s = true) {A : Nat → Prop} (hA : ∀ a : Nat, a < s.heap.size → ¬ A a) : ∃ aW : Nat → Nat, va_En RX11 "LShellLines$Word;" wdN wdFl aW A s s.heap ∧ ∀ i, i < 15 → (Term.static RX11 (wdN.getD i "") "LShellLines$Word;").eval args s none [] s = some (.ref (aW i)) := by
  refine va_Enof2 (fun i hi => hts _ (tw_ls i hi)) (hts _ tw_in.1) (fun i hi => fl_at h (fx_ex i hi)) (fun q hq i hi => ?_) (fun i j hi hj hij => ?_) hA
  · simp only [List.mem_cons, List.not_mem_nil, or_false] at hq
    rcases hq with rfl | rfl | rfl | rfl
    · exact fl_at h (fx_f0 i hi)
    · exact fl_at h (fx_f1 i hi)
    · exact fl_at h (fx_f2 i hi)
    · exact fl_at h (fx_f3 i hi)
  · rcases fx_ne i hi j hj with q | q | q
    · exact absurd q hij
    · exact Or.inl (fl_at h q)
    · exact Or.inr (fl_at h q)
/-- the row of words -/
theorem v_of (h : (Jvm.Cond.and given_1 narrow_1).before args s = true) (hts : ∀ w ∈ lw_tbl, w.before args s = true) {A : Nat → Prop} (hA : ∀ a : Nat, a < s.heap.size → ¬ A a) {aW : Nat → Nat} (hW : ∀ i, i < 15 → (Term.static RX11 (wdN.getD i "") "LShellLines$Word;").eval args s none [] s = some (.ref (aW i))) :
    ∃ t : Nat, va_Z RX11 "$VALUES" "[LShellLines$Word;" (.ref t) A s s.heap ∧ ∃ cell : Cell, s.heap[t]? = some cell ∧ (∀ k, cell.vm ≠ .statics k) ∧ cell.vm ≠ .unknown ∧ s.vm.findClass "[LShellLines$Word;" = some cell.cls ∧ cell.slots = Array.ofFn (n := 15) (fun j => Value.ref (aW j.val)) ∧ ¬ A t := by
  obtain ⟨t, ht, cell, a1, a2, a3, a4, a5, a6, a7⟩ := va_Tof (f := fun j => .ref (aW j)) (A := A) (N := 15) (by decide) (fl_at h fx_v1) (va_eqt (fl_at h fx_v2)) (fun j hj => va_eqv (fl_at h (fx_v4 j hj)) (hW j hj)) hA
  obtain ⟨t', c, cell', k, q1, q2, q3, q4, q5, q6, -⟩ := Cond.exactly_spec (args := args) (first := s) (o := none) (s := s) (idx := []) (t := Term.static RX11 "$VALUES" "[LShellLines$Word;") (cls := "[LShellLines$Word;") (fl_at h fx_v0)
  cases ht.symm.trans q1
  cases a1.symm.trans q3
  obtain ⟨t2, cell2, ht2, hat2, hv2⟩ := Term.length_spec (va_eqt (fl_at h fx_v2))
  cases ht.symm.trans ht2
  cases a1.symm.trans (State.arrayAt?_spec hat2).1
  have hle : cell.slots.size ≤ 15 := by
    apply Nat.not_lt.mp
    intro hlt
    have hall := Cond.all_elim ht hat2 (by simpa [Cond.before, Cond.holds] using fl_at h fx_v3) 15 hlt
    revert hall
    simp [Cond.value, Term.eval]
    decide
  have hsz : cell.slots.size = 15 := by omega
  refine ⟨t, va_Zref (hts _ tw_lv.1) (hts _ tw_in.1) ht hA, cell, a1, a2.1, a3, by rw [q6]; exact q2, ?_, a7⟩
  apply Array.ext_getElem?
  intro j
  by_cases hj : j < 15
  · rw [a6 j hj, Array.getElem?_ofFn, dif_pos hj]
  · rw [Array.getElem?_eq_none (by omega), Array.getElem?_ofFn, dif_neg hj]
def gAf (aW aK aV : Nat → Nat) (tS tV b tF : Nat) : Nat → Nat := fun k => if k < 16 then aW (k - 1) else if k < 31 then aK (k - 16) else if k = 31 then tS else if k = 32 then tV else if k = 33 then b else if k = 34 then tF else aV (k - 41)
theorem gAf_w {aW aK aV : Nat → Nat} {tS tV b tF j : Nat} (h : j < 15) : gAf aW aK aV tS tV b tF (1 + j) = aW j := by
  unfold gAf
  rw [if_pos (by omega), Nat.add_sub_cancel_left]
theorem gAf_k {aW aK aV : Nat → Nat} {tS tV b tF j : Nat} (h : j < 15) : gAf aW aK aV tS tV b tF (16 + j) = aK j := by
  unfold gAf
  rw [if_neg (by omega), if_pos (by omega), Nat.add_sub_cancel_left]
theorem gAf_v {aW aK aV : Nat → Nat} {tS tV b tF j : Nat} : gAf aW aK aV tS tV b tF (41 + j) = aV j := by
  unfold gAf
  rw [if_neg (by omega), if_neg (by omega), if_neg (by omega), if_neg (by omega), if_neg (by omega), if_neg (by omega), Nat.add_sub_cancel_left]
def gCf (c0 c1 c2 c3 c4 c5 c6 c7 c8 c9 : ClassId) : Nat → ClassId := fun k => if k = 20 then c0 else if k = 21 then c1 else if k = 22 then c2 else if k = 23 then c3 else if k = 30 then c4 else if k = 32 then c5 else if k = 38 then c6 else if k = 39 then c7 else if k = 50 then c8 else c9
/-- the ghosts, and what the context says of them -/
theorem ctx_of (h : (Jvm.Cond.and given_1 narrow_1).before args s = true) (hts : ∀ w ∈ lw_tbl, w.before args s = true) {b L : Nat} {xs : Nat → Int32} (hX : va_X b L xs s s.heap) (hbl : b < s.heap.size) (hL : L ≤ 3072) : ∃ G : Gp, gB G = s.heap.size ∧ gA G 33 = b ∧ gL G = L ∧ gX G = xs ∧ CTX G s s.heap := by
  have hA : ∀ a : Nat, a < s.heap.size → ¬ (fun q : Nat => s.heap.size ≤ q) a := fun a ha => Nat.not_le.mpr ha
  obtain ⟨aW, hW1, hW2⟩ := w_of h hts hA
  obtain ⟨aK, aV, hK1, hK2⟩ := s_of h hA
  obtain ⟨tV, hV1, hV2⟩ := v_of h hts hA hW2
  obtain ⟨tS, hS1, hS2⟩ := va_Tof (f := fun j => .int (Int32.ofInt (swL.getD j 0))) (A := fun q : Nat => s.heap.size ≤ q) (N := 15) (by decide) (fl_at h fx_w1) (va_eqt (fl_at h fx_w2)) (fun j hj => va_eqt (fl_at h (fx_w3 j hj))) hA
  have hS3 := va_Zref (hts _ tw_lv.2.1) (hts _ tw_in.2.1) hS1 hA
  have hC1 := va_Zof (hts _ tw_lv.2.2.1) (hts _ tw_in.2.2.1) (va_eqi (fl_at h fx_cs)) hA
  have hF1 := va_Zqof (hts _ tw_lv.2.2.2) (hts _ tw_in.2.2.2) (fl_at h fx_sf) hA
  obtain ⟨nb, tF, hF2⟩ : ∃ (nb : Bool) (tF : Nat), va_Z "jdk/internal/util/Preconditions" "SIOOBE_FORMATTER" "Ljava/util/function/BiFunction;" (if nb = true then .null else .ref tF) (fun q : Nat => s.heap.size ≤ q) s s.heap := by
    rcases hF1 with q | ⟨t, q⟩
    · exact ⟨true, 0, q⟩
    · exact ⟨false, t, q⟩
  have hD0 : ∀ ci : Nat, ∃ q : ClassId × (Nat → Nat), ci < 12 → u_Kn s (clC ci) (clT ci) (clN ci) q.1 q.2 := by
    intro ci
    by_cases hc : ci < 12
    · obtain ⟨c, i, hk⟩ := u_known (C := clC ci) (T := clT ci) (N := clN ci) (n := clN ci) hts (fun w hw => (cl_ws ci hc w hw).1) (hts _ (tw_new ci hc))
      exact ⟨(c, i), fun _ => hk⟩
    · exact ⟨(0, fun _ => 0), fun q => absurd q hc⟩
  obtain ⟨D, hD⟩ := Classical.axiomOfChoice hD0
  obtain ⟨c0, p0, r0⟩ := arr_p (hts _ tw_ac.1)
  obtain ⟨c1, p1, r1⟩ := arr_p (hts _ tw_ac.2.1)
  obtain ⟨c2, p2, r2⟩ := arr_p (hts _ tw_ac.2.2.1)
  obtain ⟨c3, p3, r3⟩ := arr_p (hts _ tw_ac.2.2.2)
  obtain ⟨c4, p4, r4⟩ := arr_o (hts _ (tw_ao RX1 (by decide)))
  obtain ⟨c5, p5, r5⟩ := arr_o (hts _ (tw_ao RX3 (by decide)))
  obtain ⟨c6, p6, r6⟩ := arr_o (hts _ (tw_ao RX9 (by decide)))
  obtain ⟨c7, p7, r7⟩ := arr_o (hts _ (tw_ao RX10 (by decide)))
  obtain ⟨c8, p8, r8⟩ := arr_o (hts _ (tw_ao RX11 (by decide)))
  obtain ⟨c9, p9, r9⟩ := arr_o (hts _ (tw_ao "java/lang/String" (by decide)))
  refine ⟨((fun c => (D c).1, fun c => (D c).2), gCf c0 c1 c2 c3 c4 c5 c6 c7 c8 c9, s.heap.size, gAf aW aK aV tS tV b tF, nb, L, xs), rfl, rfl, rfl, rfl, ⟨⟨?_, ?_⟩, ?_, ?_, ?_⟩, ⟨?_, ?_, ?_⟩, ⟨?_, ?_, ?_, ?_⟩, ?_, ?_, ?_, ?_⟩
  · intro c q hq
    have hc : c < 12 := (List.getElem?_eq_some_iff.mp hq).1
    have e := Option.some.inj ((cl_at hc).symm.trans hq)
    subst e
    exact hD c hc
  · intro k q hq
    match k, hq with
    | 0, hq => cases hq; exact ⟨p0, r0⟩
    | 1, hq => cases hq; exact ⟨p1, r1⟩
    | 2, hq => cases hq; exact ⟨p2, r2⟩
    | 3, hq => cases hq; exact ⟨p3, r3⟩
    | 4, hq => cases hq; exact ⟨p4, r4⟩
    | 5, hq => cases hq; exact ⟨p5, r5⟩
    | 6, hq => cases hq; exact ⟨p6, r6⟩
    | 7, hq => cases hq; exact ⟨p7, r7⟩
    | 8, hq => cases hq; exact ⟨p8, r8⟩
    | 9, hq => cases hq; exact ⟨p9, r9⟩
    | k + 10, hq => cases hq
  · exact fun w hw => va_Nw.of (NWL_tab w hw) (hts _ (tw_nw w hw))
  · exact fun c hc => va_AO.of (hts _ (tw_ao c hc))
  · intro j hj
    have e : gAf aW aK aV tS tV b tF (16 + j) = aK j := gAf_k (by omega)
    show vk_R RX13 (mpL.getD j 0) (wdT.getD j "") (gAf aW aK aV tS tV b tF (16 + j)) s
    rw [e]
    exact vk_R.of (hts _ (tw_sr j hj)) (va_eqv (fl_at h (fx_eq j hj)) (hK2 j (by omega)))
  · exact en_to (fun i hi => gAf_w hi) hW1
  · exact ef_to (fun i hi => gAf_w hi) (fun i hi => congrArg Value.ref (gAf_k hi)) (va_Efof (v := fun i => .ref (aK i)) hW2 (fun i hi => fl_at h (fx_tx i hi)) hK2 hA)
  · exact s_to (fun i hi => gAf_k hi) (fun i _ => gAf_v) hK1
  · exact hV1
  · obtain ⟨cell, q1, q2, q3, q4, q5, q6⟩ := hV2
    refine ⟨cell, q1, q2, q3, q4, ?_, q6⟩
    rw [q5]
    congr 1
    funext j
    exact congrArg Value.ref (gAf_w j.isLt).symm
  · exact hS3
  · exact hS2
  · exact hC1
  · have e : ∀ G : Gp, gN G = nb → gA G 34 = tF → rR G 34 = (if nb = true then Value.null else Value.ref tF) := by
      intro G e1 e2
      unfold rR rA
      rw [e1]
      cases nb with
      | true => rw [if_pos (Or.inr ⟨rfl, rfl⟩)]; rfl
      | false =>
        rw [if_neg (by decide), if_pos (by decide)]
        exact congrArg Value.ref e2
    rw [e _ rfl rfl]
    exact hF2
  · obtain ⟨scr, x1, x2, x3, x4, x5⟩ := hX
    exact ⟨scr, x1, x2, x3, Nat.le_of_eq x4.symm, by rw [x4]; rfl, x5, hA b hbl⟩
  · show L < 2147483648
    omega
end CXO
