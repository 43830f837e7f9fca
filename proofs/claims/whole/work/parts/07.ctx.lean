/-! ===== the context: what the tables and the constants say ===== -/
def NWL : List Cond := [
  Cond.methodLinkNest "ShellLines" 13 ⟨"ShellLines$Reader", "<init>", "()V"⟩ "ShellLines",
  Cond.castable "[LShellLines$Word;" "java/lang/Cloneable",
  Cond.methodLinkNest "ShellLines$Machine" 23 ⟨"ShellLines$Frame", "<init>", "()V"⟩ "ShellLines",
  Cond.methodLinkNest "ShellLines$Frame" 27 ⟨"ShellLines$Numbers", "<init>", "()V"⟩ "ShellLines",
  Cond.methodLinkNest "ShellLines$Kept" 24 ⟨"ShellLines$Numbers", "<init>", "()V"⟩ "ShellLines",
  Cond.methodLinkNest "ShellLines" 60 ⟨"ShellLines$Frame", "<init>", "()V"⟩ "ShellLines",
  Cond.methodLinkNest "ShellLines" 61 ⟨"ShellLines$Tape", "<init>", "()V"⟩ "ShellLines",
  Cond.methodLinkNest "ShellLines$Reader" 165 ⟨"ShellLines", "isName", "(I)Z"⟩ "ShellLines",
  Cond.methodLinkNest "ShellLines$Machine" 142 ⟨"ShellLines", "isName", "(I)Z"⟩ "ShellLines",
  Cond.declares ⟨"java/lang/Enum", "ordinal", "()I"⟩,
  Cond.methodLinkNest "ShellLines$Machine" 214 ⟨"ShellLines", "isFunction", "(I)Z"⟩ "ShellLines"]
def wdN : List String := ["ECHO", "SEQ", "ADD", "MUL", "MOD", "KEEP", "TAKE", "SUM", "SET", "OK", "FAIL", "F", "G", "H", "BRACES"]
def wdT : List String := ["echo", "seq", "add", "mul", "mod", "keep", "take", "sum", "set", "ok", "fail", "f", "g", "h", "{"]
def wdL : List Int := [1, 1, 1, 1, 1, 1, 1, 0, 1, 0, 1, 1, 1, 1, 0]
def wdM : List Int := [4, 1, 1, 1, 1, 1, 1, 0, 1, 0, 1, 1, 1, 1, 0]
def wdF : List Int := [-1, -1, -1, -1, -1, -1, -1, -1, -1, -1, -1, 0, 1, 2, -1]
def swL : List Int := [4, 5, 12, 13, 2, 14, 11, 15, 3, 10, 1, 7, 8, 9, 6]
def txL : List Nat := [4, 3, 3, 3, 3, 4, 4, 3, 3, 2, 4, 1, 1, 1, 1]
def txB : List (List Int) := [[101, 99, 104, 111], [115, 101, 113], [97, 100, 100], [109, 117, 108], [109, 111, 100], [107, 101, 101, 112], [116, 97, 107, 101], [115, 117, 109], [115, 101, 116], [111, 107], [102, 97, 105, 108], [102], [103], [104], [123]]
def mpL : List Nat := [11, 13, 15, 17, 19, 21, 23, 25, 27, 29, 31, 33, 35, 37]
def wpL : List Nat := [85, 91, 94, 97, 100, 103, 106, 109, 112, 115, 118, 121, 124, 127, 130]
def aoL : List String := [RX11, RX3, RX1, RX10, RX9, "java/lang/String"]
abbrev wdFl : List (String × String × String × List Int32) := [("java/lang/Enum", "ordinal", "I", [0, 1, 2, 3, 4, 5, 6, 7, 8, 9, 10, 11, 12, 13, 14]), (RX11, "least", "I", wdL.map Int32.ofInt), (RX11, "most", "I", wdM.map Int32.ofInt), (RX11, "function", "I", wdF.map Int32.ofInt)]
def VCL (G : Gp) (U : State) (H : Heap) : Prop := ∃ cell : Cell, H[gA G 32]? = some cell ∧ (∀ k, cell.vm ≠ .statics k) ∧ cell.vm ≠ .unknown ∧ U.vm.findClass "[LShellLines$Word;" = some cell.cls ∧ cell.slots = Array.ofFn (n := 15) (fun j => Value.ref (gA G (1 + j.val))) ∧ ¬ frA G (gA G 32)
theorem VCL.moved {G : Gp} {u U : State} {H : Heap} (hvm : u.vm.Alike U.vm) (h : VCL G u H) : VCL G U H := by
  obtain ⟨cell, h1, h2, h3, h4, h5⟩ := h
  exact ⟨cell, h1, h2, h3, by rw [hvm.findClass]; exact h4, h5⟩
theorem VCL.kept {G : Gp} {U : State} {H H1 : Heap} (h : VCL G U H) (hq : ∀ a : Nat, a < H.size → ¬ frA G a → H1[a]? = H[a]?) : VCL G U H1 := by
  obtain ⟨cell, h1, h2, h3, h4, h5, h6⟩ := h
  exact ⟨cell, by rw [hq _ (Array.getElem?_eq_some_iff.mp h1).1 h6]; exact h1, h2, h3, h4, h5, h6⟩
def CTX (G : Gp) (U : State) (H : Heap) : Prop :=
  (va_K (gD G) vwCl (tysL G) U ∧ (∀ w ∈ NWL, va_Nw w U) ∧ (∀ c ∈ aoL, va_AO c U) ∧ ∀ j : Nat, j < 14 → vk_R RX13 (mpL.getD j 0) (wdT.getD j "") (gA G (16 + j)) U) ∧
  (va_En RX11 "LShellLines$Word;" wdN wdFl (fun j => gA G (1 + j)) (frA G) U H ∧ va_Ef 15 RX11 "text" "Ljava/lang/String;" (fun j => .ref (gA G (16 + j))) (fun j => gA G (1 + j)) (frA G) U H ∧
   vk_S 15 txL (txB.map fun l => l.map Int32.ofInt) (fun j => gA G (16 + j)) (fun j => gA G (41 + j)) (frA G) U H) ∧
  (va_Z RX11 "$VALUES" "[LShellLines$Word;" (.ref (gA G 32)) (frA G) U H ∧ VCL G U H ∧
   va_Z RX0 "$SwitchMap$ShellLines$Word" "[I" (.ref (gA G 31)) (frA G) U H ∧ va_T .int (gA G 31) 15 (fun j => .int (Int32.ofInt (swL.getD j 0))) (frA G) U H) ∧
  va_Z "java/lang/String" "COMPACT_STRINGS" "Z" (.int 1) (frA G) U H ∧ va_Z "jdk/internal/util/Preconditions" "SIOOBE_FORMATTER" "Ljava/util/function/BiFunction;" (rR G 34) (frA G) U H ∧
  va_T .int (gA G 33) (gL G) (fun j => .int (gX G j)) (frA G) U H ∧ gL G < 2147483648
theorem NWL_warm {s U : State} (hW : s.WarmedH U.vm) (h : ∀ w ∈ NWL, va_Nw w s) : ∀ w ∈ NWL, va_Nw w U := by
  intro w hw
  have h1 := h w hw
  simp only [NWL, List.mem_cons, List.not_mem_nil, or_false] at hw
  rcases hw with rfl | rfl | rfl | rfl | rfl | rfl | rfl | rfl | rfl | rfl | rfl
  all_goals first | exact va_Nw.warmM hW h1 | exact va_Nw.warmC hW h1 | exact va_Nw.warmD hW h1
theorem CTX.to {G : Gp} {s U : State} {H : Heap} {locs : List Loc} (h : CTX G s s.heap) (hH : U.heap = H) (hW : s.WarmedH U.vm) (hS : va_S (frA G) s.heap H locs) : CTX G U U.heap := by
  subst hH
  obtain ⟨⟨a1, a2, a3, a4⟩, ⟨b1, b2, b3⟩, ⟨c1, c2, c3, c4⟩, d1, d2, d3, d4⟩ := h
  have hv := hW.alike
  have hq := hS.2.1
  exact ⟨⟨va_K.moved hv a1, NWL_warm hW a2, fun c hc => va_AO.moved hv (a3 c hc), fun j hj => vk_R.warm hW (a4 j hj)⟩, ⟨va_En.moved hv (va_En.kept b1 hq), va_Ef.moved hv (va_Ef.kept b2 hq), vk_S.moved hv (vk_S.kept b3 hq)⟩,
    ⟨va_Z.moved hv (va_Z.kept c1 hq), VCL.moved hv (VCL.kept c2 hq), va_Z.moved hv (va_Z.kept c3 hq), va_T.moved hv (va_T.kept c4 hq)⟩, va_Z.moved hv (va_Z.kept d1 hq), va_Z.moved hv (va_Z.kept d2 hq), va_T.moved hv (va_T.kept d3 hq), d4⟩

