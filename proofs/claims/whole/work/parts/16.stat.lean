/-! ===== rows of constants: statics, the words, their texts, the switch, the script; copies of arrays ===== -/
theorem SIM.putX {G : Gp} {A A' : AHp} {H H1 : Heap} (h : SIM G A H) {o : Int} (h1 : 60 ≤ o) (h2 : o < hn A) (hA2 : A'.2 = A.2) (hne : ∀ x k, x ≠ o → hv A' x k = hv A x k) (he : va_at (gD G) vwCl (rA G o, entE G A' o) H1) (z : H1.size = H.size)
    (oq : ∀ q : Nat, q ≠ rA G o → H1[q]? = H[q]?) (hok : ∀ k, 0 ≤ k → okS (hk A o) k (hv A' o k)) : SIM G A' H1 := by
  have g4 : hp A' = hp A := by unfold hp; rw [hA2]
  have g1 : hk A' = hk A := by unfold hk; rw [hA2]
  have g2 : hl A' = hl A := by unfold hl; rw [hA2]
  have g3 : hn A' = hn A := by unfold hn; rw [hA2]
  refine ⟨by rw [g3]; exact z.trans h.1, by rw [g3]; exact h.2.1, fun x hx1 hx2 => ?_, fun x hx1 hx2 j hj => ?_, fun e => ?_⟩
  · rw [g3] at hx2
    obtain ⟨a1, a2, a3, a4⟩ := h.2.2.1 x hx1 hx2
    refine ⟨by rw [g1]; exact a1, by rw [g2]; exact a2, by rw [g2]; exact a3, ?_⟩
    by_cases hxo : x = o
    · subst hxo
      exact he
    · rw [entE_same (A := A) (A' := A') (x := x) (by rw [g1]) (by rw [g2]) (fun k' => hne x k' hxo) (fun k' => by rw [g4])]
      exact a4.kept (oq _ (fun e => hxo (rA_inj hx1 h1 e)))
  · rw [g3] at hx2
    rw [g1, g4]
    refine ⟨?_, (h.2.2.2.1 x hx1 hx2 j hj).2⟩
    by_cases hxo : x = o
    · subst hxo
      exact hok j hj
    · rw [hne x j hxo]
      exact (h.2.2.2.1 x hx1 hx2 j hj).1
  · rw [g1] at e
    refine ⟨by rw [g2]; exact (h.2.2.2.2 e).1, fun i hi => by rw [hne 33 i (by omega)]; exact (h.2.2.2.2 e).2 i hi⟩
def hcpy (A : AHp) (s sp d dp n : Int) : AHp := (fun o' k' => if o' = d ∧ dp ≤ k' ∧ k' < dp + n then hv A s (sp + (k' - dp)) else hv A o' k', A.2)
theorem hv_cpy (A : AHp) (s sp d dp n o' k' : Int) : hv (hcpy A s sp d dp n) o' k' = if o' = d ∧ dp ≤ k' ∧ k' < dp + n then hv A s (sp + (k' - dp)) else hv A o' k' := rfl
theorem hk_cpy (A : AHp) (s sp d dp n : Int) : hk (hcpy A s sp d dp n) = hk A := rfl
theorem hl_cpy (A : AHp) (s sp d dp n : Int) : hl (hcpy A s sp d dp n) = hl A := rfl
theorem hn_cpy (A : AHp) (s sp d dp n : Int) : hn (hcpy A s sp d dp n) = hn A := rfl
theorem hp_cpy (A : AHp) (s sp d dp n : Int) : hp (hcpy A s sp d dp n) = hp A := rfl
theorem hs_cpy (A : AHp) (s sp d dp n : Int) : hs (hcpy A s sp d dp n) = hs A := rfl
theorem rR_st {G : Gp} {o : Int} (h0 : 0 < o) (h1 : o < 60) (h2 : o ≠ 34) : rR G o = .ref (gA G o.toNat) := by
  unfold rR rA
  rw [if_neg (by omega), if_pos h1]
section STA
variable {d : Nat} {M : MD} {pc pc' : Nat} {lv : LV} {st : List AV} {A : AHp} {Q : Option AV → AHp → Prop} {o i n x : Int} {idx : Nat}
theorem aw_gsW {j : Nat} (hj : j < 15) (hw : Cond.fieldLink M.1.cls idx RX11 (wdN.getD j "") "LShellLines$Word;" ∈ TB) (hd : decode M.2.1 pc = .ok (.getstatic idx, 3)) (hp : pc + 3 = pc') (kk : AW d M pc' lv (vr (1 + (j : Int)) :: st) A Q) : AW d M pc lv st A Q := by
  subst hp
  refine AW.pure (fun l G p e R s m args below meth c H locs ls C S Qr hC hS hl9 ho hst hva kk => ?_) kk
  have hE := hC.2.2.2.2.2.2.1.2.1.1
  have hZ := (hE.1 j (by show j < wdN.length; exact hj)).1
  have k1 := kk ls hl9 ho (okc trivial hst)
  change W p l e R s m args below meth c H locs C S Qr (F0 m (pc + 3) ls (rR G (1 + (j : Int)) :: st.map (rV G))) at k1
  rw [rR_st (by omega) (by omega) (by omega), show (1 + (j : Int)).toNat = 1 + j by omega] at k1
  exact va_gets hC.1 hC.2.1 hZ hva hC.2.2.2.2.1 (hC.2.2.2.2.2.1 _ hw) (fun _ h => h) hd k1
theorem aw_gsV (hw : Cond.fieldLink M.1.cls idx RX11 "$VALUES" "[LShellLines$Word;" ∈ TB) (hd : decode M.2.1 pc = .ok (.getstatic idx, 3)) (hp : pc + 3 = pc') (kk : AW d M pc' lv (vr 32 :: st) A Q) : AW d M pc lv st A Q := by
  subst hp
  refine AW.pure (fun l G p e R s m args below meth c H locs ls C S Qr hC hS hl9 ho hst hva kk => ?_) kk
  have hZ := hC.2.2.2.2.2.2.1.2.2.1.1
  have k1 := kk ls hl9 ho (okc trivial hst)
  change W p l e R s m args below meth c H locs C S Qr (F0 m (pc + 3) ls (rR G 32 :: st.map (rV G))) at k1
  rw [rR_st (by omega) (by omega) (by omega)] at k1
  exact va_gets hC.1 hC.2.1 hZ hva hC.2.2.2.2.1 (hC.2.2.2.2.2.1 _ hw) (fun _ h => h) hd k1
theorem aw_gsS (hw : Cond.fieldLink M.1.cls idx RX0 "$SwitchMap$ShellLines$Word" "[I" ∈ TB) (hd : decode M.2.1 pc = .ok (.getstatic idx, 3)) (hp : pc + 3 = pc') (kk : AW d M pc' lv (vr 31 :: st) A Q) : AW d M pc lv st A Q := by
  subst hp
  refine AW.pure (fun l G p e R s m args below meth c H locs ls C S Qr hC hS hl9 ho hst hva kk => ?_) kk
  have hZ := hC.2.2.2.2.2.2.1.2.2.1.2.2.1
  have k1 := kk ls hl9 ho (okc trivial hst)
  change W p l e R s m args below meth c H locs C S Qr (F0 m (pc + 3) ls (rR G 31 :: st.map (rV G))) at k1
  rw [rR_st (by omega) (by omega) (by omega)] at k1
  exact va_gets hC.1 hC.2.1 hZ hva hC.2.2.2.2.1 (hC.2.2.2.2.2.1 _ hw) (fun _ h => h) hd k1
theorem aw_gsC (hw : Cond.fieldLink M.1.cls idx "java/lang/String" "COMPACT_STRINGS" "Z" ∈ TB) (hd : decode M.2.1 pc = .ok (.getstatic idx, 3)) (hp : pc + 3 = pc') (kk : AW d M pc' lv (vi 1 :: st) A Q) : AW d M pc lv st A Q := by
  subst hp
  refine AW.pure (fun l G p e R s m args below meth c H locs ls C S Qr hC hS hl9 ho hst hva kk => ?_) kk
  have hZ := hC.2.2.2.2.2.2.1.2.2.2.1
  exact va_gets hC.1 hC.2.1 hZ hva hC.2.2.2.2.1 (hC.2.2.2.2.2.1 _ hw) (fun _ h => h) hd (kk ls hl9 ho (okc (by show in32 1; decide) hst))
theorem aw_gsF (hw : Cond.fieldLink M.1.cls idx "jdk/internal/util/Preconditions" "SIOOBE_FORMATTER" "Ljava/util/function/BiFunction;" ∈ TB) (hd : decode M.2.1 pc = .ok (.getstatic idx, 3)) (hp : pc + 3 = pc') (kk : AW d M pc' lv (vr 34 :: st) A Q) : AW d M pc lv st A Q := by
  subst hp
  refine AW.pure (fun l G p e R s m args below meth c H locs ls C S Qr hC hS hl9 ho hst hva kk => ?_) kk
  have hZ := hC.2.2.2.2.2.2.1.2.2.2.2.1
  exact va_gets hC.1 hC.2.1 hZ hva hC.2.2.2.2.1 (hC.2.2.2.2.2.1 _ hw) (fun _ h => h) hd (kk ls hl9 ho (okc trivial hst))
/-- a word's field of ints -/
theorem wd_get {q : String × String × String × List Int32} {v : Int} (hq : q ∈ wdFl) (h1 : 1 ≤ o) (h2 : o ≤ 15) (hv1 : q.2.2.2.getD (o - 1).toNat 0 = Int32.ofInt v) (hv2 : in32 v) (hw : Cond.fieldLink M.1.cls idx q.1 q.2.1 q.2.2.1 ∈ TB) (hd : decode M.2.1 pc = .ok (.getfield idx, 3)) (hp : pc + 3 = pc') (kk : AW d M pc' lv (vi v :: st) A Q) : AW d M pc lv (vr o :: st) A Q := by
  subst hp
  refine AW.pure (fun l G p e R s m args below meth c H locs ls C S Qr hC hS hl9 ho hst hva kk => ?_) kk
  have hE := hC.2.2.2.2.2.2.1.2.1.1
  have k1 := kk ls hl9 ho (okc hv2 (okt hst))
  change W p l e R s m args below meth c H locs C S Qr (F0 m (pc + 3) ls (.int (Int32.ofInt v) :: st.map (rV G))) at k1
  rw [← hv1] at k1
  change W p l e R s m args below meth c H locs C S Qr (F0 m pc ls (rR G o :: st.map (rV G)))
  rw [rR_st (by omega) (by omega) (by omega), show o.toNat = 1 + (o - 1).toNat by omega]
  exact va_getE (E := RX11) (d := "LShellLines$Word;") (nm := wdN) (ad := fun j => gA G (1 + j)) (i := (o - 1).toNat) hC.1 hC.2.1 hE (show (o - 1).toNat < wdN.length by show _ < 15; omega) hva hC.2.2.2.2.1 hq (hC.2.2.2.2.2.1 _ hw) (fun _ h => h) hd k1
theorem lst_in {l : List Int} (h : ∀ a ∈ l, in32 a) (k : Nat) : in32 (l.getD k 0) := by
  rw [List.getD_eq_getElem?_getD]
  cases e : l[k]? with
  | none => decide
  | some a => exact h a (List.mem_of_getElem? e)
theorem lst_map (l : List Int) (k : Nat) : (l.map Int32.ofInt).getD k 0 = Int32.ofInt (l.getD k 0) := by
  rw [List.getD_eq_getElem?_getD, List.getD_eq_getElem?_getD, List.getElem?_map]
  cases l[k]? <;> rfl
def wLeast (o : Int) : Int := wdL.getD (o - 1).toNat 0
def wMost (o : Int) : Int := wdM.getD (o - 1).toNat 0
def wFun (o : Int) : Int := wdF.getD (o - 1).toNat 0
theorem aw_wLeast (h1 : 1 ≤ o) (h2 : o ≤ 15) (hw : Cond.fieldLink M.1.cls idx RX11 "least" "I" ∈ TB) (hd : decode M.2.1 pc = .ok (.getfield idx, 3)) (hp : pc + 3 = pc') (kk : AW d M pc' lv (vi (wLeast o) :: st) A Q) : AW d M pc lv (vr o :: st) A Q :=
  wd_get (q := (RX11, "least", "I", wdL.map Int32.ofInt)) (by simp [wdFl]) h1 h2 (lst_map _ _) (lst_in (by decide) _) hw hd hp kk
theorem aw_wMost (h1 : 1 ≤ o) (h2 : o ≤ 15) (hw : Cond.fieldLink M.1.cls idx RX11 "most" "I" ∈ TB) (hd : decode M.2.1 pc = .ok (.getfield idx, 3)) (hp : pc + 3 = pc') (kk : AW d M pc' lv (vi (wMost o) :: st) A Q) : AW d M pc lv (vr o :: st) A Q :=
  wd_get (q := (RX11, "most", "I", wdM.map Int32.ofInt)) (by simp [wdFl]) h1 h2 (lst_map _ _) (lst_in (by decide) _) hw hd hp kk
theorem aw_wFun (h1 : 1 ≤ o) (h2 : o ≤ 15) (hw : Cond.fieldLink M.1.cls idx RX11 "function" "I" ∈ TB) (hd : decode M.2.1 pc = .ok (.getfield idx, 3)) (hp : pc + 3 = pc') (kk : AW d M pc' lv (vi (wFun o) :: st) A Q) : AW d M pc lv (vr o :: st) A Q :=
  wd_get (q := (RX11, "function", "I", wdF.map Int32.ofInt)) (by simp [wdFl]) h1 h2 (lst_map _ _) (lst_in (by decide) _) hw hd hp kk
theorem ord_at : ∀ k, k < 15 → ([0, 1, 2, 3, 4, 5, 6, 7, 8, 9, 10, 11, 12, 13, 14] : List Int32).getD k 0 = Int32.ofInt k := by decide +kernel
theorem aw_wOrd (h1 : 1 ≤ o) (h2 : o ≤ 15) (hw : Cond.fieldLink M.1.cls idx "java/lang/Enum" "ordinal" "I" ∈ TB) (hd : decode M.2.1 pc = .ok (.getfield idx, 3)) (hp : pc + 3 = pc') (kk : AW d M pc' lv (vi (o - 1) :: st) A Q) : AW d M pc lv (vr o :: st) A Q :=
  wd_get (q := ("java/lang/Enum", "ordinal", "I", [0, 1, 2, 3, 4, 5, 6, 7, 8, 9, 10, 11, 12, 13, 14])) (by simp [wdFl]) h1 h2 (by rw [ord_at _ (by omega)]; congr 1; omega) (by unfold in32; omega) hw hd hp kk
theorem aw_wText (h1 : 1 ≤ o) (h2 : o ≤ 15) (hw : Cond.fieldLink M.1.cls idx RX11 "text" "Ljava/lang/String;" ∈ TB) (hd : decode M.2.1 pc = .ok (.getfield idx, 3)) (hp : pc + 3 = pc') (kk : AW d M pc' lv (vr (o + 15) :: st) A Q) : AW d M pc lv (vr o :: st) A Q := by
  subst hp
  refine AW.pure (fun l G p e R s m args below meth c H locs ls C S Qr hC hS hl9 ho hst hva kk => ?_) kk
  have hE := hC.2.2.2.2.2.2.1.2.1.2.1
  have k1 := kk ls hl9 ho (okc trivial (okt hst))
  change W p l e R s m args below meth c H locs C S Qr (F0 m (pc + 3) ls (rR G (o + 15) :: st.map (rV G))) at k1
  rw [rR_st (by omega) (by omega) (by omega), show (o + 15).toNat = 16 + (o - 1).toNat by omega] at k1
  change W p l e R s m args below meth c H locs C S Qr (F0 m pc ls (rR G o :: st.map (rV G)))
  rw [rR_st (by omega) (by omega) (by omega), show o.toNat = 1 + (o - 1).toNat by omega]
  exact va_getX (N := 15) (v := fun j => .ref (gA G (16 + j))) (ad := fun j => gA G (1 + j)) hC.1 hC.2.1 hE (show (o - 1).toNat < 15 by omega) hva hC.2.2.2.2.1 (hC.2.2.2.2.2.1 _ hw) (fun _ h => h) hd k1
theorem aw_sVal (h1 : 16 ≤ o) (h2 : o ≤ 30) (hw : Cond.fieldLink M.1.cls idx "java/lang/String" "value" "[B" ∈ TB) (hd : decode M.2.1 pc = .ok (.getfield idx, 3)) (hp : pc + 3 = pc') (kk : AW d M pc' lv (vr (o + 25) :: st) A Q) : AW d M pc lv (vr o :: st) A Q := by
  subst hp
  refine AW.pure (fun l G p e R s m args below meth c H locs ls C S Qr hC hS hl9 ho hst hva kk => ?_) kk
  have hE := (hC.2.2.2.2.2.2.1.2.1.2.2.1 (o - 16).toNat (by omega)).2.2.1
  have k1 := kk ls hl9 ho (okc trivial (okt hst))
  change W p l e R s m args below meth c H locs C S Qr (F0 m (pc + 3) ls (rR G (o + 25) :: st.map (rV G))) at k1
  rw [rR_st (by omega) (by omega) (by omega), show (o + 25).toNat = 41 + (o - 16).toNat by omega] at k1
  change W p l e R s m args below meth c H locs C S Qr (F0 m pc ls (rR G o :: st.map (rV G)))
  rw [rR_st (by omega) (by omega) (by omega), show o.toNat = 16 + (o - 16).toNat by omega]
  exact vk_getf hC.1 hC.2.1 hE hva hC.2.2.2.2.1 (hC.2.2.2.2.2.1 _ hw) (fun _ h => h) hd k1
theorem aw_sCod (h1 : 16 ≤ o) (h2 : o ≤ 30) (hw : Cond.fieldLink M.1.cls idx "java/lang/String" "coder" "B" ∈ TB) (hd : decode M.2.1 pc = .ok (.getfield idx, 3)) (hp : pc + 3 = pc') (kk : AW d M pc' lv (vi 0 :: st) A Q) : AW d M pc lv (vr o :: st) A Q := by
  subst hp
  refine AW.pure (fun l G p e R s m args below meth c H locs ls C S Qr hC hS hl9 ho hst hva kk => ?_) kk
  have hE := (hC.2.2.2.2.2.2.1.2.1.2.2.1 (o - 16).toNat (by omega)).2.1
  change W p l e R s m args below meth c H locs C S Qr (F0 m pc ls (rR G o :: st.map (rV G)))
  rw [rR_st (by omega) (by omega) (by omega), show o.toNat = 16 + (o - 16).toNat by omega]
  exact vk_getf hC.1 hC.2.1 hE hva hC.2.2.2.2.1 (hC.2.2.2.2.2.1 _ hw) (fun _ h => h) hd (kk ls hl9 ho (okc (by show in32 0; decide) (okt hst)))
/-- how long a word's text is (by the address of its bytes, or of itself less 25) -/
def sLen (k : Nat) : Nat := txL.getD k 0
def sChr (k : Nat) (i : Int) : Int := (txB.getD k []).getD i.toNat 0
theorem aw_sLen (h1 : 41 ≤ o) (h2 : o ≤ 55) (hd : decode M.2.1 pc = .ok (.arraylength, 1)) (hp : pc + 1 = pc') (kk : AW d M pc' lv (vi (sLen (o - 41).toNat) :: st) A Q) : AW d M pc lv (vr o :: st) A Q := by
  subst hp
  refine AW.pure (fun l G p e R s m args below meth c H locs ls C S Qr hC hS hl9 ho hst hva kk => ?_) kk
  have hE := (hC.2.2.2.2.2.2.1.2.1.2.2.1 (o - 41).toNat (by omega)).2.2.2
  change W p l e R s m args below meth c H locs C S Qr (F0 m pc ls (rR G o :: st.map (rV G)))
  rw [rR_st (by omega) (by omega) (by omega), show o.toNat = 41 + (o - 41).toNat by omega]
  have hb : ∀ k, k < 15 → sLen k < 10 := by decide
  refine va_tlen hC.1 hC.2.1 hE hva (v := Int32.ofInt (sLen (o - 41).toNat)) rfl hd (kk ls hl9 ho (okc ?_ (okt hst)))
  have := hb (o - 41).toNat (by omega)
  show in32 _
  unfold in32
  omega
theorem chr_in : ∀ k, k < 15 → ∀ i, i < 10 → in32 ((txB.getD k []).getD i 0) := by decide
theorem aw_sChr (h1 : 41 ≤ o) (h2 : o ≤ 55) (h0 : 0 ≤ i) (hi1 : i < sLen (o - 41).toNat) (hd : decode M.2.1 pc = .ok (.baload, 1)) (hp : pc + 1 = pc') (kk : AW d M pc' lv (vi (sChr (o - 41).toNat i) :: st) A Q) : AW d M pc lv (vi i :: vr o :: st) A Q := by
  subst hp
  refine AW.pure (fun l G p e R s m args below meth c H locs ls C S Qr hC hS hl9 ho hst hva kk => ?_) kk
  have hE := (hC.2.2.2.2.2.2.1.2.1.2.2.1 (o - 41).toNat (by omega)).2.2.2
  have hi : in32 i := okh hst
  have hb : ∀ k, k < 15 → sLen k < 10 := by decide
  have hb1 := hb (o - 41).toNat (by omega)
  change W p l e R s m args below meth c H locs C S Qr (F0 m pc ls (.int (Int32.ofInt i) :: rR G o :: st.map (rV G)))
  rw [rR_st (by omega) (by omega) (by omega), show o.toNat = 41 + (o - 41).toNat by omega]
  refine va_tb hC.1 hC.2.1 hE hva (v := .int (Int32.ofInt (sChr (o - 41).toNat i))) ?_ ?_ hd (kk ls hl9 ho (okc (chr_in _ (by omega) _ (by omega)) (okt (okt hst))))
  · have := vp_of (n := sLen (o - 41).toNat) hi h0 hi1
    exact this
  · show Value.int (((txB.map fun l => l.map Int32.ofInt).getD (o - 41).toNat []).getD _ 0) = _
    rw [i32_n hi]
    have e1 : (txB.map fun l => l.map Int32.ofInt).getD (o - 41).toNat [] = (txB.getD (o - 41).toNat []).map Int32.ofInt := by
      rw [List.getD_eq_getElem?_getD, List.getD_eq_getElem?_getD, List.getElem?_map]
      cases txB[(o - 41).toNat]? <;> rfl
    rw [e1, lst_map]
    rfl
theorem aw_sw (h0 : 0 ≤ i) (h1 : i < 15) (hd : decode M.2.1 pc = .ok (.iaload, 1)) (hp : pc + 1 = pc') (kk : AW d M pc' lv (vi (swL.getD i.toNat 0) :: st) A Q) : AW d M pc lv (vi i :: vr 31 :: st) A Q := by
  subst hp
  refine AW.pure (fun l G p e R s m args below meth c H locs ls C S Qr hC hS hl9 ho hst hva kk => ?_) kk
  have hT := hC.2.2.2.2.2.2.1.2.2.1.2.2.2
  have hi : in32 i := okh hst
  change W p l e R s m args below meth c H locs C S Qr (F0 m pc ls (.int (Int32.ofInt i) :: rR G 31 :: st.map (rV G)))
  rw [rR_st (by omega) (by omega) (by omega)]
  refine va_ti hC.1 hC.2.1 hT hva (v := .int (Int32.ofInt (swL.getD i.toNat 0))) ?_ (by rw [i32_n hi]) hd (kk ls hl9 ho (okc (lst_in (by decide) _) (okt (okt hst))))
  exact vp_of (n := 15) hi h0 h1
theorem aw_scrL (hk33 : hk A 33 = 62) (hd : decode M.2.1 pc = .ok (.arraylength, 1)) (hp : pc + 1 = pc') (kk : AW d M pc' lv (vi (hl A 33) :: st) A Q) : AW d M pc lv (vr 33 :: st) A Q := by
  subst hp
  refine AW.pure (fun l G p e R s m args below meth c H locs ls C S Qr hC hS hl9 ho hst hva kk => ?_) kk
  have hT := hC.2.2.2.2.2.2.1.2.2.2.2.2.1
  have hL := hC.2.2.2.2.2.2.1.2.2.2.2.2.2
  have hq := (hS.2.2.2.2 hk33).1
  change W p l e R s m args below meth c H locs C S Qr (F0 m pc ls (rR G 33 :: st.map (rV G)))
  rw [rR_st (by omega) (by omega) (by omega)]
  refine va_tlen hC.1 hC.2.1 hT hva (v := Int32.ofInt (hl A 33)) (by rw [hq]; rfl) hd (kk ls hl9 ho (okc ?_ (okt hst)))
  show in32 _
  rw [hq]
  unfold in32
  omega
theorem aw_scr (hk33 : hk A 33 = 62) (h0 : 0 ≤ i) (h1 : i < hl A 33) (hd : decode M.2.1 pc = .ok (.iaload, 1)) (hp : pc + 1 = pc') (kk : AW d M pc' lv (vi (hv A 33 i) :: st) A Q) : AW d M pc lv (vi i :: vr 33 :: st) A Q := by
  subst hp
  refine AW.pure (fun l G p e R s m args below meth c H locs ls C S Qr hC hS hl9 ho hst hva kk => ?_) kk
  have hT := hC.2.2.2.2.2.2.1.2.2.2.2.2.1
  have hi : in32 i := okh hst
  obtain ⟨hq, hx⟩ := hS.2.2.2.2 hk33
  have hx1 := hx i.toNat (by omega)
  rw [toNat_c h0] at hx1
  change W p l e R s m args below meth c H locs C S Qr (F0 m pc ls (.int (Int32.ofInt i) :: rR G 33 :: st.map (rV G)))
  rw [rR_st (by omega) (by omega) (by omega)]
  refine va_ti hC.1 hC.2.1 hT hva (v := .int (Int32.ofInt (hv A 33 i))) ?_ (by rw [i32_n hi, hx1, i32_of]) hd (kk ls hl9 ho (okc (by show in32 _; rw [hx1]; exact i32_in _) (okt (okt hst))))
  have := vp_of (n := gL G) hi h0 (by omega)
  exact this
end STA
