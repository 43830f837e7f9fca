/-! ===== the abstract heap: one function of places, kinds and lengths; next address; slots made ===== -/
def AHp : Type := (Int → Int → Int) × (Int → Nat) × (Int → Int) × Int × Nat × (Int → Int → Int)
def hv (A : AHp) : Int → Int → Int := A.1
def hk (A : AHp) : Int → Nat := A.2.1
def hl (A : AHp) : Int → Int := A.2.2.1
def hn (A : AHp) : Int := A.2.2.2.1
def hs (A : AHp) : Nat := A.2.2.2.2.1
/-- final fields: what a made thing keeps for good -/
def hp (A : AHp) : Int → Int → Int := A.2.2.2.2.2
def hset (A : AHp) (o k v : Int) : AHp := (fun o' k' => if o' = o ∧ k' = k then v else hv A o' k', A.2)
def hnew (A : AHp) (kd : Nat) (n : Int) (sl : Nat) (f : Int → Int) : AHp :=
  (fun o' k' => if o' = hn A then f k' else hv A o' k', fun o' => if o' = hn A then kd else hk A o', fun o' => if o' = hn A then n else hl A o', hn A + 1, hs A + sl, fun o' k' => if o' = hn A then 0 else hp A o' k')
def hpset (A : AHp) (o k v : Int) : AHp := (A.1, A.2.1, A.2.2.1, A.2.2.2.1, A.2.2.2.2.1, fun o' k' => if o' = o ∧ k' = k then v else hp A o' k')
theorem hv_set (A : AHp) (o k v o' k' : Int) : hv (hset A o k v) o' k' = if o' = o ∧ k' = k then v else hv A o' k' := rfl
theorem hk_set (A : AHp) (o k v : Int) : hk (hset A o k v) = hk A := rfl
theorem hl_set (A : AHp) (o k v : Int) : hl (hset A o k v) = hl A := rfl
theorem hn_set (A : AHp) (o k v : Int) : hn (hset A o k v) = hn A := rfl
theorem hs_set (A : AHp) (o k v : Int) : hs (hset A o k v) = hs A := rfl
theorem hp_set (A : AHp) (o k v : Int) : hp (hset A o k v) = hp A := rfl
theorem hp_pset (A : AHp) (o k v o' k' : Int) : hp (hpset A o k v) o' k' = if o' = o ∧ k' = k then v else hp A o' k' := rfl
theorem hv_pset (A : AHp) (o k v : Int) : hv (hpset A o k v) = hv A := rfl
theorem hk_pset (A : AHp) (o k v : Int) : hk (hpset A o k v) = hk A := rfl
theorem hl_pset (A : AHp) (o k v : Int) : hl (hpset A o k v) = hl A := rfl
theorem hn_pset (A : AHp) (o k v : Int) : hn (hpset A o k v) = hn A := rfl
theorem hs_pset (A : AHp) (o k v : Int) : hs (hpset A o k v) = hs A := rfl
theorem hp_new (A : AHp) (kd : Nat) (n : Int) (sl : Nat) (f : Int → Int) (o' k' : Int) : hp (hnew A kd n sl f) o' k' = if o' = hn A then 0 else hp A o' k' := rfl
theorem hv_new (A : AHp) (kd : Nat) (n : Int) (sl : Nat) (f : Int → Int) (o' k' : Int) : hv (hnew A kd n sl f) o' k' = if o' = hn A then f k' else hv A o' k' := rfl
theorem hk_new (A : AHp) (kd : Nat) (n : Int) (sl : Nat) (f : Int → Int) (o' : Int) : hk (hnew A kd n sl f) o' = if o' = hn A then kd else hk A o' := rfl
theorem hl_new (A : AHp) (kd : Nat) (n : Int) (sl : Nat) (f : Int → Int) (o' : Int) : hl (hnew A kd n sl f) o' = if o' = hn A then n else hl A o' := rfl
theorem hn_new (A : AHp) (kd : Nat) (n : Int) (sl : Nat) (f : Int → Int) : hn (hnew A kd n sl f) = hn A + 1 := rfl
theorem hs_new (A : AHp) (kd : Nat) (n : Int) (sl : Nat) (f : Int → Int) : hs (hnew A kd n sl f) = hs A + sl := rfl
/-! the ghosts of a run: classes and slots, array classes by kind, the first new address, addresses of constants, whether the one unknown static is null -/
abbrev Gp : Type := va_G × (Nat → ClassId) × Nat × (Nat → Nat) × Bool × Nat × (Nat → Int32)
def gD (G : Gp) : va_G := G.1
def gC (G : Gp) : Nat → ClassId := G.2.1
def gB (G : Gp) : Nat := G.2.2.1
def gA (G : Gp) : Nat → Nat := G.2.2.2.1
def gN (G : Gp) : Bool := G.2.2.2.2.1
def gL (G : Gp) : Nat := G.2.2.2.2.2.1
def gX (G : Gp) : Nat → Int32 := G.2.2.2.2.2.2
/-- from here on addresses are made ones; below stand constants (1 .. 15 words, 16 .. 30 texts, 41 .. 55 their bytes, 31 the switch, 32 the row of words, 33 the script, 34 a formatter) -/
def D0 : Int := 60
def rA (G : Gp) (o : Int) : Nat := if o < 60 then gA G o.toNat else gB G + (o - 60).toNat
def rR (G : Gp) (o : Int) : Value := if o = 0 ∨ (o = 34 ∧ gN G = true) then .null else .ref (rA G o)
def rO (G : Gp) (o : Int) : Option Nat := if o = 0 ∨ (o = 34 ∧ gN G = true) then none else some (rA G o)
theorem rO_rf (G : Gp) (o : Int) : va_rf (rO G o) = rR G o := by
  unfold rO rR
  split <;> rfl
theorem rR_dyn {G : Gp} {o : Int} (h : 60 ≤ o) : rR G o = .ref (rA G o) := by
  unfold rR
  rw [if_neg (by omega)]
theorem rA_dyn {G : Gp} {o : Int} (h : 60 ≤ o) : rA G o = gB G + (o - 60).toNat := by
  unfold rA
  rw [if_neg (by omega)]
theorem rA_inj {G : Gp} {o o' : Int} (h : 60 ≤ o) (h' : 60 ≤ o') (e : rA G o = rA G o') : o = o' := by
  rw [rA_dyn h, rA_dyn h'] at e
  omega
def rV (G : Gp) : AV → Value
  | .inl x => .int (Int32.ofInt x)
  | .inr (.inl x) => .long (Int64.ofInt x)
  | .inr (.inr o) => rR G o
def okV : AV → Prop
  | .inl x => in32 x
  | .inr (.inl x) => in64 x
  | .inr (.inr _) => True
/-- what a field of a type holds -/
def fvl (G : Gp) (ty : FieldType) (x : Int) : Value := match ty with
  | .long => .long (Int64.ofInt x)
  | .object _ => rR G x
  | .array _ => rR G x
  | _ => .int (Int32.ofInt x)
def tyC (ci : Nat) : Nat → FieldType := match ci with
  | 0 => tyX1 | 1 => tyX2 | 2 => tyX3 | 3 => tyX4 | 4 => tyX5 | 5 => tyX6 | 6 => tyX7 | 7 => tyX8 | 8 => tyX9 | 9 => tyX10 | 10 => tyX12 | _ => tyX13
def clN (ci : Nat) : Nat := match vwCl[ci]? with
  | some r => r.2.2
  | none => 0
def clT (ci : Nat) : u_T := match vwCl[ci]? with
  | some r => r.2.1
  | none => TX0
def clC (ci : Nat) : String := match vwCl[ci]? with
  | some r => r.1
  | none => ""
/-- a field's value: of a final one what is kept for good -/
def hx (A : AHp) (ci : Nat) (o : Int) (j : Nat) : Int := if (clT ci j).2.2.2 = true then hp A o j else hv A o j
def fsE (G : Gp) (A : AHp) (ci : Nat) (o : Int) : List Value := (List.range (clN ci)).map fun (j : Nat) => fvl G (tyC ci j) (hx A ci o j)
def entE (G : Gp) (A : AHp) (o : Int) : va_E :=
  if hk A o ≤ 12 then .inr (hk A o - 1, fsE G A (hk A o - 1) o)
  else if hk A o = 21 then .inl (gC G 21, (hl A o).toNat, .inr (.inl fun j => Int64.ofInt (hv A o j)))
  else if hk A o < 30 then .inl (gC G (hk A o), (hl A o).toNat, .inl fun j => Int32.ofInt (hv A o j))
  else .inl (gC G (hk A o), (hl A o).toNat, .inr (.inr (.inr (.inr fun j => rO G (hv A o j)))))
/-- what may stand at a place of a thing of a kind -/
def okS (kd : Nat) (k : Int) (x : Int) : Prop :=
  if kd = 20 then in32 x else if kd = 21 then in64 x else if kd = 22 then -128 ≤ x ∧ x ≤ 127 else if kd = 23 then x = 0 ∨ x = 1
  else if kd ≤ 12 then (match tyC (kd - 1) k.toNat with | .object _ => True | .array _ => True | .boolean => x = 0 ∨ x = 1 | _ => in32 x) else True
def okK (kd : Nat) : Prop := 1 ≤ kd
def tysL (G : Gp) : List (ClassId × FieldType) := [(gC G 20, .int), (gC G 21, .long), (gC G 22, .byte), (gC G 23, .boolean), (gC G 30, .object RX1), (gC G 32, .object RX3), (gC G 38, .object RX9), (gC G 39, .object RX10), (gC G 50, .object RX11), (gC G 51, .object "java/lang/String")]
def frA (G : Gp) : Nat → Prop := fun q => gB G ≤ q
def SIM (G : Gp) (A : AHp) (H : Heap) : Prop :=
  H.size = gB G + (hn A - 60).toNat ∧ 60 ≤ hn A ∧ (∀ o : Int, 60 ≤ o → o < hn A → 1 ≤ hk A o ∧ 0 ≤ hl A o ∧ hl A o < 2147483648 ∧ va_at (gD G) vwCl (rA G o, entE G A o) H) ∧ (∀ o : Int, 60 ≤ o → o < hn A → ∀ k : Int, 0 ≤ k → okS (hk A o) k (hv A o k) ∧ (hk A o ≤ 12 → okS (hk A o) k (hp A o k))) ∧ (hk A 33 = 62 → hl A 33 = gL G ∧ ∀ i : Nat, i < gL G → hv A 33 i = (gX G i).toInt)
theorem SIM.at1 {G : Gp} {A : AHp} {H : Heap} (h : SIM G A H) {o : Int} (h1 : 60 ≤ o) (h2 : o < hn A) : va_P (gD G) vwCl [(rA G o, entE G A o)] H := by
  intro k q hk
  have hk0 : k < 1 := (List.getElem?_eq_some_iff.mp hk).1
  obtain rfl : k = 0 := by omega
  cases hk
  exact (h.2.2.1 o h1 h2).2.2.2
theorem entE_same {G : Gp} {A A' : AHp} {x : Int} (h1 : hk A' x = hk A x) (h2 : hl A' x = hl A x) (h3 : ∀ k, hv A' x k = hv A x k) (h4 : ∀ k, hp A' x k = hp A x k) : entE G A' x = entE G A x := by
  unfold entE fsE hx
  rw [h1, h2]
  simp only [h3, h4]
theorem SIM.put {G : Gp} {A : AHp} {H H1 : Heap} (h : SIM G A H) {o k v : Int} (h1 : 60 ≤ o) (h2 : o < hn A) (he : va_at (gD G) vwCl (rA G o, entE G (hset A o k v) o) H1) (z : H1.size = H.size)
    (oq : ∀ q : Nat, q ≠ rA G o → H1[q]? = H[q]?) (hok : okS (hk A o) k v) : SIM G (hset A o k v) H1 := by
  refine ⟨z.trans h.1, h.2.1, fun x hx1 hx2 => ?_, fun x hx1 hx2 j hj => ?_, fun e => ⟨(h.2.2.2.2 e).1, fun i hi => by rw [hv_set, if_neg (by omega)]; exact (h.2.2.2.2 e).2 i hi⟩⟩
  · obtain ⟨a1, a2, a3, a4⟩ := h.2.2.1 x hx1 hx2
    refine ⟨a1, a2, a3, ?_⟩
    by_cases hxo : x = o
    · subst hxo
      exact he
    · rw [entE_same (A := A) (A' := hset A o k v) (x := x) rfl rfl (fun k' => by rw [hv_set, if_neg (fun q => hxo q.1)]) (fun k' => rfl)]
      exact a4.kept (oq _ (fun e => hxo (rA_inj hx1 h1 e)))
  · rw [hv_set, hk_set, hp_set]
    refine ⟨?_, (h.2.2.2.1 x hx1 hx2 j hj).2⟩
    split
    · next e =>
      obtain ⟨rfl, rfl⟩ := e
      exact hok
    · exact (h.2.2.2.1 x hx1 hx2 j hj).1
theorem SIM.push {G : Gp} {A : AHp} {H H1 : Heap} (h : SIM G A H) {kd : Nat} {n : Int} {sl : Nat} {f : Int → Int} (h1 : 1 ≤ kd) (h2 : 0 ≤ n) (h3 : n < 2147483648) (he : va_at (gD G) vwCl (rA G (hn A), entE G (hnew A kd n sl f) (hn A)) H1) (z : H1.size = H.size + 1)
    (oq : ∀ q : Nat, q < H.size → H1[q]? = H[q]?) (hok : ∀ k : Int, 0 ≤ k → okS kd k (f k)) (hok0 : ∀ k : Int, 0 ≤ k → kd ≤ 12 → okS kd k 0) : SIM G (hnew A kd n sl f) H1 := by
  have hb := h.2.1
  refine ⟨?_, ?_, fun x hx1 hx2 => ?_, fun x hx1 hx2 j hj => ?_, fun e => ?_⟩
  · rw [z, h.1, hn_new]
    omega
  · rw [hn_new]
    omega
  · rw [hn_new] at hx2
    by_cases hxo : x = hn A
    · subst hxo
      refine ⟨?_, ?_, ?_, he⟩
      · rw [hk_new, if_pos rfl]; exact h1
      · rw [hl_new, if_pos rfl]; exact h2
      · rw [hl_new, if_pos rfl]; exact h3
    · obtain ⟨a1, a2, a3, a4⟩ := h.2.2.1 x hx1 (by omega)
      refine ⟨?_, ?_, ?_, ?_⟩
      · rw [hk_new, if_neg hxo]; exact a1
      · rw [hl_new, if_neg hxo]; exact a2
      · rw [hl_new, if_neg hxo]; exact a3
      · rw [entE_same (A := A) (A' := hnew A kd n sl f) (x := x) (by rw [hk_new, if_neg hxo]) (by rw [hl_new, if_neg hxo]) (fun k' => by rw [hv_new, if_neg hxo]) (fun k' => by rw [hp_new, if_neg hxo])]
        exact a4.kept (oq _ (by rw [h.1]; show rA G x < _; rw [rA_dyn hx1]; omega))
  · rw [hn_new] at hx2
    rw [hv_new, hk_new, hp_new]
    by_cases hxo : x = hn A
    · rw [if_pos hxo, if_pos hxo, if_pos hxo]
      exact ⟨hok j hj, hok0 j hj⟩
    · rw [if_neg hxo, if_neg hxo, if_neg hxo]
      exact h.2.2.2.1 x hx1 (by omega) j hj
  · rw [hk_new, if_neg (by omega)] at e
    refine ⟨by rw [hl_new, if_neg (by omega)]; exact (h.2.2.2.2 e).1, fun i hi => ?_⟩
    rw [hv_new, if_neg (by omega)]
    exact (h.2.2.2.2 e).2 i hi
theorem okS_0 {kd : Nat} {k : Int} : okS kd k 0 := by
  unfold okS
  split
  · decide
  · split
    · decide
    · split
      · decide
      · split
        · exact Or.inl rfl
        · split
          · split <;> first | trivial | exact Or.inl rfl | decide
          · trivial
theorem SIM.putF {G : Gp} {A : AHp} {H H1 : Heap} (h : SIM G A H) {o k v : Int} (h1 : 60 ≤ o) (h2 : o < hn A) (he : va_at (gD G) vwCl (rA G o, entE G (hpset A o k v) o) H1) (z : H1.size = H.size)
    (oq : ∀ q : Nat, q ≠ rA G o → H1[q]? = H[q]?) (hok : okS (hk A o) k v) : SIM G (hpset A o k v) H1 := by
  refine ⟨z.trans h.1, h.2.1, fun x hx1 hx2 => ?_, fun x hx1 hx2 j hj => ?_, h.2.2.2.2⟩
  · obtain ⟨a1, a2, a3, a4⟩ := h.2.2.1 x hx1 hx2
    refine ⟨a1, a2, a3, ?_⟩
    by_cases hxo : x = o
    · subst hxo
      exact he
    · rw [entE_same (A := A) (A' := hpset A o k v) (x := x) rfl rfl (fun k' => rfl) (fun k' => by rw [hp_pset, if_neg (fun q => hxo q.1)])]
      exact a4.kept (oq _ (fun e => hxo (rA_inj hx1 h1 e)))
  · rw [hv_pset, hk_pset, hp_pset]
    refine ⟨(h.2.2.2.1 x hx1 hx2 j hj).1, fun q12 => ?_⟩
    split
    · next e =>
      obtain ⟨rfl, rfl⟩ := e
      exact hok
    · exact (h.2.2.2.1 x hx1 hx2 j hj).2 q12
