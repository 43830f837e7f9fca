/-! ===== the law: its body over the pairs of calls ===== -/
abbrev mL_law : MD := (yL_law, cL_law, 4, (some .boolean))
theorem CALL.ty {d : Nat} {M : MD} {as : List AV} {A : AHp} {Q : Option AV → AHp → Prop} (h : CALL d M as A Q) : CALL d M as A (fun r B => rOK M.2.2.2 r ∧ Q r B) := by
  obtain ⟨r, A', h1, h2⟩ := h
  exact ⟨r, A', ⟨⟨h1.2, h1.1⟩, h1.2⟩, h2⟩
theorem ty_i {t : Option FieldType} {r : Option AV} (ht : t = some .int) (h : rOK t r) : ∃ x, r = some (vi x) := by
  subst ht
  rcases r with _ | x | x | x
  · exact h.elim
  · exact ⟨x, rfl⟩
  · exact h.elim
  · exact h.elim
theorem ty_l {t : Option FieldType} {r : Option AV} (ht : t = some .long) (h : rOK t r) : ∃ x, r = some (vl x) := by
  subst ht
  rcases r with _ | x | x | x
  · exact h.elim
  · exact h.elim
  · exact ⟨x, rfl⟩
  · exact h.elim
/-- the script stands at 33 -/
def SCR (A : AHp) (S : Int → Int) (n : Int) : Prop := hk A 33 = 62 ∧ hl A 33 = n ∧ ∀ k, hv A 33 k = S k
/-- call i of n ints: six of them are there -/
def BND (i n : Int) : Prop := 0 ≤ i ∧ i + 6 ≤ n ∧ n ≤ 3072
theorem lw_ld {d pc pc' : Nat} {lv : LV} {st : List AV} {A : AHp} {Q : Option AV → AHp → Prop} {S : Int → Int} {i k n : Int} (hs : SCR A S n) (hb : BND i n) (hk9 : 0 ≤ k ∧ k ≤ 5) (e0 : lvG lv 0 = some (vr 33)) (e3 : lvG lv 3 = some (vi i))
    (d0 : decode cL_law pc = .ok (.aload_n 0, 1)) (d1 : decode cL_law (pc + 1) = .ok (.iload_n 3, 1)) (d2 : decode cL_law (pc + 2) = .ok (.iconst k, 1)) (d3 : decode cL_law (pc + 3) = .ok (.iadd, 1)) (d4 : decode cL_law (pc + 4) = .ok (.iaload, 1)) (hp : pc + 5 = pc') (kk : AW d mL_law pc' lv (vi (S (i + k)) :: st) A Q) : AW d mL_law pc lv st A Q := by
  subst hp
  obtain ⟨h1, h2, h3⟩ := hs
  obtain ⟨b1, b2, b3⟩ := hb
  refine aw_aload_n (pc' := pc + 1) e0 d0 rfl ?_
  refine aw_iload_n (pc' := pc + 2) e3 d1 rfl ?_
  refine aw_iconst (pc' := pc + 3) (by omega) d2 rfl ?_
  refine aw_iadd (pc' := pc + 4) (z := i + k) (w32_id (by omega) (by omega)) d3 rfl ?_
  refine aw_scr (pc' := pc + 5) h1 (by omega) (by rw [h2]; omega) d4 rfl ?_
  rw [h3]
  exact kk
/-- the long of two ints -/
def LNG (a b : Int) : Int := (Int64.ofInt (Int64.ofInt a <<< ((Int32.ofInt 32).toInt64 &&& 63)).toInt ||| Int64.ofInt (Int64.ofInt b &&& Int64.ofInt 4294967295).toInt).toInt
/-- the first of two calls: what is between them -/
theorem lw_two {A : AHp} {v : Sg} {M1 M2 : MD} {as : List AV} {S : Int → Int} {n : Int} {Q1 : Option AV → AHp → Prop} (hp : PAIR2 A v M1 M2 as) (h9 : 33 < hn A) (hs : SCR (cl A v) S n)
    (k : ∀ r1 B1, rOK M1.2.2.2 r1 → SCR B1 S n → isO B1 307 12 → (∀ Q2 : Option AV → AHp → Prop, (∀ B w, RR B w → GRO A B → hn B ≤ hn A + 301 → SCR (cl B w) S n → Q2 r1 (cl B w)) → CALL 900 M2 (vr 307 :: as) B1 Q2) → Q1 r1 B1) : CALL 900 M1 (vr 60 :: as) (cl A v) Q1 := by
  obtain ⟨s1, s2, s3⟩ := hs
  refine (CALL.ty hp).mono (fun r1 B1 h => ?_)
  obtain ⟨t, ⟨⟨m1, m2, m3⟩, m4⟩, hc⟩ := h
  have hs1 : SCR B1 S n := ⟨m1.trans s1, m2.trans s2, fun k => (m3 k).trans (s3 k)⟩
  refine k r1 B1 t hs1 m4 (fun Q2 hq => hc.mono (fun r2 B2 h2 => ?_))
  obtain ⟨g1, g2, B, w, g3, g4, g5, g6⟩ := h2
  subst g2
  subst g3
  refine hq B w g4 g5 g6 ⟨?_, ?_, fun k => (g1 k).trans (hs1.2.2 k)⟩
  · exact ((g5.1.2 33 h9).1).trans s1
  · exact ((g5.1.2 33 h9).2.1).trans s2
abbrev lwL (i : Int) : LV := [some (vr 33), some (vr 60), some (vr 307), some (vi i)]
set_option maxRecDepth 20000 in
theorem lw_c0 {d : Nat} {A : AHp} {v : Sg} {S : Int → Int} {i n : Int} {Q : Option AV → AHp → Prop} (hd : 900 + 1 ≤ d) (h : RR A v) (hs : SCR (cl A v) S n) (hb : BND i n) (hS : ∀ k, in32 (S k)) (kk : ∀ B w, RR B w → GRO A B → hn B ≤ hn A + 301 → SCR (cl B w) S n → AW d mL_law 1059 (lwL i) [] (cl B w) Q) : AW d mL_law 164 (lwL i) [] (cl A v) Q := by
  have hX := h.1.1.2.1
  have h9 : 33 < hn A := Int.lt_of_lt_of_le (by decide) h.1.1.1
  refine aw_aload_n (pc' := 165) rfl dL_law_164 rfl ?_
  refine lw_ld (pc' := 170) (k := 1) hs hb (by decide) rfl rfl dL_law_165 dL_law_166 dL_law_167 dL_law_168 dL_law_169 rfl ?_
  refine aw_callV (ci := 10) (d' := 900) (as := [vi (S (i + 1))]) (pc' := 173) (by decide) rfl kX12_feed iX12_feed sX12_feed lL_13 (XO (A := A) hX) dL_law_170 rfl rfl (Nat.le_of_ble_eq_true rfl) hd ?_
  refine lw_two (p2_feed h) h9 hs (fun r1 B1 t1 hs1 hO1 c2 => ?_)
  obtain ⟨x, rfl⟩ := ty_i rfl t1
  refine aw_aload_n (pc' := 174) rfl dL_law_173 rfl ?_
  refine lw_ld (pc' := 179) (k := 1) hs1 hb (by decide) rfl rfl dL_law_174 dL_law_175 dL_law_176 dL_law_177 dL_law_178 rfl ?_
  refine aw_callV (ci := 11) (d' := 900) (as := [vi (S (i + 1))]) (pc' := 182) (by decide) rfl kX13_feed iX13_feed sX13_feed lL_17 hO1 dL_law_179 rfl rfl (Nat.le_of_ble_eq_true rfl) hd ?_
  refine c2 _ (fun B w r2 g2 n2 s2 => ?_)
  exact aw_icmp_eq (pt := 1059) (pf := 185) dL_law_182 (by decide) rfl (fun _ => kk B w r2 g2 n2 s2) (fun q => (q rfl).elim)
set_option maxRecDepth 20000 in
theorem lw_c1 {d : Nat} {A : AHp} {v : Sg} {S : Int → Int} {i n : Int} {Q : Option AV → AHp → Prop} (hd : 900 + 1 ≤ d) (h : RR A v) (hs : SCR (cl A v) S n) (hb : BND i n) (hS : ∀ k, in32 (S k)) (kk : ∀ B w, RR B w → GRO A B → hn B ≤ hn A + 301 → SCR (cl B w) S n → AW d mL_law 1059 (lwL i) [] (cl B w) Q) : AW d mL_law 187 (lwL i) [] (cl A v) Q := by
  have hX := h.1.1.2.1
  have h9 : 33 < hn A := Int.lt_of_lt_of_le (by decide) h.1.1.1
  refine aw_aload_n (pc' := 188) rfl dL_law_187 rfl ?_
  refine aw_callV (ci := 10) (d' := 900) (as := []) (pc' := 191) (by decide) rfl kX12_line iX12_line sX12_line lL_18 (XO (A := A) hX) dL_law_188 rfl rfl (Nat.le_of_ble_eq_true rfl) hd ?_
  refine lw_two (p2_line h) h9 hs (fun r1 B1 t1 hs1 hO1 c2 => ?_)
  obtain ⟨x, rfl⟩ := ty_i rfl t1
  refine aw_aload_n (pc' := 192) rfl dL_law_191 rfl ?_
  refine aw_callV (ci := 11) (d' := 900) (as := []) (pc' := 195) (by decide) rfl kX13_line iX13_line sX13_line lL_22 hO1 dL_law_192 rfl rfl (Nat.le_of_ble_eq_true rfl) hd ?_
  refine c2 _ (fun B w r2 g2 n2 s2 => ?_)
  exact aw_icmp_eq (pt := 1059) (pf := 198) dL_law_195 (by decide) rfl (fun _ => kk B w r2 g2 n2 s2) (fun q => (q rfl).elim)
set_option maxRecDepth 20000 in
theorem lw_c2 {d : Nat} {A : AHp} {v : Sg} {S : Int → Int} {i n : Int} {Q : Option AV → AHp → Prop} (hd : 900 + 1 ≤ d) (h : RR A v) (hs : SCR (cl A v) S n) (hb : BND i n) (hS : ∀ k, in32 (S k)) (kk : ∀ B w, RR B w → GRO A B → hn B ≤ hn A + 301 → SCR (cl B w) S n → AW d mL_law 1059 (lwL i) [] (cl B w) Q) : AW d mL_law 200 (lwL i) [] (cl A v) Q := by
  have hX := h.1.1.2.1
  have h9 : 33 < hn A := Int.lt_of_lt_of_le (by decide) h.1.1.1
  refine aw_aload_n (pc' := 201) rfl dL_law_200 rfl ?_
  refine lw_ld (pc' := 206) (k := 1) hs hb (by decide) rfl rfl dL_law_201 dL_law_202 dL_law_203 dL_law_204 dL_law_205 rfl ?_
  refine lw_ld (pc' := 211) (k := 2) hs hb (by decide) rfl rfl dL_law_206 dL_law_207 dL_law_208 dL_law_209 dL_law_210 rfl ?_
  refine aw_callV (ci := 10) (d' := 900) (as := [vi (S (i + 1)), vi (S (i + 2))]) (pc' := 214) (by decide) rfl kX12_of iX12_of sX12_of lL_23 (XO (A := A) hX) dL_law_211 rfl rfl (Nat.le_of_ble_eq_true rfl) hd ?_
  refine lw_two (p2_of h (hS _)) h9 hs (fun r1 B1 t1 hs1 hO1 c2 => ?_)
  obtain ⟨x, rfl⟩ := ty_i rfl t1
  refine aw_aload_n (pc' := 215) rfl dL_law_214 rfl ?_
  refine lw_ld (pc' := 220) (k := 1) hs1 hb (by decide) rfl rfl dL_law_215 dL_law_216 dL_law_217 dL_law_218 dL_law_219 rfl ?_
  refine lw_ld (pc' := 225) (k := 2) hs1 hb (by decide) rfl rfl dL_law_220 dL_law_221 dL_law_222 dL_law_223 dL_law_224 rfl ?_
  refine aw_callV (ci := 11) (d' := 900) (as := [vi (S (i + 1)), vi (S (i + 2))]) (pc' := 228) (by decide) rfl kX13_of iX13_of sX13_of lL_27 hO1 dL_law_225 rfl rfl (Nat.le_of_ble_eq_true rfl) hd ?_
  refine c2 _ (fun B w r2 g2 n2 s2 => ?_)
  exact aw_icmp_eq (pt := 1059) (pf := 231) dL_law_228 (by decide) rfl (fun _ => kk B w r2 g2 n2 s2) (fun q => (q rfl).elim)
set_option maxRecDepth 20000 in
theorem lw_c3 {d : Nat} {A : AHp} {v : Sg} {S : Int → Int} {i n : Int} {Q : Option AV → AHp → Prop} (hd : 900 + 1 ≤ d) (h : RR A v) (hs : SCR (cl A v) S n) (hb : BND i n) (hS : ∀ k, in32 (S k)) (kk : ∀ B w, RR B w → GRO A B → hn B ≤ hn A + 301 → SCR (cl B w) S n → AW d mL_law 1059 (lwL i) [] (cl B w) Q) : AW d mL_law 233 (lwL i) [] (cl A v) Q := by
  have hX := h.1.1.2.1
  have h9 : 33 < hn A := Int.lt_of_lt_of_le (by decide) h.1.1.1
  refine aw_aload_n (pc' := 234) rfl dL_law_233 rfl ?_
  refine lw_ld (pc' := 239) (k := 1) hs hb (by decide) rfl rfl dL_law_234 dL_law_235 dL_law_236 dL_law_237 dL_law_238 rfl ?_
  refine lw_ld (pc' := 244) (k := 2) hs hb (by decide) rfl rfl dL_law_239 dL_law_240 dL_law_241 dL_law_242 dL_law_243 rfl ?_
  refine aw_callV (ci := 10) (d' := 900) (as := [vi (S (i + 1)), vi (S (i + 2))]) (pc' := 247) (by decide) rfl kX12_define iX12_define sX12_define lL_28 (XO (A := A) hX) dL_law_244 rfl rfl (Nat.le_of_ble_eq_true rfl) hd ?_
  refine lw_two (p2_define h) h9 hs (fun r1 B1 t1 hs1 hO1 c2 => ?_)
  obtain ⟨x, rfl⟩ := ty_i rfl t1
  refine aw_aload_n (pc' := 248) rfl dL_law_247 rfl ?_
  refine lw_ld (pc' := 253) (k := 1) hs1 hb (by decide) rfl rfl dL_law_248 dL_law_249 dL_law_250 dL_law_251 dL_law_252 rfl ?_
  refine lw_ld (pc' := 258) (k := 2) hs1 hb (by decide) rfl rfl dL_law_253 dL_law_254 dL_law_255 dL_law_256 dL_law_257 rfl ?_
  refine aw_callV (ci := 11) (d' := 900) (as := [vi (S (i + 1)), vi (S (i + 2))]) (pc' := 261) (by decide) rfl kX13_define iX13_define sX13_define lL_31 hO1 dL_law_258 rfl rfl (Nat.le_of_ble_eq_true rfl) hd ?_
  refine c2 _ (fun B w r2 g2 n2 s2 => ?_)
  exact aw_icmp_eq (pt := 1059) (pf := 264) dL_law_261 (by decide) rfl (fun _ => kk B w r2 g2 n2 s2) (fun q => (q rfl).elim)
set_option maxRecDepth 20000 in
theorem lw_c4 {d : Nat} {A : AHp} {v : Sg} {S : Int → Int} {i n : Int} {Q : Option AV → AHp → Prop} (hd : 900 + 1 ≤ d) (h : RR A v) (hs : SCR (cl A v) S n) (hb : BND i n) (hS : ∀ k, in32 (S k)) (kk : ∀ B w, RR B w → GRO A B → hn B ≤ hn A + 301 → SCR (cl B w) S n → AW d mL_law 1059 (lwL i) [] (cl B w) Q) : AW d mL_law 266 (lwL i) [] (cl A v) Q := by
  have hX := h.1.1.2.1
  have h9 : 33 < hn A := Int.lt_of_lt_of_le (by decide) h.1.1.1
  refine aw_aload_n (pc' := 267) rfl dL_law_266 rfl ?_
  refine lw_ld (pc' := 272) (k := 1) hs hb (by decide) rfl rfl dL_law_267 dL_law_268 dL_law_269 dL_law_270 dL_law_271 rfl ?_
  refine aw_callV (ci := 10) (d' := 900) (as := [vi (S (i + 1))]) (pc' := 275) (by decide) rfl kX12_trap iX12_trap sX12_trap lL_32 (XO (A := A) hX) dL_law_272 rfl rfl (Nat.le_of_ble_eq_true rfl) hd ?_
  refine lw_two (p2_trap h) h9 hs (fun r1 B1 t1 hs1 hO1 c2 => ?_)
  obtain ⟨x, rfl⟩ := ty_i rfl t1
  refine aw_aload_n (pc' := 276) rfl dL_law_275 rfl ?_
  refine lw_ld (pc' := 281) (k := 1) hs1 hb (by decide) rfl rfl dL_law_276 dL_law_277 dL_law_278 dL_law_279 dL_law_280 rfl ?_
  refine aw_callV (ci := 11) (d' := 900) (as := [vi (S (i + 1))]) (pc' := 284) (by decide) rfl kX13_trap iX13_trap sX13_trap lL_35 hO1 dL_law_281 rfl rfl (Nat.le_of_ble_eq_true rfl) hd ?_
  refine c2 _ (fun B w r2 g2 n2 s2 => ?_)
  exact aw_icmp_eq (pt := 1059) (pf := 287) dL_law_284 (by decide) rfl (fun _ => kk B w r2 g2 n2 s2) (fun q => (q rfl).elim)
set_option maxRecDepth 20000 in
theorem lw_c5 {d : Nat} {A : AHp} {v : Sg} {S : Int → Int} {i n : Int} {Q : Option AV → AHp → Prop} (hd : 900 + 1 ≤ d) (h : RR A v) (hs : SCR (cl A v) S n) (hb : BND i n) (hS : ∀ k, in32 (S k)) (kk : ∀ B w, RR B w → GRO A B → hn B ≤ hn A + 301 → SCR (cl B w) S n → AW d mL_law 1059 (lwL i) [] (cl B w) Q) : AW d mL_law 289 (lwL i) [] (cl A v) Q := by
  have hX := h.1.1.2.1
  have h9 : 33 < hn A := Int.lt_of_lt_of_le (by decide) h.1.1.1
  refine aw_aload_n (pc' := 290) rfl dL_law_289 rfl ?_
  refine lw_ld (pc' := 295) (k := 1) hs hb (by decide) rfl rfl dL_law_290 dL_law_291 dL_law_292 dL_law_293 dL_law_294 rfl ?_
  refine lw_ld (pc' := 300) (k := 2) hs hb (by decide) rfl rfl dL_law_295 dL_law_296 dL_law_297 dL_law_298 dL_law_299 rfl ?_
  refine aw_callV (ci := 10) (d' := 900) (as := [vi (S (i + 1)), vi (S (i + 2))]) (pc' := 303) (by decide) rfl kX12_value iX12_value sX12_value lL_36 (XO (A := A) hX) dL_law_300 rfl rfl (Nat.le_of_ble_eq_true rfl) hd ?_
  refine lw_two (p2_value h (hS _)) h9 hs (fun r1 B1 t1 hs1 hO1 c2 => ?_)
  obtain ⟨x, rfl⟩ := ty_l rfl t1
  refine aw_aload_n (pc' := 304) rfl dL_law_303 rfl ?_
  refine lw_ld (pc' := 309) (k := 1) hs1 hb (by decide) rfl rfl dL_law_304 dL_law_305 dL_law_306 dL_law_307 dL_law_308 rfl ?_
  refine lw_ld (pc' := 314) (k := 2) hs1 hb (by decide) rfl rfl dL_law_309 dL_law_310 dL_law_311 dL_law_312 dL_law_313 rfl ?_
  refine aw_callV (ci := 11) (d' := 900) (as := [vi (S (i + 1)), vi (S (i + 2))]) (pc' := 317) (by decide) rfl kX13_value iX13_value sX13_value lL_40 hO1 dL_law_314 rfl rfl (Nat.le_of_ble_eq_true rfl) hd ?_
  refine c2 _ (fun B w r2 g2 n2 s2 => ?_)
  refine aw_lcmp (pc' := 318) dL_law_317 rfl ?_
  exact aw_if_eq (pt := 1059) (pf := 321) dL_law_318 (by decide) rfl (fun _ => kk B w r2 g2 n2 s2) (fun q => (q (if_pos rfl)).elim)
set_option maxRecDepth 20000 in
theorem lw_c6 {d : Nat} {A : AHp} {v : Sg} {S : Int → Int} {i n : Int} {Q : Option AV → AHp → Prop} (hd : 900 + 1 ≤ d) (h : RR A v) (hs : SCR (cl A v) S n) (hb : BND i n) (hS : ∀ k, in32 (S k)) (kk : ∀ B w, RR B w → GRO A B → hn B ≤ hn A + 301 → SCR (cl B w) S n → AW d mL_law 1059 (lwL i) [] (cl B w) Q) : AW d mL_law 323 (lwL i) [] (cl A v) Q := by
  have hX := h.1.1.2.1
  have h9 : 33 < hn A := Int.lt_of_lt_of_le (by decide) h.1.1.1
  refine aw_aload_n (pc' := 324) rfl dL_law_323 rfl ?_
  refine lw_ld (pc' := 329) (k := 1) hs hb (by decide) rfl rfl dL_law_324 dL_law_325 dL_law_326 dL_law_327 dL_law_328 rfl ?_
  refine aw_callV (ci := 10) (d' := 900) (as := [vi (S (i + 1))]) (pc' := 332) (by decide) rfl kX12_run iX12_run sX12_run lL_41 (XO (A := A) hX) dL_law_329 rfl rfl (Nat.le_of_ble_eq_true rfl) hd ?_
  refine lw_two (p2_run h) h9 hs (fun r1 B1 t1 hs1 hO1 c2 => ?_)
  obtain ⟨x, rfl⟩ := ty_i rfl t1
  refine aw_aload_n (pc' := 333) rfl dL_law_332 rfl ?_
  refine lw_ld (pc' := 338) (k := 1) hs1 hb (by decide) rfl rfl dL_law_333 dL_law_334 dL_law_335 dL_law_336 dL_law_337 rfl ?_
  refine aw_callV (ci := 11) (d' := 900) (as := [vi (S (i + 1))]) (pc' := 341) (by decide) rfl kX13_run iX13_run sX13_run lL_44 hO1 dL_law_338 rfl rfl (Nat.le_of_ble_eq_true rfl) hd ?_
  refine c2 _ (fun B w r2 g2 n2 s2 => ?_)
  exact aw_icmp_eq (pt := 1059) (pf := 344) dL_law_341 (by decide) rfl (fun _ => kk B w r2 g2 n2 s2) (fun q => (q rfl).elim)
set_option maxRecDepth 20000 in
theorem lw_c7 {d : Nat} {A : AHp} {v : Sg} {S : Int → Int} {i n : Int} {Q : Option AV → AHp → Prop} (hd : 900 + 1 ≤ d) (h : RR A v) (hs : SCR (cl A v) S n) (hb : BND i n) (hS : ∀ k, in32 (S k)) (kk : ∀ B w, RR B w → GRO A B → hn B ≤ hn A + 301 → SCR (cl B w) S n → AW d mL_law 1059 (lwL i) [] (cl B w) Q) : AW d mL_law 346 (lwL i) [] (cl A v) Q := by
  have hX := h.1.1.2.1
  have h9 : 33 < hn A := Int.lt_of_lt_of_le (by decide) h.1.1.1
  refine aw_aload_n (pc' := 347) rfl dL_law_346 rfl ?_
  refine lw_ld (pc' := 352) (k := 1) hs hb (by decide) rfl rfl dL_law_347 dL_law_348 dL_law_349 dL_law_350 dL_law_351 rfl ?_
  refine aw_callV (ci := 10) (d' := 900) (as := [vi (S (i + 1))]) (pc' := 355) (by decide) rfl kX12_told iX12_told sX12_told lL_45 (XO (A := A) hX) dL_law_352 rfl rfl (Nat.le_of_ble_eq_true rfl) hd ?_
  refine lw_two (p2_told h (hS _)) h9 hs (fun r1 B1 t1 hs1 hO1 c2 => ?_)
  obtain ⟨x, rfl⟩ := ty_l rfl t1
  refine aw_aload_n (pc' := 356) rfl dL_law_355 rfl ?_
  refine lw_ld (pc' := 361) (k := 1) hs1 hb (by decide) rfl rfl dL_law_356 dL_law_357 dL_law_358 dL_law_359 dL_law_360 rfl ?_
  refine aw_callV (ci := 11) (d' := 900) (as := [vi (S (i + 1))]) (pc' := 364) (by decide) rfl kX13_told iX13_told sX13_told lL_49 hO1 dL_law_361 rfl rfl (Nat.le_of_ble_eq_true rfl) hd ?_
  refine c2 _ (fun B w r2 g2 n2 s2 => ?_)
  refine aw_lcmp (pc' := 365) dL_law_364 rfl ?_
  exact aw_if_eq (pt := 1059) (pf := 368) dL_law_365 (by decide) rfl (fun _ => kk B w r2 g2 n2 s2) (fun q => (q (if_pos rfl)).elim)
set_option maxRecDepth 20000 in
theorem lw_c8 {d : Nat} {A : AHp} {v : Sg} {S : Int → Int} {i n : Int} {Q : Option AV → AHp → Prop} (hd : 900 + 1 ≤ d) (h : RR A v) (hs : SCR (cl A v) S n) (hb : BND i n) (hS : ∀ k, in32 (S k)) (kk : ∀ B w, RR B w → GRO A B → hn B ≤ hn A + 301 → SCR (cl B w) S n → AW d mL_law 1059 (lwL i) [] (cl B w) Q) : AW d mL_law 370 (lwL i) [] (cl A v) Q := by
  have hX := h.1.1.2.1
  have h9 : 33 < hn A := Int.lt_of_lt_of_le (by decide) h.1.1.1
  refine aw_aload_n (pc' := 371) rfl dL_law_370 rfl ?_
  refine lw_ld (pc' := 376) (k := 1) hs hb (by decide) rfl rfl dL_law_371 dL_law_372 dL_law_373 dL_law_374 dL_law_375 rfl ?_
  refine aw_callV (ci := 10) (d' := 900) (as := [vi (S (i + 1))]) (pc' := 379) (by decide) rfl kX12_job iX12_job sX12_job lL_50 (XO (A := A) hX) dL_law_376 rfl rfl (Nat.le_of_ble_eq_true rfl) hd ?_
  refine lw_two (p2_job h) h9 hs (fun r1 B1 t1 hs1 hO1 c2 => ?_)
  obtain ⟨x, rfl⟩ := ty_i rfl t1
  refine aw_aload_n (pc' := 380) rfl dL_law_379 rfl ?_
  refine lw_ld (pc' := 385) (k := 1) hs1 hb (by decide) rfl rfl dL_law_380 dL_law_381 dL_law_382 dL_law_383 dL_law_384 rfl ?_
  refine aw_callV (ci := 11) (d' := 900) (as := [vi (S (i + 1))]) (pc' := 388) (by decide) rfl kX13_job iX13_job sX13_job lL_53 hO1 dL_law_385 rfl rfl (Nat.le_of_ble_eq_true rfl) hd ?_
  refine c2 _ (fun B w r2 g2 n2 s2 => ?_)
  exact aw_icmp_eq (pt := 1059) (pf := 391) dL_law_388 (by decide) rfl (fun _ => kk B w r2 g2 n2 s2) (fun q => (q rfl).elim)
set_option maxRecDepth 20000 in
theorem lw_c9 {d : Nat} {A : AHp} {v : Sg} {S : Int → Int} {i n : Int} {Q : Option AV → AHp → Prop} (hd : 900 + 1 ≤ d) (h : RR A v) (hs : SCR (cl A v) S n) (hb : BND i n) (hS : ∀ k, in32 (S k)) (kk : ∀ B w, RR B w → GRO A B → hn B ≤ hn A + 301 → SCR (cl B w) S n → AW d mL_law 1059 (lwL i) [] (cl B w) Q) : AW d mL_law 393 (lwL i) [] (cl A v) Q := by
  have hX := h.1.1.2.1
  have h9 : 33 < hn A := Int.lt_of_lt_of_le (by decide) h.1.1.1
  refine aw_aload_n (pc' := 394) rfl dL_law_393 rfl ?_
  refine lw_ld (pc' := 399) (k := 1) hs hb (by decide) rfl rfl dL_law_394 dL_law_395 dL_law_396 dL_law_397 dL_law_398 rfl ?_
  refine aw_callV (ci := 10) (d' := 900) (as := [vi (S (i + 1))]) (pc' := 402) (by decide) rfl kX12_turn iX12_turn sX12_turn lL_54 (XO (A := A) hX) dL_law_399 rfl rfl (Nat.le_of_ble_eq_true rfl) hd ?_
  refine lw_two (p2_turn h) h9 hs (fun r1 B1 t1 hs1 hO1 c2 => ?_)
  obtain ⟨x, rfl⟩ := ty_l rfl t1
  refine aw_aload_n (pc' := 403) rfl dL_law_402 rfl ?_
  refine lw_ld (pc' := 408) (k := 1) hs1 hb (by decide) rfl rfl dL_law_403 dL_law_404 dL_law_405 dL_law_406 dL_law_407 rfl ?_
  refine aw_callV (ci := 11) (d' := 900) (as := [vi (S (i + 1))]) (pc' := 411) (by decide) rfl kX13_turn iX13_turn sX13_turn lL_57 hO1 dL_law_408 rfl rfl (Nat.le_of_ble_eq_true rfl) hd ?_
  refine c2 _ (fun B w r2 g2 n2 s2 => ?_)
  refine aw_lcmp (pc' := 412) dL_law_411 rfl ?_
  exact aw_if_eq (pt := 1059) (pf := 415) dL_law_412 (by decide) rfl (fun _ => kk B w r2 g2 n2 s2) (fun q => (q (if_pos rfl)).elim)
set_option maxRecDepth 20000 in
theorem lw_c10 {d : Nat} {A : AHp} {v : Sg} {S : Int → Int} {i n : Int} {Q : Option AV → AHp → Prop} (hd : 900 + 1 ≤ d) (h : RR A v) (hs : SCR (cl A v) S n) (hb : BND i n) (hS : ∀ k, in32 (S k)) (kk : ∀ B w, RR B w → GRO A B → hn B ≤ hn A + 301 → SCR (cl B w) S n → AW d mL_law 1059 (lwL i) [] (cl B w) Q) : AW d mL_law 417 (lwL i) [] (cl A v) Q := by
  have hX := h.1.1.2.1
  have h9 : 33 < hn A := Int.lt_of_lt_of_le (by decide) h.1.1.1
  refine aw_aload_n (pc' := 418) rfl dL_law_417 rfl ?_
  refine lw_ld (pc' := 423) (k := 1) hs hb (by decide) rfl rfl dL_law_418 dL_law_419 dL_law_420 dL_law_421 dL_law_422 rfl ?_
  refine aw_callV (ci := 10) (d' := 900) (as := [vi (S (i + 1))]) (pc' := 426) (by decide) rfl kX12_stop iX12_stop sX12_stop lL_58 (XO (A := A) hX) dL_law_423 rfl rfl (Nat.le_of_ble_eq_true rfl) hd ?_
  refine lw_two (p2_stop h) h9 hs (fun r1 B1 t1 hs1 hO1 c2 => ?_)
  obtain ⟨x, rfl⟩ := ty_i rfl t1
  refine aw_aload_n (pc' := 427) rfl dL_law_426 rfl ?_
  refine lw_ld (pc' := 432) (k := 1) hs1 hb (by decide) rfl rfl dL_law_427 dL_law_428 dL_law_429 dL_law_430 dL_law_431 rfl ?_
  refine aw_callV (ci := 11) (d' := 900) (as := [vi (S (i + 1))]) (pc' := 435) (by decide) rfl kX13_stop iX13_stop sX13_stop lL_61 hO1 dL_law_432 rfl rfl (Nat.le_of_ble_eq_true rfl) hd ?_
  refine c2 _ (fun B w r2 g2 n2 s2 => ?_)
  exact aw_icmp_eq (pt := 1059) (pf := 438) dL_law_435 (by decide) rfl (fun _ => kk B w r2 g2 n2 s2) (fun q => (q rfl).elim)
set_option maxRecDepth 20000 in
theorem lw_c11 {d : Nat} {A : AHp} {v : Sg} {S : Int → Int} {i n : Int} {Q : Option AV → AHp → Prop} (hd : 900 + 1 ≤ d) (h : RR A v) (hs : SCR (cl A v) S n) (hb : BND i n) (hS : ∀ k, in32 (S k)) (kk : ∀ B w, RR B w → GRO A B → hn B ≤ hn A + 301 → SCR (cl B w) S n → AW d mL_law 1059 (lwL i) [] (cl B w) Q) : AW d mL_law 440 (lwL i) [] (cl A v) Q := by
  have hX := h.1.1.2.1
  have h9 : 33 < hn A := Int.lt_of_lt_of_le (by decide) h.1.1.1
  refine aw_aload_n (pc' := 441) rfl dL_law_440 rfl ?_
  refine lw_ld (pc' := 446) (k := 1) hs hb (by decide) rfl rfl dL_law_441 dL_law_442 dL_law_443 dL_law_444 dL_law_445 rfl ?_
  refine lw_ld (pc' := 451) (k := 2) hs hb (by decide) rfl rfl dL_law_446 dL_law_447 dL_law_448 dL_law_449 dL_law_450 rfl ?_
  refine aw_callV (ci := 10) (d' := 900) (as := [vi (S (i + 1)), vi (S (i + 2))]) (pc' := 454) (by decide) rfl kX12_on iX12_on sX12_on lL_62 (XO (A := A) hX) dL_law_451 rfl rfl (Nat.le_of_ble_eq_true rfl) hd ?_
  refine lw_two (p2_on h (hS _)) h9 hs (fun r1 B1 t1 hs1 hO1 c2 => ?_)
  obtain ⟨x, rfl⟩ := ty_l rfl t1
  refine aw_aload_n (pc' := 455) rfl dL_law_454 rfl ?_
  refine lw_ld (pc' := 460) (k := 1) hs1 hb (by decide) rfl rfl dL_law_455 dL_law_456 dL_law_457 dL_law_458 dL_law_459 rfl ?_
  refine lw_ld (pc' := 465) (k := 2) hs1 hb (by decide) rfl rfl dL_law_460 dL_law_461 dL_law_462 dL_law_463 dL_law_464 rfl ?_
  refine aw_callV (ci := 11) (d' := 900) (as := [vi (S (i + 1)), vi (S (i + 2))]) (pc' := 468) (by decide) rfl kX13_on iX13_on sX13_on lL_65 hO1 dL_law_465 rfl rfl (Nat.le_of_ble_eq_true rfl) hd ?_
  refine c2 _ (fun B w r2 g2 n2 s2 => ?_)
  refine aw_lcmp (pc' := 469) dL_law_468 rfl ?_
  exact aw_if_eq (pt := 1059) (pf := 472) dL_law_469 (by decide) rfl (fun _ => kk B w r2 g2 n2 s2) (fun q => (q (if_pos rfl)).elim)
set_option maxRecDepth 20000 in
theorem lw_c12 {d : Nat} {A : AHp} {v : Sg} {S : Int → Int} {i n : Int} {Q : Option AV → AHp → Prop} (hd : 900 + 1 ≤ d) (h : RR A v) (hs : SCR (cl A v) S n) (hb : BND i n) (hS : ∀ k, in32 (S k)) (kk : ∀ B w, RR B w → GRO A B → hn B ≤ hn A + 301 → SCR (cl B w) S n → AW d mL_law 1059 (lwL i) [] (cl B w) Q) : AW d mL_law 474 (lwL i) [] (cl A v) Q := by
  have hX := h.1.1.2.1
  have h9 : 33 < hn A := Int.lt_of_lt_of_le (by decide) h.1.1.1
  refine aw_aload_n (pc' := 475) rfl dL_law_474 rfl ?_
  refine lw_ld (pc' := 480) (k := 1) hs hb (by decide) rfl rfl dL_law_475 dL_law_476 dL_law_477 dL_law_478 dL_law_479 rfl ?_
  refine lw_ld (pc' := 485) (k := 2) hs hb (by decide) rfl rfl dL_law_480 dL_law_481 dL_law_482 dL_law_483 dL_law_484 rfl ?_
  refine aw_callV (ci := 10) (d' := 900) (as := [vi (S (i + 1)), vi (S (i + 2))]) (pc' := 488) (by decide) rfl kX12_see iX12_see sX12_see lL_66 (XO (A := A) hX) dL_law_485 rfl rfl (Nat.le_of_ble_eq_true rfl) hd ?_
  refine lw_two (p2_see h (hS _)) h9 hs (fun r1 B1 t1 hs1 hO1 c2 => ?_)
  obtain ⟨x, rfl⟩ := ty_i rfl t1
  refine aw_aload_n (pc' := 489) rfl dL_law_488 rfl ?_
  refine lw_ld (pc' := 494) (k := 1) hs1 hb (by decide) rfl rfl dL_law_489 dL_law_490 dL_law_491 dL_law_492 dL_law_493 rfl ?_
  refine lw_ld (pc' := 499) (k := 2) hs1 hb (by decide) rfl rfl dL_law_494 dL_law_495 dL_law_496 dL_law_497 dL_law_498 rfl ?_
  refine aw_callV (ci := 11) (d' := 900) (as := [vi (S (i + 1)), vi (S (i + 2))]) (pc' := 502) (by decide) rfl kX13_see iX13_see sX13_see lL_69 hO1 dL_law_499 rfl rfl (Nat.le_of_ble_eq_true rfl) hd ?_
  refine c2 _ (fun B w r2 g2 n2 s2 => ?_)
  exact aw_icmp_eq (pt := 1059) (pf := 505) dL_law_502 (by decide) rfl (fun _ => kk B w r2 g2 n2 s2) (fun q => (q rfl).elim)
set_option maxRecDepth 20000 in
theorem lw_c13 {d : Nat} {A : AHp} {v : Sg} {S : Int → Int} {i n : Int} {Q : Option AV → AHp → Prop} (hd : 900 + 1 ≤ d) (h : RR A v) (hs : SCR (cl A v) S n) (hb : BND i n) (hS : ∀ k, in32 (S k)) (kk : ∀ B w, RR B w → GRO A B → hn B ≤ hn A + 301 → SCR (cl B w) S n → AW d mL_law 1059 (lwL i) [] (cl B w) Q) : AW d mL_law 507 (lwL i) [] (cl A v) Q := by
  have hX := h.1.1.2.1
  have h9 : 33 < hn A := Int.lt_of_lt_of_le (by decide) h.1.1.1
  refine aw_aload_n (pc' := 508) rfl dL_law_507 rfl ?_
  refine lw_ld (pc' := 513) (k := 1) hs hb (by decide) rfl rfl dL_law_508 dL_law_509 dL_law_510 dL_law_511 dL_law_512 rfl ?_
  refine lw_ld (pc' := 518) (k := 2) hs hb (by decide) rfl rfl dL_law_513 dL_law_514 dL_law_515 dL_law_516 dL_law_517 rfl ?_
  refine lw_ld (pc' := 523) (k := 3) hs hb (by decide) rfl rfl dL_law_518 dL_law_519 dL_law_520 dL_law_521 dL_law_522 rfl ?_
  refine aw_callV (ci := 10) (d' := 900) (as := [vi (S (i + 1)), vi (S (i + 2)), vi (S (i + 3))]) (pc' := 526) (by decide) rfl kX12_fits iX12_fits sX12_fits lL_70 (XO (A := A) hX) dL_law_523 rfl rfl (Nat.le_of_ble_eq_true rfl) hd ?_
  refine lw_two (p2_fits h) h9 hs (fun r1 B1 t1 hs1 hO1 c2 => ?_)
  obtain ⟨x, rfl⟩ := ty_i rfl t1
  refine aw_aload_n (pc' := 527) rfl dL_law_526 rfl ?_
  refine lw_ld (pc' := 532) (k := 1) hs1 hb (by decide) rfl rfl dL_law_527 dL_law_528 dL_law_529 dL_law_530 dL_law_531 rfl ?_
  refine lw_ld (pc' := 537) (k := 2) hs1 hb (by decide) rfl rfl dL_law_532 dL_law_533 dL_law_534 dL_law_535 dL_law_536 rfl ?_
  refine lw_ld (pc' := 542) (k := 3) hs1 hb (by decide) rfl rfl dL_law_537 dL_law_538 dL_law_539 dL_law_540 dL_law_541 rfl ?_
  refine aw_callV (ci := 11) (d' := 900) (as := [vi (S (i + 1)), vi (S (i + 2)), vi (S (i + 3))]) (pc' := 545) (by decide) rfl kX13_fits iX13_fits sX13_fits lL_74 hO1 dL_law_542 rfl rfl (Nat.le_of_ble_eq_true rfl) hd ?_
  refine c2 _ (fun B w r2 g2 n2 s2 => ?_)
  exact aw_icmp_eq (pt := 1059) (pf := 548) dL_law_545 (by decide) rfl (fun _ => kk B w r2 g2 n2 s2) (fun q => (q rfl).elim)
set_option maxRecDepth 20000 in
theorem lw_c14 {d : Nat} {A : AHp} {v : Sg} {S : Int → Int} {i n : Int} {Q : Option AV → AHp → Prop} (hd : 900 + 1 ≤ d) (h : RR A v) (hs : SCR (cl A v) S n) (hb : BND i n) (hS : ∀ k, in32 (S k)) (kk : ∀ B w, RR B w → GRO A B → hn B ≤ hn A + 301 → SCR (cl B w) S n → AW d mL_law 1059 (lwL i) [] (cl B w) Q) : AW d mL_law 550 (lwL i) [] (cl A v) Q := by
  have hX := h.1.1.2.1
  have h9 : 33 < hn A := Int.lt_of_lt_of_le (by decide) h.1.1.1
  refine aw_aload_n (pc' := 551) rfl dL_law_550 rfl ?_
  refine lw_ld (pc' := 556) (k := 1) hs hb (by decide) rfl rfl dL_law_551 dL_law_552 dL_law_553 dL_law_554 dL_law_555 rfl ?_
  refine lw_ld (pc' := 561) (k := 2) hs hb (by decide) rfl rfl dL_law_556 dL_law_557 dL_law_558 dL_law_559 dL_law_560 rfl ?_
  refine aw_callV (ci := 10) (d' := 900) (as := [vi (S (i + 1)), vi (S (i + 2))]) (pc' := 564) (by decide) rfl kX12_alike iX12_alike sX12_alike lL_75 (XO (A := A) hX) dL_law_561 rfl rfl (Nat.le_of_ble_eq_true rfl) hd ?_
  refine lw_two (p2_alike h) h9 hs (fun r1 B1 t1 hs1 hO1 c2 => ?_)
  obtain ⟨x, rfl⟩ := ty_i rfl t1
  refine aw_aload_n (pc' := 565) rfl dL_law_564 rfl ?_
  refine lw_ld (pc' := 570) (k := 1) hs1 hb (by decide) rfl rfl dL_law_565 dL_law_566 dL_law_567 dL_law_568 dL_law_569 rfl ?_
  refine lw_ld (pc' := 575) (k := 2) hs1 hb (by decide) rfl rfl dL_law_570 dL_law_571 dL_law_572 dL_law_573 dL_law_574 rfl ?_
  refine aw_callV (ci := 11) (d' := 900) (as := [vi (S (i + 1)), vi (S (i + 2))]) (pc' := 578) (by decide) rfl kX13_alike iX13_alike sX13_alike lL_78 hO1 dL_law_575 rfl rfl (Nat.le_of_ble_eq_true rfl) hd ?_
  refine c2 _ (fun B w r2 g2 n2 s2 => ?_)
  exact aw_icmp_eq (pt := 1059) (pf := 581) dL_law_578 (by decide) rfl (fun _ => kk B w r2 g2 n2 s2) (fun q => (q rfl).elim)
set_option maxRecDepth 20000 in
theorem lw_c15 {d : Nat} {A : AHp} {v : Sg} {S : Int → Int} {i n : Int} {Q : Option AV → AHp → Prop} (hd : 900 + 1 ≤ d) (h : RR A v) (hs : SCR (cl A v) S n) (hb : BND i n) (hS : ∀ k, in32 (S k)) (kk : ∀ B w, RR B w → GRO A B → hn B ≤ hn A + 301 → SCR (cl B w) S n → AW d mL_law 1059 (lwL i) [] (cl B w) Q) : AW d mL_law 583 (lwL i) [] (cl A v) Q := by
  have hX := h.1.1.2.1
  have h9 : 33 < hn A := Int.lt_of_lt_of_le (by decide) h.1.1.1
  refine aw_aload_n (pc' := 584) rfl dL_law_583 rfl ?_
  refine lw_ld (pc' := 589) (k := 1) hs hb (by decide) rfl rfl dL_law_584 dL_law_585 dL_law_586 dL_law_587 dL_law_588 rfl ?_
  refine lw_ld (pc' := 594) (k := 2) hs hb (by decide) rfl rfl dL_law_589 dL_law_590 dL_law_591 dL_law_592 dL_law_593 rfl ?_
  refine lw_ld (pc' := 599) (k := 3) hs hb (by decide) rfl rfl dL_law_594 dL_law_595 dL_law_596 dL_law_597 dL_law_598 rfl ?_
  refine aw_callV (ci := 10) (d' := 900) (as := [vi (S (i + 1)), vi (S (i + 2)), vi (S (i + 3))]) (pc' := 602) (by decide) rfl kX12_odds iX12_odds sX12_odds lL_79 (XO (A := A) hX) dL_law_599 rfl rfl (Nat.le_of_ble_eq_true rfl) hd ?_
  refine lw_two (p2_odds h) h9 hs (fun r1 B1 t1 hs1 hO1 c2 => ?_)
  obtain ⟨x, rfl⟩ := ty_l rfl t1
  refine aw_aload_n (pc' := 603) rfl dL_law_602 rfl ?_
  refine lw_ld (pc' := 608) (k := 1) hs1 hb (by decide) rfl rfl dL_law_603 dL_law_604 dL_law_605 dL_law_606 dL_law_607 rfl ?_
  refine lw_ld (pc' := 613) (k := 2) hs1 hb (by decide) rfl rfl dL_law_608 dL_law_609 dL_law_610 dL_law_611 dL_law_612 rfl ?_
  refine lw_ld (pc' := 618) (k := 3) hs1 hb (by decide) rfl rfl dL_law_613 dL_law_614 dL_law_615 dL_law_616 dL_law_617 rfl ?_
  refine aw_callV (ci := 11) (d' := 900) (as := [vi (S (i + 1)), vi (S (i + 2)), vi (S (i + 3))]) (pc' := 621) (by decide) rfl kX13_odds iX13_odds sX13_odds lL_83 hO1 dL_law_618 rfl rfl (Nat.le_of_ble_eq_true rfl) hd ?_
  refine c2 _ (fun B w r2 g2 n2 s2 => ?_)
  refine aw_lcmp (pc' := 622) dL_law_621 rfl ?_
  exact aw_if_eq (pt := 1059) (pf := 625) dL_law_622 (by decide) rfl (fun _ => kk B w r2 g2 n2 s2) (fun q => (q (if_pos rfl)).elim)
set_option maxRecDepth 20000 in
theorem lw_c16 {d : Nat} {A : AHp} {v : Sg} {S : Int → Int} {i n : Int} {Q : Option AV → AHp → Prop} (hd : 900 + 1 ≤ d) (h : RR A v) (hs : SCR (cl A v) S n) (hb : BND i n) (hS : ∀ k, in32 (S k)) (kk : ∀ B w, RR B w → GRO A B → hn B ≤ hn A + 301 → SCR (cl B w) S n → AW d mL_law 1059 (lwL i) [] (cl B w) Q) : AW d mL_law 627 (lwL i) [] (cl A v) Q := by
  have hX := h.1.1.2.1
  have h9 : 33 < hn A := Int.lt_of_lt_of_le (by decide) h.1.1.1
  refine aw_aload_n (pc' := 628) rfl dL_law_627 rfl ?_
  refine lw_ld (pc' := 633) (k := 1) hs hb (by decide) rfl rfl dL_law_628 dL_law_629 dL_law_630 dL_law_631 dL_law_632 rfl ?_
  refine lw_ld (pc' := 638) (k := 2) hs hb (by decide) rfl rfl dL_law_633 dL_law_634 dL_law_635 dL_law_636 dL_law_637 rfl ?_
  refine aw_callV (ci := 10) (d' := 900) (as := [vi (S (i + 1)), vi (S (i + 2))]) (pc' := 641) (by decide) rfl kX12_mean iX12_mean sX12_mean lL_84 (XO (A := A) hX) dL_law_638 rfl rfl (Nat.le_of_ble_eq_true rfl) hd ?_
  refine lw_two (p2_mean h) h9 hs (fun r1 B1 t1 hs1 hO1 c2 => ?_)
  obtain ⟨x, rfl⟩ := ty_l rfl t1
  refine aw_aload_n (pc' := 642) rfl dL_law_641 rfl ?_
  refine lw_ld (pc' := 647) (k := 1) hs1 hb (by decide) rfl rfl dL_law_642 dL_law_643 dL_law_644 dL_law_645 dL_law_646 rfl ?_
  refine lw_ld (pc' := 652) (k := 2) hs1 hb (by decide) rfl rfl dL_law_647 dL_law_648 dL_law_649 dL_law_650 dL_law_651 rfl ?_
  refine aw_callV (ci := 11) (d' := 900) (as := [vi (S (i + 1)), vi (S (i + 2))]) (pc' := 655) (by decide) rfl kX13_mean iX13_mean sX13_mean lL_87 hO1 dL_law_652 rfl rfl (Nat.le_of_ble_eq_true rfl) hd ?_
  refine c2 _ (fun B w r2 g2 n2 s2 => ?_)
  refine aw_lcmp (pc' := 656) dL_law_655 rfl ?_
  exact aw_if_eq (pt := 1059) (pf := 659) dL_law_656 (by decide) rfl (fun _ => kk B w r2 g2 n2 s2) (fun q => (q (if_pos rfl)).elim)
set_option maxRecDepth 20000 in
theorem lw_c17 {d : Nat} {A : AHp} {v : Sg} {S : Int → Int} {i n : Int} {Q : Option AV → AHp → Prop} (hd : 900 + 1 ≤ d) (h : RR A v) (hs : SCR (cl A v) S n) (hb : BND i n) (hS : ∀ k, in32 (S k)) (kk : ∀ B w, RR B w → GRO A B → hn B ≤ hn A + 301 → SCR (cl B w) S n → AW d mL_law 1059 (lwL i) [] (cl B w) Q) : AW d mL_law 661 (lwL i) [] (cl A v) Q := by
  have hX := h.1.1.2.1
  have h9 : 33 < hn A := Int.lt_of_lt_of_le (by decide) h.1.1.1
  refine aw_aload_n (pc' := 662) rfl dL_law_661 rfl ?_
  refine lw_ld (pc' := 667) (k := 1) hs hb (by decide) rfl rfl dL_law_662 dL_law_663 dL_law_664 dL_law_665 dL_law_666 rfl ?_
  refine lw_ld (pc' := 672) (k := 2) hs hb (by decide) rfl rfl dL_law_667 dL_law_668 dL_law_669 dL_law_670 dL_law_671 rfl ?_
  refine aw_callV (ci := 10) (d' := 900) (as := [vi (S (i + 1)), vi (S (i + 2))]) (pc' := 675) (by decide) rfl kX12_plan iX12_plan sX12_plan lL_88 (XO (A := A) hX) dL_law_672 rfl rfl (Nat.le_of_ble_eq_true rfl) hd ?_
  refine lw_two (p2_plan h) h9 hs (fun r1 B1 t1 hs1 hO1 c2 => ?_)
  obtain ⟨x, rfl⟩ := ty_i rfl t1
  refine aw_aload_n (pc' := 676) rfl dL_law_675 rfl ?_
  refine lw_ld (pc' := 681) (k := 1) hs1 hb (by decide) rfl rfl dL_law_676 dL_law_677 dL_law_678 dL_law_679 dL_law_680 rfl ?_
  refine lw_ld (pc' := 686) (k := 2) hs1 hb (by decide) rfl rfl dL_law_681 dL_law_682 dL_law_683 dL_law_684 dL_law_685 rfl ?_
  refine aw_callV (ci := 11) (d' := 900) (as := [vi (S (i + 1)), vi (S (i + 2))]) (pc' := 689) (by decide) rfl kX13_plan iX13_plan sX13_plan lL_91 hO1 dL_law_686 rfl rfl (Nat.le_of_ble_eq_true rfl) hd ?_
  refine c2 _ (fun B w r2 g2 n2 s2 => ?_)
  exact aw_icmp_eq (pt := 1059) (pf := 692) dL_law_689 (by decide) rfl (fun _ => kk B w r2 g2 n2 s2) (fun q => (q rfl).elim)
set_option maxRecDepth 20000 in
theorem lw_c18 {d : Nat} {A : AHp} {v : Sg} {S : Int → Int} {i n : Int} {Q : Option AV → AHp → Prop} (hd : 900 + 1 ≤ d) (h : RR A v) (hs : SCR (cl A v) S n) (hb : BND i n) (hS : ∀ k, in32 (S k)) (kk : ∀ B w, RR B w → GRO A B → hn B ≤ hn A + 301 → SCR (cl B w) S n → AW d mL_law 1059 (lwL i) [] (cl B w) Q) : AW d mL_law 694 (lwL i) [] (cl A v) Q := by
  have hX := h.1.1.2.1
  have h9 : 33 < hn A := Int.lt_of_lt_of_le (by decide) h.1.1.1
  refine aw_aload_n (pc' := 695) rfl dL_law_694 rfl ?_
  refine lw_ld (pc' := 700) (k := 1) hs hb (by decide) rfl rfl dL_law_695 dL_law_696 dL_law_697 dL_law_698 dL_law_699 rfl ?_
  refine aw_callV (ci := 10) (d' := 900) (as := [vi (S (i + 1))]) (pc' := 703) (by decide) rfl kX12_ends iX12_ends sX12_ends lL_92 (XO (A := A) hX) dL_law_700 rfl rfl (Nat.le_of_ble_eq_true rfl) hd ?_
  refine lw_two (p2_ends h) h9 hs (fun r1 B1 t1 hs1 hO1 c2 => ?_)
  obtain ⟨x, rfl⟩ := ty_l rfl t1
  refine aw_aload_n (pc' := 704) rfl dL_law_703 rfl ?_
  refine lw_ld (pc' := 709) (k := 1) hs1 hb (by decide) rfl rfl dL_law_704 dL_law_705 dL_law_706 dL_law_707 dL_law_708 rfl ?_
  refine aw_callV (ci := 11) (d' := 900) (as := [vi (S (i + 1))]) (pc' := 712) (by decide) rfl kX13_ends iX13_ends sX13_ends lL_95 hO1 dL_law_709 rfl rfl (Nat.le_of_ble_eq_true rfl) hd ?_
  refine c2 _ (fun B w r2 g2 n2 s2 => ?_)
  refine aw_lcmp (pc' := 713) dL_law_712 rfl ?_
  exact aw_if_eq (pt := 1059) (pf := 716) dL_law_713 (by decide) rfl (fun _ => kk B w r2 g2 n2 s2) (fun q => (q (if_pos rfl)).elim)
set_option maxRecDepth 20000 in
theorem lw_c19 {d : Nat} {A : AHp} {v : Sg} {S : Int → Int} {i n : Int} {Q : Option AV → AHp → Prop} (hd : 900 + 1 ≤ d) (h : RR A v) (hs : SCR (cl A v) S n) (hb : BND i n) (hS : ∀ k, in32 (S k)) (kk : ∀ B w, RR B w → GRO A B → hn B ≤ hn A + 301 → SCR (cl B w) S n → AW d mL_law 1059 (lwL i) [] (cl B w) Q) : AW d mL_law 718 (lwL i) [] (cl A v) Q := by
  have hX := h.1.1.2.1
  have h9 : 33 < hn A := Int.lt_of_lt_of_le (by decide) h.1.1.1
  refine aw_aload_n (pc' := 719) rfl dL_law_718 rfl ?_
  refine lw_ld (pc' := 724) (k := 1) hs hb (by decide) rfl rfl dL_law_719 dL_law_720 dL_law_721 dL_law_722 dL_law_723 rfl ?_
  refine lw_ld (pc' := 729) (k := 2) hs hb (by decide) rfl rfl dL_law_724 dL_law_725 dL_law_726 dL_law_727 dL_law_728 rfl ?_
  refine aw_callV (ci := 10) (d' := 900) (as := [vi (S (i + 1)), vi (S (i + 2))]) (pc' := 732) (by decide) rfl kX12_book iX12_book sX12_book lL_96 (XO (A := A) hX) dL_law_729 rfl rfl (Nat.le_of_ble_eq_true rfl) hd ?_
  refine lw_two (p2_book h) h9 hs (fun r1 B1 t1 hs1 hO1 c2 => ?_)
  obtain ⟨x, rfl⟩ := ty_i rfl t1
  refine aw_aload_n (pc' := 733) rfl dL_law_732 rfl ?_
  refine lw_ld (pc' := 738) (k := 1) hs1 hb (by decide) rfl rfl dL_law_733 dL_law_734 dL_law_735 dL_law_736 dL_law_737 rfl ?_
  refine lw_ld (pc' := 743) (k := 2) hs1 hb (by decide) rfl rfl dL_law_738 dL_law_739 dL_law_740 dL_law_741 dL_law_742 rfl ?_
  refine aw_callV (ci := 11) (d' := 900) (as := [vi (S (i + 1)), vi (S (i + 2))]) (pc' := 746) (by decide) rfl kX13_book iX13_book sX13_book lL_99 hO1 dL_law_743 rfl rfl (Nat.le_of_ble_eq_true rfl) hd ?_
  refine c2 _ (fun B w r2 g2 n2 s2 => ?_)
  exact aw_icmp_eq (pt := 1059) (pf := 749) dL_law_746 (by decide) rfl (fun _ => kk B w r2 g2 n2 s2) (fun q => (q rfl).elim)
set_option maxRecDepth 20000 in
theorem lw_c20 {d : Nat} {A : AHp} {v : Sg} {S : Int → Int} {i n : Int} {Q : Option AV → AHp → Prop} (hd : 900 + 1 ≤ d) (h : RR A v) (hs : SCR (cl A v) S n) (hb : BND i n) (hS : ∀ k, in32 (S k)) (kk : ∀ B w, RR B w → GRO A B → hn B ≤ hn A + 301 → SCR (cl B w) S n → AW d mL_law 1059 (lwL i) [] (cl B w) Q) : AW d mL_law 751 (lwL i) [] (cl A v) Q := by
  have hX := h.1.1.2.1
  have h9 : 33 < hn A := Int.lt_of_lt_of_le (by decide) h.1.1.1
  refine aw_aload_n (pc' := 752) rfl dL_law_751 rfl ?_
  refine aw_callV (ci := 10) (d' := 900) (as := []) (pc' := 755) (by decide) rfl kX12_looked iX12_looked sX12_looked lL_100 (XO (A := A) hX) dL_law_752 rfl rfl (Nat.le_of_ble_eq_true rfl) hd ?_
  refine lw_two (p2_looked h) h9 hs (fun r1 B1 t1 hs1 hO1 c2 => ?_)
  obtain ⟨x, rfl⟩ := ty_i rfl t1
  refine aw_aload_n (pc' := 756) rfl dL_law_755 rfl ?_
  refine aw_callV (ci := 11) (d' := 900) (as := []) (pc' := 759) (by decide) rfl kX13_looked iX13_looked sX13_looked lL_103 hO1 dL_law_756 rfl rfl (Nat.le_of_ble_eq_true rfl) hd ?_
  refine c2 _ (fun B w r2 g2 n2 s2 => ?_)
  exact aw_icmp_eq (pt := 1059) (pf := 762) dL_law_759 (by decide) rfl (fun _ => kk B w r2 g2 n2 s2) (fun q => (q rfl).elim)
set_option maxRecDepth 20000 in
theorem lw_c21 {d : Nat} {A : AHp} {v : Sg} {S : Int → Int} {i n : Int} {Q : Option AV → AHp → Prop} (hd : 900 + 1 ≤ d) (h : RR A v) (hs : SCR (cl A v) S n) (hb : BND i n) (hS : ∀ k, in32 (S k)) (kk : ∀ B w, RR B w → GRO A B → hn B ≤ hn A + 301 → SCR (cl B w) S n → AW d mL_law 1059 (lwL i) [] (cl B w) Q) : AW d mL_law 764 (lwL i) [] (cl A v) Q := by
  have hX := h.1.1.2.1
  have h9 : 33 < hn A := Int.lt_of_lt_of_le (by decide) h.1.1.1
  refine aw_aload_n (pc' := 765) rfl dL_law_764 rfl ?_
  refine lw_ld (pc' := 770) (k := 1) hs hb (by decide) rfl rfl dL_law_765 dL_law_766 dL_law_767 dL_law_768 dL_law_769 rfl ?_
  refine lw_ld (pc' := 775) (k := 2) hs hb (by decide) rfl rfl dL_law_770 dL_law_771 dL_law_772 dL_law_773 dL_law_774 rfl ?_
  refine aw_callV (ci := 10) (d' := 900) (as := [vi (S (i + 1)), vi (S (i + 2))]) (pc' := 778) (by decide) rfl kX12_judge iX12_judge sX12_judge lL_104 (XO (A := A) hX) dL_law_775 rfl rfl (Nat.le_of_ble_eq_true rfl) hd ?_
  refine lw_two (p2_judge h (hS _)) h9 hs (fun r1 B1 t1 hs1 hO1 c2 => ?_)
  obtain ⟨x, rfl⟩ := ty_i rfl t1
  refine aw_aload_n (pc' := 779) rfl dL_law_778 rfl ?_
  refine lw_ld (pc' := 784) (k := 1) hs1 hb (by decide) rfl rfl dL_law_779 dL_law_780 dL_law_781 dL_law_782 dL_law_783 rfl ?_
  refine lw_ld (pc' := 789) (k := 2) hs1 hb (by decide) rfl rfl dL_law_784 dL_law_785 dL_law_786 dL_law_787 dL_law_788 rfl ?_
  refine aw_callV (ci := 11) (d' := 900) (as := [vi (S (i + 1)), vi (S (i + 2))]) (pc' := 792) (by decide) rfl kX13_judge iX13_judge sX13_judge lL_107 hO1 dL_law_789 rfl rfl (Nat.le_of_ble_eq_true rfl) hd ?_
  refine c2 _ (fun B w r2 g2 n2 s2 => ?_)
  exact aw_icmp_eq (pt := 1059) (pf := 795) dL_law_792 (by decide) rfl (fun _ => kk B w r2 g2 n2 s2) (fun q => (q rfl).elim)
set_option maxRecDepth 20000 in
theorem lw_c22 {d : Nat} {A : AHp} {v : Sg} {S : Int → Int} {i n : Int} {Q : Option AV → AHp → Prop} (hd : 900 + 1 ≤ d) (h : RR A v) (hs : SCR (cl A v) S n) (hb : BND i n) (hS : ∀ k, in32 (S k)) (kk : ∀ B w, RR B w → GRO A B → hn B ≤ hn A + 301 → SCR (cl B w) S n → AW d mL_law 1059 (lwL i) [] (cl B w) Q) : AW d mL_law 797 (lwL i) [] (cl A v) Q := by
  have hX := h.1.1.2.1
  have h9 : 33 < hn A := Int.lt_of_lt_of_le (by decide) h.1.1.1
  refine aw_aload_n (pc' := 798) rfl dL_law_797 rfl ?_
  refine aw_callV (ci := 10) (d' := 900) (as := []) (pc' := 801) (by decide) rfl kX12_image iX12_image sX12_image lL_108 (XO (A := A) hX) dL_law_798 rfl rfl (Nat.le_of_ble_eq_true rfl) hd ?_
  refine lw_two (p2_image h) h9 hs (fun r1 B1 t1 hs1 hO1 c2 => ?_)
  obtain ⟨x, rfl⟩ := ty_i rfl t1
  refine aw_aload_n (pc' := 802) rfl dL_law_801 rfl ?_
  refine aw_callV (ci := 11) (d' := 900) (as := []) (pc' := 805) (by decide) rfl kX13_image iX13_image sX13_image lL_111 hO1 dL_law_802 rfl rfl (Nat.le_of_ble_eq_true rfl) hd ?_
  refine c2 _ (fun B w r2 g2 n2 s2 => ?_)
  exact aw_icmp_eq (pt := 1059) (pf := 808) dL_law_805 (by decide) rfl (fun _ => kk B w r2 g2 n2 s2) (fun q => (q rfl).elim)
set_option maxRecDepth 20000 in
theorem lw_c23 {d : Nat} {A : AHp} {v : Sg} {S : Int → Int} {i n : Int} {Q : Option AV → AHp → Prop} (hd : 900 + 1 ≤ d) (h : RR A v) (hs : SCR (cl A v) S n) (hb : BND i n) (hS : ∀ k, in32 (S k)) (kk : ∀ B w, RR B w → GRO A B → hn B ≤ hn A + 301 → SCR (cl B w) S n → AW d mL_law 1059 (lwL i) [] (cl B w) Q) : AW d mL_law 810 (lwL i) [] (cl A v) Q := by
  have hX := h.1.1.2.1
  have h9 : 33 < hn A := Int.lt_of_lt_of_le (by decide) h.1.1.1
  refine aw_aload_n (pc' := 811) rfl dL_law_810 rfl ?_
  refine aw_callV (ci := 10) (d' := 900) (as := []) (pc' := 814) (by decide) rfl kX12_undo iX12_undo sX12_undo lL_112 (XO (A := A) hX) dL_law_811 rfl rfl (Nat.le_of_ble_eq_true rfl) hd ?_
  refine lw_two (p2_undo h) h9 hs (fun r1 B1 t1 hs1 hO1 c2 => ?_)
  obtain ⟨x, rfl⟩ := ty_i rfl t1
  refine aw_aload_n (pc' := 815) rfl dL_law_814 rfl ?_
  refine aw_callV (ci := 11) (d' := 900) (as := []) (pc' := 818) (by decide) rfl kX13_undo iX13_undo sX13_undo lL_115 hO1 dL_law_815 rfl rfl (Nat.le_of_ble_eq_true rfl) hd ?_
  refine c2 _ (fun B w r2 g2 n2 s2 => ?_)
  exact aw_icmp_eq (pt := 1059) (pf := 821) dL_law_818 (by decide) rfl (fun _ => kk B w r2 g2 n2 s2) (fun q => (q rfl).elim)
set_option maxRecDepth 20000 in
theorem lw_c24 {d : Nat} {A : AHp} {v : Sg} {S : Int → Int} {i n : Int} {Q : Option AV → AHp → Prop} (hd : 900 + 1 ≤ d) (h : RR A v) (hs : SCR (cl A v) S n) (hb : BND i n) (hS : ∀ k, in32 (S k)) (kk : ∀ B w, RR B w → GRO A B → hn B ≤ hn A + 301 → SCR (cl B w) S n → AW d mL_law 1059 (lwL i) [] (cl B w) Q) : AW d mL_law 823 (lwL i) [] (cl A v) Q := by
  have hX := h.1.1.2.1
  have h9 : 33 < hn A := Int.lt_of_lt_of_le (by decide) h.1.1.1
  refine aw_aload_n (pc' := 824) rfl dL_law_823 rfl ?_
  refine lw_ld (pc' := 829) (k := 1) hs hb (by decide) rfl rfl dL_law_824 dL_law_825 dL_law_826 dL_law_827 dL_law_828 rfl ?_
  refine aw_callV (ci := 10) (d' := 900) (as := [vi (S (i + 1))]) (pc' := 832) (by decide) rfl kX12_count iX12_count sX12_count lL_116 (XO (A := A) hX) dL_law_829 rfl rfl (Nat.le_of_ble_eq_true rfl) hd ?_
  refine lw_two (p2_count h) h9 hs (fun r1 B1 t1 hs1 hO1 c2 => ?_)
  obtain ⟨x, rfl⟩ := ty_i rfl t1
  refine aw_aload_n (pc' := 833) rfl dL_law_832 rfl ?_
  refine lw_ld (pc' := 838) (k := 1) hs1 hb (by decide) rfl rfl dL_law_833 dL_law_834 dL_law_835 dL_law_836 dL_law_837 rfl ?_
  refine aw_callV (ci := 11) (d' := 900) (as := [vi (S (i + 1))]) (pc' := 841) (by decide) rfl kX13_count iX13_count sX13_count lL_119 hO1 dL_law_838 rfl rfl (Nat.le_of_ble_eq_true rfl) hd ?_
  refine c2 _ (fun B w r2 g2 n2 s2 => ?_)
  exact aw_icmp_eq (pt := 1059) (pf := 844) dL_law_841 (by decide) rfl (fun _ => kk B w r2 g2 n2 s2) (fun q => (q rfl).elim)
set_option maxRecDepth 20000 in
theorem lw_c25 {d : Nat} {A : AHp} {v : Sg} {S : Int → Int} {i n : Int} {Q : Option AV → AHp → Prop} (hd : 900 + 1 ≤ d) (h : RR A v) (hs : SCR (cl A v) S n) (hb : BND i n) (hS : ∀ k, in32 (S k)) (kk : ∀ B w, RR B w → GRO A B → hn B ≤ hn A + 301 → SCR (cl B w) S n → AW d mL_law 1059 (lwL i) [] (cl B w) Q) : AW d mL_law 846 (lwL i) [] (cl A v) Q := by
  have hX := h.1.1.2.1
  have h9 : 33 < hn A := Int.lt_of_lt_of_le (by decide) h.1.1.1
  refine aw_aload_n (pc' := 847) rfl dL_law_846 rfl ?_
  refine lw_ld (pc' := 852) (k := 1) hs hb (by decide) rfl rfl dL_law_847 dL_law_848 dL_law_849 dL_law_850 dL_law_851 rfl ?_
  refine lw_ld (pc' := 857) (k := 2) hs hb (by decide) rfl rfl dL_law_852 dL_law_853 dL_law_854 dL_law_855 dL_law_856 rfl ?_
  refine lw_ld (pc' := 862) (k := 3) hs hb (by decide) rfl rfl dL_law_857 dL_law_858 dL_law_859 dL_law_860 dL_law_861 rfl ?_
  refine aw_callV (ci := 10) (d' := 900) (as := [vi (S (i + 1)), vi (S (i + 2)), vi (S (i + 3))]) (pc' := 865) (by decide) rfl kX12_tape iX12_tape sX12_tape lL_120 (XO (A := A) hX) dL_law_862 rfl rfl (Nat.le_of_ble_eq_true rfl) hd ?_
  refine lw_two (p2_tape h) h9 hs (fun r1 B1 t1 hs1 hO1 c2 => ?_)
  obtain ⟨x, rfl⟩ := ty_i rfl t1
  refine aw_aload_n (pc' := 866) rfl dL_law_865 rfl ?_
  refine lw_ld (pc' := 871) (k := 1) hs1 hb (by decide) rfl rfl dL_law_866 dL_law_867 dL_law_868 dL_law_869 dL_law_870 rfl ?_
  refine lw_ld (pc' := 876) (k := 2) hs1 hb (by decide) rfl rfl dL_law_871 dL_law_872 dL_law_873 dL_law_874 dL_law_875 rfl ?_
  refine lw_ld (pc' := 881) (k := 3) hs1 hb (by decide) rfl rfl dL_law_876 dL_law_877 dL_law_878 dL_law_879 dL_law_880 rfl ?_
  refine aw_callV (ci := 11) (d' := 900) (as := [vi (S (i + 1)), vi (S (i + 2)), vi (S (i + 3))]) (pc' := 884) (by decide) rfl kX13_tape iX13_tape sX13_tape lL_123 hO1 dL_law_881 rfl rfl (Nat.le_of_ble_eq_true rfl) hd ?_
  refine c2 _ (fun B w r2 g2 n2 s2 => ?_)
  exact aw_icmp_eq (pt := 1059) (pf := 887) dL_law_884 (by decide) rfl (fun _ => kk B w r2 g2 n2 s2) (fun q => (q rfl).elim)
set_option maxRecDepth 20000 in
theorem lw_c26 {d : Nat} {A : AHp} {v : Sg} {S : Int → Int} {i n : Int} {Q : Option AV → AHp → Prop} (hd : 900 + 1 ≤ d) (h : RR A v) (hs : SCR (cl A v) S n) (hb : BND i n) (hS : ∀ k, in32 (S k)) (kk : ∀ B w, RR B w → GRO A B → hn B ≤ hn A + 301 → SCR (cl B w) S n → AW d mL_law 1059 (lwL i) [] (cl B w) Q) : AW d mL_law 889 (lwL i) [] (cl A v) Q := by
  have hX := h.1.1.2.1
  have h9 : 33 < hn A := Int.lt_of_lt_of_le (by decide) h.1.1.1
  refine aw_aload_n (pc' := 890) rfl dL_law_889 rfl ?_
  refine lw_ld (pc' := 895) (k := 1) hs hb (by decide) rfl rfl dL_law_890 dL_law_891 dL_law_892 dL_law_893 dL_law_894 rfl ?_
  refine lw_ld (pc' := 900) (k := 2) hs hb (by decide) rfl rfl dL_law_895 dL_law_896 dL_law_897 dL_law_898 dL_law_899 rfl ?_
  refine lw_ld (pc' := 905) (k := 3) hs hb (by decide) rfl rfl dL_law_900 dL_law_901 dL_law_902 dL_law_903 dL_law_904 rfl ?_
  refine aw_i2l (pc' := 906) dL_law_905 rfl ?_
  refine aw_bipush (pc' := 908) (by decide +kernel) dL_law_906 rfl ?_
  refine aw_lshl (pc' := 909) rfl dL_law_908 rfl ?_
  refine lw_ld (pc' := 914) (k := 4) hs hb (by decide) rfl rfl dL_law_909 dL_law_910 dL_law_911 dL_law_912 dL_law_913 rfl ?_
  refine aw_i2l (pc' := 915) dL_law_914 rfl ?_
  refine aw_ldc2 (pc' := 918) (x := 4294967295) qL_124 (by decide) dL_law_915 rfl ?_
  refine aw_land (pc' := 919) rfl dL_law_918 rfl ?_
  refine aw_lor (pc' := 920) (z := LNG (S (i + 3)) (S (i + 4))) rfl dL_law_919 rfl ?_
  refine aw_callV (ci := 10) (d' := 900) (as := [vi (S (i + 1)), vi (S (i + 2)), vl (LNG (S (i + 3)) (S (i + 4)))]) (pc' := 923) (by decide) rfl kX12_item iX12_item sX12_item lL_126 (XO (A := A) hX) dL_law_920 rfl rfl (Nat.le_of_ble_eq_true rfl) hd ?_
  refine lw_two (p2_item h) h9 hs (fun r1 B1 t1 hs1 hO1 c2 => ?_)
  obtain ⟨x, rfl⟩ := ty_i rfl t1
  refine aw_aload_n (pc' := 924) rfl dL_law_923 rfl ?_
  refine lw_ld (pc' := 929) (k := 1) hs1 hb (by decide) rfl rfl dL_law_924 dL_law_925 dL_law_926 dL_law_927 dL_law_928 rfl ?_
  refine lw_ld (pc' := 934) (k := 2) hs1 hb (by decide) rfl rfl dL_law_929 dL_law_930 dL_law_931 dL_law_932 dL_law_933 rfl ?_
  refine lw_ld (pc' := 939) (k := 3) hs1 hb (by decide) rfl rfl dL_law_934 dL_law_935 dL_law_936 dL_law_937 dL_law_938 rfl ?_
  refine aw_i2l (pc' := 940) dL_law_939 rfl ?_
  refine aw_bipush (pc' := 942) (by decide +kernel) dL_law_940 rfl ?_
  refine aw_lshl (pc' := 943) rfl dL_law_942 rfl ?_
  refine lw_ld (pc' := 948) (k := 4) hs1 hb (by decide) rfl rfl dL_law_943 dL_law_944 dL_law_945 dL_law_946 dL_law_947 rfl ?_
  refine aw_i2l (pc' := 949) dL_law_948 rfl ?_
  refine aw_ldc2 (pc' := 952) (x := 4294967295) qL_124 (by decide) dL_law_949 rfl ?_
  refine aw_land (pc' := 953) rfl dL_law_952 rfl ?_
  refine aw_lor (pc' := 954) (z := LNG (S (i + 3)) (S (i + 4))) rfl dL_law_953 rfl ?_
  refine aw_callV (ci := 11) (d' := 900) (as := [vi (S (i + 1)), vi (S (i + 2)), vl (LNG (S (i + 3)) (S (i + 4)))]) (pc' := 957) (by decide) rfl kX13_item iX13_item sX13_item lL_130 hO1 dL_law_954 rfl rfl (Nat.le_of_ble_eq_true rfl) hd ?_
  refine c2 _ (fun B w r2 g2 n2 s2 => ?_)
  exact aw_icmp_eq (pt := 1059) (pf := 960) dL_law_957 (by decide) rfl (fun _ => kk B w r2 g2 n2 s2) (fun q => (q rfl).elim)
set_option maxRecDepth 20000 in
theorem lw_c27 {d : Nat} {A : AHp} {v : Sg} {S : Int → Int} {i n : Int} {Q : Option AV → AHp → Prop} (hd : 900 + 1 ≤ d) (h : RR A v) (hs : SCR (cl A v) S n) (hb : BND i n) (hS : ∀ k, in32 (S k)) (kk : ∀ B w, RR B w → GRO A B → hn B ≤ hn A + 301 → SCR (cl B w) S n → AW d mL_law 1059 (lwL i) [] (cl B w) Q) : AW d mL_law 962 (lwL i) [] (cl A v) Q := by
  have hX := h.1.1.2.1
  have h9 : 33 < hn A := Int.lt_of_lt_of_le (by decide) h.1.1.1
  refine aw_aload_n (pc' := 963) rfl dL_law_962 rfl ?_
  refine lw_ld (pc' := 968) (k := 1) hs hb (by decide) rfl rfl dL_law_963 dL_law_964 dL_law_965 dL_law_966 dL_law_967 rfl ?_
  refine lw_ld (pc' := 973) (k := 2) hs hb (by decide) rfl rfl dL_law_968 dL_law_969 dL_law_970 dL_law_971 dL_law_972 rfl ?_
  refine aw_callV (ci := 10) (d' := 900) (as := [vi (S (i + 1)), vi (S (i + 2))]) (pc' := 976) (by decide) rfl kX12_read iX12_read sX12_read lL_131 (XO (A := A) hX) dL_law_973 rfl rfl (Nat.le_of_ble_eq_true rfl) hd ?_
  refine lw_two (p2_read h) h9 hs (fun r1 B1 t1 hs1 hO1 c2 => ?_)
  obtain ⟨x, rfl⟩ := ty_l rfl t1
  refine aw_aload_n (pc' := 977) rfl dL_law_976 rfl ?_
  refine lw_ld (pc' := 982) (k := 1) hs1 hb (by decide) rfl rfl dL_law_977 dL_law_978 dL_law_979 dL_law_980 dL_law_981 rfl ?_
  refine lw_ld (pc' := 987) (k := 2) hs1 hb (by decide) rfl rfl dL_law_982 dL_law_983 dL_law_984 dL_law_985 dL_law_986 rfl ?_
  refine aw_callV (ci := 11) (d' := 900) (as := [vi (S (i + 1)), vi (S (i + 2))]) (pc' := 990) (by decide) rfl kX13_read iX13_read sX13_read lL_134 hO1 dL_law_987 rfl rfl (Nat.le_of_ble_eq_true rfl) hd ?_
  refine c2 _ (fun B w r2 g2 n2 s2 => ?_)
  refine aw_lcmp (pc' := 991) dL_law_990 rfl ?_
  exact aw_if_eq (pt := 1059) (pf := 994) dL_law_991 (by decide) rfl (fun _ => kk B w r2 g2 n2 s2) (fun q => (q (if_pos rfl)).elim)
set_option maxRecDepth 20000 in
theorem lw_c28 {d : Nat} {A : AHp} {v : Sg} {S : Int → Int} {i n : Int} {Q : Option AV → AHp → Prop} (hd : 900 + 1 ≤ d) (h : RR A v) (hs : SCR (cl A v) S n) (hb : BND i n) (hS : ∀ k, in32 (S k)) (kk : ∀ B w, RR B w → GRO A B → hn B ≤ hn A + 301 → SCR (cl B w) S n → AW d mL_law 1059 (lwL i) [] (cl B w) Q) : AW d mL_law 996 (lwL i) [] (cl A v) Q := by
  have hX := h.1.1.2.1
  have h9 : 33 < hn A := Int.lt_of_lt_of_le (by decide) h.1.1.1
  refine aw_aload_n (pc' := 997) rfl dL_law_996 rfl ?_
  refine lw_ld (pc' := 1002) (k := 1) hs hb (by decide) rfl rfl dL_law_997 dL_law_998 dL_law_999 dL_law_1000 dL_law_1001 rfl ?_
  refine lw_ld (pc' := 1007) (k := 2) hs hb (by decide) rfl rfl dL_law_1002 dL_law_1003 dL_law_1004 dL_law_1005 dL_law_1006 rfl ?_
  refine lw_ld (pc' := 1012) (k := 3) hs hb (by decide) rfl rfl dL_law_1007 dL_law_1008 dL_law_1009 dL_law_1010 dL_law_1011 rfl ?_
  refine lw_ld (pc' := 1017) (k := 4) hs hb (by decide) rfl rfl dL_law_1012 dL_law_1013 dL_law_1014 dL_law_1015 dL_law_1016 rfl ?_
  refine lw_ld (pc' := 1022) (k := 5) hs hb (by decide) rfl rfl dL_law_1017 dL_law_1018 dL_law_1019 dL_law_1020 dL_law_1021 rfl ?_
  refine aw_callV (ci := 10) (d' := 900) (as := [vi (S (i + 1)), vi (S (i + 2)), vi (S (i + 3)), vi (S (i + 4)), vi (S (i + 5))]) (pc' := 1025) (by decide) rfl kX12_shift iX12_shift sX12_shift lL_135 (XO (A := A) hX) dL_law_1022 rfl rfl (Nat.le_of_ble_eq_true rfl) hd ?_
  refine lw_two (p2_shift h) h9 hs (fun r1 B1 t1 hs1 hO1 c2 => ?_)
  obtain ⟨x, rfl⟩ := ty_i rfl t1
  refine aw_aload_n (pc' := 1026) rfl dL_law_1025 rfl ?_
  refine lw_ld (pc' := 1031) (k := 1) hs1 hb (by decide) rfl rfl dL_law_1026 dL_law_1027 dL_law_1028 dL_law_1029 dL_law_1030 rfl ?_
  refine lw_ld (pc' := 1036) (k := 2) hs1 hb (by decide) rfl rfl dL_law_1031 dL_law_1032 dL_law_1033 dL_law_1034 dL_law_1035 rfl ?_
  refine lw_ld (pc' := 1041) (k := 3) hs1 hb (by decide) rfl rfl dL_law_1036 dL_law_1037 dL_law_1038 dL_law_1039 dL_law_1040 rfl ?_
  refine lw_ld (pc' := 1046) (k := 4) hs1 hb (by decide) rfl rfl dL_law_1041 dL_law_1042 dL_law_1043 dL_law_1044 dL_law_1045 rfl ?_
  refine lw_ld (pc' := 1051) (k := 5) hs1 hb (by decide) rfl rfl dL_law_1046 dL_law_1047 dL_law_1048 dL_law_1049 dL_law_1050 rfl ?_
  refine aw_callV (ci := 11) (d' := 900) (as := [vi (S (i + 1)), vi (S (i + 2)), vi (S (i + 3)), vi (S (i + 4)), vi (S (i + 5))]) (pc' := 1054) (by decide) rfl kX13_shift iX13_shift sX13_shift lL_139 hO1 dL_law_1051 rfl rfl (Nat.le_of_ble_eq_true rfl) hd ?_
  refine c2 _ (fun B w r2 g2 n2 s2 => ?_)
  exact aw_icmp_eq (pt := 1059) (pf := 1057) dL_law_1054 (by decide) rfl (fun _ => kk B w r2 g2 n2 s2) (fun q => (q rfl).elim)
