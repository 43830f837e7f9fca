/-! ===== all that goes, class and reference ===== -/
theorem glx {d : Nat} {nx : Sg → Int → Int → Option (Int × Sg)} {A : AHp} {V T : Sg} {ko lev c g at9 to : Int} {e : Nat} (hX : XLAY A) (hKp : KeptAt A ko) (hko : 206 < ko ∧ ko < 250) (hlev : 0 ≤ lev ∧ lev < 20) (hT : TOK T) (hL : STL A V T ko) (hc : 0 ≤ c ∧ c < 24) (hN : ∀ p po (k : Nat), POK T e p → PR A V T e po p → (k : Int) < T 313 p → NXK (d - 2) nx A V T ko (67 + 7 * lev) lev c p po g k) (hNG : ∀ p (k : Nat), POK T e p → (k : Int) < T 313 p → NXG nx T c p k g) (h9 : at9 < 28 ∧ (at9 < c ∨ 24 ≤ at9)) (hto : TOO ko lev to) (hNt : NumsAt A to) (hd : 6 ≤ d) :
    GLX d nx A V T ko lev c at9 to g e := by
  intro v s t l first par z Q h hG hg hl9 hCH hCR hpar hb hR hO hE
  obtain ⟨_, h1⟩ := goes_s h
  rw [hG.1 309 l (by omega)] at h1
  have hFr := XF_frame hX lev hlev.1 hlev.2
  have hto0 : 0 < to := by unfold TOO at hto; omega
  have hUN : ∀ o j, UNC ko o j → o ≠ 67 + 7 * lev := fun o j q => by unfold UNC at q; omega
  refine x_goList (by omega) hX hlev ((hR.1 _ _ (by unfold UNC; omega)).trans (hL.2.2.2 lev hlev.1 hlev.2)) ?_
  have q : ∀ o j, o ≠ 67 + 7 * lev → (sset (sset (sset (sset (sset v (67 + 7 * lev) 0 first) (67 + 7 * lev) 1 0) (67 + 7 * lev) 2 0) (67 + 7 * lev) 3 par) (67 + 7 * lev) 4 g) o j = v o j := fun o j q => by
    rw [sset_1 q, sset_1 q, sset_1 q, sset_1 q, sset_1 q]
  have x1 : XG ko lev to v (sset (sset (sset (sset (sset v (67 + 7 * lev) 0 first) (67 + 7 * lev) 1 0) (67 + 7 * lev) 2 0) (67 + 7 * lev) 3 par) (67 + 7 * lev) 4 g) := fun o j q2 => q o j (fun z => q2 (Or.inr (Or.inr (Or.inr (Or.inr (by omega))))))
  refine lh_step hX hFr hNt (by omega) (by omega) hto0 ?_
  refine x_goOn (by omega) ?_
  refine listx hX hKp hko hlev hT hc hN hNG h9 hto hNt hpar hd 200 100 60 _ first 0 _ s 0 0 h1 hCH hCR ⟨?_, ?_, ?_, ?_, ?_⟩ (hR.veq (fun o j q2 => q o j (hUN o j q2)) (q _ _ (by omega)) (q _ _ (by omega)) (fun n => q _ _ (by omega))) hG hg (OUTR.eq (fun q => (hb q).2) hO (fun j => ⟨q _ _ (by unfold TOO at hto; omega), q _ _ (by unfold TOO at hto; omega)⟩) (fun _ _ _ => rfl)) hb (by omega) (by omega) (by omega) (by omega) (fun v' k1 k2 k3 => hE v' k1 k2 (x1.trans k3))
  · rw [sset_2 (by omega), sset_2 (by omega), sset_2 (by omega), sset_2 (by omega), sset_e]
  · rw [sset_2 (by omega), sset_2 (by omega), sset_2 (by omega), sset_e]
  · rw [sset_2 (by omega), sset_2 (by omega), sset_e]
  · rw [sset_2 (by omega), sset_e]
  · rw [sset_e]
theorem nxx_all {A : AHp} {V T : Sg} {ko : Int} (hX : XLAY A) (hKp : KeptAt A ko) (hko : 206 < ko ∧ ko < 250) (hT : TOK T) (hL : STL A V T ko) : ∀ (n d : Nat) (fo lev fr p po g : Int) (e k L : Nat), (0 ≤ g ∧ g ≤ 4) → (L : Int) = 4 * (4 - g) + e → 7 * L + k + 1 ≤ n → (0 ≤ fr ∧ fr < 24 ∧ fr + L ≤ 23 ∨ 24 ≤ fr ∧ fr < 28 ∧ L ≤ 23) → lev + L ≤ 19 → SCX A V T ko fo lev fr p po e → PR A V T e po p → (k : Int) < T 313 p → 5 * L + 7 ≤ d → NXK d (nextS n) A V T ko fo lev fr p po g k
  | 0, d, fo, lev, fr, p, po, g, e, k, L, _, _, h, _, _, _, _, _, _ => by omega
  | n + 1, d, fo, lev, fr, p, po, g, e, k, L, hg, hLe, hn9, hfr, hlL, hC, hPR, hk9, hd => by
    obtain ⟨_, _, hFr, hfo, _, hlev, hfl, hfr2, hPC, hPOK, _⟩ := id hC
    have hsz := hPOK.w.1.2.2.2.1
    have hc : ∀ q : Nat, q + 1 ≤ L → (0 ≤ childS fr ∧ childS fr < 24 ∧ childS fr + q ≤ 23 ∨ 24 ≤ childS fr ∧ childS fr < 28 ∧ q ≤ 23) ∧ (0 ≤ childS fr ∧ childS fr < 24) ∧ fr < 28 ∧ (fr < childS fr ∨ 24 ≤ fr) := fun q hq => by
      unfold childS
      split <;> omega
    have hto : TOO ko (lev + 1) (fo + 5) := by unfold TOO; omega
    have gok : ∀ (g' : Int) (e' q : Nat), q + 1 ≤ L → (0 ≤ g' ∧ g' ≤ 4) → (q : Int) = 4 * (4 - g') + e' → GOK (nextS n) T (childS fr) fr g' e' := fun g' e' q hq hg' he' => by
      obtain ⟨c1, c2, c3⟩ := hc q hq
      exact goes_ok hT c2 c3 (fun p' k' hP' hk' => nexts_ok hT n (childS fr) p' g' e' k' q hg' he' (by have := hP'.w.1.2.2.2.1; omega) c1 hP' hk')
    have glk : ∀ (g' : Int) (e' q : Nat), q + 1 ≤ L → (0 ≤ g' ∧ g' ≤ 4) → (q : Int) = 4 * (4 - g') + e' → GLX (d - 3) (nextS n) A V T ko (lev + 1) (childS fr) fr (fo + 5) g' e' := fun g' e' q hq hg' he' => by
      obtain ⟨c1, c2, c3⟩ := hc q hq
      refine glx hX hKp hko (by omega) hT hL c2 (fun p' po' k' hP' hPR' hk' => ?_) (fun p' k' hP' hk' => nexts_ok hT n (childS fr) p' g' e' k' q hg' he' (by have := hP'.w.1.2.2.2.1; omega) c1 hP' hk') c3 hto hFr.2.2.2.2.2.2 (by omega)
      have hsz' := hP'.w.1.2.2.2.1
      refine nxx_all hX hKp hko hT hL n (d - 3 - 2) (67 + 7 * (lev + 1)) (lev + 1) (childS fr) p' po' g' e' k' q hg' he' (by omega) c1 (by omega) ?_ hPR' hk' (by omega)
      exact ⟨hX, hKp, XF_frame hX (lev + 1) (by omega) (by omega), by omega, hko, by omega, Or.inl rfl, by omega, hPR'.c, hP', hT⟩
    refine nxk_ok (n := n) (so := V (hp A po 0) k) (o := hp A (V (hp A po 0) k) 0) ⟨hC, hk9, rfl, rfl⟩ ⟨by omega, fun m em => nxx_all hX hKp hko hT hL n d fo lev fr p po g e m L hg hLe (by omega) hfr hlL hC hPR (by omega) hd, fun m em => nexts_ok hT n fr p g e m L hg hLe (by omega) hfr hPOK (by omega)⟩ hPR hL (by omega) hg (fun q => by omega) (fun e' ee => glk g e' (L - 1) (by omega) hg (by omega)) (fun h4 => glk (g + 1) 3 (4 * (4 - (g + 1)) + 3).toNat (by omega) (by omega) (by omega)) (fun s n1 k1 k2 k3 k4 k5 => ?_)
    exact inner_ok hfr2 hT hPOK (fun e' ee => gok g e' (L - 1) (by omega) hg (by omega)) (fun h4 => gok (g + 1) 3 (4 * (4 - (g + 1)) + 3).toNat (by omega) (by omega) (by omega)) hg k1 k2 k3 k4 k5
/-- a line's list, from the top -/
theorem top_glx {A : AHp} {V T : Sg} {ko : Int} {n d : Nat} (hX : XLAY A) (hKp : KeptAt A ko) (hko : 206 < ko ∧ ko < 250) (hT : TOK T) (hL : STL A V T ko) (hn9 : 139 ≤ n) (hd : 110 ≤ d) : GLX d (nextS n) A V T ko 0 0 (-1) (ko + 3) 0 3 := by
  refine glx hX hKp hko (by omega) hT hL (by omega) (fun p po k hP hPR hk => ?_) (fun p k hP hk => nexts_ok hT n 0 p 0 3 k 19 (by omega) (by omega) (by have := hP.w.1.2.2.2.1; omega) (by omega) hP hk) (by omega) (Or.inl rfl) hKp.2.2.2.1.2 (by omega)
  have hsz := hP.w.1.2.2.2.1
  exact nxx_all hX hKp hko hT hL n (d - 2) _ 0 0 p po 0 3 k 19 (by omega) (by omega) (by omega) (by omega) (by omega) ⟨hX, hKp, XF_frame hX 0 (by omega) (by omega), by omega, hko, by omega, Or.inl rfl, by omega, hPR.c, hP, hT⟩ hPR hk (by omega)
