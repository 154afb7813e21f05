/-! ===== the model: what calls leave ===== -/
def FW (F : Fm) : Prop := F.2.1.length ≤ 12 ∧ ∀ i, i < F.2.2.length → (F.2.2.getD i dS).2.2.length ≤ 40
theorem FOk.W {F : Fm} (h : FOk F) : FW F := ⟨h.2.1.1, fun i hi => (h.2.2.2.1 i hi).2.2.2.2.1⟩
theorem mfilm_setw {g g' : Nat → Int} {i : Nat} {F : Fm} {S : Sb} (hF : MFilm g F) (hO : FW F) (hi : i < F.2.2.length) (hS : MSub g' i S) (hk : ∀ j, ¬ (20 + 43 * i ≤ j ∧ j < 20 + 43 * i + 43) → g' j = g j) : MFilm g' (F.1, F.2.1, F.2.2.set i S) := by
  obtain ⟨g1, g2, g3, g4, g5⟩ := hF
  have hc := hO.1
  refine ⟨?_, fun j hj => (hk _ (by omega)).trans (g2 j hj), (hk 7 (by omega)).trans g3, fun j hj => (hk _ (by dsimp only at hj; omega)).trans (g4 j hj), fun j hj => ?_⟩
  · rw [hk 0 (by omega), g1]
    dsimp only
    rw [List.length_set]
  · dsimp only at hj ⊢
    rw [List.length_set] at hj
    by_cases q : j = i
    · subst q
      rw [setL_eq hi]
      exact hS
    · rw [setL_ne q]
      exact (g5 j hj).of (hO.2 j hj) (fun w hw => hk _ (by omega))
theorem MClose.filmw {G G' : Wd} {p : Nat} {F : Fm} (h : MClose G G' p F.2.2.length) (hF : MFilm (G 20 0) F) (hO : FW F) (hp : p < F.2.2.length) : MFilm (G' 20 0) (F.1, F.2.1, F.2.2.eraseIdx p) := by
  obtain ⟨-, h0, h1⟩ := h
  obtain ⟨g1, g2, g3, g4, g5⟩ := hF
  have hc := hO.1
  have low : ∀ j, 1 ≤ j → j < 20 → G' 20 0 j = G 20 0 j := fun j a b => by rw [h1 j (by omega) (by omega), if_neg (by omega)]
  refine ⟨?_, fun i hi => (low _ (by omega) (by omega)).trans (g2 i hi), (low 7 (by omega) (by omega)).trans g3, fun i hi => (low _ (by omega) (by dsimp only at hi; omega)).trans (g4 i hi), fun i hi => ?_⟩
  · rw [h0]
    dsimp only
    rw [delL_len hp]
    omega
  · dsimp only at hi ⊢
    rw [delL_len hp] at hi
    by_cases q : i < p
    · rw [delL_lt q]
      exact (g5 i (by omega)).of (hO.2 i (by omega)) (fun w hw => by rw [h1 _ (by omega) (by omega), if_neg (by omega)])
    · rw [delL_ge (by omega)]
      exact (g5 (i + 1) (by omega)).of (hO.2 (i + 1) (by omega)) (fun w hw => by rw [h1 _ (by omega) (by omega), if_pos (by omega), show 20 + 43 * i + w + 43 = 20 + 43 * (i + 1) + w by omega])
theorem msplit {G G1 G2 : Wd} {i : Nat} {F : Fm} {S T : Sb} (h : MOpen G G1 (i + 1) F.2.2.length) (hF : MFilm (G 20 0) F) (hO : FW F) (hi : i < F.2.2.length) (hS : MSub (G2 20 0) i S) (hT : MSub (G2 20 0) (i + 1) T) (hk : ∀ j, ¬ (20 + 43 * i ≤ j ∧ j < 20 + 43 * i + 86) → G2 20 0 j = G1 20 0 j) : MFilm (G2 20 0) (F.1, F.2.1, insL (F.2.2.set i S) (i + 1) T) := by
  obtain ⟨-, h0, h1⟩ := h
  obtain ⟨g1, g2, g3, g4, g5⟩ := hF
  have hc := hO.1
  have low : ∀ j, 1 ≤ j → j < 20 → G2 20 0 j = G 20 0 j := fun j a b => by rw [hk j (by omega), h1 j (by omega) (by omega), if_neg (by omega)]
  have hp : i + 1 ≤ (F.2.2.set i S).length := by rw [List.length_set]; omega
  refine ⟨?_, fun j hj => (low _ (by omega) (by omega)).trans (g2 j hj), (low 7 (by omega) (by omega)).trans g3, fun j hj => (low _ (by omega) (by dsimp only at hj; omega)).trans (g4 j hj), fun j hj => ?_⟩
  · rw [hk 0 (by omega), h0]
    dsimp only
    rw [insL_len hp, List.length_set]
    omega
  · dsimp only at hj ⊢
    rw [insL_len hp, List.length_set] at hj
    rcases Nat.lt_trichotomy j (i + 1) with q | q | q
    · rw [insL_lt hp q]
      by_cases w : j = i
      · subst w
        rw [setL_eq hi]
        exact hS
      · rw [setL_ne w]
        exact (g5 j (by omega)).of (hO.2 j (by omega)) (fun w hw => by rw [hk _ (by omega), h1 _ (by omega) (by omega), if_neg (by omega)])
    · subst q
      rw [insL_eq hp]
      exact hT
    · rw [insL_gt hp q, setL_ne (by omega)]
      exact (g5 (j - 1) (by omega)).of (hO.2 (j - 1) (by omega)) (fun w hw => by rw [hk _ (by omega), h1 _ (by omega) (by omega), if_pos (by omega), show 20 + 43 * j + w - 43 = 20 + 43 * (j - 1) + w by omega])
theorem begins_mid {G G' : Wd} {A : Ast} (hR : MRel G A) (hA : AOk A) (h : G' = gcp G 22 0 20 0 0 0 880) : MMid G' A A.1 ∧ CFx G G' ∧ ∀ f i, f ≠ 22 → G' f 0 i = G f 0 i := by
  subst h
  have e : ∀ f a i, f ≠ 22 → gcp G 22 0 20 0 0 0 880 f a i = G f a i := fun f a i hf => by rw [gcp_eq, if_neg (by omega)]
  exact ⟨⟨hR.1.of hA.1 (fun j _ => e 20 0 j (by decide)), hR.1.of hA.1 (fun j hj => by rw [gcp_eq, if_pos ⟨rfl, rfl, by omega, by omega⟩, show 0 + (j - 0) = j by omega]), hR.2.of (fun f i hf => e f 0 i (by omega))⟩, fun f a i hf => e f a i (by omega), fun f i hf => e f 0 i hf⟩
theorem mscr_rel {G G' : Wd} {A : Ast} {sc : List Int} (hR : MRel G A) (h28 : G' 28 0 0 = (sc.length : Int)) (h24 : ∀ i, i < sc.length → G' 24 0 i = sc.getD i 0) (ho : ∀ f a i, f ≠ 24 → f ≠ 28 → G' f a i = G f a i) : MRel G' (A.1, A.2.1, sc, A.2.2.2) ∧ CFx G G' := by
  obtain ⟨h1, h2, h3, h4, h5, h6⟩ := hR
  refine ⟨⟨by rw [show G' 20 0 = G 20 0 from funext fun i => ho 20 0 i (by decide) (by decide)]; exact h1, (ho 27 0 0 (by decide) (by decide)).trans h2, fun k hk => ?_, h28, h24, ?_⟩, fun f a i hf => ho f a i (by omega) (by omega)⟩
  · rw [show (fun i => G' 23 0 (880 * (A.2.1.length - 1 - k) + i)) = (fun i => G 23 0 (880 * (A.2.1.length - 1 - k) + i)) from funext fun i => ho 23 0 _ (by decide) (by decide)]
    exact h3 k hk
  · rw [ho 35 0 0 (by decide) (by decide), ho 26 0 0 (by decide) (by decide), ho 26 0 1 (by decide) (by decide), ho 26 0 2 (by decide) (by decide)]
    exact h6
theorem mundo_rel {G G' : Wd} {A : Ast} (hR : MRel G A) (hA : AOk A) (h0 : A.2.1.length ≠ 0) (h27 : G' 27 0 0 = (A.2.1.length : Int) - 1) (h20 : ∀ j, j < 880 → G' 20 0 j = G 23 0 (880 * (A.2.1.length - 1) + j)) (ho : ∀ f a i, f ≠ 20 → f ≠ 27 → G' f a i = G f a i) : MRel G' (A.2.1.getD 0 dF, A.2.1.tail, A.2.2) ∧ CFx G G' := by
  obtain ⟨h1, h2, h3, h4, h5, h6⟩ := hR
  refine ⟨⟨(h3 0 (by omega)).of (hA.2.2.1 0 (by omega)) (fun j hj => h20 j hj), ?_, fun k hk => ?_, (ho 28 0 0 (by decide) (by decide)).trans h4, fun i hi => (ho 24 0 i (by decide) (by decide)).trans (h5 i hi), ?_⟩, fun f a i hf => ho f a i (by omega) (by omega)⟩
  · rw [h27]
    dsimp only
    rw [List.length_tail]
    omega
  · dsimp only at hk ⊢
    rw [List.length_tail] at hk ⊢
    have e : A.2.1.tail.getD k dF = A.2.1.getD (k + 1) dF := by
      rw [List.getD_eq_getElem?_getD, List.getD_eq_getElem?_getD, List.getElem?_tail]
    rw [e]
    refine (h3 (k + 1) (by omega)).of (hA.2.2.1 (k + 1) (by omega)) (fun j hj => ?_)
    try dsimp only
    rw [ho 23 0 _ (by decide) (by decide)]
    congr 1
    omega
  · rw [ho 35 0 0 (by decide) (by decide), ho 26 0 0 (by decide) (by decide), ho 26 0 1 (by decide) (by decide), ho 26 0 2 (by decide) (by decide)]
    exact h6
theorem mshift {g g' : Nat → Int} {F : Fm} {i : Nat} {f : Int} (hF : MFilm g F) (hO : FW F) (hs : ∀ j, i ≤ j → j < F.2.2.length → g' (20 + 43 * j) = g (20 + 43 * j) + f ∧ g' (20 + 43 * j + 1) = g (20 + 43 * j + 1) + f) (hk : ∀ q, (∀ j, i ≤ j → j < F.2.2.length → q ≠ 20 + 43 * j ∧ q ≠ 20 + 43 * j + 1) → g' q = g q) : MFilm g' (F.1, F.2.1, shL F.2.2 i f) := by
  obtain ⟨g1, g2, g3, g4, g5⟩ := hF
  have hc := hO.1
  refine ⟨?_, fun j hj => (hk _ (fun j2 _ _ => by omega)).trans (g2 j hj), (hk 7 (fun j2 _ _ => by omega)).trans g3, fun j hj => (hk _ (fun j2 _ _ => by dsimp only at hj; omega)).trans (g4 j hj), fun j hj => ?_⟩
  · rw [hk 0 (fun j2 _ _ => by omega), g1]
    dsimp only
    rw [shL_len]
  · dsimp only at hj ⊢
    rw [shL_len] at hj
    by_cases q : j < i
    · rw [shL_lt q hj]
      exact (g5 j hj).of (hO.2 j hj) (fun w hw => hk _ (fun j2 _ _ => by omega))
    · rw [shL_ge (by omega) hj]
      obtain ⟨t0, t1, t2, t3⟩ := g5 j hj
      have ht := hO.2 j hj
      obtain ⟨s0, s1⟩ := hs j (by omega) hj
      exact ⟨by rw [s0, t0], by rw [s1, t1], (hk _ (fun j2 _ _ => by omega)).trans t2, fun w hw => (hk _ (fun j2 _ _ => by dsimp only at hw; omega)).trans (t3 w hw)⟩
theorem mcutI {g g' : Nat → Int} {F : Fm} {p : Nat} {x : Int} (hF : MFilm g F) (hO : FW F) (hp : p ≤ F.2.1.length) (hn : F.2.1.length < 12) (h7 : g' 7 = (F.2.1.length : Int) + 1) (hx : g' (8 + p) = x) (hk : ∀ j, j ≠ 7 → j ≠ 8 + p → g' j = if 8 + p + 1 ≤ j ∧ j ≤ 8 + F.2.1.length then g (j - 1) else g j) : MFilm g' (F.1, insL F.2.1 p x, F.2.2) := by
  obtain ⟨g1, g2, g3, g4, g5⟩ := hF
  refine ⟨(hk 0 (by omega) (by omega)).trans ((if_neg (by omega)).trans g1), fun i hi => (hk _ (by omega) (by omega)).trans ((if_neg (by omega)).trans (g2 i hi)), ?_, fun i hi => ?_, fun i hi => ?_⟩
  · rw [h7]
    dsimp only
    rw [insL_len hp]
    omega
  · dsimp only at hi ⊢
    rw [insL_len hp] at hi
    rcases Nat.lt_trichotomy i p with q | q | q
    · rw [insL_lt hp q, hk _ (by omega) (by omega), if_neg (by omega)]
      exact g4 i (by omega)
    · subst q
      rw [insL_eq hp]
      exact hx
    · rw [insL_gt hp q, hk _ (by omega) (by omega), if_pos (by omega), show 8 + i - 1 = 8 + (i - 1) by omega]
      exact g4 (i - 1) (by omega)
  · exact (g5 i hi).of (hO.2 i hi) (fun w hw => (hk _ (by omega) (by omega)).trans (if_neg (by omega)))
theorem mcutD {g g' : Nat → Int} {F : Fm} {p : Nat} (hF : MFilm g F) (hO : FW F) (hp : p < F.2.1.length) (h7 : g' 7 = (F.2.1.length : Int) - 1) (hk : ∀ j, j ≠ 7 → (j < 8 + p ∨ 20 ≤ j) → g' j = g j) (hk2 : ∀ j, p ≤ j → j < F.2.1.length - 1 → g' (8 + j) = g (8 + j + 1)) : MFilm g' (F.1, F.2.1.eraseIdx p, F.2.2) := by
  obtain ⟨g1, g2, g3, g4, g5⟩ := hF
  refine ⟨(hk 0 (by omega) (by omega)).trans g1, fun i hi => (hk _ (by omega) (by omega)).trans (g2 i hi), ?_, fun i hi => ?_, fun i hi => ?_⟩
  · rw [h7]
    dsimp only
    rw [delL_len hp]
    omega
  · dsimp only at hi ⊢
    rw [delL_len hp] at hi
    by_cases q : i < p
    · rw [delL_lt q, hk _ (by omega) (by omega)]
      exact g4 i (by omega)
    · rw [delL_ge (by omega), hk2 i (by omega) (by omega), show 8 + i + 1 = 8 + (i + 1) by omega]
      exact g4 (i + 1) (by omega)
  · exact (g5 i hi).of (hO.2 i hi) (fun w hw => hk _ (by omega) (by omega))
