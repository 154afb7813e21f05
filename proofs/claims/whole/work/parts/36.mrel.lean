/-! ===== the model's row of numbers ===== -/
def MSub (g : Nat → Int) (i : Nat) (S : Sb) : Prop := g (20 + 43 * i) = S.1 ∧ g (20 + 43 * i + 1) = S.2.1 ∧ g (20 + 43 * i + 2) = (S.2.2.length : Int) ∧ ∀ j, j < S.2.2.length → g (20 + 43 * i + 3 + j) = S.2.2.getD j 0
def MFilm (g : Nat → Int) (F : Fm) : Prop := g 0 = (F.2.2.length : Int) ∧ (∀ i, i < 6 → g (1 + i) = F.1 i) ∧ g 7 = (F.2.1.length : Int) ∧ (∀ i, i < F.2.1.length → g (8 + i) = F.2.1.getD i 0) ∧ ∀ i, i < F.2.2.length → MSub g i (F.2.2.getD i dS)
theorem MSub.of {g g' : Nat → Int} {i i' : Nat} {S : Sb} (h : MSub g i S) (hl : S.2.2.length ≤ 40) (e : ∀ w, w < 43 → g' (20 + 43 * i' + w) = g (20 + 43 * i + w)) : MSub g' i' S :=
  ⟨(e 0 (by omega)).trans h.1, (e 1 (by omega)).trans h.2.1, (e 2 (by omega)).trans h.2.2.1, fun j hj => by
    have := e (3 + j) (by omega)
    rw [← Nat.add_assoc, ← Nat.add_assoc] at this
    exact this.trans (h.2.2.2 j hj)⟩
theorem MFilm.of {g g' : Nat → Int} {F : Fm} (h : MFilm g F) (hO : FOk F) (e : ∀ j, j < 880 → g' j = g j) : MFilm g' F := by
  obtain ⟨h1, h2, h3, h4, h5⟩ := h
  have hc := hO.2.1.1
  have hl := hO.2.2.1
  refine ⟨(e 0 (by omega)).trans h1, fun i hi => (e _ (by omega)).trans (h2 i hi), (e 7 (by omega)).trans h3, fun i hi => (e _ (by omega)).trans (h4 i hi), fun i hi => ?_⟩
  exact (h5 i hi).of (hO.2.2.2.1 i hi).2.2.2.2.1 (fun w hw => e _ (by omega))
/-- only the row of numbers changed -/
def FrM (G G' : Wd) : Prop := ∀ f a i, ¬ (f = 20 ∧ a = 0) → G' f a i = G f a i
theorem FrM.rf {G : Wd} : FrM G G := fun _ _ _ _ => rfl
theorem FrM.tr {G G1 G2 : Wd} (h : FrM G G1) (h2 : FrM G1 G2) : FrM G G2 := fun f a i hn => (h2 f a i hn).trans (h f a i hn)
theorem FrM.up {G G1 : Wd} (h : FrM G G1) {i : Nat} {v : Int} : FrM G (gup G1 20 0 i v) := fun f a i2 hn => by
  rw [gup_eq, if_neg (by omega)]
  exact h f a i2 hn
/-- behind a begin: the film now, and what is kept -/
def MRest (G : Wd) (A : Ast) : Prop := G 27 0 0 = (A.2.1.length : Int) ∧ (∀ k, k < A.2.1.length → MFilm (fun i => G 23 0 (880 * (A.2.1.length - 1 - k) + i)) (A.2.1.getD k dF)) ∧ G 28 0 0 = (A.2.2.1.length : Int) ∧ (∀ i, i < A.2.2.1.length → G 24 0 i = A.2.2.1.getD i 0) ∧ ((G 35 0 0 = 0 ∧ A.2.2.2.1 = -6 ∧ A.2.2.2.2.1 = -6 ∧ A.2.2.2.2.2 = -6) ∨ (G 35 0 0 = 1 ∧ G 26 0 0 = A.2.2.2.1 ∧ G 26 0 1 = A.2.2.2.2.1 ∧ G 26 0 2 = A.2.2.2.2.2))
def MRel (G : Wd) (A : Ast) : Prop := MFilm (G 20 0) A.1 ∧ MRest G A
/-- the film F now, the film B kept aside for a record -/
def MMid (G : Wd) (A : Ast) (F : Fm) : Prop := MFilm (G 20 0) F ∧ MFilm (G 22 0) A.1 ∧ MRest G A
theorem MRest.of {G G' : Wd} {A : Ast} (h : MRest G A) (e : ∀ f i, f = 23 ∨ f = 24 ∨ f = 26 ∨ f = 27 ∨ f = 28 ∨ f = 35 → G' f 0 i = G f 0 i) : MRest G' A := by
  obtain ⟨h1, h2, h3, h4, h5⟩ := h
  refine ⟨(e 27 0 (by omega)).trans h1, fun k hk => ?_, (e 28 0 (by omega)).trans h3, fun i hi => (e 24 i (by omega)).trans (h4 i hi), ?_⟩
  · have := h2 k hk
    rw [show (fun i => G' 23 0 (880 * (A.2.1.length - 1 - k) + i)) = (fun i => G 23 0 (880 * (A.2.1.length - 1 - k) + i)) from funext fun i => e 23 _ (by omega)]
    exact this
  · rw [e 35 0 (by omega), e 26 0 (by omega), e 26 1 (by omega), e 26 2 (by omega)]
    exact h5
theorem MRest.fr {G G' : Wd} {A : Ast} (h : MRest G A) (hf : FrM G G') : MRest G' A := h.of (fun f i hq => hf f 0 i (by omega))
theorem MMid.fr {G G' : Wd} {A : Ast} {F F' : Fm} (h : MMid G A F) (hf : FrM G G') (hF : MFilm (G' 20 0) F') : MMid G' A F' :=
  ⟨hF, by rw [show G' 22 0 = G 22 0 from funext fun i => hf 22 0 i (by omega)]; exact h.2.1, h.2.2.fr hf⟩
/-- a query's leavings: only the rows put aside, and the parser's own fields -/
def FrQ (G G' : Wd) : Prop := ∀ f a i, ¬ (a = 0 ∧ (f = 21 ∨ f = 25 ∨ (29 ≤ f ∧ f ≤ 34))) → G' f a i = G f a i
theorem FrQ.rf {G : Wd} : FrQ G G := fun _ _ _ _ => rfl
theorem FrQ.tr {G G1 G2 : Wd} (h : FrQ G G1) (h2 : FrQ G1 G2) : FrQ G G2 := fun f a i hn => (h2 f a i hn).trans (h f a i hn)
theorem FrQ.rel {G G' : Wd} {A : Ast} (h : FrQ G G') (hM : MRel G A) : MRel G' A :=
  ⟨by rw [show G' 20 0 = G 20 0 from funext fun i => h 20 0 i (by omega)]; exact hM.1, hM.2.of (fun f i hq => h f 0 i (by omega))⟩
theorem FrQ.cfx {G G' : Wd} (h : FrQ G G') : CFx G G' := fun f a i hf => h f a i (by omega)
theorem FrM.cfx {G G' : Wd} (h : FrM G G') : CFx G G' := fun f a i hf => h f a i (by omega)
theorem CFx.rf {G : Wd} : CFx G G := fun _ _ _ _ => rfl
theorem CFx.tr {G G1 G2 : Wd} (h : CFx G G1) (h2 : CFx G1 G2) : CFx G G2 := fun f a i hn => (h2 f a i hn).trans (h f a i hn)
theorem gcp_step (G : Wd) (f a f0 a0 sp dp k : Nat) (h : ¬ (f0 = f ∧ a0 = a ∧ dp ≤ sp + k ∧ sp + k < dp + k)) : gup (gcp G f a f0 a0 sp dp k) f a (dp + k) (gcp G f a f0 a0 sp dp k f0 a0 (sp + k)) = gcp G f a f0 a0 sp dp (k + 1) := by
  funext f' a' i'
  rw [gup_eq, gcp_eq, gcp_eq, gcp_eq, if_neg h]
  by_cases hc : f' = f ∧ a' = a ∧ i' = dp + k
  · obtain ⟨rfl, rfl, rfl⟩ := hc
    rw [if_pos ⟨rfl, rfl, rfl⟩, if_pos ⟨rfl, rfl, by omega, by omega⟩, show dp + k - dp = k by omega]
  · rw [if_neg hc]
    by_cases hd : f' = f ∧ a' = a ∧ dp ≤ i' ∧ i' < dp + k
    · rw [if_pos hd, if_pos ⟨hd.1, hd.2.1, hd.2.2.1, by omega⟩]
    · rw [if_neg hd, if_neg (by omega)]
theorem gcp_0 (G : Wd) (f a f0 a0 sp dp : Nat) : gcp G f a f0 a0 sp dp 0 = G := by
  funext f' a' i'
  rw [gcp_eq, if_neg (by omega)]
/-- a row opened before place p: n rows stood -/
def MOpen (G G' : Wd) (p n : Nat) : Prop := FrM G G' ∧ G' 20 0 0 = n + 1 ∧ ∀ j, j ≠ 0 → ¬ (20 + 43 * p ≤ j ∧ j < 20 + 43 * p + 43) → G' 20 0 j = if 20 + 43 * p + 43 ≤ j ∧ j < 20 + 43 * n + 43 then G 20 0 (j - 43) else G 20 0 j
def MClose (G G' : Wd) (p n : Nat) : Prop := FrM G G' ∧ G' 20 0 0 = n - 1 ∧ ∀ j, j ≠ 0 → ¬ (20 + 43 * (n - 1) ≤ j ∧ j < 20 + 43 * (n - 1) + 43) → G' 20 0 j = if 20 + 43 * p ≤ j ∧ j < 20 + 43 * (n - 1) then G 20 0 (j + 43) else G 20 0 j
theorem MClose.film {G G' : Wd} {p : Nat} {F : Fm} (h : MClose G G' p F.2.2.length) (hF : MFilm (G 20 0) F) (hO : FOk F) (hp : p < F.2.2.length) : MFilm (G' 20 0) (F.1, F.2.1, F.2.2.eraseIdx p) := by
  obtain ⟨-, h0, h1⟩ := h
  obtain ⟨g1, g2, g3, g4, g5⟩ := hF
  have hc := hO.2.1.1
  have low : ∀ j, 1 ≤ j → j < 20 → G' 20 0 j = G 20 0 j := fun j a b => by rw [h1 j (by omega) (by omega), if_neg (by omega)]
  refine ⟨?_, fun i hi => (low _ (by omega) (by omega)).trans (g2 i hi), (low 7 (by omega) (by omega)).trans g3, fun i hi => (low _ (by omega) (by dsimp only at hi; omega)).trans (g4 i hi), fun i hi => ?_⟩
  · rw [h0]
    dsimp only
    rw [delL_len hp]
    omega
  · dsimp only at hi ⊢
    rw [delL_len hp] at hi
    by_cases q : i < p
    · rw [delL_lt q]
      exact (g5 i (by omega)).of (hO.2.2.2.1 i (by omega)).2.2.2.2.1 (fun w hw => by rw [h1 _ (by omega) (by omega), if_neg (by omega)])
    · rw [delL_ge (by omega)]
      exact (g5 (i + 1) (by omega)).of (hO.2.2.2.1 (i + 1) (by omega)).2.2.2.2.1 (fun w hw => by rw [h1 _ (by omega) (by omega), if_pos (by omega), show 20 + 43 * i + w + 43 = 20 + 43 * (i + 1) + w by omega])
theorem MOpen.film {G G1 G2 : Wd} {p : Nat} {F : Fm} {S : Sb} (h : MOpen G G1 p F.2.2.length) (hF : MFilm (G 20 0) F) (hO : FOk F) (hp : p ≤ F.2.2.length) (hS : MSub (G2 20 0) p S) (hk : ∀ j, ¬ (20 + 43 * p ≤ j ∧ j < 20 + 43 * p + 43) → G2 20 0 j = G1 20 0 j) : MFilm (G2 20 0) (F.1, F.2.1, insL F.2.2 p S) := by
  obtain ⟨-, h0, h1⟩ := h
  obtain ⟨g1, g2, g3, g4, g5⟩ := hF
  have hc := hO.2.1.1
  have low : ∀ j, 1 ≤ j → j < 20 → G2 20 0 j = G 20 0 j := fun j a b => by rw [hk j (by omega), h1 j (by omega) (by omega), if_neg (by omega)]
  refine ⟨?_, fun i hi => (low _ (by omega) (by omega)).trans (g2 i hi), (low 7 (by omega) (by omega)).trans g3, fun i hi => (low _ (by omega) (by dsimp only at hi; omega)).trans (g4 i hi), fun i hi => ?_⟩
  · rw [hk 0 (by omega), h0]
    dsimp only
    rw [insL_len hp]
    omega
  · dsimp only at hi ⊢
    rw [insL_len hp] at hi
    rcases Nat.lt_trichotomy i p with q | q | q
    · rw [insL_lt hp q]
      exact (g5 i (by omega)).of (hO.2.2.2.1 i (by omega)).2.2.2.2.1 (fun w hw => by rw [hk _ (by omega), h1 _ (by omega) (by omega), if_neg (by omega)])
    · subst q
      rw [insL_eq hp]
      exact hS
    · rw [insL_gt hp q]
      exact (g5 (i - 1) (by omega)).of (hO.2.2.2.1 (i - 1) (by omega)).2.2.2.2.1 (fun w hw => by rw [hk _ (by omega), h1 _ (by omega) (by omega), if_pos (by omega), show 20 + 43 * i + w - 43 = 20 + 43 * (i - 1) + w by omega])
/-- one row changed -/
theorem mfilm_set {g g' : Nat → Int} {i : Nat} {F : Fm} {S : Sb} (hF : MFilm g F) (hO : FOk F) (hi : i < F.2.2.length) (hS : MSub g' i S) (hk : ∀ j, ¬ (20 + 43 * i ≤ j ∧ j < 20 + 43 * i + 43) → g' j = g j) : MFilm g' (F.1, F.2.1, F.2.2.set i S) := by
  obtain ⟨g1, g2, g3, g4, g5⟩ := hF
  have hc := hO.2.1.1
  refine ⟨?_, fun j hj => (hk _ (by omega)).trans (g2 j hj), (hk 7 (by omega)).trans g3, fun j hj => (hk _ (by dsimp only at hj; omega)).trans (g4 j hj), fun j hj => ?_⟩
  · rw [hk 0 (by omega), g1]
    dsimp only
    rw [List.length_set]
  · dsimp only at hj ⊢
    rw [List.length_set] at hj
    by_cases q : j = i
    · subst q
      rw [setL_eq hi]
      exact hS
    · rw [setL_ne q]
      exact (g5 j hj).of (hO.2.2.2.1 j hj).2.2.2.2.1 (fun w hw => hk _ (by omega))
/-- a record of the film that was -/
theorem mrec_rel {G G' : Wd} {A : Ast} {F : Fm} (h : MMid G A F) (hA : AOk A) (hs : G' 20 0 = G 20 0) (hn : G' 27 0 0 = min ((A.2.1.length : Int) + 1) 4) (hp : ∀ j, j < 880 * 3 → A.2.1.length = 4 → G' 23 0 j = G 23 0 (j + 880)) (hp2 : ∀ j, j < 880 * A.2.1.length → A.2.1.length < 4 → G' 23 0 j = G 23 0 j) (hp3 : ∀ j, j < 880 → G' 23 0 (880 * (min A.2.1.length 3) + j) = G 22 0 j) (ho : ∀ f i, f = 24 ∨ f = 26 ∨ f = 28 ∨ f = 35 → G' f 0 i = G f 0 i) : MRel G' (act A F) := by
  obtain ⟨h1, h2, h3, h4, h5, h6, h7⟩ := h
  have hl4 := hA.2.1
  refine ⟨by rw [hs]; exact h1, ?_, fun k hk => ?_, (ho 28 0 (by omega)).trans h5, fun i hi => (ho 24 i (by omega)).trans (h6 i hi), ?_⟩
  · rw [hn]
    show _ = (((recH A.2.1 A.1).length : Nat) : Int)
    rw [recH_len]
    omega
  · have hk2 : k < (recH A.2.1 A.1).length := hk
    have hlen : (recH A.2.1 A.1).length = min (A.2.1.length + 1) 4 := recH_len _ _
    show MFilm (fun i => G' 23 0 (880 * ((recH A.2.1 A.1).length - 1 - k) + i)) ((recH A.2.1 A.1).getD k dF)
    rw [hlen] at hk2 ⊢
    cases k with
    | zero =>
      rw [recH_0]
      refine h2.of hA.1 (fun j hj => ?_)
      try dsimp only
      rw [show min (A.2.1.length + 1) 4 - 1 - 0 = min A.2.1.length 3 by omega]
      exact hp3 j hj
    | succ k =>
      rw [recH_s _ _ (by omega)]
      refine (h4 k (by omega)).of (hA.2.2.1 k (by omega)) (fun j hj => ?_)
      try dsimp only
      by_cases q : A.2.1.length = 4
      · rw [hp _ (by omega) q]
        congr 1
        omega
      · rw [hp2 _ (by omega) (by omega)]
        congr 1
        omega
  · rw [ho 35 0 (by omega), ho 26 0 (by omega), ho 26 1 (by omega), ho 26 2 (by omega)]
    exact h7
