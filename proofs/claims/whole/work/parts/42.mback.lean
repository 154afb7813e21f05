/-! ===== the model: put back, values, gaps ===== -/
theorem back_rel {G G' : Wd} {A : Ast} (hR : MRel G A) (hA : AOk A) (h20 : ∀ j, j < 880 → G' 20 0 j = G 20 0 j) (ho : ∀ f a i, ¬ (a = 0 ∧ (f = 20 ∨ f = 21 ∨ f = 25)) → G' f a i = G f a i) : MRel G' A ∧ CFx G G' :=
  ⟨⟨hR.1.of hA.1 h20, hR.2.of (fun f i hq => ho f 0 i (by omega))⟩, fun f a i hf => ho f a i (by omega)⟩
theorem mval {g g' : Nat → Int} {F : Fm} {k : Nat} {v : Int} (h : MFilm g F) (hO : FOk F) (hk : k < 6) (hv : g' (1 + k) = v) (e : ∀ j, j < 880 → j ≠ 1 + k → g' j = g j) : MFilm g' (updV1 F.1 k v, F.2.1, F.2.2) := by
  obtain ⟨h1, h2, h3, h4, h5⟩ := h
  have hc := hO.2.1.1
  have hl := hO.2.2.1
  refine ⟨(e 0 (by omega) (by omega)).trans h1, fun i hi => ?_, (e 7 (by omega) (by omega)).trans h3, fun i hi => (e _ (by dsimp only at hi; omega) (by omega)).trans (h4 i hi), fun i hi => ?_⟩
  · unfold updV1
    dsimp only
    by_cases q : i = k
    · subst q
      rw [if_pos rfl]
      exact hv
    · rw [if_neg q]
      exact (e _ (by omega) (by omega)).trans (h2 i hi)
  · dsimp only at hi
    exact (h5 i hi).of (hO.2.2.2.1 i hi).2.2.2.2.1 (fun w hw => e _ (by omega) (by omega))
def gF (F : Fm) (g : Int) : Fm := (updV1 F.1 1 g, F.2.1, F.2.2)
theorem gF_ok {F : Fm} {g : Int} (h : FOk F) (hg : 0 ≤ g ∧ g ≤ 20) : FOk (gF F g) := by
  obtain ⟨⟨h0, h1, h2⟩, h3, h4⟩ := h
  exact ⟨⟨h0, hg, h2⟩, h3, h4⟩
theorem gF_seatN (F : Fm) (g h : Int) (i : Nat) : seatN (gF F g) h i = seatN F h i := by
  induction i with
  | zero => rfl
  | succ i ih =>
    rw [seatN_s, seatN_s, ih]
    rfl
theorem gF_unr (F : Fm) (g y : Int) : unr (seatF (gF F g) ((gF F g).1 1)) y = unr (seatF F g) y := by
  have e1 : (gF F g).1 1 = g := rfl
  have e2 : (seatF (gF F g) g).2.2 = (seatF F g).2.2 := gF_seatN F g g F.2.2.length
  rw [e1]
  unfold unr
  rw [e2]
