/-! ===== split, join, times ===== -/
def ovr (G W : Wd) (k : Nat) : Wd := fun f a j => if 5 ≤ f ∧ f ≤ 8 ∧ a = k then W f a j else G f a j
theorem ovr_t {G W : Wd} {k f j : Nat} (h : 5 ≤ f) (h2 : f ≤ 8) : ovr G W k f k j = W f k j := if_pos ⟨h, h2, rfl⟩
theorem ovr_f {G W : Wd} {k f a j : Nat} (h : ¬ (5 ≤ f ∧ f ≤ 8 ∧ a = k)) : ovr G W k f a j = G f a j := if_neg h
theorem split_film {G G4 W : Wd} {q i : Nat} {F : Fm} {S1 S2 : Sb} (h : RowsOpen G G4 q (i + 1) F.2.2.length) (hF : FilmIs G q F) (hi : i < F.2.2.length) (hn : F.2.2.length < 20) (h1 : SubIs W (G4 4 q i).toNat S1) (h2 : SubIs W (G4 4 q (i + 1)).toNat S2) (gf : ∀ f a j, ¬ (5 ≤ f ∧ f ≤ 8 ∧ (a = (G4 4 q i).toNat ∨ a = (G4 4 q (i + 1)).toNat)) → W f a j = G4 f a j) : FilmIs W q (F.1, F.2.1, insL (F.2.2.set i S1) (i + 1) S2) ∧ FrF q G W := by
  have ei : G4 4 q i = G 4 q i := h.2.1 i (by omega)
  have hbi := hF.1.1 i (by omega)
  have hset := film_set (G1 := ovr G W (G4 4 q i).toNat) hF (by omega) hi (S := S1) (by
    rw [← ei]
    exact h1.of (fun f j h5 h8 => ovr_t h5 h8)) (fun f a j hn2 => ovr_f (by rw [ei]; exact hn2))
  have hop : RowsOpen (ovr G W (G4 4 q i).toNat) (ovr G4 W (G4 4 q i).toNat) q (i + 1) F.2.2.length := by
    obtain ⟨a0, a1, a2, a3, a4, a5⟩ := h
    have e4 : ∀ (H : Wd) (j : Nat), ovr H W (G4 4 q i).toNat 4 q j = H 4 q j := fun H j => ovr_f (by omega)
    refine ⟨(ovr_f (by omega)).trans a0, fun j hj => by rw [e4, e4]; exact a1 j hj, by rw [e4, e4]; exact a2, fun j g1 g2 => by rw [e4, e4]; exact a3 j g1 g2, fun j g1 => by rw [e4, e4]; exact a4 j g1, fun f a j hn2 => ?_⟩
    unfold ovr
    split
    · rfl
    · exact a5 f a j hn2
  have hl : F.2.2.length = (F.2.2.set i S1).length := by rw [List.length_set]
  have e4 : ovr G4 W (G4 4 q i).toNat 4 q (i + 1) = G4 4 q (i + 1) := ovr_f (by omega)
  have hfin := RowsOpen.film (F := (F.1, F.2.1, F.2.2.set i S1)) (G2 := W) (S := S2) (by dsimp only; rw [← hl]; exact hop) hset.1 (by dsimp only; omega) (by dsimp only; omega) (by rw [e4]; exact h2) (fun f a j hn2 => by
    rw [e4] at hn2
    unfold ovr
    split
    · rfl
    · exact gf f a j (by omega))
  exact ⟨hfin.1, hset.2.tr hfin.2⟩
def splF (F : Fm) (i b : Nat) : Fm :=
  (F.1, F.2.1, insL (F.2.2.set i ((F.2.2.getD i dS).1, (F.2.2.getD i dS).1 + max 1 (min (((F.2.2.getD i dS).2.1 - (F.2.2.getD i dS).1 - F.1 1) * b / ((F.2.2.getD i dS).2.2.length - 1)) ((F.2.2.getD i dS).2.1 - (F.2.2.getD i dS).1 - F.1 1 - 1)), (F.2.2.getD i dS).2.2.take b)) (i + 1)
    ((F.2.2.getD i dS).1 + max 1 (min (((F.2.2.getD i dS).2.1 - (F.2.2.getD i dS).1 - F.1 1) * b / ((F.2.2.getD i dS).2.2.length - 1)) ((F.2.2.getD i dS).2.1 - (F.2.2.getD i dS).1 - F.1 1 - 1)) + F.1 1, (F.2.2.getD i dS).2.1, (F.2.2.getD i dS).2.2.drop (b + 1)))
def joiS (S T : Sb) : Sb := (S.1, T.2.1, S.2.2 ++ 32 :: T.2.2)
def joiF (F : Fm) (i : Nat) : Fm := (F.1, F.2.1, (F.2.2.set i (joiS (F.2.2.getD i dS) (F.2.2.getD (i + 1) dS))).eraseIdx (i + 1))
def mixL (L M : List Sb) : Nat → List Sb
  | 0 => L
  | j + 1 => (mixL L M j).set j (M.getD j dS)
theorem mixL_len (L M : List Sb) (j : Nat) : (mixL L M j).length = L.length := by
  induction j with
  | zero => rfl
  | succ j ih => show ((mixL L M j).set j _).length = _; rw [List.length_set, ih]
theorem mixL_hi (L M : List Sb) {i j : Nat} (h : j ≤ i) : (mixL L M j).getD i dS = L.getD i dS := by
  induction j with
  | zero => rfl
  | succ j ih => show ((mixL L M j).set j _).getD i dS = _; rw [setL_ne (by omega), ih (by omega)]
theorem mixL_lo (L M : List Sb) {i j : Nat} (h : i < j) (hi : i < L.length) : (mixL L M j).getD i dS = M.getD i dS := by
  induction j with
  | zero => omega
  | succ j ih =>
    show ((mixL L M j).set j _).getD i dS = _
    rcases Nat.lt_succ_iff_lt_or_eq.mp h with q | rfl
    · rw [setL_ne (by omega), ih q]
    · rw [setL_eq (by rw [mixL_len]; exact hi)]
theorem mixL_end {L M : List Sb} (h : L.length = M.length) : mixL L M L.length = M :=
  ext_d dS (by rw [mixL_len, h]) (fun i hi => mixL_lo L M (by rwa [mixL_len] at hi) (by rwa [mixL_len] at hi))
