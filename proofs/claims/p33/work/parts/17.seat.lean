/-! ===== seating ===== -/
def FilmC (G : Wd) (q : Nat) (F : Fm) : Prop := (∀ i, i < 6 → G 3 q i = F.1 i) ∧ G 1 q 0 = (F.2.1.length : Int) ∧ ∀ i, i < F.2.1.length → G 2 q i = F.2.1.getD i 0
theorem FilmIs.C {G : Wd} {q : Nat} {F : Fm} (h : FilmIs G q F) : FilmC G q F := ⟨h.2.1, h.2.2.1, h.2.2.2.1⟩
theorem FilmC.of {G G' : Wd} {q : Nat} {F : Fm} (h : FilmC G q F) (e : ∀ f i, 1 ≤ f → f ≤ 3 → G' f q i = G f q i) : FilmC G' q F :=
  ⟨fun i hi => (e 3 i (by omega) (by omega)).trans (h.1 i hi), (e 1 0 (by omega) (by omega)).trans h.2.1, fun i hi => (e 2 i (by omega) (by omega)).trans (h.2.2 i hi)⟩
theorem ncut_b {L : List Int} (h : CuOk L) (f : Int) : ncut L f = -6 ∨ (1 ≤ ncut L f ∧ ncut L f ≤ 4999) := by
  rcases NC_ex L f with ⟨-, e⟩ | ⟨i, hi, e, -⟩
  · exact Or.inl e
  · have := h.2.1 i hi
    exact Or.inr (by omega)
noncomputable def st_e1 (F : Fm) (S : Sb) (hi : Int) : Int := @ite Int (S.2.1 - S.1 < need F S) (Classical.propDecidable _) (max S.2.1 (min (S.1 + need F S) hi)) S.2.1
noncomputable def st_s1 (F : Fm) (S : Sb) (lo hi : Int) : Int := @ite Int (st_e1 F S hi - S.1 < need F S) (Classical.propDecidable _) (min S.1 (max (st_e1 F S hi - need F S) lo)) S.1
noncomputable def st_e2 (F : Fm) (S : Sb) (lo hi : Int) : Int := @ite Int (ncut F.2.1 (st_e1 F S hi) ≠ -6 ∧ ((ncut F.2.1 (st_e1 F S hi) - st_e1 F S hi).natAbs : Int) ≤ F.1 5 ∧ ncut F.2.1 (st_e1 F S hi) ≤ hi ∧ ncut F.2.1 (st_e1 F S hi) - st_s1 F S lo hi ≥ need F S) (Classical.propDecidable _) (ncut F.2.1 (st_e1 F S hi)) (st_e1 F S hi)
theorem seat1_eq (F : Fm) (S : Sb) (lo hi : Int) : seat1 F S lo hi = (st_s1 F S lo hi, st_e2 F S lo hi, S.2.2) := rfl
theorem st_e1_t {F : Fm} {S : Sb} {hi : Int} (h : S.2.1 - S.1 < need F S) : st_e1 F S hi = max S.2.1 (min (S.1 + need F S) hi) := if_pos h
theorem st_e1_f {F : Fm} {S : Sb} {hi : Int} (h : ¬ S.2.1 - S.1 < need F S) : st_e1 F S hi = S.2.1 := if_neg h
theorem st_s1_t {F : Fm} {S : Sb} {lo hi : Int} (h : st_e1 F S hi - S.1 < need F S) : st_s1 F S lo hi = min S.1 (max (st_e1 F S hi - need F S) lo) := if_pos h
theorem st_s1_f {F : Fm} {S : Sb} {lo hi : Int} (h : ¬ st_e1 F S hi - S.1 < need F S) : st_s1 F S lo hi = S.1 := if_neg h
theorem st_e2_t {F : Fm} {S : Sb} {lo hi : Int} (h1 : ncut F.2.1 (st_e1 F S hi) ≠ -6) (h2 : ((ncut F.2.1 (st_e1 F S hi) - st_e1 F S hi).natAbs : Int) ≤ F.1 5) (h3 : ncut F.2.1 (st_e1 F S hi) ≤ hi) (h4 : need F S ≤ ncut F.2.1 (st_e1 F S hi) - st_s1 F S lo hi) : st_e2 F S lo hi = ncut F.2.1 (st_e1 F S hi) := if_pos ⟨h1, h2, h3, h4⟩
theorem st_e2_f {F : Fm} {S : Sb} {lo hi : Int} (h : ncut F.2.1 (st_e1 F S hi) = -6 ∨ F.1 5 < ((ncut F.2.1 (st_e1 F S hi) - st_e1 F S hi).natAbs : Int) ∨ hi < ncut F.2.1 (st_e1 F S hi) ∨ ncut F.2.1 (st_e1 F S hi) - st_s1 F S lo hi < need F S) : st_e2 F S lo hi = st_e1 F S hi := if_neg (by rintro ⟨h1, h2, h3, h4⟩; omega)
theorem st_e1_b {F : Fm} {S : Sb} {hi : Int} : S.2.1 ≤ st_e1 F S hi ∧ st_e1 F S hi ≤ max S.2.1 hi := by
  by_cases h : S.2.1 - S.1 < need F S
  · rw [st_e1_t h]; omega
  · rw [st_e1_f h]; omega
theorem st_s1_b {F : Fm} {S : Sb} {lo hi : Int} : st_s1 F S lo hi ≤ S.1 ∧ min S.1 lo ≤ st_s1 F S lo hi := by
  by_cases h : st_e1 F S hi - S.1 < need F S
  · rw [st_s1_t h]; omega
  · rw [st_s1_f h]; omega
/-- what comes of a subtitle between its neighbours -/
theorem seat1_ok {F : Fm} {S : Sb} {lo hi pe ns : Int} (hv : VlOk F.1) (hc : CuOk F.2.1) (hS : SbOk S) (h1 : 0 ≤ pe) (h2 : pe ≤ S.1) (h3 : S.2.1 ≤ ns) (h4 : ns ≤ 5000) (h5 : pe ≤ lo) (h6 : hi ≤ ns) : SbOk (seat1 F S lo hi) ∧ pe ≤ (seat1 F S lo hi).1 ∧ (seat1 F S lo hi).2.1 ≤ ns := by
  have a1 := st_e1_b (F := F) (S := S) (hi := hi)
  have a2 := st_s1_b (F := F) (S := S) (lo := lo) (hi := hi)
  have hn := need_b hv hS.2.2.2
  have b1 := hS.1
  have b2 := hS.2.1
  have key : st_s1 F S lo hi < st_e2 F S lo hi ∧ st_e2 F S lo hi ≤ ns := by
    by_cases h : ncut F.2.1 (st_e1 F S hi) = -6 ∨ F.1 5 < ((ncut F.2.1 (st_e1 F S hi) - st_e1 F S hi).natAbs : Int) ∨ hi < ncut F.2.1 (st_e1 F S hi) ∨ ncut F.2.1 (st_e1 F S hi) - st_s1 F S lo hi < need F S
    · rw [st_e2_f h]; omega
    · rw [st_e2_t (by omega) (by omega) (by omega) (by omega)]; omega
  rw [seat1_eq]
  refine ⟨⟨?_, ?_, ?_, hS.2.2.2⟩, ?_, ?_⟩ <;> dsimp only <;> omega
theorem seatL_len (F : Fm) (g : Int) (L : List Sb) (i : Nat) : (seatL F g L i).length = L.length := by
  unfold seatL
  rw [List.length_set]
theorem seatN_len (F : Fm) (g : Int) (i : Nat) : (seatN F g i).length = F.2.2.length := by
  induction i with
  | zero => rfl
  | succ i ih =>
    show (seatL F g (seatN F g i) i).length = _
    rw [seatL_len, ih]
theorem seatN_s (F : Fm) (g : Int) (i : Nat) : seatN F g (i + 1) = seatL F g (seatN F g i) i := rfl
theorem seatL_ne {F : Fm} {g : Int} {L : List Sb} {i j : Nat} (h : j ≠ i) : (seatL F g L i).getD j dS = L.getD j dS := setL_ne h
theorem seatL_eq {F : Fm} {g : Int} {L : List Sb} {i : Nat} (h : i < L.length) : (seatL F g L i).getD i dS = seat1 F (L.getD i dS) (if 0 < i then (L.getD (i - 1) dS).2.1 + g else 0) (if i + 1 < L.length then (L.getD (i + 1) dS).1 - g else 5000) := setL_eq h
theorem seatL_ok {F : Fm} {g : Int} {L : List Sb} {i : Nat} (hv : VlOk F.1) (hc : CuOk F.2.1) (hL : SsOk L) (hg : 0 ≤ g) (hi : i < L.length) : SsOk (seatL F g L i) := by
  have hk := seat1_ok (F := F) (S := L.getD i dS) (lo := if 0 < i then (L.getD (i - 1) dS).2.1 + g else 0) (hi := if i + 1 < L.length then (L.getD (i + 1) dS).1 - g else 5000) (pe := if 0 < i then (L.getD (i - 1) dS).2.1 else 0) (ns := if i + 1 < L.length then (L.getD (i + 1) dS).1 else 5000) hv hc (hL.2.1 i hi)
    (by split
        · have := (hL.2.1 (i - 1) (by omega)); have := this.1; have := (hL.2.1 (i - 1) (by omega)).2.1; omega
        · exact Int.le_refl _)
    (by split
        · have h := hL.2.2 (i - 1) (by omega)
          rw [show i - 1 + 1 = i by omega] at h
          exact h
        · exact (hL.2.1 i hi).1)
    (by split
        · exact hL.2.2 i ‹_›
        · exact (hL.2.1 i hi).2.2.1)
    (by split
        · have h1 := (hL.2.1 (i + 1) ‹_›).2.1
          have h2 := (hL.2.1 (i + 1) ‹_›).2.2.1
          omega
        · exact Int.le_refl _)
    (by split <;> omega) (by split <;> omega)
  refine ⟨by rw [seatL_len]; exact hL.1, fun j hj => ?_, fun j hj => ?_⟩
  · rw [seatL_len] at hj
    by_cases hji : j = i
    · subst hji
      rw [seatL_eq hj]
      exact hk.1
    · rw [seatL_ne hji]
      exact hL.2.1 j hj
  · rw [seatL_len] at hj
    by_cases h1 : j = i
    · subst h1
      rw [seatL_eq (by omega), seatL_ne (by omega)]
      exact Int.le_trans hk.2.2 (by rw [if_pos hj]; exact Int.le_refl _)
    · rw [seatL_ne h1]
      by_cases h2 : j + 1 = i
      · subst h2
        rw [seatL_eq hj]
        exact Int.le_trans (by rw [if_pos (by omega), show j + 1 - 1 = j by omega]; exact Int.le_refl _) hk.2.1
      · rw [seatL_ne h2]
        exact hL.2.2 j hj
theorem seatN_ok {F : Fm} {g : Int} (hF : FOk F) (hg : 0 ≤ g) : ∀ i, i ≤ F.2.2.length → SsOk (seatN F g i) := by
  intro i
  induction i with
  | zero => intro _; exact hF.2.2
  | succ i ih =>
    intro h
    rw [seatN_s]
    exact seatL_ok hF.1 hF.2.1 (ih (by omega)) hg (by rw [seatN_len]; omega)
theorem seatN_hi (F : Fm) (g : Int) {i j : Nat} (h : i ≤ j) : (seatN F g i).getD j dS = F.2.2.getD j dS := by
  induction i with
  | zero => rfl
  | succ i ih => rw [seatN_s, seatL_ne (by omega), ih (by omega)]
theorem seatN_lo (F : Fm) (g : Int) {i j : Nat} (h : j < i) : (seatN F g i).getD j dS = (seatN F g (j + 1)).getD j dS := by
  induction i with
  | zero => omega
  | succ i ih =>
    rcases Nat.lt_succ_iff_lt_or_eq.mp h with q | rfl
    · rw [seatN_s, seatL_ne (by omega), ih q]
    · rfl
theorem seatF_ok {F : Fm} {g : Int} (hF : FOk F) (hg : 0 ≤ g) : FOk (seatF F g) := ⟨hF.1, hF.2.1, seatN_ok hF hg _ (Nat.le_refl _)⟩
