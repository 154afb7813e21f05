theorem flt_1 {sc : List Int} {f i : Nat} (h : fltF sc (f + 1) i = -6) (hO : ScOk sc) (hi : i ≤ sc.length) : (ent sc i).1 = 1 ∧ i < sc.length ∧ (at_ sc (ent sc i).2.1 124 → fltF sc f ((ent sc i).2.1 + 1) = -6) ∧ (¬ at_ sc (ent sc i).2.1 124 → ¬ (ent sc i).2.1 < sc.length) := by
  have hok := ent_ok hO hi
  rw [fltF_s] at h
  rcases hok.1 with w | w
  · rw [if_pos w] at h
    omega
  · rw [if_neg (by omega)] at h
    have h2 := hok.2.2.2 w
    refine ⟨w, by have := hok.2.2.1; omega, fun q => ?_, fun q q2 => ?_⟩
    · rw [if_pos q] at h
      exact h
    · rw [if_neg q, if_pos q2] at h
      omega
/-! ===== every call leaves things in order ===== -/
theorem VlOk_set {v : Nat → Int} (h : VlOk v) {k : Nat} {x : Int} (hk : k < 6) (hx : lowT k ≤ x ∧ x ≤ higT k) : VlOk (updV1 v k x) := by
  obtain ⟨h0, h1, h2, h3, h4, h5⟩ := h
  rcases (show k = 0 ∨ k = 1 ∨ k = 2 ∨ k = 3 ∨ k = 4 ∨ k = 5 by omega) with rfl | rfl | rfl | rfl | rfl | rfl
  · exact ⟨hx, h1, h2, h3, h4, h5⟩
  · exact ⟨h0, hx, h2, h3, h4, h5⟩
  · exact ⟨h0, h1, hx, h3, h4, h5⟩
  · exact ⟨h0, h1, h2, hx, h4, h5⟩
  · exact ⟨h0, h1, h2, h3, hx, h5⟩
  · exact ⟨h0, h1, h2, h3, h4, hx⟩
theorem ok_append {A : Ast} (hA : AOk A) (x : Int) : AOk (s_append A x).2 := by
  unfold s_append
  split
  · split
    · refine ⟨hA.1, hA.2.1, hA.2.2.1, ⟨?_, fun i hi => ?_⟩, hA.2.2.2.2⟩
      · dsimp only
        rw [List.length_append, List.length_cons, List.length_nil]
        omega
      · dsimp only at hi ⊢
        rw [List.length_append, List.length_cons, List.length_nil] at hi
        by_cases w : i < A.2.2.1.length
        · rw [appL_l w]
          exact hA.2.2.2.1.2 i w
        · have w2 : i = A.2.2.1.length := by omega
          subst w2
          rw [appL_r (Nat.le_refl _), Nat.sub_self]
          assumption
    · exact hA
  · exact hA
theorem ok_clear {A : Ast} (hA : AOk A) : AOk (s_clear A).2 := ⟨hA.1, hA.2.1, hA.2.2.1, ⟨Nat.zero_le _, fun i hi => absurd hi (Nat.not_lt_zero _)⟩, hA.2.2.2.2⟩
theorem ok_fault {A : Ast} (hA : AOk A) : AOk (s_fault A).2 := hA
theorem ok_why {A : Ast} (hA : AOk A) (x : Int) : AOk (s_why A x).2 := by
  unfold s_why
  split <;> exact hA
theorem ok_undo {A : Ast} (hA : AOk A) : AOk (s_undo A).2 := by
  unfold s_undo
  split
  · exact hA
  · refine ⟨hA.2.2.1 0 (by omega), ?_, fun k hk => ?_, hA.2.2.2.1, hA.2.2.2.2⟩
    · dsimp only
      rw [List.length_tail]
      have := hA.2.1
      omega
    · dsimp only at hk ⊢
      rw [List.length_tail] at hk
      rw [show A.2.1.tail.getD k dF = A.2.1.getD (k + 1) dF by rw [List.getD_eq_getElem?_getD, List.getD_eq_getElem?_getD, List.getElem?_tail]]
      exact hA.2.2.1 (k + 1) (by omega)
theorem ok_remove {A : Ast} (hA : AOk A) (x : Int) : AOk (s_remove A x).2 := by
  unfold s_remove
  split
  · exact act_ok hA ⟨hA.1.1, hA.1.2.1, delL_ok hA.1.2.2 (by omega)⟩
  · exact hA
theorem ok_shift {A : Ast} (hA : AOk A) (x y : Int) : AOk (s_shift A x y).2 := by
  unfold s_shift
  obtain ⟨pe, hpe⟩ : ∃ q : Int, q = (if 0 < x.toNat then (A.1.2.2.getD (x.toNat - 1) dS).2.1 else 0) := ⟨_, rfl⟩
  rw [← hpe]
  split
  · split
    · split
      · exact hA
      · rename_i h1 h2 h3
        exact act_ok hA ⟨hA.1.1, hA.1.2.1, shL_ok hA.1.2.2 (k := x.toNat) (f := y) (by omega) (by rw [← hpe]; exact fun w => h3 (Or.inl w)) (fun w => h3 (Or.inr w))⟩
    · exact hA
  · exact hA
theorem ok_setEnd {A : Ast} (hA : AOk A) (x y : Int) : AOk (s_setEnd A x y).2 := by
  unfold s_setEnd
  obtain ⟨mx, hmx⟩ : ∃ q : Int, q = (if x.toNat + 1 < A.1.2.2.length then (A.1.2.2.getD (x.toNat + 1) dS).1 else 5000) := ⟨_, rfl⟩
  rw [← hmx]
  split
  · split
    · split
      · exact hA
      · rename_i h1 h2 h3
        have hi : x.toNat < A.1.2.2.length := by omega
        have hS := hA.1.2.2.2.1 x.toNat hi
        refine act_ok hA ⟨hA.1.1, hA.1.2.1, setL_ok hA.1.2.2 ⟨hS.1, ?_, ?_, hS.2.2.2⟩ hi (fun w => ?_) (fun w => ?_)⟩
        · dsimp only
          omega
        · dsimp only; omega
        · have := hA.1.2.2.2.2 (x.toNat - 1) (by omega)
          rw [show x.toNat - 1 + 1 = x.toNat by omega] at this
          exact this
        · dsimp only
          rw [if_pos w] at hmx
          omega
    · exact hA
  · exact hA
theorem ok_split {A : Ast} (hA : AOk A) (x : Int) : AOk (s_split A x).2 := by
  unfold s_split
  split
  · split
    · exact hA
    · split
      · exact hA
      · rename_i h1 h2 h3
        have hi : x.toNat < A.1.2.2.length := by omega
        have hS := hA.1.2.2.2.1 x.toNat hi
        have h4 : bBl (A.1.2.2.getD x.toNat dS).2.2 ≠ -6 := fun w => h2 (Or.inl w)
        have h5 : ¬ (A.1.2.2.getD x.toNat dS).2.1 - (A.1.2.2.getD x.toNat dS).1 < A.1.1 1 + 2 := fun w => h2 (Or.inr w)
        rcases bBl_p hS.2.2.2 with w | ⟨b, w1, w2, w3, w4⟩
        · exact absurd w h4
        · rw [w3, Int.toNat_natCast]
          exact act_ok hA (splF_ok hA.1 hi (by omega) ⟨w1, w2⟩ w4 (by omega))
  · exact hA
theorem ok_join {A : Ast} (hA : AOk A) (x : Int) : AOk (s_join A x).2 := by
  unfold s_join
  split
  · split
    · exact hA
    · exact act_ok hA (joiF_ok hA.1 (by omega) (by omega))
  · exact hA
theorem ok_seat {A : Ast} (hA : AOk A) : AOk (s_seat A).2 := act_ok hA (seatF_ok hA.1 (by have := hA.1.1.2.1.1; omega))
theorem ok_cut {A : Ast} (hA : AOk A) (x : Int) : AOk (s_cut A x).2 := by
  unfold s_cut
  split
  · split
    · exact hA
    · split
      · exact hA
      · rename_i h1 h2 h3
        exact act_ok hA ⟨hA.1.1, cutI_ok hA.1.2.1 (by omega) h1 (fun i hi w => h2 ⟨i, hi, w⟩), hA.1.2.2⟩
  · exact hA
theorem ok_uncut {A : Ast} (hA : AOk A) (x : Int) : AOk (s_uncut A x).2 := by
  unfold s_uncut
  split
  · rename_i h
    obtain ⟨i, h1, h2⟩ := h
    rw [cidx_of hA.1.2.1 h1 h2]
    exact act_ok hA ⟨hA.1.1, cutD_ok hA.1.2.1 h1, hA.1.2.2⟩
  · exact hA
theorem ok_set {A : Ast} (hA : AOk A) (x y : Int) : AOk (s_set A x y).2 := by
  unfold s_set
  split
  · split
    · exact act_ok hA ⟨VlOk_set hA.1.1 (by omega) ‹_›, hA.1.2⟩
    · exact hA
  · exact hA
theorem ldF_ok {sc : List Int} (hs : ScOk sc) : ∀ (n i k : Nat) (F : Fm), FOk F → i ≤ sc.length → k ≤ i → fltF sc n i = -6 → FOk (ldF sc n i k F).1 ∧ RpOk (ldF sc n i k F).2.2 := by
  have hl := hs.1
  intro n
  induction n with
  | zero => intro i k F hF _ _ _; exact ⟨hF, by show RpOk (-6, -6, -6); unfold RpOk; dsimp only; omega⟩
  | succ n ih =>
    intro i k F hF hi hk hf
    have h4 := flt_1 hf hs hi
    have hok := ent_ok hs hi
    obtain ⟨ha0, ha1, ha2, ha3, ha4, ha5, ha6⟩ := hok.2.2.2 h4.1
    have hrb := rsn_b F (ent sc i).2.2.1 (ent sc i).2.2.2.1
    rw [ldF_s]
    split
    · exact ⟨hF, by unfold RpOk; dsimp only; omega⟩
    · rename_i h0
      have hr0 : rsn F (ent sc i).2.2.1 (ent sc i).2.2.2.1 = 0 := by omega
      have hO90 : FOk (addF F (entS sc i)) := addF_ok hF ⟨ha1.1, (rsn_0 hr0).1, ha2.2, ha6⟩ hr0
      split
      · rename_i w
        exact ih _ _ _ hO90 w.1 (by omega) (h4.2.2.1 w)
      · exact ⟨hO90, by unfold RpOk; dsimp only; omega⟩
theorem ok_load {A : Ast} (hA : AOk A) : AOk (s_load A).2 := by
  unfold s_load
  split
  · exact hA
  · rename_i h
    have hf : faultS A.2.2.1 = -6 := Classical.not_not.mp h
    have q := ldF_ok hA.2.2.2.1 81 0 0 A.1 hA.1 (Nat.zero_le _) (Nat.le_refl _) hf
    exact ⟨q.1, (recH_ok hA).1, (recH_ok hA).2, hA.2.2.2.1, q.2⟩
