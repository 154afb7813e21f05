/-! ===== the model: load ===== -/
def LdI (sc : List Int) (A1 F1 : Fm) (k pos : Nat) (so r0 r1 r2 : Int) : Prop := (so = 0 ∧ pos < sc.length ∧ fltF sc (81 - k) pos = -6 ∧ ldF sc (81 - k) pos k F1 = ldF sc 81 0 0 A1 ∧ r0 = -6 ∧ r1 = -6 ∧ r2 = -6) ∨ ((so = 1 ∨ ¬ pos < sc.length) ∧ ldF sc 81 0 0 A1 = (F1, (k : Int), r0, r1, r2) ∧ (so = 0 → r0 = -6 ∧ r1 = -6 ∧ r2 = -6))
def FrL (G G' : Wd) : Prop := ∀ f a q, f ≠ 20 → f ≠ 26 → ¬ (29 ≤ f ∧ f ≤ 35) → G' f a q = G f a q
theorem flt_1 {sc : List Int} {f i : Nat} (h : fltF sc (f + 1) i = -6) (hO : ScOk sc) (hi : i ≤ sc.length) : (ent sc i).1 = 1 ∧ i < sc.length ∧ (at_ sc (ent sc i).2.1 124 → fltF sc f ((ent sc i).2.1 + 1) = -6) ∧ (¬ at_ sc (ent sc i).2.1 124 → ¬ (ent sc i).2.1 < sc.length) := by
  have hok := ent_ok hO hi
  rw [fltF_s] at h
  rcases hok.1 with w | w
  · rw [if_pos w] at h
    omega
  · rw [if_neg (by omega)] at h
    have h2 := hok.2.2.2 w
    refine ⟨w, by have := hok.2.2.1; omega, fun q => ?_, fun q q2 => ?_⟩
    · rw [if_pos q] at h
      exact h
    · rw [if_neg q, if_pos q2] at h
      omega
theorem mload_rest {GB G1 : Wd} {A : Ast} {so r0 r1 r2 : Int} (h : MRest GB A) (hf : FrL GB G1) (h35 : G1 35 0 0 = so) (hso : so = 0 ∨ so = 1) (h0 : so = 0 → r0 = -6 ∧ r1 = -6 ∧ r2 = -6) (h1 : so = 1 → G1 26 0 0 = r0 ∧ G1 26 0 1 = r1 ∧ G1 26 0 2 = r2) : MRest G1 (A.1, A.2.1, A.2.2.1, (r0, r1, r2)) := by
  obtain ⟨q1, q2, q3, q4, -⟩ := h
  refine ⟨(hf 27 0 0 (by decide) (by decide) (by decide)).trans q1, fun k hk => ?_, (hf 28 0 0 (by decide) (by decide) (by decide)).trans q3, fun i hi => (hf 24 0 i (by decide) (by decide) (by decide)).trans (q4 i hi), ?_⟩
  · rw [show (fun i => G1 23 0 (880 * (A.2.1.length - 1 - k) + i)) = (fun i => GB 23 0 (880 * (A.2.1.length - 1 - k) + i)) from funext fun i => hf 23 0 _ (by decide) (by decide) (by decide)]
    exact q2 k hk
  · rcases hso with w | w
    · exact Or.inl ⟨h35.trans w, h0 w⟩
    · exact Or.inr ⟨h35.trans w, h1 w⟩
