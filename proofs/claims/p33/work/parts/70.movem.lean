/-! ===== what the moves make of the state ===== -/
def pE (A : Ast) (u : Int) : Int := if 0 < u.toNat then (A.1.2.2.getD (u.toNat - 1) dS).2.1 else 0
def lE (A : Ast) : Int := (A.1.2.2.getD (A.1.2.2.length - 1) dS).2.1
def nX (A : Ast) (u : Int) : Int := if u.toNat + 1 < A.1.2.2.length then (A.1.2.2.getD (u.toNat + 1) dS).1 else 5000
theorem pE_p {A : Ast} {u : Int} (h : 0 < u) : pE A u = (sb A (u - 1)).2.1 := by
  unfold pE sb
  rw [if_pos (by omega), show (u - 1).toNat = u.toNat - 1 by omega]
theorem pE_0 {A : Ast} {u : Int} (h : u = 0) : pE A u = 0 := by
  unfold pE
  rw [if_neg (by omega)]
theorem lE_e {A : Ast} (h : 0 < A.1.2.2.length) : lE A = (sb A ((A.1.2.2.length : Int) - 1)).2.1 := by
  unfold lE sb
  rw [show ((A.1.2.2.length : Int) - 1).toNat = A.1.2.2.length - 1 by omega]
theorem nX_s {A : Ast} {u : Int} (h0 : 0 ≤ u) (h : u + 1 < (A.1.2.2.length : Int)) : nX A u = (sb A (u + 1)).1 := by
  unfold nX sb
  rw [if_pos (by omega), show (u + 1).toNat = u.toNat + 1 by omega]
theorem nX_e {A : Ast} {u : Int} (h0 : 0 ≤ u) (h : (A.1.2.2.length : Int) ≤ u + 1) : nX A u = 5000 := by
  unfold nX
  rw [if_neg (by omega)]
theorem sh_post {A : Ast} (hA : AOk A) {u bw : Int} (hu : 0 ≤ u ∧ u ≤ (A.1.2.2.length : Int)) : ∃ (B : Ast) (told d : Int), s_shift A u bw = (told, B) ∧ AOk B ∧ Nx A B ∧ B.1.2.2.length = A.1.2.2.length ∧ (u < (A.1.2.2.length : Int) → (sb B u).1 = (sb A u).1 + d ∧ (sb B u).2.1 = (sb A u).2.1 + d) ∧ ((told < 0 ∧ d = 0) ∨ (0 ≤ told ∧ d = bw)) ∧
    ((u = (A.1.2.2.length : Int) ∧ told = -1) ∨ (u < (A.1.2.2.length : Int) ∧ (((bw < -999 ∨ 999 < bw) ∧ told = -2) ∨ ((-999 ≤ bw ∧ bw ≤ 999) ∧ ((((sb A u).1 + bw < pE A u ∨ 5000 < lE A + bw) ∧ told = -5) ∨ (pE A u ≤ (sb A u).1 + bw ∧ lE A + bw ≤ 5000 ∧ told = (A.1.2.2.length : Int) - u)))))) := by
  have hB := ok_shift hA u bw
  by_cases h1 : u < (A.1.2.2.length : Int)
  · by_cases h2 : -999 ≤ bw ∧ bw ≤ 999
    · by_cases h3 : (sb A u).1 + bw < pE A u ∨ 5000 < lE A + bw
      · have e : s_shift A u bw = (-5, A) := by
          unfold s_shift
          rw [if_pos ⟨hu.1, h1⟩, if_pos h2]
          exact if_pos h3
        exact ⟨A, -5, 0, e, hA, Or.inl rfl, rfl, fun _ => by omega, Or.inl ⟨by decide, rfl⟩, Or.inr ⟨h1, Or.inr ⟨h2, Or.inl ⟨h3, rfl⟩⟩⟩⟩
      · have e : s_shift A u bw = ((A.1.2.2.length : Int) - u, act A (A.1.1, A.1.2.1, shL A.1.2.2 u.toNat bw)) := by
          unfold s_shift
          rw [if_pos ⟨hu.1, h1⟩, if_pos h2]
          exact if_neg h3
        rw [e] at hB
        have hg := shL_ge (L := A.1.2.2) (i := u.toNat) (j := u.toNat) (f := bw) (Nat.le_refl _) (by omega)
        refine ⟨_, _, bw, e, hB, Or.inr rfl, shL_len, fun _ => ?_, Or.inr ⟨by omega, rfl⟩, Or.inr ⟨h1, Or.inr ⟨h2, Or.inr ⟨by omega, by omega, rfl⟩⟩⟩⟩
        have e2 : sb (act A (A.1.1, A.1.2.1, shL A.1.2.2 u.toNat bw)) u = (shL A.1.2.2 u.toNat bw).getD u.toNat dS := rfl
        rw [e2, hg]
        exact ⟨rfl, rfl⟩
    · have e : s_shift A u bw = (-2, A) := by
        unfold s_shift
        rw [if_pos ⟨hu.1, h1⟩, if_neg h2]
      exact ⟨A, -2, 0, e, hA, Or.inl rfl, rfl, fun _ => by omega, Or.inl ⟨by decide, rfl⟩, Or.inr ⟨h1, Or.inl ⟨by omega, rfl⟩⟩⟩
  · have e : s_shift A u bw = (-1, A) := by
      unfold s_shift
      rw [if_neg (fun w => h1 w.2)]
    exact ⟨A, -1, 0, e, hA, Or.inl rfl, rfl, fun w => absurd w h1, Or.inl ⟨by decide, rfl⟩, Or.inl ⟨by omega, rfl⟩⟩
theorem se_post {A : Ast} (hA : AOk A) {u to : Int} (hu : 0 ≤ u ∧ u ≤ (A.1.2.2.length : Int)) : ∃ (B : Ast) (told : Int), s_setEnd A u to = (told, B) ∧ AOk B ∧ Nx A B ∧ B.1.2.2.length = A.1.2.2.length ∧ ((told < 0 ∧ (sb B u).2.1 = (sb A u).2.1) ∨ (0 ≤ told ∧ (sb B u).2.1 = to)) ∧
    ((u = (A.1.2.2.length : Int) ∧ told = -1) ∨ (u < (A.1.2.2.length : Int) ∧ (((to < 0 ∨ 5000 < to) ∧ told = -2) ∨ ((0 ≤ to ∧ to ≤ 5000) ∧ (((to ≤ (sb A u).1 ∨ nX A u < to) ∧ told = -5) ∨ ((sb A u).1 < to ∧ to ≤ nX A u ∧ told = (sb A u).2.1)))))) := by
  have hB := ok_setEnd hA u to
  by_cases h1 : u < (A.1.2.2.length : Int)
  · by_cases h2 : 0 ≤ to ∧ to ≤ 5000
    · by_cases h3 : to ≤ (sb A u).1 ∨ nX A u < to
      · have e : s_setEnd A u to = (-5, A) := by
          unfold s_setEnd
          rw [if_pos ⟨hu.1, h1⟩, if_pos h2]
          exact if_pos h3
        exact ⟨A, -5, e, hA, Or.inl rfl, rfl, Or.inl ⟨by decide, rfl⟩, Or.inr ⟨h1, Or.inr ⟨h2, Or.inl ⟨h3, rfl⟩⟩⟩⟩
      · have e : s_setEnd A u to = ((sb A u).2.1, act A (A.1.1, A.1.2.1, A.1.2.2.set u.toNat ((A.1.2.2.getD u.toNat dS).1, to, (A.1.2.2.getD u.toNat dS).2.2))) := by
          unfold s_setEnd
          rw [if_pos ⟨hu.1, h1⟩, if_pos h2]
          exact if_neg h3
        rw [e] at hB
        have hS := sb_ok hA ⟨hu.1, h1⟩
        have hs0 := hS.1
        have hs1 := hS.2.1
        have hg := setL_eq (L := A.1.2.2) (p := u.toNat) (x := ((A.1.2.2.getD u.toNat dS).1, to, (A.1.2.2.getD u.toNat dS).2.2)) (d := dS) (by omega)
        refine ⟨_, _, e, hB, Or.inr rfl, List.length_set, Or.inr ⟨by omega, ?_⟩, Or.inr ⟨h1, Or.inr ⟨h2, Or.inr ⟨by omega, by omega, rfl⟩⟩⟩⟩
        show ((A.1.2.2.set u.toNat ((A.1.2.2.getD u.toNat dS).1, to, (A.1.2.2.getD u.toNat dS).2.2)).getD u.toNat dS).2.1 = to
        rw [hg]
    · have e : s_setEnd A u to = (-2, A) := by
        unfold s_setEnd
        rw [if_pos ⟨hu.1, h1⟩, if_neg h2]
      exact ⟨A, -2, e, hA, Or.inl rfl, rfl, Or.inl ⟨by decide, rfl⟩, Or.inr ⟨h1, Or.inl ⟨by omega, rfl⟩⟩⟩
  · have e : s_setEnd A u to = (-1, A) := by
      unfold s_setEnd
      rw [if_neg (fun w => h1 w.2)]
    exact ⟨A, -1, e, hA, Or.inl rfl, rfl, Or.inl ⟨by decide, rfl⟩, Or.inl ⟨by omega, rfl⟩⟩
def SpB (A B : Ast) (u told : Int) : Prop := u < (A.1.2.2.length : Int) ∧ B.1.2.2.length = A.1.2.2.length + 1 ∧ (sb B u).1 = (sb A u).1 ∧ (sb B (u + 1)).2.1 = (sb A u).2.1 ∧ (sb B (u + 1)).1 = (sb B u).2.1 + A.1.1 1 ∧ (sb B u).2.1 = (sb A u).1 + max 1 (min (((sb A u).2.1 - (sb A u).1 - A.1.1 1) * told / (((sb A u).2.2.length : Int) - 1)) ((sb A u).2.1 - (sb A u).1 - A.1.1 1 - 1)) ∧ ((sb B u).2.2.length : Int) = told ∧ ((sb B (u + 1)).2.2.length : Int) = ((sb A u).2.2.length : Int) - 1 - told ∧ 2 ≤ (sb A u).2.1 - (sb A u).1 - A.1.1 1 ∧ (1 ≤ told ∧ told + 1 < ((sb A u).2.2.length : Int))
theorem sp_post {A : Ast} (hA : AOk A) {u : Int} (hu : 0 ≤ u ∧ u ≤ (A.1.2.2.length : Int)) : ∃ (B : Ast) (told : Int), s_split A u = (told, B) ∧ AOk B ∧ Nx A B ∧ ((told < 0 ∧ B.1.2.2.length = A.1.2.2.length) ∨ (0 ≤ told ∧ SpB A B u told)) ∧
    ((u = (A.1.2.2.length : Int) ∧ told = -1) ∨ (u < (A.1.2.2.length : Int) ∧ (((bBl (sb A u).2.2 = -6 ∨ (sb A u).2.1 - (sb A u).1 < A.1.1 1 + 2) ∧ told = -5) ∨ (bBl (sb A u).2.2 ≠ -6 ∧ A.1.1 1 + 2 ≤ (sb A u).2.1 - (sb A u).1 ∧ (((A.1.2.2.length : Int) = 20 ∧ told = -4) ∨ ((A.1.2.2.length : Int) < 20 ∧ told = bBl (sb A u).2.2)))))) := by
  have hB := ok_split hA u
  have h20 := hA.1.2.2.1
  by_cases h1 : u < (A.1.2.2.length : Int)
  · by_cases h2 : bBl (sb A u).2.2 = -6 ∨ (sb A u).2.1 - (sb A u).1 < A.1.1 1 + 2
    · have e : s_split A u = (-5, A) := by
        unfold s_split
        rw [if_pos ⟨hu.1, h1⟩]
        exact if_pos h2
      exact ⟨A, -5, e, hA, Or.inl rfl, Or.inl ⟨by decide, rfl⟩, Or.inr ⟨h1, Or.inl ⟨h2, rfl⟩⟩⟩
    · by_cases h3 : 20 ≤ A.1.2.2.length
      · have e : s_split A u = (-4, A) := by
          unfold s_split
          rw [if_pos ⟨hu.1, h1⟩]
          exact (if_neg h2).trans (if_pos h3)
        exact ⟨A, -4, e, hA, Or.inl rfl, Or.inl ⟨by decide, rfl⟩, Or.inr ⟨h1, Or.inr ⟨by omega, by omega, Or.inl ⟨by omega, rfl⟩⟩⟩⟩
      · have e : s_split A u = (bBl (sb A u).2.2, act A (splF A.1 u.toNat (bBl (sb A u).2.2).toNat)) := by
          unfold s_split
          rw [if_pos ⟨hu.1, h1⟩]
          exact (if_neg h2).trans (if_neg h3)
        rw [e] at hB
        have hS := sb_ok hA ⟨hu.1, h1⟩
        have hbl := bBl_i hS.2.2.2
        have hbl2 : 1 ≤ bBl (sb A u).2.2 ∧ bBl (sb A u).2.2 + 1 < ((sb A u).2.2.length : Int) := by
          rcases hbl with w | w
          · exact absurd (Or.inl w) h2
          · exact ⟨w.1, w.2.1⟩
        obtain ⟨b, hb⟩ : ∃ b : Nat, b = (bBl (sb A u).2.2).toNat := ⟨_, rfl⟩
        have hb2 : bBl (sb A u).2.2 = (b : Int) := by omega
        rw [hb2, Int.toNat_natCast] at e hB
        have hi : u.toNat < A.1.2.2.length := by omega
        obtain ⟨S1, hS1⟩ : ∃ S1 : Sb, S1 = ((A.1.2.2.getD u.toNat dS).1, (A.1.2.2.getD u.toNat dS).1 + max 1 (min (((A.1.2.2.getD u.toNat dS).2.1 - (A.1.2.2.getD u.toNat dS).1 - A.1.1 1) * b / ((A.1.2.2.getD u.toNat dS).2.2.length - 1)) ((A.1.2.2.getD u.toNat dS).2.1 - (A.1.2.2.getD u.toNat dS).1 - A.1.1 1 - 1)), (A.1.2.2.getD u.toNat dS).2.2.take b) := ⟨_, rfl⟩
        obtain ⟨S2, hS2⟩ : ∃ S2 : Sb, S2 = ((A.1.2.2.getD u.toNat dS).1 + max 1 (min (((A.1.2.2.getD u.toNat dS).2.1 - (A.1.2.2.getD u.toNat dS).1 - A.1.1 1) * b / ((A.1.2.2.getD u.toNat dS).2.2.length - 1)) ((A.1.2.2.getD u.toNat dS).2.1 - (A.1.2.2.getD u.toNat dS).1 - A.1.1 1 - 1)) + A.1.1 1, (A.1.2.2.getD u.toNat dS).2.1, (A.1.2.2.getD u.toNat dS).2.2.drop (b + 1)) := ⟨_, rfl⟩
        have hsp : (splF A.1 u.toNat b).2.2 = insL (A.1.2.2.set u.toNat S1) (u.toNat + 1) S2 := by rw [hS1, hS2]; rfl
        have hpl : u.toNat + 1 ≤ (A.1.2.2.set u.toNat S1).length := by rw [List.length_set]; omega
        have g1 : sb (act A (splF A.1 u.toNat b)) u = S1 := by
          show (splF A.1 u.toNat b).2.2.getD u.toNat dS = S1
          rw [hsp, insL_lt hpl (Nat.lt_succ_self _), setL_eq hi]
        have g2 : sb (act A (splF A.1 u.toNat b)) (u + 1) = S2 := by
          show (splF A.1 u.toNat b).2.2.getD (u + 1).toNat dS = S2
          rw [hsp, show (u + 1).toNat = u.toNat + 1 by omega, insL_eq hpl]
        have g3 : (act A (splF A.1 u.toNat b)).1.2.2.length = A.1.2.2.length + 1 := by
          show (splF A.1 u.toNat b).2.2.length = _
          rw [hsp, insL_len hpl, List.length_set]
        refine ⟨_, _, e, hB, Or.inr rfl, Or.inr ⟨by omega, h1, g3, ?_, ?_, ?_, ?_, ?_, ?_, by omega, by omega, by omega⟩, Or.inr ⟨h1, Or.inr ⟨by omega, by omega, Or.inr ⟨by omega, hb2.symm⟩⟩⟩⟩
        · rw [g1, hS1]; rfl
        · rw [g2, hS2]; rfl
        · rw [g1, g2, hS1, hS2]
        · rw [g1, hS1]; rfl
        · rw [g1, hS1]
          show (((A.1.2.2.getD u.toNat dS).2.2.take b).length : Int) = b
          rw [List.length_take]
          have : (b : Int) + 1 < ((A.1.2.2.getD u.toNat dS).2.2.length : Int) := by have := hbl2.2; rw [hb2] at this; exact this
          omega
        · rw [g2, hS2]
          show (((A.1.2.2.getD u.toNat dS).2.2.drop (b + 1)).length : Int) = ((A.1.2.2.getD u.toNat dS).2.2.length : Int) - 1 - b
          rw [List.length_drop]
          have : (b : Int) + 1 < ((A.1.2.2.getD u.toNat dS).2.2.length : Int) := by have := hbl2.2; rw [hb2] at this; exact this
          omega
  · have e : s_split A u = (-1, A) := by
      unfold s_split
      rw [if_neg (fun w => h1 w.2)]
    exact ⟨A, -1, e, hA, Or.inl rfl, Or.inl ⟨by decide, rfl⟩, Or.inl ⟨by omega, rfl⟩⟩
def JoB (A B : Ast) (u told : Int) : Prop := u + 1 < (A.1.2.2.length : Int) ∧ (B.1.2.2.length : Int) = (A.1.2.2.length : Int) - 1 ∧ (sb B u).2.1 = (sb A (u + 1)).2.1 ∧ (sb B u).1 = (sb A u).1 ∧ ((sb B u).2.2.length : Int) = told ∧ (sb B u).2.2.getD (sb A u).2.2.length 0 = 32 ∧ ((sb A u).2.2.length : Int) < told
theorem jo_post {A : Ast} (hA : AOk A) {u : Int} (hu : 0 ≤ u ∧ u ≤ (A.1.2.2.length : Int)) : ∃ (B : Ast) (told : Int), s_join A u = (told, B) ∧ AOk B ∧ Nx A B ∧ ((told < 0 ∧ B.1.2.2.length = A.1.2.2.length) ∨ (0 ≤ told ∧ JoB A B u told)) ∧
    (((A.1.2.2.length : Int) ≤ u + 1 ∧ told = -1) ∨ (u + 1 < (A.1.2.2.length : Int) ∧ ((40 < ((sb A u).2.2.length : Int) + 1 + ((sb A (u + 1)).2.2.length : Int) ∧ told = -4) ∨ (((sb A u).2.2.length : Int) + 1 + ((sb A (u + 1)).2.2.length : Int) ≤ 40 ∧ told = ((sb A u).2.2.length : Int) + 1 + ((sb A (u + 1)).2.2.length : Int))))) := by
  have hB := ok_join hA u
  have e1 : (u + 1).toNat = u.toNat + 1 := by omega
  have es : sb A (u + 1) = A.1.2.2.getD (u.toNat + 1) dS := by unfold sb; rw [e1]
  by_cases h1 : u + 1 < (A.1.2.2.length : Int)
  · by_cases h2 : 40 < ((sb A u).2.2.length : Int) + 1 + ((sb A (u + 1)).2.2.length : Int)
    · have e : s_join A u = (-4, A) := by
        unfold s_join
        rw [if_pos ⟨hu.1, h1⟩]
        rw [es] at h2
        exact if_pos h2
      exact ⟨A, -4, e, hA, Or.inl rfl, Or.inl ⟨by decide, rfl⟩, Or.inr ⟨h1, Or.inl ⟨h2, rfl⟩⟩⟩
    · have e : s_join A u = (((sb A u).2.2.length : Int) + 1 + ((sb A (u + 1)).2.2.length : Int), act A (joiF A.1 u.toNat)) := by
        unfold s_join
        rw [if_pos ⟨hu.1, h1⟩]
        rw [es] at h2 ⊢
        exact if_neg h2
      rw [e] at hB
      have hi : u.toNat < A.1.2.2.length := by omega
      have hj : u.toNat + 1 < (A.1.2.2.set u.toNat (joiS (A.1.2.2.getD u.toNat dS) (A.1.2.2.getD (u.toNat + 1) dS))).length := by rw [List.length_set]; omega
      have g1 : sb (act A (joiF A.1 u.toNat)) u = joiS (sb A u) (sb A (u + 1)) := by
        rw [es]
        show ((A.1.2.2.set u.toNat (joiS (A.1.2.2.getD u.toNat dS) (A.1.2.2.getD (u.toNat + 1) dS))).eraseIdx (u.toNat + 1)).getD u.toNat dS = _
        rw [delL_lt (Nat.lt_succ_self _), setL_eq hi]
        rfl
      have g2 : (act A (joiF A.1 u.toNat)).1.2.2.length = A.1.2.2.length - 1 := by
        show ((A.1.2.2.set u.toNat (joiS (A.1.2.2.getD u.toNat dS) (A.1.2.2.getD (u.toNat + 1) dS))).eraseIdx (u.toNat + 1)).length = _
        rw [delL_len hj, List.length_set]
      have g3 : ((joiS (sb A u) (sb A (u + 1))).2.2.length : Int) = ((sb A u).2.2.length : Int) + 1 + ((sb A (u + 1)).2.2.length : Int) := by
        show (((sb A u).2.2 ++ 32 :: (sb A (u + 1)).2.2).length : Int) = _
        rw [List.length_append, List.length_cons]
        omega
      refine ⟨_, _, e, hB, Or.inr rfl, Or.inr ⟨by omega, h1, by rw [g2]; omega, ?_, ?_, ?_, ?_, by omega⟩, Or.inr ⟨h1, Or.inr ⟨by omega, rfl⟩⟩⟩
      · rw [g1]; rfl
      · rw [g1]; rfl
      · rw [g1]; exact g3
      · rw [g1]
        show ((sb A u).2.2 ++ 32 :: (sb A (u + 1)).2.2).getD (sb A u).2.2.length 0 = 32
        rw [appL_r (Nat.le_refl _), Nat.sub_self]
        rfl
  · have e : s_join A u = (-1, A) := by
      unfold s_join
      rw [if_neg (fun w => h1 w.2)]
    exact ⟨A, -1, e, hA, Or.inl rfl, Or.inl ⟨by decide, rfl⟩, Or.inl ⟨by omega, rfl⟩⟩
theorem rm_post {A : Ast} (hA : AOk A) {u : Int} (hu : 0 ≤ u ∧ u ≤ (A.1.2.2.length : Int)) : ∃ (B : Ast) (told : Int), s_remove A u = (told, B) ∧ AOk B ∧ Nx A B ∧ ((u = (A.1.2.2.length : Int) ∧ told = -1 ∧ (B.1.2.2.length : Int) = (A.1.2.2.length : Int)) ∨ (u < (A.1.2.2.length : Int) ∧ told = (A.1.2.2.length : Int) - 1 ∧ (B.1.2.2.length : Int) = (A.1.2.2.length : Int) - 1)) := by
  have hB := ok_remove hA u
  by_cases h1 : u < (A.1.2.2.length : Int)
  · have e : s_remove A u = ((A.1.2.2.length : Int) - 1, act A (A.1.1, A.1.2.1, A.1.2.2.eraseIdx u.toNat)) := by
      unfold s_remove
      rw [if_pos ⟨hu.1, h1⟩]
    rw [e] at hB
    have g : (act A (A.1.1, A.1.2.1, A.1.2.2.eraseIdx u.toNat)).1.2.2.length = A.1.2.2.length - 1 := by
      show (A.1.2.2.eraseIdx u.toNat).length = _
      rw [delL_len (by omega)]
    exact ⟨_, _, e, hB, Or.inr rfl, Or.inr ⟨h1, rfl, by rw [g]; omega⟩⟩
  · have e : s_remove A u = (-1, A) := by
      unfold s_remove
      rw [if_neg (fun w => h1 w.2)]
    exact ⟨A, -1, e, hA, Or.inl rfl, Or.inl ⟨by omega, rfl, rfl⟩⟩
