/-! ===== facts of texts ===== -/
theorem kindB_b (x : Int) : 1 ≤ kindB x ∧ kindB x ≤ 3 := by
  unfold kindB
  split
  · omega
  · split <;> omega
theorem bbS_s (t : List Int) (i : Nat) : bbS t (i + 1) = if 1 ≤ i ∧ t.getD i 0 = 32 ∧ (kindB (t.getD (i - 1) 0) > (bbS t i).2.1 ∨ kindB (t.getD (i - 1) 0) = (bbS t i).2.1 ∧ ((2 * (i : Int) - (t.length - 1)).natAbs : Int) < (bbS t i).2.2) then ((i : Int), kindB (t.getD (i - 1) 0), ((2 * (i : Int) - (t.length - 1)).natAbs : Int)) else bbS t i := rfl
theorem bbS_1 (t : List Int) : bbS t 1 = (-6, 0, 0) := by
  rw [bbS_s, if_neg (by omega)]
  rfl
theorem bbS_b (t : List Int) (ht : t.length ≤ 40) (i : Nat) (hi : i ≤ 41) : (-6 ≤ (bbS t i).1 ∧ (bbS t i).1 ≤ 41) ∧ (0 ≤ (bbS t i).2.1 ∧ (bbS t i).2.1 ≤ 3) ∧ 0 ≤ (bbS t i).2.2 ∧ (bbS t i).2.2 ≤ 200 := by
  induction i with
  | zero =>
    show (-6 ≤ (-6 : Int) ∧ (-6 : Int) ≤ 41) ∧ (0 ≤ (0 : Int) ∧ (0 : Int) ≤ 3) ∧ 0 ≤ (0 : Int) ∧ (0 : Int) ≤ 200
    omega
  | succ i ih =>
    rw [bbS_s]
    have hk := kindB_b (t.getD (i - 1) 0)
    split
    · refine ⟨?_, ?_, ?_, ?_⟩ <;> dsimp only <;> omega
    · exact ih (by omega)
theorem bbS_p (t : List Int) (i : Nat) : (bbS t i).1 = -6 ∨ ∃ j : Nat, 1 ≤ j ∧ j < i ∧ (bbS t i).1 = j ∧ t.getD j 0 = 32 := by
  induction i with
  | zero => exact Or.inl rfl
  | succ i ih =>
    rw [bbS_s]
    split
    · rename_i h
      exact Or.inr ⟨i, h.1, by omega, rfl, h.2.1⟩
    · rcases ih with h | ⟨j, h1, h2, h3⟩
      · exact Or.inl h
      · exact Or.inr ⟨j, h1, by omega, h3⟩
/-- the best blank: none, or a blank within -/
theorem bBl_p {t : List Int} (ht : TxOk t) : bBl t = -6 ∨ ∃ j : Nat, 1 ≤ j ∧ j + 1 < t.length ∧ bBl t = j ∧ t.getD j 0 = 32 := by
  rcases bbS_p t t.length with h | ⟨j, h1, h2, h3, h4⟩
  · exact Or.inl h
  · refine Or.inr ⟨j, h1, ?_, h3, h4⟩
    rcases Nat.lt_or_ge (j + 1) t.length with q | q
    · exact q
    · exfalso
      have : j = t.length - 1 := by omega
      subst this
      exact ht.2.2.2.2.1 h4
theorem LE_ex {t : List Int} (w : Int) {a : Nat} (ha : a < t.length) : ∃ e, LE t w a e := by
  -- the greatest end of a word that is the first one or fits
  have key : ∀ n : Nat, ∀ e : Nat, t.length - e ≤ n → a < e → BP t e → ((∀ b, a < b → BP t b → e ≤ b) ∨ (e : Int) ≤ a + w) → ∃ e', LE t w a e' := by
    intro n
    induction n with
    | zero =>
      intro e h1 h2 h3 h4
      refine ⟨e, h2, h3, h4, fun b hb hbp => ?_⟩
      rcases hbp with rfl | ⟨hbp, -⟩ <;> omega
    | succ n ih =>
      intro e h1 h2 h3 h4
      by_cases hx : ∃ b, e < b ∧ BP t b ∧ (b : Int) ≤ a + w
      · obtain ⟨b, hb1, hb2, hb3⟩ := hx
        exact ih b (by omega) (by omega) hb2 (Or.inr hb3)
      · refine ⟨e, h2, h3, h4, fun b hb hbp => ?_⟩
        rcases Int.lt_or_le ((a : Int) + w) b with q | q
        · exact q
        · exact absurd ⟨b, hb, hbp, q⟩ hx
  obtain ⟨e0, ⟨h1, h2⟩, h3⟩ := pk_least (fun k => a < k ∧ BP t k) ⟨t.length, ha, Or.inl rfl⟩
  exact key t.length e0 (by omega) h1 h2 (Or.inl fun b hb hbp => by
    rcases Nat.lt_or_ge b e0 with q | q
    · exact absurd ⟨hb, hbp⟩ (h3 b q)
    · exact q)
theorem lend_LE {t : List Int} (w : Int) {a : Nat} (ha : a < t.length) : LE t w a (lend t w a) := by
  obtain ⟨e, he⟩ := LE_ex w ha
  rw [lend_of he]
  exact he
theorem lend_b {t : List Int} (w : Int) {a : Nat} (ha : a < t.length) : a < lend t w a ∧ lend t w a ≤ t.length := by
  have h := lend_LE w ha
  refine ⟨h.1, ?_⟩
  rcases h.2.1 with q | q <;> omega
theorem lnsF_nil {t : List Int} {w : Int} {f a : Nat} (h : t.length ≤ a) : lnsF t w f a = [] := by
  cases f with
  | zero => rfl
  | succ f => unfold lnsF; rw [if_neg (by omega)]
theorem lnsF_cons {t : List Int} {w : Int} {f a : Nat} (h : a < t.length) : lnsF t w (f + 1) a = ((lend t w a : Int) - a) :: lnsF t w f (lend t w a + 1) := by
  show (if a < t.length then _ else _) = _
  rw [if_pos h]
/-- the lines from a on, c of them stand ahead -/
def LnAt (t : List Int) (w : Int) (c a : Nat) : Prop := 2 * c ≤ a ∧ ∃ pre : List Int, pre.length = c ∧ lns t w = pre ++ lnsF t w (41 - c) a ∧ ∀ x ∈ pre, 0 ≤ x ∧ x ≤ 40
theorem LnAt_0 (t : List Int) (w : Int) : LnAt t w 0 0 := ⟨by omega, [], rfl, rfl, fun _ h => absurd h List.not_mem_nil⟩
theorem LnAt.next {t : List Int} {w : Int} {c a : Nat} (ht : t.length ≤ 40) (h : LnAt t w c a) (ha : a < t.length) : LnAt t w (c + 1) (lend t w a + 1) := by
  obtain ⟨h1, pre, h2, h3, h4⟩ := h
  have hb := lend_b w ha
  refine ⟨by omega, pre ++ [(lend t w a : Int) - a], by simp [h2], ?_, fun x hx => ?_⟩
  · rw [h3, show 41 - c = (41 - (c + 1)) + 1 by omega, lnsF_cons ha, List.append_assoc]
    rfl
  · rcases List.mem_append.mp hx with q | q
    · exact h4 x q
    · rw [List.mem_singleton] at q
      omega
theorem LnAt.len {t : List Int} {w : Int} {c a : Nat} (h : LnAt t w c a) (ha : t.length ≤ a) : (lns t w).length = c := by
  obtain ⟨h1, pre, h2, h3, h4⟩ := h
  rw [h3, lnsF_nil ha, List.append_nil, h2]
theorem LnAt.lt {t : List Int} {w : Int} {c a : Nat} (ht : t.length ≤ 40) (h : LnAt t w c a) (ha : a < t.length) : c < (lns t w).length ∧ (lns t w).getD c 0 = (lend t w a : Int) - a := by
  obtain ⟨h1, pre, h2, h3, h4⟩ := h
  rw [h3, show 41 - c = (41 - (c + 1)) + 1 by omega, lnsF_cons ha]
  refine ⟨by simp [h2], ?_⟩
  rw [List.getD_eq_getElem?_getD, List.getElem?_append_right (by omega), h2]
  simp
theorem lnsF_b {t : List Int} {w : Int} (ht : t.length ≤ 40) : ∀ f a, ∀ x ∈ lnsF t w f a, 0 ≤ x ∧ x ≤ 40
  | 0, _, x, hx => absurd hx List.not_mem_nil
  | f + 1, a, x, hx => by
    by_cases ha : a < t.length
    · rw [lnsF_cons ha] at hx
      have hb := lend_b w ha
      rcases List.mem_cons.mp hx with rfl | hx
      · omega
      · exact lnsF_b ht f _ x hx
    · rw [lnsF_nil (by omega)] at hx
      exact absurd hx List.not_mem_nil
theorem lnsF_len {t : List Int} {w : Int} : ∀ f a, (lnsF t w f a).length ≤ t.length - a
  | 0, _ => by simp [lnsF]
  | f + 1, a => by
    by_cases ha : a < t.length
    · rw [lnsF_cons ha]
      have hb := lend_b w ha
      have := lnsF_len (t := t) (w := w) f (lend t w a + 1)
      simp only [List.length_cons]
      omega
    · rw [lnsF_nil (by omega)]
      simp
theorem lns_len {t : List Int} (w : Int) (ht : t.length ≤ 40) : (lns t w).length ≤ 40 := by
  have := lnsF_len (t := t) (w := w) 41 0
  unfold lns
  omega
theorem lns_b {t : List Int} (w : Int) (ht : t.length ≤ 40) {i : Nat} (hi : i < (lns t w).length) : 0 ≤ (lns t w).getD i 0 ∧ (lns t w).getD i 0 ≤ 40 := by
  refine lnsF_b (w := w) ht 41 0 _ ?_
  show _ ∈ lns t w
  rw [List.getD_eq_getElem?_getD, List.getElem?_eq_getElem hi]
  exact List.getElem_mem hi
theorem TxOk.ch {t : List Int} (h : TxOk t) {i : Nat} (hi : i < t.length) : 32 ≤ t.getD i 0 ∧ t.getD i 0 ≤ 126 := h.2.2.1 i hi
