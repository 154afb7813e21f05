/-! ===== what a load makes of what was typed ===== -/
theorem numF_dig {sc : List Int} (hs : sc.length ≤ 80) : ∀ (n i : Nat) (v : Int), 81 - i ≤ n → i ≤ sc.length → ∀ j, i ≤ j → j < (numF sc i v).2 → isDig (sc.getD j 0) := by
  intro n
  induction n with
  | zero => intro i v h1 h2; omega
  | succ n ih =>
    intro i v h1 h2 j hj hj2
    by_cases hc : numC sc i v
    · rw [numF_go hs hc] at hj2
      rcases Nat.eq_or_lt_of_le hj with q | q
      · rw [← q]
        exact hc.2.1
      · exact ih (i + 1) _ (by omega) hc.1 j q hj2
    · rw [numF_stop hc] at hj2
      exact absurd hj2 (Nat.not_lt.mpr hj)
theorem ent_np {sc : List Int} (hs : ScOk sc) {i : Nat} (hi : i ≤ sc.length) (h : (ent sc i).1 = 1) : i + 5 ≤ (ent sc i).2.1 ∧ ∀ j, i ≤ j → j < (ent sc i).2.1 → sc.getD j 0 ≠ 124 := by
  have hl := hs.1
  obtain ⟨a, p1, ha⟩ : ∃ a p1, numF sc i (-6) = (a, p1) := ⟨_, _, rfl⟩
  have b1 := numF_b hl _ i (-6) (Nat.le_refl _) hi (Or.inl rfl)
  have d1 := numF_dig hl _ i (-6) (Nat.le_refl _) hi
  rw [ha] at b1 d1
  dsimp only at b1 d1
  by_cases h1 : a = -6
  · subst h1
    rw [ent_1 ha] at h
    exact absurd (show (0 : Int) = 1 from h) (by decide)
  by_cases h2 : at_ sc p1 45
  · obtain ⟨b, p2, hb⟩ : ∃ b p2, numF sc (p1 + 1) (-6) = (b, p2) := ⟨_, _, rfl⟩
    have b2 := numF_b hl _ (p1 + 1) (-6) (Nat.le_refl _) h2.1 (Or.inl rfl)
    have d2 := numF_dig hl _ (p1 + 1) (-6) (Nat.le_refl _) h2.1
    rw [hb] at b2 d2
    dsimp only at b2 d2
    by_cases h3 : b = -6
    · subst h3
      rw [ent_3 ha h1 h2 hb] at h
      exact absurd (show (0 : Int) = 1 from h) (by decide)
    by_cases h4 : at_ sc p2 58
    · have b3 := txE_b hl (tp := p2 + 1) _ (p2 + 1) (Nat.le_refl _) (Nat.le_refl _) h4.1 (by omega) (fun j g1 g2 => by omega)
      by_cases h5 : p2 + 1 < txE sc (p2 + 1) (p2 + 1) ∧ sc.getD (txE sc (p2 + 1) (p2 + 1) - 1) 0 ≠ 32
      · rw [ent_5 ha h1 h2 hb h3 h4 h5]
        dsimp only
        have g1 := b1.2.2.2.2 rfl h1
        have g2 := b2.2.2.2.2 rfl h3
        have g3 := h5.1
        refine ⟨by omega, fun j hj hj2 => ?_⟩
        by_cases q1 : j < p1
        · have := d1 j hj q1
          unfold isDig at this
          omega
        by_cases q2 : j = p1
        · rw [q2, h2.2]
          decide
        by_cases q3 : j < p2
        · have := d2 j (by omega) q3
          unfold isDig at this
          omega
        by_cases q4 : j = p2
        · rw [q4, h4.2]
          decide
        · have q5 := b3.2.2.2 j (by omega) hj2
          rcases q5 with q5 | q5
          · rw [q5.1]
            decide
          · have q6 := q5.2.2
            unfold isLet at q6
            omega
      · rw [ent_6 ha h1 h2 hb h3 h4 h5] at h
        exact absurd (show (0 : Int) = 1 from h) (by decide)
    · rw [ent_4 ha h1 h2 hb h3 h4] at h
      exact absurd (show (0 : Int) = 1 from h) (by decide)
  · rw [ent_2 ha h1 h2] at h
    exact absurd (show (0 : Int) = 1 from h) (by decide)
def cntT (sc : List Int) (i : Nat) : Nat := (sc.take i).count 124
theorem cntT_s {sc : List Int} {i : Nat} (h : i < sc.length) : cntT sc (i + 1) = cntT sc i + if sc.getD i 0 = 124 then 1 else 0 := by
  unfold cntT
  rw [List.take_succ, List.count_append, List.getElem?_eq_getElem h, List.getD_eq_getElem?_getD, List.getElem?_eq_getElem h]
  simp [List.count_singleton]
theorem cntT_flat {sc : List Int} {i : Nat} : ∀ e, i ≤ e → e ≤ sc.length → (∀ j, i ≤ j → j < e → sc.getD j 0 ≠ 124) → cntT sc e = cntT sc i := by
  intro e
  induction e with
  | zero => intro h1 _ _; rw [show i = 0 by omega]
  | succ e ih =>
    intro h1 h2 h3
    rcases Nat.lt_or_ge e i with q | q
    · rw [show i = e + 1 by omega]
    · rw [cntT_s (by omega), if_neg (h3 e q (by omega)), Nat.add_zero]
      exact ih q (by omega) (fun j g1 g2 => h3 j g1 (by omega))
theorem cntT_all (sc : List Int) : cntT sc sc.length = sc.count 124 := by
  unfold cntT
  rw [List.take_length]
theorem cntT_le (sc : List Int) (i : Nat) : cntT sc i ≤ sc.count 124 := (List.take_sublist i sc).count_le 124
theorem sumN_ins {L : List Sb} {S : Sb} {p : Nat} (hp : p ≤ L.length) (g : Sb → Int) : sumN (fun i => g ((insL L p S).getD i dS)) (L.length + 1) = sumN (fun i => g (L.getD i dS)) L.length + g S := by
  have h1 : ∀ m, m ≤ p → sumN (fun i => g ((insL L p S).getD i dS)) m = sumN (fun i => g (L.getD i dS)) m := fun m hm => sumN_congr (fun i hi => by rw [insL_lt hp (by omega)])
  have h2 : ∀ k, sumN (fun i => g ((insL L p S).getD i dS)) (p + k + 1) = sumN (fun i => g (L.getD i dS)) (p + k) + g S := by
    intro k
    induction k with
    | zero =>
      show sumN (fun i => g ((insL L p S).getD i dS)) p + g ((insL L p S).getD p dS) = _
      rw [h1 p (Nat.le_refl _), insL_eq hp]
      rfl
    | succ k ih =>
      show sumN (fun i => g ((insL L p S).getD i dS)) (p + k + 1) + g ((insL L p S).getD (p + k + 1) dS) = sumN (fun i => g (L.getD i dS)) (p + k) + g (L.getD (p + k) dS) + g S
      rw [ih, insL_gt hp (by omega), show p + k + 1 - 1 = p + k by omega]
      omega
  have h3 := h2 (L.length - p)
  rwa [show p + (L.length - p) = L.length by omega] at h3
theorem frS_add {F : Fm} (hF : FOk F) (S : Sb) : frS (addF F S) = frS F + (S.2.1 - S.1) ∧ (addF F S).2.2.length = F.2.2.length + 1 := by
  have hp := (ipos_cnt hF.2.2 S.1).2.1
  have hl : (addF F S).2.2.length = F.2.2.length + 1 := insL_len hp
  refine ⟨?_, hl⟩
  have e : frS (addF F S) = sumN (fun i => ((insL F.2.2 (ipos F.2.2 S.1) S).getD i dS).2.1 - ((insL F.2.2 (ipos F.2.2 S.1) S).getD i dS).1) (addF F S).2.2.length := rfl
  rw [e, hl]
  exact sumN_ins hp (fun S => S.2.1 - S.1)
theorem fl_last {sc : List Int} (hs : ScOk sc) : ∀ (f i : Nat), i ≤ sc.length → sc.length < i + f → fltF sc f i = -6 → sc.getD (sc.length - 1) 0 ≠ 124 ∧ 1 ≤ sc.length := by
  intro f
  induction f with
  | zero => intro i h1 h2; omega
  | succ f ih =>
    intro i h1 h2 h3
    have h4 := flt_1 h3 hs h1
    have hn := ent_np hs h1 h4.1
    have hok := ent_ok hs h1
    by_cases w : at_ sc (ent sc i).2.1 124
    · exact ih _ w.1 (by omega) (h4.2.2.1 w)
    · have h5 := h4.2.2.2 w
      have h6 := hok.2.2.1
      exact ⟨hn.2 _ (by omega) (by omega), by omega⟩
theorem fl_le {sc : List Int} (hs : ScOk sc) : ∀ (f i : Nat), i ≤ sc.length → fltF sc f i = -6 ∨ (0 ≤ fltF sc f i ∧ fltF sc f i ≤ (sc.length : Int)) := by
  intro f
  induction f with
  | zero => intro i _; exact Or.inl rfl
  | succ f ih =>
    intro i h1
    have hok := ent_ok hs h1
    rw [fltF_s]
    split
    · exact Or.inr (by have := hok.2.2.1; omega)
    · split
      · rename_i w
        exact ih _ w.1
      · split
        · exact Or.inr (by have := hok.2.2.1; omega)
        · exact Or.inl rfl
theorem ld_main {sc : List Int} (hs : ScOk sc) : ∀ (f i k : Nat) (F : Fm), FOk F → i ≤ sc.length → sc.length < i + f → fltF sc f i = -6 → cntT sc i = k → 6 * k ≤ i →
    ∃ g : Nat, (ldF sc f i k F).2.1 = ((k + g : Nat) : Int) ∧ (ldF sc f i k F).1.2.2.length = F.2.2.length + g ∧ frS F + (g : Int) ≤ frS (ldF sc f i k F).1 ∧
      (((ldF sc f i k F).2.2 = (-6, -6, -6) ∧ k + g = sc.count 124 + 1) ∨ ((ldF sc f i k F).2.2.1 = ((k + g : Nat) : Int) ∧ (1 ≤ (ldF sc f i k F).2.2.2.1 ∧ (ldF sc f i k F).2.2.2.1 ≤ 3) ∧ 6 * ((k + g : Nat) : Int) ≤ (ldF sc f i k F).2.2.2.2 ∧ (ldF sc f i k F).2.2.2.2 < (sc.length : Int) ∧ k + g ≤ sc.count 124)) := by
  intro f
  induction f with
  | zero => intro i k F _ h1 h2; omega
  | succ f ih =>
    intro i k F hF h1 h2 h3 h4 h5
    have h6 := flt_1 h3 hs h1
    have hn := ent_np hs h1 h6.1
    have hok := ent_ok hs h1
    obtain ⟨ha0, ha1, ha2, ha3, ha4, ha5, ha6⟩ := hok.2.2.2 h6.1
    have hrb := rsn_b F (ent sc i).2.2.1 (ent sc i).2.2.2.1
    have hle := hok.2.2.1
    rw [ldF_s]
    by_cases hr : rsn F (ent sc i).2.2.1 (ent sc i).2.2.2.1 = 0
    · rw [if_neg (not_not_intro hr)]
      have hS : SbOk (entS sc i) := ⟨ha1.1, (rsn_0 hr).1, ha2.2, ha6⟩
      have hF2 : FOk (addF F (entS sc i)) := addF_ok hF hS hr
      have hfa := frS_add hF (entS sc i)
      have hpos := hS.2.1
      by_cases w : at_ sc (ent sc i).2.1 124
      · rw [if_pos w]
        have hc : cntT sc ((ent sc i).2.1 + 1) = k + 1 := by
          rw [cntT_s w.1, if_pos w.2, cntT_flat _ (by omega) hle hn.2, h4]
        obtain ⟨g, g1, g2, g3, g4⟩ := ih ((ent sc i).2.1 + 1) (k + 1) (addF F (entS sc i)) hF2 w.1 (by omega) (h6.2.2.1 w) hc (by omega)
        refine ⟨g + 1, ?_, ?_, ?_, ?_⟩
        · rw [g1, show k + 1 + g = k + (g + 1) by omega]
        · rw [g2, hfa.2]; omega
        · have e := hfa.1
          omega
        · rw [show k + (g + 1) = k + 1 + g by omega]
          exact g4
      · rw [if_neg w]
        have h7 := h6.2.2.2 w
        have hc : sc.count 124 = k := by
          rw [← cntT_all, show sc.length = (ent sc i).2.1 by omega, cntT_flat _ (by omega) (by omega) hn.2, h4]
        refine ⟨1, rfl, hfa.2, ?_, Or.inl ⟨rfl, by omega⟩⟩
        have e := hfa.1
        show frS F + 1 ≤ frS (addF F (entS sc i))
        omega
    · rw [if_pos hr]
      have hc := cntT_le sc i
      refine ⟨0, rfl, rfl, ?_, Or.inr ⟨rfl, ⟨?_, ?_⟩, ?_, ?_, ?_⟩⟩
      · show frS F + 0 ≤ frS F
        omega
      · dsimp only; omega
      · dsimp only; omega
      · dsimp only; omega
      · dsimp only; omega
      · omega
theorem ld_sum {A : Ast} {n : Int} {sc : List Int} (hA : AOk A) (hT : TyS n sc) (h : faultS sc = -6) :
    (0 ≤ (ldF sc 81 0 0 A.1).2.1 ∧ (ldF sc 81 0 0 A.1).2.1 ≤ n) ∧ ((ldF sc 81 0 0 A.1).1.2.2.length : Int) = (A.1.2.2.length : Int) + (ldF sc 81 0 0 A.1).2.1 ∧ frS A.1 + (ldF sc 81 0 0 A.1).2.1 ≤ frS (ldF sc 81 0 0 A.1).1 ∧
      (((ldF sc 81 0 0 A.1).2.1 = n ∧ (ldF sc 81 0 0 A.1).2.2.1 = -6 ∧ (ldF sc 81 0 0 A.1).2.2.2.1 = -6 ∧ (ldF sc 81 0 0 A.1).2.2.2.2 = -6) ∨ ((ldF sc 81 0 0 A.1).2.1 < n ∧ (ldF sc 81 0 0 A.1).2.2.1 = (ldF sc 81 0 0 A.1).2.1 ∧ (1 ≤ (ldF sc 81 0 0 A.1).2.2.2.1 ∧ (ldF sc 81 0 0 A.1).2.2.2.1 ≤ 3) ∧ 6 * (ldF sc 81 0 0 A.1).2.1 ≤ (ldF sc 81 0 0 A.1).2.2.2.2 ∧ (ldF sc 81 0 0 A.1).2.2.2.2 < (sc.length : Int))) := by
  have hs : ScOk sc := hT.1.ok (Nat.le_refl _)
  have h80 := hs.1
  obtain ⟨hl1, hl2⟩ := fl_last hs 81 0 (Nat.zero_le _) (by omega) h
  have hcn : (sc.count 124 : Int) = n - 1 := by
    rcases hT.2 with q | ⟨s0, q⟩ | q
    · exact q.2
    · exfalso
      apply hl1
      rw [q, List.length_append, List.length_singleton, Nat.add_sub_cancel, appL_r (Nat.le_refl _), Nat.sub_self]
      rfl
    · rw [q.2] at hl2
      exact absurd hl2 (by decide)
  obtain ⟨g, g1, g2, g3, g4⟩ := ld_main hs 81 0 0 A.1 hA.1 (Nat.zero_le _) (by omega) h rfl (Nat.le_refl _)
  rw [Nat.zero_add] at g1 g4
  rw [g1]
  refine ⟨⟨by omega, ?_⟩, by omega, g3, ?_⟩
  · rcases g4 with q | q <;> omega
  · rcases g4 with ⟨q1, q2⟩ | ⟨q1, q2, q3, q4, q5⟩
    · rw [q1]
      exact Or.inl ⟨by omega, rfl, rfl, rfl⟩
    · exact Or.inr ⟨by omega, q1, q2, q3, q4⟩
