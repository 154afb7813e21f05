/-! ===== scripts ===== -/
def ScOk (sc : List Int) : Prop := sc.length ≤ 80 ∧ ∀ i, i < sc.length → 32 ≤ sc.getD i 0 ∧ sc.getD i 0 ≤ 126
def ScrIs (G : Wd) (sc : List Int) : Prop := G 12 0 0 = (sc.length : Int) ∧ ∀ i, i < sc.length → G 11 0 i = sc.getD i 0
theorem ScrIs.of {G G' : Wd} {sc : List Int} (h : ScrIs G sc) (e : ∀ f i, f = 11 ∨ f = 12 → G' f 0 i = G f 0 i) : ScrIs G' sc := ⟨(e 12 0 (Or.inr rfl)).trans h.1, fun i hi => (e 11 i (Or.inl rfl)).trans (h.2 i hi)⟩
abbrev isDig (x : Int) : Prop := 48 ≤ x ∧ x ≤ 57
abbrev isLet (x : Int) : Prop := (97 ≤ x ∧ x ≤ 122) ∨ x = 44 ∨ x = 46
abbrev at_ (sc : List Int) (i : Nat) (c : Int) : Prop := i < sc.length ∧ sc.getD i 0 = c
def lng (v d : Int) : Int := if v = -6 then d else 10 * v + d
abbrev numC (sc : List Int) (i : Nat) (v : Int) : Prop := i < sc.length ∧ isDig (sc.getD i 0) ∧ v ≠ 0 ∧ lng v (sc.getD i 0 - 48) ≤ 5000
def rdN (sc : List Int) : Nat → Nat → Int → Int × Nat
  | 0, i, v => (v, i)
  | f + 1, i, v => if numC sc i v then rdN sc f (i + 1) (lng v (sc.getD i 0 - 48)) else (v, i)
def numF (sc : List Int) (i : Nat) (v : Int) : Int × Nat := rdN sc (81 - i) i v
theorem numF_go {sc : List Int} (hs : sc.length ≤ 80) {i : Nat} {v : Int} (h : numC sc i v) : numF sc i v = numF sc (i + 1) (lng v (sc.getD i 0 - 48)) := by
  unfold numF
  rw [show 81 - i = (81 - (i + 1)) + 1 by have := h.1; omega]
  show (if numC sc i v then _ else _) = _
  rw [if_pos h]
theorem numF_stop {sc : List Int} {i : Nat} {v : Int} (h : ¬ numC sc i v) : numF sc i v = (v, i) := by
  unfold numF
  cases hf : 81 - i with
  | zero => rfl
  | succ f => show (if numC sc i v then _ else _) = _; rw [if_neg h]
/-- what a number is, and how far it goes -/
theorem numF_b {sc : List Int} (hs : sc.length ≤ 80) : ∀ (n i : Nat) (v : Int), 81 - i ≤ n → i ≤ sc.length → (v = -6 ∨ (0 ≤ v ∧ v ≤ 5000)) → ((numF sc i v).1 = -6 ∨ (0 ≤ (numF sc i v).1 ∧ (numF sc i v).1 ≤ 5000)) ∧ i ≤ (numF sc i v).2 ∧ (numF sc i v).2 ≤ sc.length ∧ (v ≠ -6 → (numF sc i v).1 ≠ -6) ∧ (v = -6 → (numF sc i v).1 ≠ -6 → i < (numF sc i v).2) := by
  intro n
  induction n with
  | zero => intro i v h1 h2; omega
  | succ n ih =>
    intro i v h1 h2 h3
    by_cases hc : numC sc i v
    · rw [numF_go hs hc]
      have hd := hc.2.1
      have hl : 0 ≤ lng v (sc.getD i 0 - 48) ∧ lng v (sc.getD i 0 - 48) ≤ 5000 := by
        refine ⟨?_, hc.2.2.2⟩
        unfold lng
        split <;> omega
      have h4 := ih (i + 1) (lng v (sc.getD i 0 - 48)) (by omega) hc.1 (Or.inr hl)
      have h5 := h4.2.2.2.1 (by omega)
      exact ⟨h4.1, by omega, h4.2.2.1, fun _ => h5, fun _ _ => by omega⟩
    · rw [numF_stop hc]
      exact ⟨h3, Nat.le_refl _, h2, fun w => w, fun w w2 => absurd w w2⟩
abbrev mayF (sc : List Int) (tp i : Nat) : Prop := (sc.getD i 0 = 32 ∧ tp < i ∧ i < tp + 39 ∧ sc.getD (i - 1) 0 ≠ 32) ∨ (sc.getD i 0 ≠ 32 ∧ i < tp + 40 ∧ isLet (sc.getD i 0))
def rdT (sc : List Int) (tp : Nat) : Nat → Nat → Nat
  | 0, i => i
  | f + 1, i => if i < sc.length ∧ mayF sc tp i then rdT sc tp f (i + 1) else i
def txE (sc : List Int) (tp i : Nat) : Nat := rdT sc tp (81 - i) i
theorem txE_go {sc : List Int} (hs : sc.length ≤ 80) {tp i : Nat} (h : i < sc.length ∧ mayF sc tp i) : txE sc tp i = txE sc tp (i + 1) := by
  unfold txE
  rw [show 81 - i = (81 - (i + 1)) + 1 by have := h.1; omega]
  show (if i < sc.length ∧ mayF sc tp i then _ else _) = _
  rw [if_pos h]
theorem txE_stop {sc : List Int} {tp i : Nat} (h : ¬ (i < sc.length ∧ mayF sc tp i)) : txE sc tp i = i := by
  unfold txE
  cases hf : 81 - i with
  | zero => rfl
  | succ f => show (if i < sc.length ∧ mayF sc tp i then _ else _) = _; rw [if_neg h]
/-- what stands between the beginning and the end of a text -/
theorem txE_b {sc : List Int} (hs : sc.length ≤ 80) {tp : Nat} : ∀ (n i : Nat), 81 - i ≤ n → tp ≤ i → i ≤ sc.length → i ≤ tp + 40 → (∀ j, tp ≤ j → j < i → mayF sc tp j) → i ≤ txE sc tp i ∧ txE sc tp i ≤ sc.length ∧ txE sc tp i ≤ tp + 40 ∧ ∀ j, tp ≤ j → j < txE sc tp i → mayF sc tp j := by
  intro n
  induction n with
  | zero => intro i h1 h2 h3; omega
  | succ n ih =>
    intro i h1 h2 h3 h4 h5
    by_cases hc : i < sc.length ∧ mayF sc tp i
    · rw [txE_go hs hc]
      have h6 := ih (i + 1) (by omega) (by omega) hc.1 (by rcases hc.2 with q | q <;> omega) (fun j g1 g2 => by
        rcases Nat.lt_succ_iff_lt_or_eq.mp g2 with g2 | rfl
        · exact h5 j g1 g2
        · exact hc.2)
      exact ⟨by omega, h6.2⟩
    · rw [txE_stop hc]
      exact ⟨Nat.le_refl _, h3, h4, h5⟩
/-- an entry: is it one, where it ends, its numbers, where its text begins -/
def ent (sc : List Int) (i : Nat) : Int × Nat × Int × Int × Nat :=
  if (numF sc i (-6)).1 = -6 then (0, (numF sc i (-6)).2, 0, 0, 0)
  else if ¬ at_ sc (numF sc i (-6)).2 45 then (0, (numF sc i (-6)).2, 0, 0, 0)
  else if (numF sc ((numF sc i (-6)).2 + 1) (-6)).1 = -6 then (0, (numF sc ((numF sc i (-6)).2 + 1) (-6)).2, 0, 0, 0)
  else if ¬ at_ sc (numF sc ((numF sc i (-6)).2 + 1) (-6)).2 58 then (0, (numF sc ((numF sc i (-6)).2 + 1) (-6)).2, 0, 0, 0)
  else if (numF sc ((numF sc i (-6)).2 + 1) (-6)).2 + 1 < txE sc ((numF sc ((numF sc i (-6)).2 + 1) (-6)).2 + 1) ((numF sc ((numF sc i (-6)).2 + 1) (-6)).2 + 1) ∧ sc.getD (txE sc ((numF sc ((numF sc i (-6)).2 + 1) (-6)).2 + 1) ((numF sc ((numF sc i (-6)).2 + 1) (-6)).2 + 1) - 1) 0 ≠ 32
  then (1, txE sc ((numF sc ((numF sc i (-6)).2 + 1) (-6)).2 + 1) ((numF sc ((numF sc i (-6)).2 + 1) (-6)).2 + 1), (numF sc i (-6)).1, (numF sc ((numF sc i (-6)).2 + 1) (-6)).1, (numF sc ((numF sc i (-6)).2 + 1) (-6)).2 + 1)
  else (0, txE sc ((numF sc ((numF sc i (-6)).2 + 1) (-6)).2 + 1) ((numF sc ((numF sc i (-6)).2 + 1) (-6)).2 + 1), 0, 0, 0)
theorem ent_1 {sc : List Int} {i p1 : Nat} (h : numF sc i (-6) = (-6, p1)) : ent sc i = (0, p1, 0, 0, 0) := by
  unfold ent
  rw [h, if_pos rfl]
theorem ent_2 {sc : List Int} {i p1 : Nat} {a : Int} (h : numF sc i (-6) = (a, p1)) (ha : a ≠ -6) (h1 : ¬ at_ sc p1 45) : ent sc i = (0, p1, 0, 0, 0) := by
  unfold ent
  rw [h, if_neg ha, if_pos h1]
theorem ent_3 {sc : List Int} {i p1 p2 : Nat} {a : Int} (h : numF sc i (-6) = (a, p1)) (ha : a ≠ -6) (h1 : at_ sc p1 45) (g : numF sc (p1 + 1) (-6) = (-6, p2)) : ent sc i = (0, p2, 0, 0, 0) := by
  unfold ent
  rw [h, if_neg ha, if_neg (not_not_intro h1)]
  dsimp only
  rw [g, if_pos rfl]
theorem ent_4 {sc : List Int} {i p1 p2 : Nat} {a b : Int} (h : numF sc i (-6) = (a, p1)) (ha : a ≠ -6) (h1 : at_ sc p1 45) (g : numF sc (p1 + 1) (-6) = (b, p2)) (hb : b ≠ -6) (h2 : ¬ at_ sc p2 58) : ent sc i = (0, p2, 0, 0, 0) := by
  unfold ent
  rw [h, if_neg ha, if_neg (not_not_intro h1)]
  dsimp only
  rw [g, if_neg hb, if_pos h2]
theorem ent_5 {sc : List Int} {i p1 p2 : Nat} {a b : Int} (h : numF sc i (-6) = (a, p1)) (ha : a ≠ -6) (h1 : at_ sc p1 45) (g : numF sc (p1 + 1) (-6) = (b, p2)) (hb : b ≠ -6) (h2 : at_ sc p2 58) (h3 : p2 + 1 < txE sc (p2 + 1) (p2 + 1) ∧ sc.getD (txE sc (p2 + 1) (p2 + 1) - 1) 0 ≠ 32) : ent sc i = (1, txE sc (p2 + 1) (p2 + 1), a, b, p2 + 1) := by
  unfold ent
  rw [h, if_neg ha, if_neg (not_not_intro h1)]
  dsimp only
  rw [g, if_neg hb, if_neg (not_not_intro h2)]
  dsimp only
  rw [if_pos h3]
theorem ent_6 {sc : List Int} {i p1 p2 : Nat} {a b : Int} (h : numF sc i (-6) = (a, p1)) (ha : a ≠ -6) (h1 : at_ sc p1 45) (g : numF sc (p1 + 1) (-6) = (b, p2)) (hb : b ≠ -6) (h2 : at_ sc p2 58) (h3 : ¬ (p2 + 1 < txE sc (p2 + 1) (p2 + 1) ∧ sc.getD (txE sc (p2 + 1) (p2 + 1) - 1) 0 ≠ 32)) : ent sc i = (0, txE sc (p2 + 1) (p2 + 1), 0, 0, 0) := by
  unfold ent
  rw [h, if_neg ha, if_neg (not_not_intro h1)]
  dsimp only
  rw [g, if_neg hb, if_neg (not_not_intro h2)]
  dsimp only
  rw [if_neg h3]
/-- every entry is one of these; what is known of it -/
theorem ent_ok {sc : List Int} (hs : ScOk sc) {i : Nat} (hi : i ≤ sc.length) : ((ent sc i).1 = 0 ∨ (ent sc i).1 = 1) ∧ i ≤ (ent sc i).2.1 ∧ (ent sc i).2.1 ≤ sc.length ∧ ((ent sc i).1 = 1 → i < (ent sc i).2.1 ∧ (0 ≤ (ent sc i).2.2.1 ∧ (ent sc i).2.2.1 ≤ 5000) ∧ (0 ≤ (ent sc i).2.2.2.1 ∧ (ent sc i).2.2.2.1 ≤ 5000) ∧ i < (ent sc i).2.2.2.2 ∧ (ent sc i).2.2.2.2 < (ent sc i).2.1 ∧ (ent sc i).2.1 ≤ (ent sc i).2.2.2.2 + 40 ∧ TxOk ((sc.drop (ent sc i).2.2.2.2).take ((ent sc i).2.1 - (ent sc i).2.2.2.2))) := by
  have hl := hs.1
  obtain ⟨a, p1, ha⟩ : ∃ a p1, numF sc i (-6) = (a, p1) := ⟨_, _, rfl⟩
  have b1 := numF_b hl _ i (-6) (Nat.le_refl _) hi (Or.inl rfl)
  rw [ha] at b1
  dsimp only at b1
  by_cases h1 : a = -6
  · subst h1
    rw [ent_1 ha]
    exact ⟨Or.inl rfl, b1.2.1, b1.2.2.1, fun w => absurd (show (0 : Int) = 1 from w) (by decide)⟩
  by_cases h2 : at_ sc p1 45
  · obtain ⟨b, p2, hb⟩ : ∃ b p2, numF sc (p1 + 1) (-6) = (b, p2) := ⟨_, _, rfl⟩
    have b2 := numF_b hl _ (p1 + 1) (-6) (Nat.le_refl _) h2.1 (Or.inl rfl)
    rw [hb] at b2
    dsimp only at b2
    by_cases h3 : b = -6
    · subst h3
      rw [ent_3 ha h1 h2 hb]
      exact ⟨Or.inl rfl, by dsimp only; omega, b2.2.2.1, fun w => absurd (show (0 : Int) = 1 from w) (by decide)⟩
    by_cases h4 : at_ sc p2 58
    · have b3 := txE_b hl (tp := p2 + 1) _ (p2 + 1) (Nat.le_refl _) (Nat.le_refl _) h4.1 (by omega) (fun j g1 g2 => by omega)
      by_cases h5 : p2 + 1 < txE sc (p2 + 1) (p2 + 1) ∧ sc.getD (txE sc (p2 + 1) (p2 + 1) - 1) 0 ≠ 32
      · rw [ent_5 ha h1 h2 hb h3 h4 h5]
        refine ⟨Or.inr rfl, by dsimp only; omega, b3.2.1, fun _ => ?_⟩
        dsimp only
        generalize hE : txE sc (p2 + 1) (p2 + 1) = e at b3 h5
        have hlen : ((sc.drop (p2 + 1)).take (e - (p2 + 1))).length = e - (p2 + 1) := by
          rw [List.length_take, List.length_drop]
          omega
        have hget : ∀ j, j < e - (p2 + 1) → ((sc.drop (p2 + 1)).take (e - (p2 + 1))).getD j 0 = sc.getD (p2 + 1 + j) 0 := fun j hj => by rw [takeL hj, dropL]
        refine ⟨by omega, by omega, by omega, by omega, by omega, by omega, by rw [hlen]; omega, by rw [hlen]; omega, fun j hj => ?_, ?_, ?_, fun j hj => ?_⟩
        · rw [hlen] at hj
          rw [hget j hj]
          exact hs.2 _ (by omega)
        · rw [hget 0 (by omega)]
          have q := b3.2.2.2 (p2 + 1) (Nat.le_refl _) (by omega)
          rcases q with q | q
          · omega
          · exact q.1
        · rw [hlen, hget _ (by omega), show p2 + 1 + (e - (p2 + 1) - 1) = e - 1 by omega]
          exact h5.2
        · rw [hlen] at hj
          rw [hget j (by omega), hget (j + 1) hj]
          rintro ⟨w1, w2⟩
          have q := b3.2.2.2 (p2 + 1 + (j + 1)) (by omega) (by omega)
          rcases q with q | q
          · rw [show p2 + 1 + (j + 1) - 1 = p2 + 1 + j by omega] at q
            exact q.2.2.2 w1
          · exact q.1 w2
      · rw [ent_6 ha h1 h2 hb h3 h4 h5]
        exact ⟨Or.inl rfl, by dsimp only; omega, b3.2.1, fun w => absurd (show (0 : Int) = 1 from w) (by decide)⟩
    · rw [ent_4 ha h1 h2 hb h3 h4]
      exact ⟨Or.inl rfl, by dsimp only; omega, b2.2.2.1, fun w => absurd (show (0 : Int) = 1 from w) (by decide)⟩
  · rw [ent_2 ha h1 h2]
    exact ⟨Or.inl rfl, b1.2.1, b1.2.2.1, fun w => absurd (show (0 : Int) = 1 from w) (by decide)⟩
/-- the fault of the script from i on -/
def fltF (sc : List Int) : Nat → Nat → Int
  | 0, _ => -6
  | f + 1, i => if (ent sc i).1 = 0 then ((ent sc i).2.1 : Int) else if at_ sc (ent sc i).2.1 124 then fltF sc f ((ent sc i).2.1 + 1) else if (ent sc i).2.1 < sc.length then ((ent sc i).2.1 : Int) else -6
def faultS (sc : List Int) : Int := fltF sc 81 0
theorem fltF_s (sc : List Int) (f i : Nat) : fltF sc (f + 1) i = if (ent sc i).1 = 0 then ((ent sc i).2.1 : Int) else if at_ sc (ent sc i).2.1 124 then fltF sc f ((ent sc i).2.1 + 1) else if (ent sc i).2.1 < sc.length then ((ent sc i).2.1 : Int) else -6 := rfl
noncomputable def addF (F : Fm) (S : Sb) : Fm := (F.1, F.2.1, insL F.2.2 (ipos F.2.2 S.1) S)
def entS (sc : List Int) (i : Nat) : Sb := ((ent sc i).2.2.1, (ent sc i).2.2.2.1, (sc.drop (ent sc i).2.2.2.2).take ((ent sc i).2.1 - (ent sc i).2.2.2.2))
/-- loading from i on, k entries are in: the film, how many in all, the report -/
noncomputable def ldF (sc : List Int) : Nat → Nat → Nat → Fm → Fm × Int × Int × Int × Int
  | 0, _, k, F => (F, (k : Int), -6, -6, -6)
  | f + 1, i, k, F =>
    if rsn F (ent sc i).2.2.1 (ent sc i).2.2.2.1 ≠ 0 then (F, (k : Int), (k : Int), rsn F (ent sc i).2.2.1 (ent sc i).2.2.2.1, (i : Int))
    else if at_ sc (ent sc i).2.1 124 then ldF sc f ((ent sc i).2.1 + 1) (k + 1) (addF F (entS sc i)) else (addF F (entS sc i), ((k + 1 : Nat) : Int), -6, -6, -6)
theorem ldF_s (sc : List Int) (f i k : Nat) (F : Fm) : ldF sc (f + 1) i k F = if rsn F (ent sc i).2.2.1 (ent sc i).2.2.2.1 ≠ 0 then (F, (k : Int), (k : Int), rsn F (ent sc i).2.2.1 (ent sc i).2.2.2.1, (i : Int)) else if at_ sc (ent sc i).2.1 124 then ldF sc f ((ent sc i).2.1 + 1) (k + 1) (addF F (entS sc i)) else (addF F (entS sc i), ((k + 1 : Nat) : Int), -6, -6, -6) := rfl
