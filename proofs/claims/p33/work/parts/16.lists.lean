/-! ===== lists: put in, taken out, changed ===== -/
def insL {α : Type} (L : List α) (p : Nat) (x : α) : List α := L.take p ++ x :: L.drop p
theorem insL_len {α : Type} {L : List α} {p : Nat} {x : α} (h : p ≤ L.length) : (insL L p x).length = L.length + 1 := by
  simp [insL]
  omega
theorem insL_lt {α : Type} {L : List α} {p i : Nat} {x d : α} (h : p ≤ L.length) (hi : i < p) : (insL L p x).getD i d = L.getD i d := by
  unfold insL
  rw [List.getD_eq_getElem?_getD, List.getD_eq_getElem?_getD, List.getElem?_append_left (by simp; omega), List.getElem?_take_of_lt hi]
theorem insL_eq {α : Type} {L : List α} {p : Nat} {x d : α} (h : p ≤ L.length) : (insL L p x).getD p d = x := by
  unfold insL
  rw [List.getD_eq_getElem?_getD, List.getElem?_append_right (by simp; omega)]
  simp [Nat.min_eq_left h]
theorem insL_gt {α : Type} {L : List α} {p i : Nat} {x d : α} (h : p ≤ L.length) (hi : p < i) : (insL L p x).getD i d = L.getD (i - 1) d := by
  unfold insL
  rw [List.getD_eq_getElem?_getD, List.getD_eq_getElem?_getD, List.getElem?_append_right (by simp; omega)]
  simp only [List.length_take, Nat.min_eq_left h]
  rw [show i - p = (i - p - 1) + 1 by omega, List.getElem?_cons_succ, List.getElem?_drop, show p + (i - p - 1) = i - 1 by omega]
theorem delL_len {α : Type} {L : List α} {p : Nat} (h : p < L.length) : (L.eraseIdx p).length = L.length - 1 := by
  rw [List.length_eraseIdx]
  simp [h]
theorem delL_lt {α : Type} {L : List α} {p i : Nat} {d : α} (hi : i < p) : (L.eraseIdx p).getD i d = L.getD i d := by
  rw [List.getD_eq_getElem?_getD, List.getD_eq_getElem?_getD, List.getElem?_eraseIdx, if_pos hi]
theorem delL_ge {α : Type} {L : List α} {p i : Nat} {d : α} (hi : p ≤ i) : (L.eraseIdx p).getD i d = L.getD (i + 1) d := by
  rw [List.getD_eq_getElem?_getD, List.getD_eq_getElem?_getD, List.getElem?_eraseIdx, if_neg (by omega)]
theorem setL_eq {α : Type} {L : List α} {p : Nat} {x d : α} (h : p < L.length) : (L.set p x).getD p d = x := by
  rw [List.getD_eq_getElem?_getD, List.getElem?_set_self h]
  rfl
theorem setL_ne {α : Type} {L : List α} {p i : Nat} {x d : α} (h : i ≠ p) : (L.set p x).getD i d = L.getD i d := by
  rw [List.getD_eq_getElem?_getD, List.getD_eq_getElem?_getD, List.getElem?_set_ne (Ne.symm h)]
theorem takeL {L : List Int} {n i : Nat} (h : i < n) : (L.take n).getD i 0 = L.getD i 0 := by
  rw [List.getD_eq_getElem?_getD, List.getD_eq_getElem?_getD, List.getElem?_take_of_lt h]
theorem dropL {L : List Int} {n i : Nat} : (L.drop n).getD i 0 = L.getD (n + i) 0 := by
  rw [List.getD_eq_getElem?_getD, List.getD_eq_getElem?_getD, List.getElem?_drop]
theorem appL_l {L M : List Int} {i : Nat} (h : i < L.length) : (L ++ M).getD i 0 = L.getD i 0 := by
  rw [List.getD_eq_getElem?_getD, List.getD_eq_getElem?_getD, List.getElem?_append_left h]
theorem appL_r {L M : List Int} {i : Nat} (h : L.length ≤ i) : (L ++ M).getD i 0 = M.getD (i - L.length) 0 := by
  rw [List.getD_eq_getElem?_getD, List.getD_eq_getElem?_getD, List.getElem?_append_right h]
theorem consL {x : Int} {L : List Int} {i : Nat} (h : 0 < i) : (x :: L).getD i 0 = L.getD (i - 1) 0 := by
  obtain ⟨j, rfl⟩ : ∃ j, i = j + 1 := ⟨i - 1, by omega⟩
  rfl
theorem ext_d {α : Type} {L M : List α} (d : α) (hl : L.length = M.length) (h : ∀ i, i < L.length → L.getD i d = M.getD i d) : L = M := by
  apply List.ext_getElem hl
  intro i h1 h2
  have := h i h1
  rw [List.getD_eq_getElem?_getD, List.getD_eq_getElem?_getD, List.getElem?_eq_getElem h1, List.getElem?_eq_getElem h2] at this
  exact this
/-! ===== rows opened and closed ===== -/
def RowsOpen (G G' : Wd) (q p n : Nat) : Prop := G' 0 q 0 = n + 1 ∧ (∀ i, i < p → G' 4 q i = G 4 q i) ∧ G' 4 q p = G 4 q n ∧ (∀ i, p < i → i ≤ n → G' 4 q i = G 4 q (i - 1)) ∧ (∀ i, n < i → G' 4 q i = G 4 q i) ∧ ∀ f a i, ¬ (a = q ∧ (f = 4 ∨ f = 0)) → G' f a i = G f a i
def RowsClose (G G' : Wd) (q p n : Nat) : Prop := G' 0 q 0 = n - 1 ∧ (∀ i, i < p → G' 4 q i = G 4 q i) ∧ G' 4 q (n - 1) = G 4 q p ∧ (∀ i, p ≤ i → i < n - 1 → G' 4 q i = G 4 q (i + 1)) ∧ (∀ i, n ≤ i → G' 4 q i = G 4 q i) ∧ ∀ f a i, ¬ (a = q ∧ (f = 4 ∨ f = 0)) → G' f a i = G f a i
theorem RowOk.perm {G G' : Wd} {q : Nat} (h : RowOk G q) (g : Nat → Nat) (hg : ∀ i, i < 20 → g i < 20 ∧ G' 4 q i = G 4 q (g i)) (hi : ∀ i j, i < 20 → j < 20 → g i = g j → i = j) : RowOk G' q := by
  refine ⟨fun i h1 => ?_, fun i j h1 h2 h3 => ?_⟩
  · rw [(hg i h1).2]
    exact h.1 _ (hg i h1).1
  · rw [(hg i h1).2, (hg j h2).2] at h3
    exact hi i j h1 h2 (h.2 _ _ (hg i h1).1 (hg j h2).1 h3)
theorem RowsOpen.row {G G' : Wd} {q p n : Nat} (h : RowsOpen G G' q p n) (hR : RowOk G q) (hp : p ≤ n) (hn : n < 20) : RowOk G' q := by
  obtain ⟨-, h1, h2, h3, h4, -⟩ := h
  refine hR.perm (fun i => if i < p then i else if i = p then n else if i ≤ n then i - 1 else i) (fun i hi => ?_) (fun i j hi hj hij => ?_)
  · try dsimp only
    split
    · exact ⟨hi, h1 i ‹_›⟩
    · split
      · rename_i q1 q2
        exact ⟨hn, by rw [q2]; exact h2⟩
      · split
        · exact ⟨by omega, h3 i (by omega) ‹_›⟩
        · exact ⟨hi, h4 i (by omega)⟩
  · try dsimp only at hij
    repeat' split at hij
    all_goals omega
theorem RowsClose.row {G G' : Wd} {q p n : Nat} (h : RowsClose G G' q p n) (hR : RowOk G q) (hp : p < n) (hn : n ≤ 20) : RowOk G' q := by
  obtain ⟨-, h1, h2, h3, h4, -⟩ := h
  refine hR.perm (fun i => if i < p then i else if i = n - 1 then p else if i < n then i + 1 else i) (fun i hi => ?_) (fun i j hi hj hij => ?_)
  · try dsimp only
    split
    · exact ⟨hi, h1 i ‹_›⟩
    · split
      · rename_i q1 q2
        exact ⟨by omega, by rw [q2]; exact h2⟩
      · split
        · exact ⟨by omega, h3 i (by omega) (by omega)⟩
        · exact ⟨hi, h4 i (by omega)⟩
  · try dsimp only at hij
    repeat' split at hij
    all_goals omega
theorem RowsOpen.fr {G G' : Wd} {q p n : Nat} (h : RowsOpen G G' q p n) : FrF q G G' := fun f a i hn => h.2.2.2.2.2 f a i (by unfold inF at hn; omega)
theorem RowsClose.fr {G G' : Wd} {q p n : Nat} (h : RowsClose G G' q p n) : FrF q G G' := fun f a i hn => h.2.2.2.2.2 f a i (by unfold inF at hn; omega)
/-- a film out of which a row was taken -/
theorem RowsClose.film {G G' : Wd} {q p : Nat} {F : Fm} (h : RowsClose G G' q p F.2.2.length) (hF : FilmIs G q F) (hp : p < F.2.2.length) (hn : F.2.2.length ≤ 20) : FilmIs G' q (F.1, F.2.1, F.2.2.eraseIdx p) := by
  have hRow := h.row hF.1 hp hn
  obtain ⟨hR, hV, hcc, hcu, hc, hs⟩ := hF
  obtain ⟨h0, h1, h2, h3, h4, h5⟩ := h
  have e5 : ∀ f k i, 5 ≤ f → G' f k i = G f k i := fun f k i hf => h5 f k i (by omega)
  refine ⟨hRow, fun i hi => (h5 3 q i (by omega)).trans (hV i hi), (h5 1 q 0 (by omega)).trans hcc, fun i hi => (h5 2 q i (by omega)).trans (hcu i hi), ?_, fun i hi => ?_⟩
  · rw [h0, delL_len hp]
    omega
  · rw [delL_len hp] at hi
    dsimp only
    by_cases q1 : i < p
    · rw [h1 i q1, delL_lt q1]
      exact (hs i (by omega)).of (fun f j hf _ => e5 f _ j hf)
    · rw [h3 i (by omega) (by omega), delL_ge (by omega)]
      exact (hs (i + 1) (by omega)).of (fun f j hf _ => e5 f _ j hf)
/-- a film into which a row was put, and filled -/
theorem RowsOpen.film {G G1 G2 : Wd} {q p : Nat} {F : Fm} {S : Sb} (h : RowsOpen G G1 q p F.2.2.length) (hF : FilmIs G q F) (hp : p ≤ F.2.2.length) (hn : F.2.2.length < 20) (hS : SubIs G2 (G1 4 q p).toNat S) (hk : ∀ f a i, ¬ (5 ≤ f ∧ f ≤ 8 ∧ a = (G1 4 q p).toNat) → G2 f a i = G1 f a i) : FilmIs G2 q (F.1, F.2.1, insL F.2.2 p S) ∧ FrF q G G2 := by
  have hRow := h.row hF.1 hp hn
  have hfr := h.fr
  obtain ⟨hR, hV, hcc, hcu, hc, hs⟩ := hF
  obtain ⟨h0, h1, h2, h3, h4, h5⟩ := h
  have e4 : ∀ i, G2 4 q i = G1 4 q i := fun i => hk 4 q i (by omega)
  have e : ∀ f i, f ≤ 3 → f ≠ 0 → G2 f q i = G f q i := fun f i hf hf0 => (hk f q i (by omega)).trans (h5 f q i (by omega))
  have hb := hRow.1 p (by omega)
  refine ⟨⟨⟨fun i hi => by rw [e4]; exact hRow.1 i hi, fun i j hi hj hij => by rw [e4, e4] at hij; exact hRow.2 i j hi hj hij⟩, fun i hi => (e 3 i (by omega) (by omega)).trans (hV i hi), (e 1 0 (by omega) (by omega)).trans hcc, fun i hi => (e 2 i (by omega) (by omega)).trans (hcu i hi), ?_, fun i hi => ?_⟩, fun f a i hn2 => ?_⟩
  · rw [hk 0 q 0 (by omega), h0, insL_len hp]
    omega
  · dsimp only at hi
    rw [insL_len hp] at hi
    dsimp only
    rw [e4]
    have old : ∀ (i j : Nat), i < 20 → i ≠ p → j < F.2.2.length → G1 4 q i = G 4 q j → SubIs G2 (G1 4 q i).toNat (F.2.2.getD j dS) := by
      intro i j hi hip hj hij
      have hne : (G1 4 q i).toNat ≠ (G1 4 q p).toNat := fun w => hip (hRow.2 i p hi (by omega) w)
      have hsj := hs j hj
      rw [← hij] at hsj
      exact hsj.of (fun f j2 hf hf8 => (hk f _ j2 (by omega)).trans (h5 f _ j2 (by omega)))
    rcases Nat.lt_trichotomy i p with q1 | q1 | q1
    · rw [insL_lt hp q1]
      exact old i i (by omega) (by omega) (by omega) (h1 i q1)
    · subst q1
      rw [insL_eq hp]
      exact hS
    · rw [insL_gt hp q1]
      exact old i (i - 1) (by omega) (by omega) (by omega) (h3 i q1 (by omega))
  · rw [hk f a i (by unfold inF at hn2; omega)]
    exact hfr f a i hn2
/-- the place for a start -/
def IP (L : List Sb) (x : Int) (p : Nat) : Prop := p ≤ L.length ∧ (∀ i, i < p → (L.getD i dS).1 < x) ∧ ∀ i, p ≤ i → i < L.length → x ≤ (L.getD i dS).1
theorem IP_u {L : List Sb} {x : Int} {p p' : Nat} (h : IP L x p) (h' : IP L x p') : p = p' := by
  rcases Nat.lt_trichotomy p p' with q | q | q
  · have a := h.2.2 p (Nat.le_refl _) (by have := h'.1; omega)
    have b := h'.2.1 p q
    omega
  · exact q
  · have a := h'.2.2 p' (Nat.le_refl _) (by have := h.1; omega)
    have b := h.2.1 p' q
    omega
noncomputable def ipos (L : List Sb) (x : Int) : Nat := Classical.epsilon (fun p => IP L x p)
theorem ipos_of {L : List Sb} {x : Int} {p : Nat} (h : IP L x p) : ipos L x = p := IP_u (Classical.epsilon_spec (p := fun p => IP L x p) ⟨p, h⟩) h
theorem SsOk.mono {L : List Sb} (h : SsOk L) {i j : Nat} (hij : i < j) (hj : j < L.length) : (L.getD i dS).2.1 ≤ (L.getD j dS).1 := by
  induction j with
  | zero => omega
  | succ j ih =>
    rcases Nat.lt_succ_iff_lt_or_eq.mp hij with q | rfl
    · have h1 := ih q (by omega)
      have h2 := h.2.2 j hj
      have h3 := (h.2.1 j (by omega)).2.1
      omega
    · exact h.2.2 i hj
/-- sorted rows: as many starts lie below as the place tells -/
theorem cnt_IP {L : List Sb} (h : SsOk L) (x : Int) : ∀ n, n ≤ L.length → ∃ p : Nat, cnt (fun i => (L.getD i dS).1 < x) n = p ∧ p ≤ n ∧ (∀ i, i < p → (L.getD i dS).1 < x) ∧ ∀ i, p ≤ i → i < n → x ≤ (L.getD i dS).1 := by
  intro n
  induction n with
  | zero => intro _; exact ⟨0, rfl, Nat.le_refl _, fun i hi => by omega, fun i _ hi => by omega⟩
  | succ n ih =>
    intro hn
    obtain ⟨p, h1, h2, h3, h4⟩ := ih (by omega)
    by_cases hx : (L.getD n dS).1 < x
    · have hp : p = n := by
        rcases Nat.lt_or_ge p n with q | q
        · have a := h4 p (Nat.le_refl _) q
          have b := h.mono q (by omega)
          have c := (h.2.1 p (by omega)).2.1
          omega
        · omega
      subst hp
      refine ⟨p + 1, ?_, Nat.le_refl _, fun i hi => ?_, fun i h5 h6 => by omega⟩
      · rw [cnt_t (p := fun i => (L.getD i dS).1 < x) hx, h1]; simp
      · rcases Nat.lt_succ_iff_lt_or_eq.mp hi with q | rfl
        · exact h3 i q
        · exact hx
    · refine ⟨p, ?_, by omega, h3, fun i h5 h6 => ?_⟩
      · rw [cnt_f (p := fun i => (L.getD i dS).1 < x) hx, h1]
      · rcases Nat.lt_succ_iff_lt_or_eq.mp h6 with q | rfl
        · exact h4 i h5 q
        · omega
theorem ipos_cnt {L : List Sb} (h : SsOk L) (x : Int) : cnt (fun i => (L.getD i dS).1 < x) L.length = (ipos L x : Int) ∧ IP L x (ipos L x) := by
  obtain ⟨p, h1, h2, h3, h4⟩ := cnt_IP h x L.length (Nat.le_refl _)
  have hp : IP L x p := ⟨h2, h3, h4⟩
  rw [ipos_of hp]
  exact ⟨h1, hp⟩
/-- the place for a cut -/
def CP (L : List Int) (x : Int) (p : Nat) : Prop := p ≤ L.length ∧ (∀ i, i < p → L.getD i 0 < x) ∧ ∀ i, p ≤ i → i < L.length → x < L.getD i 0
theorem CP_u {L : List Int} {x : Int} {p p' : Nat} (h : CP L x p) (h' : CP L x p') : p = p' := by
  rcases Nat.lt_trichotomy p p' with q | q | q
  · have a := h.2.2 p (Nat.le_refl _) (by have := h'.1; omega)
    have b := h'.2.1 p q
    omega
  · exact q
  · have a := h'.2.2 p' (Nat.le_refl _) (by have := h.1; omega)
    have b := h.2.1 p' q
    omega
noncomputable def cpos (L : List Int) (x : Int) : Nat := Classical.epsilon (fun p => CP L x p)
theorem cpos_of {L : List Int} {x : Int} {p : Nat} (h : CP L x p) : cpos L x = p := CP_u (Classical.epsilon_spec (p := fun p => CP L x p) ⟨p, h⟩) h
/-- one row of a film changed -/
theorem film_set {G G1 : Wd} {q i : Nat} {F : Fm} {S : Sb} (hF : FilmIs G q F) (hl : F.2.2.length ≤ 20) (hi : i < F.2.2.length) (hS : SubIs G1 (G 4 q i).toNat S) (hk : ∀ f a j, ¬ (5 ≤ f ∧ f ≤ 8 ∧ a = (G 4 q i).toNat) → G1 f a j = G f a j) : FilmIs G1 q (F.1, F.2.1, F.2.2.set i S) ∧ FrF q G G1 := by
  obtain ⟨hR, hV, hcc, hcu, hc, hs⟩ := hF
  have hb := hR.1 i (by omega)
  have e4 : ∀ j, G1 4 q j = G 4 q j := fun j => hk 4 q j (by omega)
  refine ⟨⟨⟨fun j hj => by rw [e4]; exact hR.1 j hj, fun j j2 hj hj2 hij => by rw [e4, e4] at hij; exact hR.2 j j2 hj hj2 hij⟩, fun j hj => (hk 3 q j (by omega)).trans (hV j hj), (hk 1 q 0 (by omega)).trans hcc, fun j hj => (hk 2 q j (by omega)).trans (hcu j hj), ?_, fun j hj => ?_⟩, fun f a j hn => hk f a j (by unfold inF at hn; omega)⟩
  · rw [hk 0 q 0 (by omega), hc, List.length_set]
  · dsimp only at hj
    rw [List.length_set] at hj
    dsimp only
    rw [e4]
    by_cases hji : j = i
    · subst hji
      rw [setL_eq hi]
      exact hS
    · rw [setL_ne hji]
      have hne : (G 4 q j).toNat ≠ (G 4 q i).toNat := fun w => hji (hR.2 j i (by omega) (by omega) w)
      exact (hs j hj).of (fun f j2 h5 h8 => hk f _ j2 (by omega))
