/-! ===== whole numbers ===== -/
def iN (z : Int) : Int32 := Int32.ofInt z
theorem iN_add (a b : Int) : iN a + iN b = iN (a + b) := (Int32.ofInt_add a b).symm
theorem iN_sub (a b : Int) : iN a - iN b = iN (a - b) := (Int32.ofInt_sub a b).symm
theorem iN_mul (a b : Int) : iN a * iN b = iN (a * b) := (Int32.ofInt_mul a b).symm
theorem iN_neg (a : Int) : - iN a = iN (-a) := (Int32.ofInt_neg a).symm
theorem iN_toInt {z : Int} (h : -2147483648 ≤ z ∧ z < 2147483648) : (iN z).toInt = z := Int32.toInt_ofInt_of_le (by omega) (by omega)
theorem iN_of (x : Int32) : ∃ z : Int, (-2147483648 ≤ z ∧ z < 2147483648) ∧ x = iN z := by
  have h1 := x.le_toInt
  have h2 := x.toInt_lt
  exact ⟨x.toInt, ⟨by omega, by omega⟩, (Int32.ofInt_toInt x).symm⟩
theorem iN_lt {a b : Int} (h : -2147483648 ≤ a ∧ a < 2147483648 ∧ -2147483648 ≤ b ∧ b < 2147483648) : iN a < iN b ↔ a < b := by
  rw [Int32.lt_iff_toInt_lt, iN_toInt ⟨h.1, h.2.1⟩, iN_toInt h.2.2]
theorem iN_le {a b : Int} (h : -2147483648 ≤ a ∧ a < 2147483648 ∧ -2147483648 ≤ b ∧ b < 2147483648) : iN a ≤ iN b ↔ a ≤ b := by
  rw [Int32.le_iff_toInt_le, iN_toInt ⟨h.1, h.2.1⟩, iN_toInt h.2.2]
theorem iN_eq {a b : Int} (h : -2147483648 ≤ a ∧ a < 2147483648 ∧ -2147483648 ≤ b ∧ b < 2147483648) : iN a = iN b ↔ a = b := by
  rw [← Int32.toInt_inj, iN_toInt ⟨h.1, h.2.1⟩, iN_toInt h.2.2]
theorem iN_clamp {z : Int} (h : -2147483648 ≤ z ∧ z < 2147483648) : (iN z).toNatClampNeg = z.toNat := Int32.toNatClampNeg_ofInt_of_le (by omega) (by omega)
theorem iN_zero : (0 : Int32) = iN 0 := rfl
theorem iN_in {z : Int} {n : Nat} (h : 0 ≤ z ∧ z < n) (hn : n < 2147483648) : vp_in (iN z) n := by
  rw [vp_in_iff, iN_toInt (by omega)]
  exact h
theorem iN_div {a b : Int} (h : 0 ≤ a ∧ a < 2147483648 ∧ 0 < b ∧ b < 2147483648) : iN a / iN b = iN (a / b) := by
  have hq : 0 ≤ a / b := Int.ediv_nonneg h.1 (by omega)
  have hq2 : a / b ≤ a := Int.ediv_le_self b h.1
  rw [← Int32.toInt_inj, Int32.toInt_div_of_ne_right, iN_toInt (by omega), iN_toInt (by omega), iN_toInt (by omega), Int.tdiv_eq_ediv_of_nonneg h.1]
  intro hb
  have h3 : (iN b).toInt = (-1 : Int32).toInt := by rw [hb]
  rw [iN_toInt (by omega)] at h3
  have h4 : (-1 : Int32).toInt = -1 := by decide
  omega
/-! ===== the world of numbers: field, object, place ===== -/
abbrev Wd : Type := Nat → Nat → Nat → Int
def gup (G : Wd) (f a i : Nat) (v : Int) : Wd := fun f' a' i' => if f' = f ∧ a' = a ∧ i' = i then v else G f' a' i'
theorem gup_eq (G : Wd) (f a i : Nat) (v : Int) (f' a' i' : Nat) : gup G f a i v f' a' i' = if f' = f ∧ a' = a ∧ i' = i then v else G f' a' i' := rfl
theorem gup_s (G : Wd) (f a i : Nat) (v : Int) : gup G f a i v f a i = v := by simp [gup]
theorem gup_f (G : Wd) (f a i : Nat) (v : Int) {f' : Nat} (a' i' : Nat) (h : f' ≠ f) : gup G f a i v f' a' i' = G f' a' i' := by simp [gup, h]
theorem gup_a (G : Wd) (f a i : Nat) (v : Int) {f' a' : Nat} (i' : Nat) (h : a' ≠ a) : gup G f a i v f' a' i' = G f' a' i' := by simp [gup, h]
theorem gup_i (G : Wd) (f a i : Nat) (v : Int) {f' a' i' : Nat} (h : i' ≠ i) : gup G f a i v f' a' i' = G f' a' i' := by simp [gup, h]
/-- addresses, classes, array classes, tables -/
abbrev En : Type := (Nat → Nat) × va_G × (Nat → ClassId) × (Nat → Nat)
abbrev ci_ (E : En) (k n : Nat) (f : Nat → Int32) : va_E := .inl (E.2.2.1 k, n, .inl f)
abbrev cr_ (E : En) (k n : Nat) (f : Nat → Option Nat) : va_E := .inl (E.2.2.1 k, n, .inr (.inr (.inr (.inr f))))
/-- what the cell of number c holds -/
def cont (E : En) (G : Wd) (c : Nat) : va_E :=
  if c = 0 then .inr (4, [.ref (E.1 14), .ref (E.1 15), .ref (E.1 1), .ref (E.1 3), .ref (E.1 5)])
  else if c = 1 then .inr (1, [.ref (E.1 2), .int (iN (G 9 0 0)), .int (iN (G 10 0 0))])
  else if c = 2 then cr_ E 3 4 (fun i => some (E.1 (16 + i)))
  else if c = 3 then .inr (2, [.ref (E.1 4), .int (iN (G 12 0 0)), .int (iN (G 13 0 0)), .int (iN (G 14 0 0)), .int (iN (G 15 0 0)), .int (iN (G 16 0 0)), .int (iN (G 17 0 0)), .int (iN (G 18 0 0))])
  else if c = 4 then ci_ E 1 80 (fun i => iN (G 11 0 i))
  else if c = 5 then ci_ E 0 3 (fun i => iN (G 19 0 i))
  else if c = 6 then .inr (5, [.ref (E.1 7), .ref (E.1 8), .ref (E.1 9), .ref (E.1 10), .int (iN (G 27 0 0)), .ref (E.1 11), .int (iN (G 28 0 0)), .ref (E.1 12), .int (iN (G 29 0 0)), .int (iN (G 30 0 0)), .int (iN (G 31 0 0)), .int (iN (G 32 0 0)), .int (iN (G 33 0 0)), .int (iN (G 34 0 0)), .int (iN (G 35 0 0)), .ref (E.1 13)])
  else if c = 7 then ci_ E 0 880 (fun i => iN (G 20 0 i))
  else if c = 8 then ci_ E 0 880 (fun i => iN (G 21 0 i))
  else if c = 9 then ci_ E 0 880 (fun i => iN (G 22 0 i))
  else if c = 10 then ci_ E 0 3520 (fun i => iN (G 23 0 i))
  else if c = 11 then ci_ E 0 80 (fun i => iN (G 24 0 i))
  else if c = 12 then ci_ E 0 40 (fun i => iN (G 25 0 i))
  else if c = 13 then ci_ E 0 3 (fun i => iN (G 26 0 i))
  else if c < 20 then .inr (0, [.ref (E.1 (20 + (c - 14))), .int (iN (G 0 (c - 14) 0)), .ref (E.1 (26 + (c - 14))), .int (iN (G 1 (c - 14) 0)), .ref (E.1 (32 + (c - 14)))])
  else if c < 26 then cr_ E 2 20 (fun i => some (E.1 (38 + (G 4 (c - 20) i).toNat)))
  else if c < 32 then ci_ E 0 12 (fun i => iN (G 2 (c - 26) i))
  else if c < 38 then ci_ E 0 6 (fun i => iN (G 3 (c - 32) i))
  else if c < 158 then .inr (3, [.int (iN (G 5 (c - 38) 0)), .int (iN (G 6 (c - 38) 0)), .int (iN (G 7 (c - 38) 0)), .ref (E.1 (158 + (c - 38)))])
  else ci_ E 1 40 (fun i => iN (G 8 (c - 158) i))
/-- the cell in which a number lives -/
def cel (f a : Nat) : Nat :=
  if f = 0 then 14 + a else if f = 1 then 14 + a else if f = 2 then 26 + a else if f = 3 then 32 + a else if f = 4 then 20 + a
  else if f ≤ 7 then 38 + a else if f = 8 then 158 + a else if f ≤ 10 then 1 else if f = 11 then 4 else if f ≤ 18 then 3 else if f = 19 then 5
  else if f ≤ 26 then f - 13 else 6
/-! ===== cells by their kinds ===== -/
theorem co_main (E : En) (G : Wd) : cont E G 0 = .inr (4, [.ref (E.1 14), .ref (E.1 15), .ref (E.1 1), .ref (E.1 3), .ref (E.1 5)]) := rfl
theorem co_hist (E : En) (G : Wd) : cont E G 1 = .inr (1, [.ref (E.1 2), .int (iN (G 9 0 0)), .int (iN (G 10 0 0))]) := rfl
theorem co_states (E : En) (G : Wd) : cont E G 2 = cr_ E 3 4 (fun i => some (E.1 (16 + i))) := rfl
theorem co_scr (E : En) (G : Wd) : cont E G 3 = .inr (2, [.ref (E.1 4), .int (iN (G 12 0 0)), .int (iN (G 13 0 0)), .int (iN (G 14 0 0)), .int (iN (G 15 0 0)), .int (iN (G 16 0 0)), .int (iN (G 17 0 0)), .int (iN (G 18 0 0))]) := rfl
theorem co_chars (E : En) (G : Wd) : cont E G 4 = ci_ E 1 80 (fun i => iN (G 11 0 i)) := rfl
theorem co_rep (E : En) (G : Wd) : cont E G 5 = ci_ E 0 3 (fun i => iN (G 19 0 i)) := rfl
theorem co_mod (E : En) (G : Wd) : cont E G 6 = .inr (5, [.ref (E.1 7), .ref (E.1 8), .ref (E.1 9), .ref (E.1 10), .int (iN (G 27 0 0)), .ref (E.1 11), .int (iN (G 28 0 0)), .ref (E.1 12), .int (iN (G 29 0 0)), .int (iN (G 30 0 0)), .int (iN (G 31 0 0)), .int (iN (G 32 0 0)), .int (iN (G 33 0 0)), .int (iN (G 34 0 0)), .int (iN (G 35 0 0)), .ref (E.1 13)]) := rfl
theorem co_s (E : En) (G : Wd) : cont E G 7 = ci_ E 0 880 (fun i => iN (G 20 0 i)) := rfl
theorem co_aside (E : En) (G : Wd) : cont E G 8 = ci_ E 0 880 (fun i => iN (G 21 0 i)) := rfl
theorem co_before (E : En) (G : Wd) : cont E G 9 = ci_ E 0 880 (fun i => iN (G 22 0 i)) := rfl
theorem co_past (E : En) (G : Wd) : cont E G 10 = ci_ E 0 3520 (fun i => iN (G 23 0 i)) := rfl
theorem co_mscr (E : En) (G : Wd) : cont E G 11 = ci_ E 0 80 (fun i => iN (G 24 0 i)) := rfl
theorem co_lines (E : En) (G : Wd) : cont E G 12 = ci_ E 0 40 (fun i => iN (G 25 0 i)) := rfl
theorem co_mrep (E : En) (G : Wd) : cont E G 13 = ci_ E 0 3 (fun i => iN (G 26 0 i)) := rfl
theorem co_film (E : En) (G : Wd) {q : Nat} (h : q < 6) : cont E G (14 + q) = .inr (0, [.ref (E.1 (20 + q)), .int (iN (G 0 q 0)), .ref (E.1 (26 + q)), .int (iN (G 1 q 0)), .ref (E.1 (32 + q))]) := by
  have e : 14 + q - 14 = q := by omega
  unfold cont
  rw [if_neg (by omega), if_neg (by omega), if_neg (by omega), if_neg (by omega), if_neg (by omega), if_neg (by omega), if_neg (by omega), if_neg (by omega), if_neg (by omega), if_neg (by omega), if_neg (by omega), if_neg (by omega), if_neg (by omega), if_neg (by omega), if_pos (by omega), e]
theorem co_rows (E : En) (G : Wd) {q : Nat} (h : q < 6) : cont E G (20 + q) = cr_ E 2 20 (fun i => some (E.1 (38 + (G 4 q i).toNat))) := by
  have e : 20 + q - 20 = q := by omega
  unfold cont
  rw [if_neg (by omega), if_neg (by omega), if_neg (by omega), if_neg (by omega), if_neg (by omega), if_neg (by omega), if_neg (by omega), if_neg (by omega), if_neg (by omega), if_neg (by omega), if_neg (by omega), if_neg (by omega), if_neg (by omega), if_neg (by omega), if_neg (by omega), if_pos (by omega), e]
theorem co_cuts (E : En) (G : Wd) {q : Nat} (h : q < 6) : cont E G (26 + q) = ci_ E 0 12 (fun i => iN (G 2 q i)) := by
  have e : 26 + q - 26 = q := by omega
  unfold cont
  rw [if_neg (by omega), if_neg (by omega), if_neg (by omega), if_neg (by omega), if_neg (by omega), if_neg (by omega), if_neg (by omega), if_neg (by omega), if_neg (by omega), if_neg (by omega), if_neg (by omega), if_neg (by omega), if_neg (by omega), if_neg (by omega), if_neg (by omega), if_neg (by omega), if_pos (by omega), e]
theorem co_vals (E : En) (G : Wd) {q : Nat} (h : q < 6) : cont E G (32 + q) = ci_ E 0 6 (fun i => iN (G 3 q i)) := by
  have e : 32 + q - 32 = q := by omega
  unfold cont
  rw [if_neg (by omega), if_neg (by omega), if_neg (by omega), if_neg (by omega), if_neg (by omega), if_neg (by omega), if_neg (by omega), if_neg (by omega), if_neg (by omega), if_neg (by omega), if_neg (by omega), if_neg (by omega), if_neg (by omega), if_neg (by omega), if_neg (by omega), if_neg (by omega), if_neg (by omega), if_pos (by omega), e]
theorem co_sub (E : En) (G : Wd) {q : Nat} (h : q < 120) : cont E G (38 + q) = .inr (3, [.int (iN (G 5 q 0)), .int (iN (G 6 q 0)), .int (iN (G 7 q 0)), .ref (E.1 (158 + q))]) := by
  have e : 38 + q - 38 = q := by omega
  unfold cont
  rw [if_neg (by omega), if_neg (by omega), if_neg (by omega), if_neg (by omega), if_neg (by omega), if_neg (by omega), if_neg (by omega), if_neg (by omega), if_neg (by omega), if_neg (by omega), if_neg (by omega), if_neg (by omega), if_neg (by omega), if_neg (by omega), if_neg (by omega), if_neg (by omega), if_neg (by omega), if_neg (by omega), if_pos (by omega), e]
theorem co_text (E : En) (G : Wd) (q : Nat) : cont E G (158 + q) = ci_ E 1 40 (fun i => iN (G 8 q i)) := by
  have e : 158 + q - 158 = q := by omega
  unfold cont
  rw [if_neg (by omega), if_neg (by omega), if_neg (by omega), if_neg (by omega), if_neg (by omega), if_neg (by omega), if_neg (by omega), if_neg (by omega), if_neg (by omega), if_neg (by omega), if_neg (by omega), if_neg (by omega), if_neg (by omega), if_neg (by omega), if_neg (by omega), if_neg (by omega), if_neg (by omega), if_neg (by omega), if_neg (by omega), e]
theorem cont_congr (E : En) {G G' : Wd} {c : Nat} (h : ∀ f a i, cel f a = c → G' f a i = G f a i) : cont E G' c = cont E G c := by
  by_cases h0 : c = 0
  · subst h0
    rfl
  by_cases h1 : c = 1
  · subst h1
    rw [co_hist, co_hist, h 9 0 0 rfl, h 10 0 0 rfl]
  by_cases h2 : c = 2
  · subst h2
    rfl
  by_cases h3 : c = 3
  · subst h3
    rw [co_scr, co_scr, h 12 0 0 rfl, h 13 0 0 rfl, h 14 0 0 rfl, h 15 0 0 rfl, h 16 0 0 rfl, h 17 0 0 rfl, h 18 0 0 rfl]
  by_cases h4 : c = 4
  · subst h4
    rw [co_chars, co_chars, show (fun i => iN (G' 11 0 i)) = (fun i => iN (G 11 0 i)) from funext fun i => by rw [h 11 0 i rfl]]
  by_cases h5 : c = 5
  · subst h5
    rw [co_rep, co_rep, show (fun i => iN (G' 19 0 i)) = (fun i => iN (G 19 0 i)) from funext fun i => by rw [h 19 0 i rfl]]
  by_cases h6 : c = 6
  · subst h6
    rw [co_mod, co_mod, h 27 0 0 rfl, h 28 0 0 rfl, h 29 0 0 rfl, h 30 0 0 rfl, h 31 0 0 rfl, h 32 0 0 rfl, h 33 0 0 rfl, h 34 0 0 rfl, h 35 0 0 rfl]
  by_cases h7 : c = 7
  · subst h7
    rw [co_s, co_s, show (fun i => iN (G' 20 0 i)) = (fun i => iN (G 20 0 i)) from funext fun i => by rw [h 20 0 i rfl]]
  by_cases h8 : c = 8
  · subst h8
    rw [co_aside, co_aside, show (fun i => iN (G' 21 0 i)) = (fun i => iN (G 21 0 i)) from funext fun i => by rw [h 21 0 i rfl]]
  by_cases h9 : c = 9
  · subst h9
    rw [co_before, co_before, show (fun i => iN (G' 22 0 i)) = (fun i => iN (G 22 0 i)) from funext fun i => by rw [h 22 0 i rfl]]
  by_cases h10 : c = 10
  · subst h10
    rw [co_past, co_past, show (fun i => iN (G' 23 0 i)) = (fun i => iN (G 23 0 i)) from funext fun i => by rw [h 23 0 i rfl]]
  by_cases h11 : c = 11
  · subst h11
    rw [co_mscr, co_mscr, show (fun i => iN (G' 24 0 i)) = (fun i => iN (G 24 0 i)) from funext fun i => by rw [h 24 0 i rfl]]
  by_cases h12 : c = 12
  · subst h12
    rw [co_lines, co_lines, show (fun i => iN (G' 25 0 i)) = (fun i => iN (G 25 0 i)) from funext fun i => by rw [h 25 0 i rfl]]
  by_cases h13 : c = 13
  · subst h13
    rw [co_mrep, co_mrep, show (fun i => iN (G' 26 0 i)) = (fun i => iN (G 26 0 i)) from funext fun i => by rw [h 26 0 i rfl]]
  by_cases g20 : c < 20
  · obtain ⟨q, rfl⟩ : ∃ q, c = 14 + q := ⟨c - 14, by omega⟩
    rw [co_film E G' (by omega), co_film E G (by omega), h 0 q 0 rfl, h 1 q 0 rfl]
  by_cases g26 : c < 26
  · obtain ⟨q, rfl⟩ : ∃ q, c = 20 + q := ⟨c - 20, by omega⟩
    rw [co_rows E G' (by omega), co_rows E G (by omega), show (fun i => some (E.1 (38 + (G' 4 q i).toNat))) = (fun i => some (E.1 (38 + (G 4 q i).toNat))) from funext fun i => by rw [h 4 q i rfl]]
  by_cases g32 : c < 32
  · obtain ⟨q, rfl⟩ : ∃ q, c = 26 + q := ⟨c - 26, by omega⟩
    rw [co_cuts E G' (by omega), co_cuts E G (by omega), show (fun i => iN (G' 2 q i)) = (fun i => iN (G 2 q i)) from funext fun i => by rw [h 2 q i rfl]]
  by_cases g38 : c < 38
  · obtain ⟨q, rfl⟩ : ∃ q, c = 32 + q := ⟨c - 32, by omega⟩
    rw [co_vals E G' (by omega), co_vals E G (by omega), show (fun i => iN (G' 3 q i)) = (fun i => iN (G 3 q i)) from funext fun i => by rw [h 3 q i rfl]]
  by_cases g158 : c < 158
  · obtain ⟨q, rfl⟩ : ∃ q, c = 38 + q := ⟨c - 38, by omega⟩
    rw [co_sub E G' (by omega), co_sub E G (by omega), h 5 q 0 rfl, h 6 q 0 rfl, h 7 q 0 rfl]
  obtain ⟨q, rfl⟩ : ∃ q, c = 158 + q := ⟨c - 158, by omega⟩
  rw [co_text E G' q, co_text E G q, show (fun i => iN (G' 8 q i)) = (fun i => iN (G 8 q i)) from funext fun i => by rw [h 8 q i rfl]]
theorem cont_gup (E : En) (G : Wd) {f a i : Nat} {v : Int} {c : Nat} (h : c ≠ cel f a) : cont E (gup G f a i v) c = cont E G c :=
  cont_congr E (fun f' a' i' h2 => by
    rw [gup_eq, if_neg]
    rintro ⟨rfl, rfl, rfl⟩
    exact h h2.symm)
abbrev nm_ (i : Nat) : Nat := if i < 6 then i else i + 8
abbrev px_ (c : Nat) : Nat := if c < 6 then c else c - 8
theorem nm_px {c : Nat} (h : c < 278 ∧ (c < 6 ∨ 14 ≤ c)) : px_ c < 270 ∧ nm_ (px_ c) = c := by
  unfold px_ nm_
  by_cases hc : c < 6
  · rw [if_pos hc, if_pos hc]; omega
  · rw [if_neg hc, if_neg (by omega)]; omega
theorem px_nm {i : Nat} (h : i < 270) : px_ (nm_ i) = i ∧ (nm_ i < 278 ∧ (nm_ i < 6 ∨ 14 ≤ nm_ i)) := by
  unfold px_ nm_
  by_cases hc : i < 6
  · rw [if_pos hc, if_pos hc]; omega
  · rw [if_neg hc, if_neg (by omega)]; omega
def ws_ (E : En) (G : Wd) : va_W := (List.range 270).map (fun i => (E.1 (nm_ i), cont E G (nm_ i)))
theorem ws_len (E : En) (G : Wd) : (ws_ E G).length = 270 := by simp [ws_]
theorem ws_at (E : En) (G : Wd) {i : Nat} (h : i < 270) : (ws_ E G)[i]? = some (E.1 (nm_ i), cont E G (nm_ i)) := by
  unfold ws_
  rw [List.getElem?_map, List.getElem?_range h]
  rfl
theorem ws_get (E : En) (G : Wd) {c : Nat} (h : c < 278 ∧ (c < 6 ∨ 14 ≤ c)) : (ws_ E G)[px_ c]? = some (E.1 c, cont E G c) := by
  rw [ws_at E G (nm_px h).1, (nm_px h).2]
theorem ws_set (E : En) {G G' : Wd} {c : Nat} {e : va_E} (h : c < 278 ∧ (c < 6 ∨ 14 ≤ c)) (he : cont E G' c = e) (ho : ∀ c', c' ≠ c → cont E G' c' = cont E G c') : (ws_ E G).set (px_ c) (E.1 c, e) = ws_ E G' := by
  apply List.ext_getElem?
  intro j
  by_cases hj : j < 270
  · rw [ws_at E G' hj]
    by_cases hc : j = px_ c
    · subst hc
      rw [List.getElem?_set_self (by rw [ws_len]; exact (nm_px h).1), (nm_px h).2, he]
    · rw [List.getElem?_set_ne (Ne.symm hc), ws_at E G hj, ho (nm_ j) (fun q => hc (by rw [← q, (px_nm hj).1]))]
  · rw [List.getElem?_eq_none (by rw [List.length_set, ws_len]; omega), List.getElem?_eq_none (by rw [ws_len]; omega)]
theorem ws_up (E : En) {G : Wd} {f a i : Nat} {v : Int} {c : Nat} {e : va_E} (h : c < 278 ∧ (c < 6 ∨ 14 ≤ c)) (hc : cel f a = c) (he : cont E (gup G f a i v) c = e) : (ws_ E G).set (px_ c) (E.1 c, e) = ws_ E (gup G f a i v) :=
  ws_set E h he (fun c' h2 => cont_gup E G (by rw [hc]; exact h2))
