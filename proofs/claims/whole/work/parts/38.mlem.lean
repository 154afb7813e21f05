/-! ===== the model's ways of finding ===== -/
def NCd (L : List Int) (f : Int) (k : Nat) (z : Int) : Prop := (k = L.length ∧ z = -6) ∨ ∃ i, k ≤ i ∧ i < L.length ∧ z = L.getD i 0 ∧ (∀ j, k ≤ j → j < L.length → (z - f).natAbs ≤ (L.getD j 0 - f).natAbs) ∧ ∀ j, k ≤ j → j < i → (z - f).natAbs < (L.getD j 0 - f).natAbs
theorem NCd.new {L : List Int} {f z : Int} {k : Nat} (h : NCd L f (k + 1) z) (hk : k < L.length) (hn : k + 1 = L.length ∨ (L.getD k 0 - f).natAbs ≤ (z - f).natAbs) : NCd L f k (L.getD k 0) := by
  refine Or.inr ⟨k, Nat.le_refl _, hk, rfl, fun j h1 h2 => ?_, fun j h1 h2 => by omega⟩
  by_cases q : j = k
  · rw [q]; exact Nat.le_refl _
  · rcases h with ⟨h0, -⟩ | ⟨i, hi, hi2, e, h3, h4⟩
    · omega
    · have := h3 j (by omega) h2
      omega
theorem NCd.keep {L : List Int} {f z : Int} {k : Nat} (h : NCd L f (k + 1) z) (h0 : k + 1 ≠ L.length) (hn : (z - f).natAbs < (L.getD k 0 - f).natAbs) : NCd L f k z := by
  rcases h with ⟨q, -⟩ | ⟨i, hi, hi2, e, h3, h4⟩
  · exact absurd q h0
  · refine Or.inr ⟨i, by omega, hi2, e, fun j h1 h2 => ?_, fun j h1 h2 => ?_⟩
    · by_cases q : j = k
      · rw [q]; omega
      · exact h3 j (by omega) h2
    · by_cases q : j = k
      · rw [q]; exact hn
      · exact h4 j (by omega) h2
theorem NCd.end_ {L : List Int} {f z : Int} (h : NCd L f 0 z) : ncut L f = z := by
  refine ncut_of ?_
  rcases h with ⟨q, e⟩ | ⟨i, -, hi2, e, h3, h4⟩
  · exact Or.inl ⟨q.symm, e⟩
  · exact Or.inr ⟨i, hi2, e, fun j h => h3 j (Nat.zero_le _) h, fun j h => h4 j (Nat.zero_le _) h⟩
def NX (t : List Int) (wd j : Nat) : Prop := wd ≤ j ∧ j ≤ t.length ∧ (∀ b, wd ≤ b → b < j → t.getD b 0 ≠ 32) ∧ (j = t.length ∨ t.getD j 0 = 32)
def FitP (t : List Int) (w : Int) (a en : Nat) : Prop := en = a ∨ (a < en ∧ en < t.length ∧ t.getD en 0 = 32 ∧ ((∀ b, a < b → BP t b → en ≤ b) ∨ (en : Int) ≤ a + w))
theorem NX.bp {t : List Int} {wd j b : Nat} (h : NX t wd j) (h1 : wd ≤ b) (h2 : BP t b) : j ≤ b := by
  rcases Nat.lt_or_ge b j with q | q
  · exfalso
    rcases h2 with h2 | ⟨-, h2⟩
    · have := h.2.1; omega
    · exact h.2.2.1 b h1 q h2
  · exact q
theorem lx_fit {t : List Int} {w : Int} {a en wd j : Nat} (ha : a < t.length) (hna : t.getD a 0 ≠ 32) (hf : FitP t w a en) (hj : NX t wd j) (hwd : (en = a ∧ wd = a) ∨ (en ≠ a ∧ wd = en + 1)) (hfit : en = a ∨ (j : Int) - a ≤ w) : a < j ∧ en < j ∧ (j < t.length → FitP t w a j) ∧ (j = t.length → LE t w a j) := by
  have hb := hj.1
  have hl := hj.2.1
  have haj : a < j ∧ en < j := by
    by_cases q : en = a
    · have : wd = a := by omega
      subst this
      have : j ≠ wd := by
        rintro rfl
        rcases hj.2.2.2 with w1 | w1
        · omega
        · exact hna w1
      omega
    · rcases hf with w1 | w1
      · exact absurd w1 q
      · omega
  have cond : (∀ b, a < b → BP t b → j ≤ b) ∨ (j : Int) ≤ a + w := by
    by_cases q : en = a
    · exact Or.inl fun b h1 h2 => hj.bp (by omega) h2
    · exact Or.inr (by omega)
  refine ⟨haj.1, haj.2, fun h => Or.inr ⟨haj.1, h, ?_, cond⟩, fun h => ⟨haj.1, Or.inl h, cond, fun b h1 h2 => ?_⟩⟩
  · rcases hj.2.2.2 with w1 | w1
    · omega
    · exact w1
  · rcases h2 with h2 | ⟨h2, -⟩ <;> omega
theorem lx_no {t : List Int} {w : Int} {a en wd j : Nat} (hf : FitP t w a en) (hj : NX t wd j) (hwd : (en = a ∧ wd = a) ∨ (en ≠ a ∧ wd = en + 1)) (hno : en ≠ a) (hnf : w < (j : Int) - a) : LE t w a en := by
  rcases hf with w1 | ⟨h1, h2, h3, h4⟩
  · exact absurd w1 hno
  · refine ⟨h1, Or.inr ⟨h2, h3⟩, h4, fun b h5 h6 => ?_⟩
    have := hj.bp (b := b) (by omega) h6
    omega
theorem flH_div : ∀ v, v < 64 → (v &&& 1 ≠ 0 ↔ v / 1 % 2 = 1) ∧ (v &&& 2 ≠ 0 ↔ v / 2 % 2 = 1) ∧ (v &&& 4 ≠ 0 ↔ v / 4 % 2 = 1) ∧ (v &&& 8 ≠ 0 ↔ v / 8 % 2 = 1) ∧ (v &&& 16 ≠ 0 ↔ v / 16 % 2 = 1) ∧ (v &&& 32 ≠ 0 ↔ v / 32 % 2 = 1) ∧ (v &&& 63 ≠ 0 ↔ 0 < v) := by decide +kernel
theorem flH_b {v f : Int} (hv : 0 ≤ v ∧ v ≤ 63) (hf : f = 1 ∨ f = 2 ∨ f = 4 ∨ f = 8 ∨ f = 16 ∨ f = 32) : flH f v ↔ v / f % 2 = 1 := by
  obtain ⟨n, rfl⟩ : ∃ n : Nat, v = n := ⟨v.toNat, by omega⟩
  have h := flH_div n (by omega)
  unfold flH
  rw [Int.toNat_natCast]
  rcases hf with rfl | rfl | rfl | rfl | rfl | rfl
  · rw [show (1 : Int).toNat = 1 from rfl, h.1]; omega
  · rw [show (2 : Int).toNat = 2 from rfl, h.2.1]; omega
  · rw [show (4 : Int).toNat = 4 from rfl, h.2.2.1]; omega
  · rw [show (8 : Int).toNat = 8 from rfl, h.2.2.2.1]; omega
  · rw [show (16 : Int).toNat = 16 from rfl, h.2.2.2.2.1]; omega
  · rw [show (32 : Int).toNat = 32 from rfl, h.2.2.2.2.2.1]; omega
theorem flH_63 {v : Int} (hv : 0 ≤ v ∧ v ≤ 63) : flH 63 v ↔ 0 < v := by
  obtain ⟨n, rfl⟩ : ∃ n : Nat, v = n := ⟨v.toNat, by omega⟩
  have h := flH_div n (by omega)
  unfold flH
  rw [Int.toNat_natCast, show (63 : Int).toNat = 63 from rfl, h.2.2.2.2.2.2]
  omega
