/-! ===== films: cuts, reasons, masks ===== -/
def NCp (L : List Int) (f : Int) (n : Nat) (z : Int) : Prop := (n = 0 ∧ z = -6) ∨ ∃ i, i < n ∧ z = L.getD i 0 ∧ (∀ j, j < n → (z - f).natAbs ≤ (L.getD j 0 - f).natAbs) ∧ ∀ j, j < i → (z - f).natAbs < (L.getD j 0 - f).natAbs
theorem NCp.new {L : List Int} {f z : Int} {n : Nat} (h : NCp L f n z) (hn : n = 0 ∨ (L.getD n 0 - f).natAbs < (z - f).natAbs) : NCp L f (n + 1) (L.getD n 0) := by
  refine Or.inr ⟨n, by omega, rfl, fun j hj => ?_, fun j hj => ?_⟩
  · rcases Nat.lt_succ_iff_lt_or_eq.mp hj with hj | rfl
    · rcases h with ⟨h0, -⟩ | ⟨i, hi, e, h1, h2⟩
      · omega
      · have := h1 j hj; omega
    · exact Nat.le_refl _
  · rcases h with ⟨h0, -⟩ | ⟨i, hi, e, h1, h2⟩
    · omega
    · have := h1 j hj; omega
theorem NCp.keep {L : List Int} {f z : Int} {n : Nat} (h : NCp L f n z) (h0 : n ≠ 0) (hn : (z - f).natAbs ≤ (L.getD n 0 - f).natAbs) : NCp L f (n + 1) z := by
  rcases h with ⟨q, -⟩ | ⟨i, hi, e, h1, h2⟩
  · omega
  · refine Or.inr ⟨i, by omega, e, fun j hj => ?_, h2⟩
    rcases Nat.lt_succ_iff_lt_or_eq.mp hj with hj | rfl
    · exact h1 j hj
    · exact hn
theorem NCp.end_ {L : List Int} {f z : Int} (h : NCp L f L.length z) : ncut L f = z := ncut_of h
theorem NC_ex (L : List Int) (f : Int) : NC L f (ncut L f) := by
  have key : ∀ n, ∃ z, NCp L f n z := by
    intro n
    induction n with
    | zero => exact ⟨-6, Or.inl ⟨rfl, rfl⟩⟩
    | succ n ih =>
      obtain ⟨z, hz⟩ := ih
      by_cases h0 : n = 0
      · exact ⟨_, hz.new (Or.inl h0)⟩
      · by_cases h : (L.getD n 0 - f).natAbs < (z - f).natAbs
        · exact ⟨_, hz.new (Or.inr h)⟩
        · exact ⟨_, hz.keep h0 (by omega)⟩
  obtain ⟨z, hz⟩ := key L.length
  rw [hz.end_]
  exact hz
noncomputable def rsn (F : Fm) (a b : Int) : Int :=
  @ite Int (b ≤ a) (Classical.propDecidable _) 1 (@ite Int (∃ i, i < F.2.2.length ∧ a < (F.2.2.getD i dS).2.1 ∧ (F.2.2.getD i dS).1 < b) (Classical.propDecidable _) 2 (@ite Int (20 ≤ F.2.2.length) (Classical.propDecidable _) 3 0))
theorem rsn_1 {F : Fm} {a b : Int} (h : b ≤ a) : rsn F a b = 1 := by unfold rsn; rw [if_pos h]
theorem rsn_2 {F : Fm} {a b : Int} (h : a < b) {i : Nat} (hi : i < F.2.2.length) (h1 : a < (F.2.2.getD i dS).2.1) (h2 : (F.2.2.getD i dS).1 < b) : rsn F a b = 2 := by
  unfold rsn
  rw [if_neg (by omega), if_pos ⟨i, hi, h1, h2⟩]
theorem rsn_3 {F : Fm} {a b : Int} (h : a < b) (hn : ∀ i, i < F.2.2.length → ¬ (a < (F.2.2.getD i dS).2.1 ∧ (F.2.2.getD i dS).1 < b)) : rsn F a b = if 20 ≤ F.2.2.length then 3 else 0 := by
  unfold rsn
  rw [if_neg (by omega), if_neg (by rintro ⟨i, hi, h1⟩; exact hn i hi h1)]
  split <;> rfl
def flH (m v : Int) : Prop := v.toNat &&& m.toNat ≠ 0
theorem iN_and {x y : Int} (hx : 0 ≤ x) (hy : 0 ≤ y) : iN x &&& iN y = iN ((x.toNat &&& y.toNat : Nat) : Int) := by
  obtain ⟨a, rfl⟩ : ∃ a : Nat, x = a := ⟨x.toNat, by omega⟩
  obtain ⟨b, rfl⟩ : ∃ b : Nat, y = b := ⟨y.toNat, by omega⟩
  have e : ∀ k : Nat, iN (k : Int) = nI k := fun k => Int32.ofInt_eq_ofNat
  rw [e, e, e, Int.toNat_natCast, Int.toNat_natCast]
  unfold nI
  apply Int32.toBitVec.inj
  simp [BitVec.ofNat_and]
theorem bit_b {p : Prop} {v : Int} (hv : 0 ≤ v) : 0 ≤ bit p v ∧ bit p v ≤ v := by
  by_cases h : p
  · rw [bit_t h]; omega
  · rw [bit_f h]; omega
theorem flt_b (F : Fm) (i : Nat) : 0 ≤ flt F i ∧ flt F i ≤ 63 := by
  unfold flt
  have h1 := bit_b (p := fast (F.2.2.getD i dS) (F.1 0)) (v := 1) (by omega)
  have h2 := bit_b (p := (F.2.2.getD i dS).2.1 - (F.2.2.getD i dS).1 < F.1 2) (v := 2) (by omega)
  have h3 := bit_b (p := (F.2.2.getD i dS).2.1 - (F.2.2.getD i dS).1 > F.1 3) (v := 4) (by omega)
  have h4 := bit_b (p := i + 1 < F.2.2.length ∧ (F.2.2.getD (i + 1) dS).1 - (F.2.2.getD i dS).2.1 < F.1 1) (v := 8) (by omega)
  have h5 := bit_b (p := nearC F (F.2.2.getD i dS)) (v := 16) (by omega)
  have h6 := bit_b (p := wide (F.1 4) (F.2.2.getD i dS).2.2) (v := 32) (by omega)
  omega
theorem need_b {F : Fm} {S : Sb} (hv : VlOk F.1) (ht : TxOk S.2.2) : 5 ≤ need F S ∧ need F S ≤ 1100 := by
  unfold need
  have h1 := ht.1
  have h2 := ht.2.1
  obtain ⟨⟨a1, a2⟩, -, ⟨b1, b2⟩, -⟩ := hv
  have h3 : (25 * (S.2.2.length : Int) + F.1 0 - 1) / F.1 0 ≤ 25 * (S.2.2.length : Int) + F.1 0 - 1 := Int.ediv_le_self _ (by omega)
  omega
section ZA
variable {p : Program} {l : Launch} {e : Env} {s : State} {m : MethodId} {args : Array Value} {below : List Frame} {meth : Method} {c : Code} {own : String} {cc : ByteArray} {nL fr lo ce sl : Nat} {rt : Option FieldType} {E : En}
variable {R : Room} {Q : State → Prop} {G : Wd} {pc : Nat} {vs : List (Option Value)} {st : List Value}
theorem z_iand (cx : Cx p s m args meth c own cc nL rt E) {x y : Int} (hd : decode cc pc = .ok (.iand, 1)) (K : Z p l e R s m args below meth c nL ce sl E Q G (pc + 1) vs (.int (iN ((x.toNat &&& y.toNat : Nat) : Int)) :: st)) (h : 0 ≤ x ∧ 0 ≤ y := by omega) : Z p l e R s m args below meth c nL ce sl E Q G pc vs (.int (iN y) :: .int (iN x) :: st) :=
  fun H locs ls hP hS hL => lv_iand cx.1 cx.2.1 hd (by rw [iN_and h.1 h.2]; exact K H locs ls hP hS hL)
end ZA
