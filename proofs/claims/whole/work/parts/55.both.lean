/-! ===== each side keeps the other's relation ===== -/
theorem CRel.cfx {G G' : Wd} {A : Ast} (h : CRel G A) (hA : AOk A) (e : CFx G G') : CRel G' A := by
  obtain ⟨h1, h2, ⟨la, h30, h31, h32, h33⟩, h4, h5, h6, h7⟩ := h
  exact ⟨h1.same hA.1.2.2.1 (fun f a i hq => e f a i (by unfold inF at hq; omega)), fun q hq => (h2 q hq).same (fun i => e 4 q i (by omega)), ⟨la, h30, (e 10 0 0 (by omega)).trans h31, (e 9 0 0 (by omega)).trans h32, fun k hk => (h33 k hk).same (hA.2.2.1 k hk).2.2.1 (fun f a i hq => e f a i (by unfold inF at hq; omega))⟩, h4.of (fun f i hq => e f 0 i (by omega)), (e 19 0 0 (by omega)).trans h5, (e 19 0 1 (by omega)).trans h6, (e 19 0 2 (by omega)).trans h7⟩
theorem MRel.mfx {G G' : Wd} {A : Ast} (h : MRel G A) (e : MFx G G') : MRel G' A :=
  ⟨by rw [show G' 20 0 = G 20 0 from funext fun i => e 20 0 i (by omega)]; exact h.1, h.2.of (fun f i hq => e f 0 i (by omega))⟩
def Both (G : Wd) (A : Ast) : Prop := CRel G A ∧ MRel G A ∧ AOk A
/-- a call of the class, then the same call of the model -/
theorem Both.next {G G1 G2 : Wd} {A B : Ast} (h : Both G A) (hB : AOk B) (h1 : CRel G1 B) (e1 : MFx G G1) (h2 : MRel G1 A → MRel G2 B) (e2 : CFx G1 G2) : Both G2 B :=
  ⟨h1.cfx hB e2, h2 (h.2.1.mfx e1), hB⟩
/-! ===== what a new object holds ===== -/
def v0_ : Nat → Int := fun i => if i = 0 then 17 else if i = 1 then 2 else if i = 2 then 25 else if i = 3 then 150 else if i = 4 then 20 else 6
def F0_ : Fm := (v0_, [], [])
def A0_ : Ast := (F0_, [], [], (-6, -6, -6))
theorem F0_ok : FOk F0_ :=
  ⟨⟨⟨by decide, by decide⟩, ⟨by decide, by decide⟩, ⟨by decide, by decide⟩, ⟨by decide, by decide⟩, ⟨by decide, by decide⟩, by decide, by decide⟩, ⟨Nat.zero_le _, fun i hi => absurd hi (Nat.not_lt_zero _), fun i j _ hj => absurd hj (Nat.not_lt_zero _)⟩, ⟨Nat.zero_le _, fun i hi => absurd hi (Nat.not_lt_zero _), fun i hi => absurd hi (Nat.not_lt_zero _)⟩⟩
theorem A0_ok : AOk A0_ := ⟨F0_ok, Nat.zero_le _, fun k hk => absurd hk (Nat.not_lt_zero _), ⟨Nat.zero_le _, fun i hi => absurd hi (Nat.not_lt_zero _)⟩, by unfold RpOk A0_; dsimp only; omega⟩
/-- the numbers of the first state: rows in their order, settings, the model's settings, the report -/
def G0_ : Wd := fun f a i =>
  if f = 3 then v0_ i
  else if f = 4 then 20 * (a : Int) + i
  else if f = 19 then -6
  else if f = 20 then (if 1 ≤ i ∧ i < 7 then v0_ (i - 1) else 0)
  else 0
theorem row0_ok (q : Nat) : RowOk G0_ q := by
  have e : ∀ i, G0_ 4 q i = 20 * (q : Int) + i := fun i => rfl
  refine ⟨fun i hi => ?_, fun i j hi hj hij => ?_⟩
  · rw [e]; omega
  · rw [e, e] at hij; omega
theorem both0 : Both G0_ A0_ := by
  refine ⟨⟨⟨row0_ok 0, fun i _ => rfl, rfl, fun i hi => absurd hi (Nat.not_lt_zero _), rfl, fun i hi => absurd hi (Nat.not_lt_zero _)⟩, fun q _ => row0_ok q, ⟨0, Nat.zero_le _, rfl, rfl, fun k hk => absurd hk (Nat.not_lt_zero _)⟩, ⟨rfl, fun i hi => absurd hi (Nat.not_lt_zero _)⟩, rfl, rfl, rfl⟩, ⟨⟨rfl, fun i hi => ?_, rfl, fun i hi => absurd hi (Nat.not_lt_zero _), fun i hi => absurd hi (Nat.not_lt_zero _)⟩, rfl, fun k hk => absurd hk (Nat.not_lt_zero _), rfl, fun i hi => absurd hi (Nat.not_lt_zero _), Or.inl ⟨rfl, rfl, rfl, rfl⟩⟩, A0_ok⟩
  show (if 1 ≤ 1 + i ∧ 1 + i < 7 then v0_ (1 + i - 1) else 0) = v0_ i
  rw [if_pos (by omega), show 1 + i - 1 = i by omega]
