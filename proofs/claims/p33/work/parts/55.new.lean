/-! ===== what a new object holds ===== -/
def v0_ : Nat → Int := fun i => if i = 0 then 17 else if i = 1 then 2 else if i = 2 then 25 else if i = 3 then 150 else if i = 4 then 20 else 6
def F0_ : Fm := (v0_, [], [])
def A0_ : Ast := (F0_, [], [], (-6, -6, -6))
theorem F0_ok : FOk F0_ :=
  ⟨⟨⟨by decide, by decide⟩, ⟨by decide, by decide⟩, ⟨by decide, by decide⟩, ⟨by decide, by decide⟩, ⟨by decide, by decide⟩, by decide, by decide⟩, ⟨Nat.zero_le _, fun i hi => absurd hi (Nat.not_lt_zero _), fun i j _ hj => absurd hj (Nat.not_lt_zero _)⟩, ⟨Nat.zero_le _, fun i hi => absurd hi (Nat.not_lt_zero _), fun i hi => absurd hi (Nat.not_lt_zero _)⟩⟩
theorem A0_ok : AOk A0_ := ⟨F0_ok, Nat.zero_le _, fun k hk => absurd hk (Nat.not_lt_zero _), ⟨Nat.zero_le _, fun i hi => absurd hi (Nat.not_lt_zero _)⟩, by unfold RpOk A0_; dsimp only; omega⟩
/-- the numbers of the first state: rows in their order, settings, the model's settings, the report -/
def G0_ : Wd := fun f a i =>
  if f = 3 then v0_ i
  else if f = 4 then 20 * (a : Int) + i
  else if f = 19 then -6
  else if f = 20 then (if 1 ≤ i ∧ i < 7 then v0_ (i - 1) else 0)
  else 0
theorem row0_ok (q : Nat) : RowOk G0_ q := by
  have e : ∀ i, G0_ 4 q i = 20 * (q : Int) + i := fun i => rfl
  refine ⟨fun i hi => ?_, fun i j hi hj hij => ?_⟩
  · rw [e]; omega
  · rw [e, e] at hij; omega
theorem crel0 : CRel G0_ A0_ :=
  ⟨⟨row0_ok 0, fun i _ => rfl, rfl, fun i hi => absurd hi (Nat.not_lt_zero _), rfl, fun i hi => absurd hi (Nat.not_lt_zero _)⟩, fun q _ => row0_ok q, ⟨0, Nat.zero_le _, rfl, rfl, fun k hk => absurd hk (Nat.not_lt_zero _)⟩, ⟨rfl, fun i hi => absurd hi (Nat.not_lt_zero _)⟩, rfl, rfl, rfl⟩
