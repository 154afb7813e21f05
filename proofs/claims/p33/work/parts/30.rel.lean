/-! ===== the state of an object, and the two that hold it ===== -/
abbrev Rp3 : Type := Int × Int × Int
abbrev Ast : Type := Fm × List Fm × List Int × Rp3
abbrev dF : Fm := (fun _ => 0, [], [])
def slot (la k : Nat) : Nat := (la + 4 - k) % 4
def CRel (G : Wd) (A : Ast) : Prop :=
  FilmIs G 0 A.1 ∧ (∀ q, q < 6 → RowOk G q) ∧ (∃ la : Nat, la ≤ 3 ∧ G 10 0 0 = la ∧ G 9 0 0 = (A.2.1.length : Int) ∧ ∀ k, k < A.2.1.length → FilmIs G (2 + slot la k) (A.2.1.getD k dF)) ∧ ScrIs G A.2.2.1 ∧ G 19 0 0 = A.2.2.2.1 ∧ G 19 0 1 = A.2.2.2.2.1 ∧ G 19 0 2 = A.2.2.2.2.2
def RpOk (r : Rp3) : Prop := (-6 ≤ r.1 ∧ r.1 ≤ 100) ∧ (-6 ≤ r.2.1 ∧ r.2.1 ≤ 100) ∧ -6 ≤ r.2.2 ∧ r.2.2 ≤ 100
def AOk (A : Ast) : Prop := FOk A.1 ∧ A.2.1.length ≤ 4 ∧ (∀ k, k < A.2.1.length → FOk (A.2.1.getD k dF)) ∧ ScOk A.2.2.1 ∧ RpOk A.2.2.2
def MFx (G G' : Wd) : Prop := ∀ f a i, 20 ≤ f → G' f a i = G f a i
def CFx (G G' : Wd) : Prop := ∀ f a i, f < 20 → G' f a i = G f a i
theorem MFx.rf {G : Wd} : MFx G G := fun _ _ _ _ => rfl
theorem MFx.tr {G G1 G2 : Wd} (h : MFx G G1) (h2 : MFx G1 G2) : MFx G G2 := fun f a i hf => (h2 f a i hf).trans (h f a i hf)
def recH (H : List Fm) (F : Fm) : List Fm := (F :: H).take 4
def act (A : Ast) (F : Fm) : Ast := (F, recH A.2.1 A.1, A.2.2)
theorem recH_len (H : List Fm) (F : Fm) : (recH H F).length = min (H.length + 1) 4 := by
  unfold recH
  rw [List.length_take, List.length_cons, Nat.min_comm]
theorem recH_0 (H : List Fm) (F : Fm) : (recH H F).getD 0 dF = F := rfl
theorem recH_s (H : List Fm) (F : Fm) {k : Nat} (h : k < 3) : (recH H F).getD (k + 1) dF = H.getD k dF := by
  unfold recH
  rw [List.getD_eq_getElem?_getD, List.getD_eq_getElem?_getD, List.getElem?_take_of_lt (by omega), List.getElem?_cons_succ]
theorem FilmIs.same {G G' : Wd} {q : Nat} {F : Fm} (h : FilmIs G q F) (hl : F.2.2.length ≤ 20) (e : ∀ f a i, inF q f a → G' f a i = G f a i) : FilmIs G' q F := by
  obtain ⟨hR, hV, hcc, hcu, hc, hs⟩ := h
  have e4 : ∀ f i, f ≤ 4 → G' f q i = G f q i := fun f i h4 => e f q i (by unfold inF; omega)
  refine ⟨⟨fun i hi => by rw [e4 4 i (by omega)]; exact hR.1 i hi, fun i j hi hj hij => by rw [e4 4 i (by omega), e4 4 j (by omega)] at hij; exact hR.2 i j hi hj hij⟩, fun i hi => (e4 3 i (by omega)).trans (hV i hi), (e4 1 0 (by omega)).trans hcc, fun i hi => (e4 2 i (by omega)).trans (hcu i hi), (e4 0 0 (by omega)).trans hc, fun i hi => ?_⟩
  rw [e4 4 i (by omega)]
  have hk := hR.1 i (by omega)
  exact (hs i hi).of (fun f j h5 h8 => e f _ j (by unfold inF; omega))
theorem RowOk.same {G G' : Wd} {q : Nat} (h : RowOk G q) (e : ∀ i, G' 4 q i = G 4 q i) : RowOk G' q :=
  ⟨fun i hi => by rw [e]; exact h.1 i hi, fun i j hi hj hij => by rw [e, e] at hij; exact h.2 i j hi hj hij⟩
/-- behind a record -/
theorem rec_rel {G G' : Wd} {A : Ast} (h : CRel G A) (hA : AOk A) {la : Nat} (hla3 : la ≤ 3) (hla : G 10 0 0 = la) (hz : G' 10 0 0 = ((if la < 3 then la + 1 else 0 : Nat) : Int) ∧ G' 9 0 0 = min ((A.2.1.length : Int) + 1) 4 ∧ FilmIs G' (2 + (if la < 3 then la + 1 else 0)) A.1 ∧ ∀ f a i, ¬ (f = 9 ∨ f = 10 ∨ inF (2 + (if la < 3 then la + 1 else 0)) f a) → G' f a i = G f a i) : CRel G' (A.1, recH A.2.1 A.1, A.2.2) ∧ MFx G G' := by
  obtain ⟨h1, h2, ⟨la0, h30, h31, h32, h33⟩, h4, h5, h6, h7⟩ := h
  have e0 : la0 = la := by omega
  subst e0
  obtain ⟨z1, z2, z3, z4⟩ := hz
  generalize hnl : (if la0 < 3 then la0 + 1 else 0) = nl at z1 z3 z4
  have hnl3 : nl ≤ 3 := by rw [← hnl]; split <;> omega
  have hnl2 : nl = (la0 + 1) % 4 := by rw [← hnl]; split <;> omega
  have hl0 := hA.1.2.2.1
  refine ⟨⟨h1.same hl0 (fun f a i hf => z4 f a i (by unfold inF at hf ⊢; omega)), fun q hq => ?_, ⟨nl, hnl3, z1, ?_, fun k hk => ?_⟩, h4.of (fun f i hf => z4 f 0 i (by unfold inF; omega)), ?_, ?_, ?_⟩, fun f a i hf => z4 f a i (by unfold inF; omega)⟩
  · by_cases hqn : q = 2 + nl
    · subst hqn; exact z3.1
    · exact (h2 q hq).same (fun i => z4 4 q i (by unfold inF; omega))
  · rw [z2]
    dsimp only
    rw [recH_len]
    omega
  · dsimp only at hk ⊢
    rw [recH_len] at hk
    cases k with
    | zero =>
      rw [recH_0]
      have : slot nl 0 = nl := by unfold slot; omega
      rw [this]
      exact z3
    | succ k =>
      rw [recH_s _ _ (by omega)]
      have e1 : slot nl (k + 1) = slot la0 k := by unfold slot; omega
      have e2 : slot la0 k ≠ nl := by unfold slot; omega
      have e3 : slot la0 k < 4 := by unfold slot; omega
      rw [e1]
      exact (h33 k (by omega)).same (hA.2.2.1 k (by omega)).2.2.1 (fun f a i hf => z4 f a i (by unfold inF at hf ⊢; omega))
  · exact (z4 19 0 0 (by unfold inF; omega)).trans h5
  · exact (z4 19 0 1 (by unfold inF; omega)).trans h6
  · exact (z4 19 0 2 (by unfold inF; omega)).trans h7
/-- the film changed, nothing else -/
theorem film_rel {G G' : Wd} {A : Ast} {F : Fm} (h : CRel G A) (hh : A.2.1.length ≤ 4 ∧ ∀ k, k < A.2.1.length → (A.2.1.getD k dF).2.2.length ≤ 20) (hF : FilmIs G' 0 F) (hf : FrF 0 G G') : CRel G' (F, A.2) ∧ MFx G G' := by
  obtain ⟨h1, h2, ⟨la, h30, h31, h32, h33⟩, h4, h5, h6, h7⟩ := h
  refine ⟨⟨hF, fun q hq => ?_, ⟨la, h30, (hf 10 0 0 (by unfold inF; omega)).trans h31, (hf 9 0 0 (by unfold inF; omega)).trans h32, fun k hk => (h33 k hk).fr (hh.2 k hk) hf (by omega)⟩, h4.of (fun f i hq => hf f 0 i (by unfold inF; omega)), (hf 19 0 0 (by unfold inF; omega)).trans h5, (hf 19 0 1 (by unfold inF; omega)).trans h6, (hf 19 0 2 (by unfold inF; omega)).trans h7⟩, fun f a i hq => hf f a i (by unfold inF; omega)⟩
  by_cases hq0 : q = 0
  · subst hq0; exact hF.1
  · exact (h2 q hq).fr hf hq0
/-- the film for trials changed, nothing else -/
theorem trial_rel {G G' : Wd} {A : Ast} (h : CRel G A) (hA : AOk A) (hR : RowOk G' 1) (hf : FrF 1 G G') : CRel G' A ∧ MFx G G' := by
  obtain ⟨h1, h2, ⟨la, h30, h31, h32, h33⟩, h4, h5, h6, h7⟩ := h
  refine ⟨⟨h1.fr hA.1.2.2.1 hf (by omega), fun q hq => ?_, ⟨la, h30, (hf 10 0 0 (by unfold inF; omega)).trans h31, (hf 9 0 0 (by unfold inF; omega)).trans h32, fun k hk => (h33 k hk).fr (hA.2.2.1 k hk).2.2.1 hf (by omega)⟩, h4.of (fun f i hq => hf f 0 i (by unfold inF; omega)), (hf 19 0 0 (by unfold inF; omega)).trans h5, (hf 19 0 1 (by unfold inF; omega)).trans h6, (hf 19 0 2 (by unfold inF; omega)).trans h7⟩, fun f a i hq => hf f a i (by unfold inF; omega)⟩
  by_cases hq0 : q = 1
  · subst hq0; exact hR
  · exact (h2 q hq).fr hf hq0
/-- only the script's fields 13 to 18 changed -/
theorem scr_rel {G G' : Wd} {A : Ast} (h : CRel G A) (hA : AOk A) (hf : ∀ f a i, ¬ (13 ≤ f ∧ f ≤ 18) → G' f a i = G f a i) : CRel G' A ∧ MFx G G' := by
  obtain ⟨h1, h2, ⟨la, h30, h31, h32, h33⟩, h4, h5, h6, h7⟩ := h
  exact ⟨⟨h1.same hA.1.2.2.1 (fun f a i hq => hf f a i (by unfold inF at hq; omega)), fun q hq => (h2 q hq).same (fun i => hf 4 q i (by omega)), ⟨la, h30, (hf 10 0 0 (by omega)).trans h31, (hf 9 0 0 (by omega)).trans h32, fun k hk => (h33 k hk).same (hA.2.2.1 k hk).2.2.1 (fun f a i hq => hf f a i (by unfold inF at hq; omega))⟩, h4.of (fun f i hq => hf f 0 i (by omega)), (hf 19 0 0 (by omega)).trans h5, (hf 19 0 1 (by omega)).trans h6, (hf 19 0 2 (by omega)).trans h7⟩, fun f a i hq => hf f a i (by omega)⟩
theorem recH_ok {A : Ast} (hA : AOk A) : (recH A.2.1 A.1).length ≤ 4 ∧ ∀ k, k < (recH A.2.1 A.1).length → FOk ((recH A.2.1 A.1).getD k dF) := by
  refine ⟨by rw [recH_len]; omega, fun k hk => ?_⟩
  rw [recH_len] at hk
  cases k with
  | zero => rw [recH_0]; exact hA.1
  | succ k => rw [recH_s _ _ (by omega)]; exact hA.2.2.1 k (by omega)
theorem act_ok {A : Ast} (hA : AOk A) {F : Fm} (hF : FOk F) : AOk (act A F) := ⟨hF, (recH_ok hA).1, (recH_ok hA).2, hA.2.2.2⟩
/-! ===== what every call answers, and what comes of it ===== -/
def s_append (A : Ast) (c : Int) : Int × Ast := if 32 ≤ c ∧ c ≤ 126 then (if A.2.2.1.length < 80 then ((A.2.2.1.length : Int) + 1, (A.1, A.2.1, A.2.2.1 ++ [c], A.2.2.2)) else (-4, A)) else (-2, A)
def s_clear (A : Ast) : Int × Ast := ((A.2.2.1.length : Int), (A.1, A.2.1, [], A.2.2.2))
def s_fault (A : Ast) : Int × Ast := (faultS A.2.2.1, A)
noncomputable def s_load (A : Ast) : Int × Ast := if faultS A.2.2.1 ≠ -6 then (-3, A) else ((ldF A.2.2.1 81 0 0 A.1).2.1, ((ldF A.2.2.1 81 0 0 A.1).1, recH A.2.1 A.1, A.2.2.1, (ldF A.2.2.1 81 0 0 A.1).2.2))
def s_why (A : Ast) (w : Int) : Int × Ast := if 0 ≤ w ∧ w ≤ 2 then ((if w = 0 then A.2.2.2.1 else if w = 1 then A.2.2.2.2.1 else A.2.2.2.2.2), A) else (-2, A)
def s_undo (A : Ast) : Int × Ast := if A.2.1.length = 0 then (-6, A) else ((A.2.1.length : Int) - 1, (A.2.1.getD 0 dF, A.2.1.tail, A.2.2))
def s_remove (A : Ast) (i : Int) : Int × Ast := if 0 ≤ i ∧ i < A.1.2.2.length then ((A.1.2.2.length : Int) - 1, act A (A.1.1, A.1.2.1, A.1.2.2.eraseIdx i.toNat)) else (-1, A)
def shL (L : List Sb) (i : Nat) (f : Int) : List Sb := L.take i ++ (L.drop i).map (fun S => (S.1 + f, S.2.1 + f, S.2.2))
def s_shift (A : Ast) (i f : Int) : Int × Ast := if 0 ≤ i ∧ i < A.1.2.2.length then (if -999 ≤ f ∧ f ≤ 999 then (if (A.1.2.2.getD i.toNat dS).1 + f < (if 0 < i.toNat then (A.1.2.2.getD (i.toNat - 1) dS).2.1 else 0) ∨ 5000 < (A.1.2.2.getD (A.1.2.2.length - 1) dS).2.1 + f then (-5, A) else ((A.1.2.2.length : Int) - i, act A (A.1.1, A.1.2.1, shL A.1.2.2 i.toNat f))) else (-2, A)) else (-1, A)
def s_setEnd (A : Ast) (i f : Int) : Int × Ast := if 0 ≤ i ∧ i < A.1.2.2.length then (if 0 ≤ f ∧ f ≤ 5000 then (if f ≤ (A.1.2.2.getD i.toNat dS).1 ∨ (if i.toNat + 1 < A.1.2.2.length then (A.1.2.2.getD (i.toNat + 1) dS).1 else 5000) < f then (-5, A) else ((A.1.2.2.getD i.toNat dS).2.1, act A (A.1.1, A.1.2.1, A.1.2.2.set i.toNat ((A.1.2.2.getD i.toNat dS).1, f, (A.1.2.2.getD i.toNat dS).2.2)))) else (-2, A)) else (-1, A)
def s_split (A : Ast) (i : Int) : Int × Ast := if 0 ≤ i ∧ i < A.1.2.2.length then (if bBl (A.1.2.2.getD i.toNat dS).2.2 = -6 ∨ (A.1.2.2.getD i.toNat dS).2.1 - (A.1.2.2.getD i.toNat dS).1 < A.1.1 1 + 2 then (-5, A) else if 20 ≤ A.1.2.2.length then (-4, A) else (bBl (A.1.2.2.getD i.toNat dS).2.2, act A (splF A.1 i.toNat (bBl (A.1.2.2.getD i.toNat dS).2.2).toNat))) else (-1, A)
def s_join (A : Ast) (i : Int) : Int × Ast := if 0 ≤ i ∧ i + 1 < A.1.2.2.length then (if 40 < ((A.1.2.2.getD i.toNat dS).2.2.length : Int) + 1 + (A.1.2.2.getD (i.toNat + 1) dS).2.2.length then (-4, A) else (((A.1.2.2.getD i.toNat dS).2.2.length : Int) + 1 + (A.1.2.2.getD (i.toNat + 1) dS).2.2.length, act A (joiF A.1 i.toNat))) else (-1, A)
noncomputable def s_seat (A : Ast) : Int × Ast := (seatC A.1 (A.1.1 1), act A (seatF A.1 (A.1.1 1)))
def hasC (L : List Int) (f : Int) : Prop := ∃ i, i < L.length ∧ L.getD i 0 = f
noncomputable def s_cut (A : Ast) (f : Int) : Int × Ast := if 1 ≤ f ∧ f ≤ 4999 then @ite _ (hasC A.1.2.1 f) (Classical.propDecidable _) (-5, A) (if 12 ≤ A.1.2.1.length then (-4, A) else ((A.1.2.1.length : Int) + 1, act A (A.1.1, insL A.1.2.1 (cpos A.1.2.1 f) f, A.1.2.2))) else (-2, A)
noncomputable def cidx (L : List Int) (f : Int) : Nat := Classical.epsilon (fun i => i < L.length ∧ L.getD i 0 = f)
noncomputable def s_uncut (A : Ast) (f : Int) : Int × Ast := @ite _ (hasC A.1.2.1 f) (Classical.propDecidable _) ((A.1.2.1.length : Int) - 1, act A (A.1.1, A.1.2.1.eraseIdx (cidx A.1.2.1 f), A.1.2.2)) (-1, A)
def updV1 (v : Nat → Int) (k : Nat) (x : Int) : Nat → Int := fun j => if j = k then x else v j
def s_set (A : Ast) (k v : Int) : Int × Ast := if 0 ≤ k ∧ k < 6 then (if lowT k.toNat ≤ v ∧ v ≤ higT k.toNat then (A.1.1 k.toNat, act A (updV1 A.1.1 k.toNat v, A.1.2)) else (-2, A)) else (-1, A)
noncomputable def r_subtitle (A : Ast) (i w : Int) : Int := if 0 ≤ i ∧ i < A.1.2.2.length then
    (if w = 0 then (A.1.2.2.getD i.toNat dS).1 else if w = 1 then (A.1.2.2.getD i.toNat dS).2.1 else if w = 2 then ((A.1.2.2.getD i.toNat dS).2.2.length : Int) else if w = 3 then need A.1 (A.1.2.2.getD i.toNat dS) else if w = 4 then flt A.1 i.toNat else if w = 5 then ((lns (A.1.2.2.getD i.toNat dS).2.2 (A.1.1 4)).length : Int) else if w = 6 then bBl (A.1.2.2.getD i.toNat dS).2.2 else -2) else -1
def r_character (A : Ast) (i j : Int) : Int := if 0 ≤ i ∧ i < A.1.2.2.length then (if j < 0 then -2 else if j < (A.1.2.2.getD i.toNat dS).2.2.length then (A.1.2.2.getD i.toNat dS).2.2.getD j.toNat 0 else -6) else -1
noncomputable def r_line (A : Ast) (i j : Int) : Int := if 0 ≤ i ∧ i < A.1.2.2.length then (if j < 0 then -2 else if j < ((lns (A.1.2.2.getD i.toNat dS).2.2 (A.1.1 4)).length : Int) then (lns (A.1.2.2.getD i.toNat dS).2.2 (A.1.1 4)).getD j.toNat 0 else -6) else -1
def AtP (F : Fm) (f z : Int) : Prop := (z = -6 ∧ ∀ i, i < F.2.2.length → ¬ ((F.2.2.getD i dS).1 ≤ f ∧ f < (F.2.2.getD i dS).2.1)) ∨ ∃ i : Nat, z = i ∧ i < F.2.2.length ∧ (F.2.2.getD i dS).1 ≤ f ∧ f < (F.2.2.getD i dS).2.1
theorem AtP_u {F : Fm} (hF : FOk F) {f z z' : Int} (h : AtP F f z) (h' : AtP F f z') : z = z' := by
  rcases h with ⟨rfl, h⟩ | ⟨i, rfl, hi, h1, h2⟩ <;> rcases h' with ⟨h0, g⟩ | ⟨j, h0, hj, g1, g2⟩
  · exact h0.symm
  · exact absurd ⟨g1, g2⟩ (h j hj)
  · exact absurd ⟨h1, h2⟩ (g i hi)
  · subst h0
    rcases Nat.lt_trichotomy i j with q | q | q
    · have := hF.2.2.mono q hj; omega
    · rw [q]
    · have := hF.2.2.mono q hi; omega
noncomputable def atF (F : Fm) (f : Int) : Int := Classical.epsilon (fun z => AtP F f z)
theorem atF_of {F : Fm} (hF : FOk F) {f z : Int} (h : AtP F f z) : atF F f = z := AtP_u hF (Classical.epsilon_spec (p := fun z => AtP F f z) ⟨z, h⟩) h
noncomputable def r_at (A : Ast) (f : Int) : Int := if 0 ≤ f ∧ f ≤ 4999 then atF A.1 f else -2
def r_cutAt (A : Ast) (i : Int) : Int := if i < 0 then -2 else if i < A.1.2.1.length then A.1.2.1.getD i.toNat 0 else -6
def r_setting (A : Ast) (k : Int) : Int := if 0 ≤ k ∧ k < 6 then A.1.1 k.toNat else -1
noncomputable def r_faulty (A : Ast) (f : Int) : Int := if f = 0 then cnt (fun i => flH 63 (flt A.1 i)) A.1.2.2.length else if f = 1 ∨ f = 2 ∨ f = 4 ∨ f = 8 ∨ f = 16 ∨ f = 32 then cnt (fun i => flH f (flt A.1 i)) A.1.2.2.length else -2
def frS (F : Fm) : Int := sumN (fun i => (F.2.2.getD i dS).2.1 - (F.2.2.getD i dS).1) F.2.2.length
def lnS (F : Fm) : Int := sumN (fun i => ((F.2.2.getD i dS).2.2.length : Int)) F.2.2.length
noncomputable def unr (F : Fm) (p : Int) : Int := cnt (fun i => fast (F.2.2.getD i dS) p) F.2.2.length
noncomputable def r_unread (A : Ast) (p : Int) : Int := if 1 ≤ p ∧ p ≤ 60 then unr A.1 p else -2
def LpP (F : Fm) (z : Int) : Prop := (z = -6 ∧ ∀ p : Int, 1 ≤ p → p ≤ 60 → unr F p ≠ 0) ∨ (1 ≤ z ∧ z ≤ 60 ∧ unr F z = 0 ∧ ∀ p : Int, 1 ≤ p → p < z → unr F p ≠ 0)
theorem LpP_u {F : Fm} {z z' : Int} (h : LpP F z) (h' : LpP F z') : z = z' := by
  rcases h with ⟨rfl, h⟩ | ⟨h1, h2, h3, h4⟩ <;> rcases h' with ⟨h0, g⟩ | ⟨g1, g2, g3, g4⟩
  · exact h0.symm
  · exact absurd g3 (h z' g1 g2)
  · exact absurd h3 (g z h1 h2)
  · rcases Int.lt_trichotomy z z' with q | q | q
    · exact absurd h3 (g4 z h1 q)
    · exact q
    · exact absurd g3 (h4 z' g1 q)
noncomputable def lpF (F : Fm) : Int := Classical.epsilon (fun z => LpP F z)
theorem lpF_of {F : Fm} {z : Int} (h : LpP F z) : lpF F = z := LpP_u (Classical.epsilon_spec (p := fun z => LpP F z) ⟨z, h⟩) h
noncomputable def r_ifSeated (A : Ast) (w : Int) : Int := if 0 ≤ w ∧ w ≤ 2 then (if w = 0 then seatC A.1 (A.1.1 1) else if w = 1 then cnt (fun i => flH 63 (flt (seatF A.1 (A.1.1 1)) i)) A.1.2.2.length else frS (seatF A.1 (A.1.1 1))) else -2
noncomputable def bgS (F : Fm) : Nat → Int × Int
  | 0 => (0, 21)
  | g + 1 => @ite _ (unr (seatF F (g : Int)) (F.1 0) < (bgS F g).2) (Classical.propDecidable _) ((g : Int), unr (seatF F (g : Int)) (F.1 0)) (bgS F g)
