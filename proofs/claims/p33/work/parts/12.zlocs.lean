/-! ===== cut points ===== -/
def Lsub : List (Option Value) → List (Option Value) → Prop
  | [], _ => True
  | none :: a, b => Lsub a b.tail
  | some v :: a, b => b.head? = some (some v) ∧ Lsub a b.tail
theorem Lsub.get : ∀ {a b : List (Option Value)}, Lsub a b → ∀ (i : Nat) (v : Value), a[i]? = some (some v) → b[i]? = some (some v)
  | [], _, _, i, v, hv => by simp at hv
  | none :: a, b, h, i, v, hv => by
    cases i with
    | zero => simp at hv
    | succ j =>
      have h2 := Lsub.get (show Lsub a b.tail from h) j v (by simpa using hv)
      rwa [List.getElem?_tail] at h2
  | some w :: a, b, h, i, v, hv => by
    cases i with
    | zero =>
      have e : w = v := by simpa using hv
      rw [← List.head?_eq_getElem?, h.1, e]
    | succ j =>
      have h2 := Lsub.get h.2 j v (by simpa using hv)
      rwa [List.getElem?_tail] at h2
section ZL
variable {p : Program} {l : Launch} {e : Env} {s : State} {m : MethodId} {args : Array Value} {below : List Frame} {meth : Method} {c : Code} {own : String} {cc : ByteArray} {nL fr lo ce sl : Nat} {rt : Option FieldType} {E : En}
variable {R : Room} {Q : State → Prop} {G : Wd} {pc : Nat} {vs : List (Option Value)} {st : List Value}
theorem Z.locs {vs' : List (Option Value)} (K : Z p l e R s m args below meth c nL ce sl E Q G pc vs' st) (h : Lsub vs' vs) : Z p l e R s m args below meth c nL ce sl E Q G pc vs st := K.loc h.get
theorem z_state (cx : Cx p s m args meth c own cc nL rt E) {x : Int} (j : Nat) (hj : x = (j : Int)) (hd : decode cc pc = .ok (.aaload, 1)) (K : Z p l e R s m args below meth c nL ce sl E Q G (pc + 1) vs (.ref (E.1 (14 + (2 + j))) :: st)) (h : j < 4 := by omega) : Z p l e R s m args below meth c nL ce sl E Q G pc vs (.int (iN x) :: .ref (E.1 2) :: st) := by
  rw [show 14 + (2 + j) = 16 + j by omega] at K
  exact z_aldq cx (g := fun i => 16 + i) j hj (by omega) (co_states E G) rfl hd K h
end ZL
