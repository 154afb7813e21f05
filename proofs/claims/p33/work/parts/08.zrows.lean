theorem zc_eq {x y : Int} (h : -2147483648 ≤ x ∧ x < 2147483648 ∧ -2147483648 ≤ y ∧ y < 2147483648) (q : iN x = iN y) : x = y := (iN_eq h).mp q
theorem zn_eq {x y : Int} (h : -2147483648 ≤ x ∧ x < 2147483648 ∧ -2147483648 ≤ y ∧ y < 2147483648) (q : ¬ iN x = iN y) : ¬ x = y := fun e => q ((iN_eq h).mpr e)
theorem zc_ne {x y : Int} (h : -2147483648 ≤ x ∧ x < 2147483648 ∧ -2147483648 ≤ y ∧ y < 2147483648) (q : ¬ iN x = iN y) : ¬ x = y := fun e => q ((iN_eq h).mpr e)
theorem zn_ne {x y : Int} (h : -2147483648 ≤ x ∧ x < 2147483648 ∧ -2147483648 ≤ y ∧ y < 2147483648) (q : iN x = iN y) : x = y := (iN_eq h).mp q
theorem zc_lt {x y : Int} (h : -2147483648 ≤ x ∧ x < 2147483648 ∧ -2147483648 ≤ y ∧ y < 2147483648) (q : iN x < iN y) : x < y := (iN_lt h).mp q
theorem zn_lt {x y : Int} (h : -2147483648 ≤ x ∧ x < 2147483648 ∧ -2147483648 ≤ y ∧ y < 2147483648) (q : ¬ iN x < iN y) : y ≤ x := Int.not_lt.mp (fun e => q ((iN_lt h).mpr e))
theorem zc_ge {x y : Int} (h : -2147483648 ≤ x ∧ x < 2147483648 ∧ -2147483648 ≤ y ∧ y < 2147483648) (q : iN y ≤ iN x) : y ≤ x := (iN_le ⟨h.2.2.1, h.2.2.2, h.1, h.2.1⟩).mp q
theorem zn_ge {x y : Int} (h : -2147483648 ≤ x ∧ x < 2147483648 ∧ -2147483648 ≤ y ∧ y < 2147483648) (q : ¬ iN y ≤ iN x) : x < y := Int.not_le.mp (fun e => q ((iN_le ⟨h.2.2.1, h.2.2.2, h.1, h.2.1⟩).mpr e))
theorem zc_gt {x y : Int} (h : -2147483648 ≤ x ∧ x < 2147483648 ∧ -2147483648 ≤ y ∧ y < 2147483648) (q : iN y < iN x) : y < x := (iN_lt ⟨h.2.2.1, h.2.2.2, h.1, h.2.1⟩).mp q
theorem zn_gt {x y : Int} (h : -2147483648 ≤ x ∧ x < 2147483648 ∧ -2147483648 ≤ y ∧ y < 2147483648) (q : ¬ iN y < iN x) : x ≤ y := Int.not_lt.mp (fun e => q ((iN_lt ⟨h.2.2.1, h.2.2.2, h.1, h.2.1⟩).mpr e))
theorem zc_le {x y : Int} (h : -2147483648 ≤ x ∧ x < 2147483648 ∧ -2147483648 ≤ y ∧ y < 2147483648) (q : iN x ≤ iN y) : x ≤ y := (iN_le h).mp q
theorem zn_le {x y : Int} (h : -2147483648 ≤ x ∧ x < 2147483648 ∧ -2147483648 ≤ y ∧ y < 2147483648) (q : ¬ iN x ≤ iN y) : y < x := Int.not_le.mp (fun e => q ((iN_le h).mpr e))
/-! ===== words; what a state of ours holds ===== -/

def lowT : Nat → Int := fun j => if j = 0 then 5 else if j = 1 then 0 else if j = 2 then 5 else if j = 3 then 50 else if j = 4 then 10 else 0
def higT : Nat → Int := fun j => if j = 0 then 40 else if j = 1 then 20 else if j = 2 then 50 else if j = 3 then 250 else if j = 4 then 40 else 12
/-- our addresses -/
def AE (E : En) : Nat → Prop := fun q => ∃ c : Nat, (c < 278 ∧ (c < 6 ∨ 14 ≤ c)) ∧ q = E.1 c
def tyE (E : En) : List (ClassId × FieldType) := [(E.2.2.1 0, .int), (E.2.2.1 1, .char), (E.2.2.1 2, .object "SubtitleSeats$Subtitle"), (E.2.2.1 3, .object "SubtitleSeats$Film")]
def EOk (E : En) : Prop := ∀ c c' : Nat, (c < 278 ∧ (c < 6 ∨ 14 ≤ c)) → (c' < 278 ∧ (c' < 6 ∨ 14 ≤ c')) → E.1 c = E.1 c' → c = c'
theorem EOk.D {E : En} (h : EOk E) (G : Wd) : va_D (AE E) (ws_ E G) := by
  refine ⟨fun i j x y hx hy hxy => ?_, fun k q hk => ?_⟩
  · have hi : i < 270 := by have := (List.getElem?_eq_some_iff.mp hx).1; rwa [ws_len] at this
    have hj : j < 270 := by have := (List.getElem?_eq_some_iff.mp hy).1; rwa [ws_len] at this
    rw [ws_at E G hi] at hx
    rw [ws_at E G hj] at hy
    cases hx
    cases hy
    have q := h _ _ (px_nm hi).2 (px_nm hj).2 hxy
    rw [← (px_nm hi).1, q, (px_nm hj).1]
  · have hi : k < 270 := by have := (List.getElem?_eq_some_iff.mp hk).1; rwa [ws_len] at this
    rw [ws_at E G hi] at hk
    cases hk
    exact ⟨_, (px_nm hi).2, rfl⟩
/-- what does not move: classes, tables -/
def KE (E : En) (U : State) (H : Heap) : Prop := EOk E ∧ va_K E.2.1 vwCl (tyE E) U ∧ va_Z "SubtitleSeats" "LOWEST" "[I" (.ref (E.2.2.2 0)) (AE E) U H ∧ va_T .int (E.2.2.2 0) 6 (fun j => .int (iN (lowT j))) (AE E) U H ∧ va_Z "SubtitleSeats" "HIGHEST" "[I" (.ref (E.2.2.2 1)) (AE E) U H ∧ va_T .int (E.2.2.2 1) 6 (fun j => .int (iN (higT j))) (AE E) U H
theorem KE.moved {E : En} {u U : State} {H : Heap} (hvm : u.vm.Alike U.vm) (h : KE E u H) : KE E U H :=
  ⟨h.1, h.2.1.moved hvm, h.2.2.1.moved hvm, h.2.2.2.1.moved hvm, h.2.2.2.2.1.moved hvm, h.2.2.2.2.2.moved hvm⟩
theorem KE.kept {E : En} {U : State} {H H1 : Heap} (h : KE E U H) (hq : ∀ a : Nat, a < H.size → ¬ AE E a → H1[a]? = H[a]?) : KE E U H1 :=
  ⟨h.1, h.2.1, h.2.2.1.kept hq, h.2.2.2.1.kept hq, h.2.2.2.2.1.kept hq, h.2.2.2.2.2.kept hq⟩
def Ok_ (E : En) (G : Wd) (U : State) : Prop := va_P E.2.1 vwCl (ws_ E G) U.heap ∧ KE E U U.heap
def Wv (E : En) (G : Wd) (t : State) : Prop := va_P E.2.1 vwCl (ws_ E G) t.heap
abbrev zw (y : MethodName) (cc : ByteArray) (nL : Nat) (ret : Option FieldType) : List Cond := Cond.code y cc nL ret :: zWL
abbrev zr (fr lo : Nat) : Room := { frames := fr, cells := 0, slots := 0, locals := lo }
/-- the contracts: with an int (or boolean), with nothing, with a float -/
def Cti (E : En) (y : MethodName) (cc : ByteArray) (nL : Nat) (ty : FieldType) (fr lo : Nat) (av : List Value) (G : Wd) (post : Int → Wd → Prop) : Prop :=
  ∀ l : Launch, Met l y (zw y cc nL (some ty)) (zr fr lo) (va_Pc av (Ok_ E G)) (va_Qi (fun r G' => ∃ z : Int, r = iN z ∧ post z G') (Wv E) (AE E)) 0 0 (AE E)
def Ctv (E : En) (y : MethodName) (cc : ByteArray) (nL : Nat) (fr lo : Nat) (av : List Value) (G : Wd) (post : Wd → Prop) : Prop :=
  ∀ l : Launch, Met l y (zw y cc nL none) (zr fr lo) (va_Pc av (Ok_ E G)) (va_Qv post (Wv E) (AE E)) 0 0 (AE E)
def Ctf (E : En) (y : MethodName) (cc : ByteArray) (nL : Nat) (fr lo : Nat) (av : List Value) (G : Wd) (post : UInt32 → Wd → Prop) : Prop :=
  ∀ l : Launch, Met l y (zw y cc nL (some .float)) (zr fr lo) (va_Pc av (Ok_ E G)) (va_Qf post (Wv E) (AE E)) 0 0 (AE E)
/-! ===== locals ===== -/
def la_ (vs : List (Option Value)) : List (Nat × Value) := (List.range vs.length).filterMap (fun i => (vs.getD i none).map (fun v => (i, v)))
theorem la_mem {vs : List (Option Value)} {i : Nat} {v : Value} : (i, v) ∈ la_ vs ↔ vs[i]? = some (some v) := by
  unfold la_
  rw [List.mem_filterMap]
  constructor
  · rintro ⟨j, hj, hv⟩
    rw [List.mem_range] at hj
    rw [List.getD_eq_getElem?_getD, List.getElem?_eq_getElem hj, Option.getD_some] at hv
    cases hx : vs[j] with
    | none => rw [hx] at hv; cases hv
    | some w =>
      rw [hx] at hv
      have hv := Option.some.inj hv
      cases hv
      rw [List.getElem?_eq_getElem hj, hx]
  · intro h
    have hj := (List.getElem?_eq_some_iff.mp h).1
    refine ⟨i, List.mem_range.mpr hj, ?_⟩
    rw [List.getD_eq_getElem?_getD, h]
    rfl
def Lo (nL : Nat) (vs : List (Option Value)) (ls : Array Slot) : Prop := lv_has ls nL (la_ vs) ∧ ∀ (i : Nat) (v : Value), vs[i]? = some (some v) → v.category = 1 ∨ ∀ w : Value, vs[i + 1]? ≠ some (some w)
/-- what stands ahead of place i takes one slot -/
def pre1 (vs : List (Option Value)) : Nat → Bool
  | 0 => true
  | j + 1 => match vs[j]? with
    | some (some v) => v.category == 1
    | _ => true
theorem pre1_of {vs : List (Option Value)} {i : Nat} (h : pre1 vs i = true) (k : Nat) (v : Value) (hk : k + 1 = i) (hv : vs[k]? = some (some v)) : v.category = 1 := by
  subst hk
  have h2 : (match vs[k]? with
    | some (some v) => v.category == 1
    | _ => true) = true := h
  rw [hv] at h2
  simpa using h2
theorem Lo.at_ {nL : Nat} {vs : List (Option Value)} {ls : Array Slot} (h : Lo nL vs ls) {i : Nat} {v : Value} (hi : vs[i]? = some (some v)) : ls[i]? = some (.val v) :=
  h.1.2.2 (i, v) (la_mem.mpr hi)
theorem lv_has.mono {ls : Array Slot} {nL : Nat} {l l' : List (Nat × Value)} (h : lv_has ls nL l) (hs : ∀ q ∈ l', q ∈ l) : lv_has ls nL l' := ⟨h.1, h.2.1, fun q hq => h.2.2 q (hs q hq)⟩
theorem Lo.set {nL : Nat} {vs : List (Option Value)} {ls ls' : Array Slot} {i : Nat} {x : Value} (h : Lo nL vs ls) (hc : x.category = 1) (hp : pre1 vs i = true) (h' : lv_has ls' nL ((i, x) :: (la_ vs).filter (fun q => !(q.1 == i) && !(q.1 + 1 == i && q.2.category == 2)))) : Lo nL (vs.set i (some x)) ls' := by
  constructor
  · refine h'.mono ?_
    rintro ⟨j, v⟩ hq
    rw [la_mem] at hq
    by_cases hj : j = i
    · subst hj
      have hl : j < vs.length := by
        have := (List.getElem?_eq_some_iff.mp hq).1
        rwa [List.length_set] at this
      rw [List.getElem?_set_self hl] at hq
      cases hq
      exact List.mem_cons_self
    · rw [List.getElem?_set_ne (Ne.symm hj)] at hq
      refine List.mem_cons_of_mem _ (List.mem_filter.mpr ⟨la_mem.mpr hq, ?_⟩)
      by_cases hk : j + 1 = i
      · simp [hj, pre1_of hp j v hk hq]
      · simp [hj, hk]
  · intro j v hq
    by_cases hj : j = i
    · subst hj
      have hl : j < vs.length := by
        have := (List.getElem?_eq_some_iff.mp hq).1
        rwa [List.length_set] at this
      rw [List.getElem?_set_self hl] at hq
      cases hq
      exact Or.inl hc
    · rw [List.getElem?_set_ne (Ne.symm hj)] at hq
      by_cases hk : j + 1 = i
      · exact Or.inl (pre1_of hp j v hk hq)
      · rcases h.2 j v hq with g | g
        · exact Or.inl g
        · exact Or.inr (fun w hw => g w (by rwa [List.getElem?_set_ne (Ne.symm hk)] at hw))
theorem Lo.setL {nL : Nat} {vs : List (Option Value)} {ls ls' : Array Slot} {i : Nat} {x : Value} (h : Lo nL vs ls) (hf : vs[i + 1]? = some none) (hp : pre1 vs i = true) (h' : lv_has ls' nL ((i, x) :: (la_ vs).filter (fun q => !(q.1 == i) && (!(q.1 == i + 1) && !(q.1 + 1 == i && q.2.category == 2))))) : Lo nL (vs.set i (some x)) ls' := by
  constructor
  · refine h'.mono ?_
    rintro ⟨j, v⟩ hq
    rw [la_mem] at hq
    by_cases hj : j = i
    · subst hj
      have hl : j < vs.length := by
        have := (List.getElem?_eq_some_iff.mp hq).1
        rwa [List.length_set] at this
      rw [List.getElem?_set_self hl] at hq
      cases hq
      exact List.mem_cons_self
    · rw [List.getElem?_set_ne (Ne.symm hj)] at hq
      refine List.mem_cons_of_mem _ (List.mem_filter.mpr ⟨la_mem.mpr hq, ?_⟩)
      have hj2 : j ≠ i + 1 := fun w => by
        rw [w, hf] at hq
        cases hq
      by_cases hk : j + 1 = i
      · simp [hj, hj2, pre1_of hp j v hk hq]
      · simp [hj, hj2, hk]
  · intro j v hq
    by_cases hj : j = i
    · subst hj
      refine Or.inr (fun w hw => ?_)
      rw [List.getElem?_set_ne (by omega), hf] at hw
      cases hw
    · rw [List.getElem?_set_ne (Ne.symm hj)] at hq
      by_cases hk : j + 1 = i
      · exact Or.inl (pre1_of hp j v hk hq)
      · rcases h.2 j v hq with g | g
        · exact Or.inl g
        · exact Or.inr (fun w hw => g w (by rwa [List.getElem?_set_ne (Ne.symm hk)] at hw))
theorem Lo.sub {nL : Nat} {vs vs' : List (Option Value)} {ls : Array Slot} (h : Lo nL vs ls) (hs : ∀ (i : Nat) (v : Value), vs'[i]? = some (some v) → vs[i]? = some (some v)) : Lo nL vs' ls :=
  ⟨h.1.mono (fun q hq => by obtain ⟨i, v⟩ := q; exact la_mem.mpr (hs i v (la_mem.mp hq))), fun i v hv => (h.2 i v (hs i v hv)).elim Or.inl (fun g => Or.inr (fun w hw => g w (hs _ w hw)))⟩
theorem Lo.size {nL : Nat} {vs : List (Option Value)} {ls : Array Slot} (h : Lo nL vs ls) : ls.size = nL := h.1.1
/-! ===== the judgement ===== -/
section ZZ
variable {p : Program} {l : Launch} {e : Env} {s : State} {m : MethodId} {args : Array Value} {below : List Frame} {meth : Method} {c : Code} {own : String} {cc : ByteArray} {nL fr lo ce sl : Nat} {rt : Option FieldType} {E : En}
/-- where a method is being walked -/
def Cx (p : Program) (s : State) (m : MethodId) (args : Array Value) (meth : Method) (c : Code) (own : String) (cc : ByteArray) (nL : Nat) (rt : Option FieldType) (E : En) : Prop :=
  p.tables.exec = Jvm.exec ∧ c.code = cc ∧ c.maxLocals = nL ∧ s.vm.findClass own = some m.cls ∧ (∀ w ∈ zWL, w.before args s = true) ∧ meth.sig.returnType = rt ∧ meth.locks = false ∧ KE E s s.heap
def Z (p : Program) (l : Launch) (e : Env) (R : Room) (s : State) (m : MethodId) (args : Array Value) (below : List Frame) (meth : Method) (c : Code) (nL : Nat) (ce sl : Nat) (E : En) (Q : State → Prop) (G : Wd) (pc : Nat) (vs : List (Option Value)) (st : List Value) : Prop :=
  ∀ (H : Heap) (locs : List Loc) (ls : Array Slot), va_P E.2.1 vwCl (ws_ E G) H → va_S (AE E) s.heap H locs → Lo nL vs ls → W p l e R s m args below meth c H locs ce sl Q (F0 m pc ls st)
variable {R : Room} {Q : State → Prop} {G : Wd} {pc : Nat} {vs : List (Option Value)} {st : List Value}
theorem Z.loc {vs' : List (Option Value)} (K : Z p l e R s m args below meth c nL ce sl E Q G pc vs' st) (hs : ∀ (i : Nat) (v : Value), vs'[i]? = some (some v) → vs[i]? = some (some v)) : Z p l e R s m args below meth c nL ce sl E Q G pc vs st :=
  fun H locs ls hP hS hL => K H locs ls hP hS (hL.sub hs)
theorem Z.wd {G' : Wd} (K : Z p l e R s m args below meth c nL ce sl E Q G' pc vs st) (h : G = G') : Z p l e R s m args below meth c nL ce sl E Q G pc vs st := h ▸ K
theorem Z.stk {st' : List Value} (K : Z p l e R s m args below meth c nL ce sl E Q G pc vs st') (h : st = st') : Z p l e R s m args below meth c nL ce sl E Q G pc vs st := h ▸ K
theorem Z.top {x y : Int} (h : x = y) (K : Z p l e R s m args below meth c nL ce sl E Q G pc vs (.int (iN y) :: st)) : Z p l e R s m args below meth c nL ce sl E Q G pc vs (.int (iN x) :: st) := h ▸ K
/-- constants and locals -/
theorem z_iconst (cx : Cx p s m args meth c own cc nL rt E) {n : Int} (hd : decode cc pc = .ok (.iconst n, 1)) (K : Z p l e R s m args below meth c nL ce sl E Q G (pc + 1) vs (.int (iN n) :: st)) : Z p l e R s m args below meth c nL ce sl E Q G pc vs st :=
  fun H locs ls hP hS hL => lv_iconst cx.1 cx.2.1 hd rfl (K H locs ls hP hS hL)
theorem z_bipush (cx : Cx p s m args meth c own cc nL rt E) {n : Int} (hd : decode cc pc = .ok (.bipush n, 2)) (K : Z p l e R s m args below meth c nL ce sl E Q G (pc + 2) vs (.int (iN n) :: st)) (hn : (Int8.ofInt n).toInt32 = iN n := by decide +kernel) : Z p l e R s m args below meth c nL ce sl E Q G pc vs st :=
  fun H locs ls hP hS hL => lv_bipush cx.1 cx.2.1 hd hn (K H locs ls hP hS hL)
theorem z_sipush (cx : Cx p s m args meth c own cc nL rt E) {n : Int} (hd : decode cc pc = .ok (.sipush n, 3)) (K : Z p l e R s m args below meth c nL ce sl E Q G (pc + 3) vs (.int (iN n) :: st)) (hn : (Int16.ofInt n).toInt32 = iN n := by decide +kernel) : Z p l e R s m args below meth c nL ce sl E Q G pc vs st :=
  fun H locs ls hP hS hL => lv_sipush cx.1 cx.2.1 hd hn (K H locs ls hP hS hL)
theorem z_iload_n (cx : Cx p s m args meth c own cc nL rt E) {k : Fin 4} {x : Int32} (hd : decode cc pc = .ok (.iload_n k, 1)) (hv : vs[(k : Nat)]? = some (some (.int x))) (K : Z p l e R s m args below meth c nL ce sl E Q G (pc + 1) vs (.int x :: st)) : Z p l e R s m args below meth c nL ce sl E Q G pc vs st :=
  fun H locs ls hP hS hL => lv_iload_n cx.1 cx.2.1 hd rfl (hL.at_ hv) (K H locs ls hP hS hL)
theorem z_iload (cx : Cx p s m args meth c own cc nL rt E) {k : Nat} {x : Int32} (hd : decode cc pc = .ok (.iload k, 2)) (hv : vs[k]? = some (some (.int x))) (K : Z p l e R s m args below meth c nL ce sl E Q G (pc + 2) vs (.int x :: st)) : Z p l e R s m args below meth c nL ce sl E Q G pc vs st :=
  fun H locs ls hP hS hL => lv_iload cx.1 cx.2.1 hd (hL.at_ hv) (K H locs ls hP hS hL)
theorem z_aload_n (cx : Cx p s m args meth c own cc nL rt E) {k : Fin 4} {x : Nat} (hd : decode cc pc = .ok (.aload_n k, 1)) (hv : vs[(k : Nat)]? = some (some (.ref x))) (K : Z p l e R s m args below meth c nL ce sl E Q G (pc + 1) vs (.ref x :: st)) : Z p l e R s m args below meth c nL ce sl E Q G pc vs st :=
  fun H locs ls hP hS hL => lv_aload_n cx.1 cx.2.1 hd rfl (hL.at_ hv) (K H locs ls hP hS hL)
theorem z_aload (cx : Cx p s m args meth c own cc nL rt E) {k : Nat} {x : Nat} (hd : decode cc pc = .ok (.aload k, 2)) (hv : vs[k]? = some (some (.ref x))) (K : Z p l e R s m args below meth c nL ce sl E Q G (pc + 2) vs (.ref x :: st)) : Z p l e R s m args below meth c nL ce sl E Q G pc vs st :=
  fun H locs ls hP hS hL => lv_aload cx.1 cx.2.1 hd (hL.at_ hv) (K H locs ls hP hS hL)
theorem z_istore_n (cx : Cx p s m args meth c own cc nL rt E) {k : Fin 4} {x : Int32} (hd : decode cc pc = .ok (.istore_n k, 1)) (K : Z p l e R s m args below meth c nL ce sl E Q G (pc + 1) (vs.set (k : Nat) (some (.int x))) st) (hk : (k : Nat) < nL := by decide) (hp : pre1 vs (k : Nat) = true := by rfl) : Z p l e R s m args below meth c nL ce sl E Q G pc vs (.int x :: st) :=
  fun H locs ls hP hS hL => lv_istore_n cx.1 cx.2.1 hd rfl hL.1 hk rfl (fun ls' hl' => K H locs ls' hP hS (hL.set rfl hp hl'))
theorem z_istore (cx : Cx p s m args meth c own cc nL rt E) {k : Nat} {x : Int32} (hd : decode cc pc = .ok (.istore k, 2)) (K : Z p l e R s m args below meth c nL ce sl E Q G (pc + 2) (vs.set k (some (.int x))) st) (hk : k < nL := by decide) (hp : pre1 vs k = true := by rfl) : Z p l e R s m args below meth c nL ce sl E Q G pc vs (.int x :: st) :=
  fun H locs ls hP hS hL => lv_istore cx.1 cx.2.1 hd hL.1 hk rfl (fun ls' hl' => K H locs ls' hP hS (hL.set rfl hp hl'))
theorem z_astore_n (cx : Cx p s m args meth c own cc nL rt E) {k : Fin 4} {x : Nat} (hd : decode cc pc = .ok (.astore_n k, 1)) (K : Z p l e R s m args below meth c nL ce sl E Q G (pc + 1) (vs.set (k : Nat) (some (.ref x))) st) (hk : (k : Nat) < nL := by decide) (hp : pre1 vs (k : Nat) = true := by rfl) : Z p l e R s m args below meth c nL ce sl E Q G pc vs (.ref x :: st) :=
  fun H locs ls hP hS hL => lv_astore_n cx.1 cx.2.1 hd rfl hL.1 hk rfl (fun ls' hl' => K H locs ls' hP hS (hL.set rfl hp hl'))
theorem z_astore (cx : Cx p s m args meth c own cc nL rt E) {k : Nat} {x : Nat} (hd : decode cc pc = .ok (.astore k, 2)) (K : Z p l e R s m args below meth c nL ce sl E Q G (pc + 2) (vs.set k (some (.ref x))) st) (hk : k < nL := by decide) (hp : pre1 vs k = true := by rfl) : Z p l e R s m args below meth c nL ce sl E Q G pc vs (.ref x :: st) :=
  fun H locs ls hP hS hL => lv_astore cx.1 cx.2.1 hd hL.1 hk rfl (fun ls' hl' => K H locs ls' hP hS (hL.set rfl hp hl'))
theorem la_at {i : Nat} {v : Value} (h : vs[i]? = some (some v)) : ∃ k : Nat, (la_ vs)[k]? = some (i, v) := List.getElem?_of_mem (la_mem.mpr h)
theorem z_iinc (cx : Cx p s m args meth c own cc nL rt E) {k : Nat} {n x : Int} (hd : decode cc pc = .ok (.iinc k n, 3)) (hv : vs[k]? = some (some (.int (iN x)))) (K : Z p l e R s m args below meth c nL ce sl E Q G (pc + 3) (vs.set k (some (.int (iN (x + n))))) st) (hk : k < nL := by decide) (hp : pre1 vs k = true := by rfl) : Z p l e R s m args below meth c nL ce sl E Q G pc vs st := by
  intro H locs ls hP hS hL
  obtain ⟨j, hj⟩ := la_at hv
  exact lv_iinc cx.1 cx.2.1 hd hL.1 hj (iN_add x n) hk rfl (fun ls' hl' => K H locs ls' hP hS (hL.set rfl hp hl'))
/-- arithmetic -/
theorem z_iadd (cx : Cx p s m args meth c own cc nL rt E) {x y : Int} (hd : decode cc pc = .ok (.iadd, 1)) (K : Z p l e R s m args below meth c nL ce sl E Q G (pc + 1) vs (.int (iN (x + y)) :: st)) : Z p l e R s m args below meth c nL ce sl E Q G pc vs (.int (iN y) :: .int (iN x) :: st) :=
  fun H locs ls hP hS hL => lv_iadd cx.1 cx.2.1 hd (by rw [iN_add]; exact K H locs ls hP hS hL)
theorem z_isub (cx : Cx p s m args meth c own cc nL rt E) {x y : Int} (hd : decode cc pc = .ok (.isub, 1)) (K : Z p l e R s m args below meth c nL ce sl E Q G (pc + 1) vs (.int (iN (x - y)) :: st)) : Z p l e R s m args below meth c nL ce sl E Q G pc vs (.int (iN y) :: .int (iN x) :: st) :=
  fun H locs ls hP hS hL => lv_isub cx.1 cx.2.1 hd (by rw [iN_sub]; exact K H locs ls hP hS hL)
theorem z_imul (cx : Cx p s m args meth c own cc nL rt E) {x y : Int} (hd : decode cc pc = .ok (.imul, 1)) (K : Z p l e R s m args below meth c nL ce sl E Q G (pc + 1) vs (.int (iN (x * y)) :: st)) : Z p l e R s m args below meth c nL ce sl E Q G pc vs (.int (iN y) :: .int (iN x) :: st) :=
  fun H locs ls hP hS hL => lv_imul cx.1 cx.2.1 hd (by rw [iN_mul]; exact K H locs ls hP hS hL)
theorem z_idiv (cx : Cx p s m args meth c own cc nL rt E) {x y : Int} (hd : decode cc pc = .ok (.idiv, 1)) (K : Z p l e R s m args below meth c nL ce sl E Q G (pc + 1) vs (.int (iN (x / y)) :: st)) (h : 0 ≤ x ∧ x < 2147483648 ∧ 0 < y ∧ y < 2147483648 := by omega) : Z p l e R s m args below meth c nL ce sl E Q G pc vs (.int (iN y) :: .int (iN x) :: st) :=
  fun H locs ls hP hS hL => lv_idiv cx.1 cx.2.1 hd (by rw [iN_zero, iN_eq (by omega)]; omega) (by rw [iN_div h]; exact K H locs ls hP hS hL)
theorem z_irem (cx : Cx p s m args meth c own cc nL rt E) {x y : Int} (hd : decode cc pc = .ok (.irem, 1)) (K : Z p l e R s m args below meth c nL ce sl E Q G (pc + 1) vs (.int (iN (x - x / y * y)) :: st)) (h : 0 ≤ x ∧ x < 2147483648 ∧ 0 < y ∧ y < 2147483648 := by omega) : Z p l e R s m args below meth c nL ce sl E Q G pc vs (.int (iN y) :: .int (iN x) :: st) :=
  fun H locs ls hP hS hL => lv_irem cx.1 cx.2.1 hd (by rw [iN_zero, iN_eq (by omega)]; omega) (by
    have h2 := K H locs ls hP hS hL
    rw [← iN_sub, ← iN_mul, ← iN_div h] at h2
    exact h2)
theorem z_ineg (cx : Cx p s m args meth c own cc nL rt E) {x : Int} (hd : decode cc pc = .ok (.ineg, 1)) (K : Z p l e R s m args below meth c nL ce sl E Q G (pc + 1) vs (.int (iN (0 - x)) :: st)) : Z p l e R s m args below meth c nL ce sl E Q G pc vs (.int (iN x) :: st) :=
  fun H locs ls hP hS hL => lv_ineg cx.1 cx.2.1 hd (by
    have h2 := K H locs ls hP hS hL
    rw [← iN_sub, ← iN_zero] at h2
    first | exact h2 | (rw [Int32.zero_sub] at h2; exact h2))
theorem z_dup (cx : Cx p s m args meth c own cc nL rt E) {v : Value} (hd : decode cc pc = .ok (.dup, 1)) (K : Z p l e R s m args below meth c nL ce sl E Q G (pc + 1) vs (v :: v :: st)) (hv : v.category = 1 := by rfl) : Z p l e R s m args below meth c nL ce sl E Q G pc vs (v :: st) :=
  fun H locs ls hP hS hL => lv_dup cx.1 cx.2.1 hd hv (K H locs ls hP hS hL)
theorem z_dup2 (cx : Cx p s m args meth c own cc nL rt E) {v w : Value} (hd : decode cc pc = .ok (.dup2, 1)) (K : Z p l e R s m args below meth c nL ce sl E Q G (pc + 1) vs (v :: w :: v :: w :: st)) (hv : v.category = 1 := by rfl) (hw : w.category = 1 := by rfl) : Z p l e R s m args below meth c nL ce sl E Q G pc vs (v :: w :: st) :=
  fun H locs ls hP hS hL => lv_dup2_11 cx.1 cx.2.1 hd hv hw (K H locs ls hP hS hL)
theorem z_pop (cx : Cx p s m args meth c own cc nL rt E) {v : Value} (hd : decode cc pc = .ok (.pop, 1)) (K : Z p l e R s m args below meth c nL ce sl E Q G (pc + 1) vs st) (hv : v.category = 1 := by rfl) : Z p l e R s m args below meth c nL ce sl E Q G pc vs (v :: st) :=
  fun H locs ls hP hS hL => lv_pop cx.1 cx.2.1 hd hv (K H locs ls hP hS hL)
theorem z_goto (cx : Cx p s m args meth c own cc nL rt E) {off : Int} {tgt : Nat} (hd : decode cc pc = .ok (.goto off, 3)) (K : Z p l e R s m args below meth c nL ce sl E Q G tgt vs st) (ht : (pc : Int) + off = (tgt : Int) := by decide) : Z p l e R s m args below meth c nL ce sl E Q G pc vs st :=
  fun H locs ls hP hS hL => lv_goto cx.1 cx.2.1 hd ht (K H locs ls hP hS hL)
theorem z_icmp_eq (cx : Cx p s m args meth c own cc nL rt E) {x y : Int} {off : Int} {tgt : Nat} (hd : decode cc pc = .ok (.if_icmp .eq off, 3)) (Kt : x = y → Z p l e R s m args below meth c nL ce sl E Q G tgt vs st) (Kf : ¬ x = y → Z p l e R s m args below meth c nL ce sl E Q G (pc + 3) vs st) (h : -2147483648 ≤ x ∧ x < 2147483648 ∧ -2147483648 ≤ y ∧ y < 2147483648 := by omega) (ht : (pc : Int) + off = (tgt : Int) := by decide) : Z p l e R s m args below meth c nL ce sl E Q G pc vs (.int (iN y) :: .int (iN x) :: st) :=
  fun H locs ls hP hS hL => lv_icmp_eq cx.1 cx.2.1 hd ht (fun q => Kt (zc_eq h q) H locs ls hP hS hL) (fun q => Kf (zn_eq h q) H locs ls hP hS hL)
theorem z_if_eq (cx : Cx p s m args meth c own cc nL rt E) {x : Int} {off : Int} {tgt : Nat} (hd : decode cc pc = .ok (.ifCond .eq off, 3)) (Kt : x = 0 → Z p l e R s m args below meth c nL ce sl E Q G tgt vs st) (Kf : ¬ x = 0 → Z p l e R s m args below meth c nL ce sl E Q G (pc + 3) vs st) (h : -2147483648 ≤ x ∧ x < 2147483648 := by omega) (ht : (pc : Int) + off = (tgt : Int) := by decide) : Z p l e R s m args below meth c nL ce sl E Q G pc vs (.int (iN x) :: st) :=
  fun H locs ls hP hS hL => lv_if_eq cx.1 cx.2.1 hd ht (fun q => Kt (zc_eq (y := 0) (by omega) q) H locs ls hP hS hL) (fun q => Kf (zn_eq (y := 0) (by omega) q) H locs ls hP hS hL)
theorem z_icmp_ne (cx : Cx p s m args meth c own cc nL rt E) {x y : Int} {off : Int} {tgt : Nat} (hd : decode cc pc = .ok (.if_icmp .ne off, 3)) (Kt : ¬ x = y → Z p l e R s m args below meth c nL ce sl E Q G tgt vs st) (Kf : x = y → Z p l e R s m args below meth c nL ce sl E Q G (pc + 3) vs st) (h : -2147483648 ≤ x ∧ x < 2147483648 ∧ -2147483648 ≤ y ∧ y < 2147483648 := by omega) (ht : (pc : Int) + off = (tgt : Int) := by decide) : Z p l e R s m args below meth c nL ce sl E Q G pc vs (.int (iN y) :: .int (iN x) :: st) :=
  fun H locs ls hP hS hL => lv_icmp_ne cx.1 cx.2.1 hd ht (fun q => Kt (zc_ne h q) H locs ls hP hS hL) (fun q => Kf (zn_ne h q) H locs ls hP hS hL)
theorem z_if_ne (cx : Cx p s m args meth c own cc nL rt E) {x : Int} {off : Int} {tgt : Nat} (hd : decode cc pc = .ok (.ifCond .ne off, 3)) (Kt : ¬ x = 0 → Z p l e R s m args below meth c nL ce sl E Q G tgt vs st) (Kf : x = 0 → Z p l e R s m args below meth c nL ce sl E Q G (pc + 3) vs st) (h : -2147483648 ≤ x ∧ x < 2147483648 := by omega) (ht : (pc : Int) + off = (tgt : Int) := by decide) : Z p l e R s m args below meth c nL ce sl E Q G pc vs (.int (iN x) :: st) :=
  fun H locs ls hP hS hL => lv_if_ne cx.1 cx.2.1 hd ht (fun q => Kt (zc_ne (y := 0) (by omega) q) H locs ls hP hS hL) (fun q => Kf (zn_ne (y := 0) (by omega) q) H locs ls hP hS hL)
theorem z_icmp_lt (cx : Cx p s m args meth c own cc nL rt E) {x y : Int} {off : Int} {tgt : Nat} (hd : decode cc pc = .ok (.if_icmp .lt off, 3)) (Kt : x < y → Z p l e R s m args below meth c nL ce sl E Q G tgt vs st) (Kf : y ≤ x → Z p l e R s m args below meth c nL ce sl E Q G (pc + 3) vs st) (h : -2147483648 ≤ x ∧ x < 2147483648 ∧ -2147483648 ≤ y ∧ y < 2147483648 := by omega) (ht : (pc : Int) + off = (tgt : Int) := by decide) : Z p l e R s m args below meth c nL ce sl E Q G pc vs (.int (iN y) :: .int (iN x) :: st) :=
  fun H locs ls hP hS hL => lv_icmp_lt cx.1 cx.2.1 hd ht (fun q => Kt (zc_lt h q) H locs ls hP hS hL) (fun q => Kf (zn_lt h q) H locs ls hP hS hL)
theorem z_if_lt (cx : Cx p s m args meth c own cc nL rt E) {x : Int} {off : Int} {tgt : Nat} (hd : decode cc pc = .ok (.ifCond .lt off, 3)) (Kt : x < 0 → Z p l e R s m args below meth c nL ce sl E Q G tgt vs st) (Kf : 0 ≤ x → Z p l e R s m args below meth c nL ce sl E Q G (pc + 3) vs st) (h : -2147483648 ≤ x ∧ x < 2147483648 := by omega) (ht : (pc : Int) + off = (tgt : Int) := by decide) : Z p l e R s m args below meth c nL ce sl E Q G pc vs (.int (iN x) :: st) :=
  fun H locs ls hP hS hL => lv_if_lt cx.1 cx.2.1 hd ht (fun q => Kt (zc_lt (y := 0) (by omega) q) H locs ls hP hS hL) (fun q => Kf (zn_lt (y := 0) (by omega) q) H locs ls hP hS hL)
theorem z_icmp_ge (cx : Cx p s m args meth c own cc nL rt E) {x y : Int} {off : Int} {tgt : Nat} (hd : decode cc pc = .ok (.if_icmp .ge off, 3)) (Kt : y ≤ x → Z p l e R s m args below meth c nL ce sl E Q G tgt vs st) (Kf : x < y → Z p l e R s m args below meth c nL ce sl E Q G (pc + 3) vs st) (h : -2147483648 ≤ x ∧ x < 2147483648 ∧ -2147483648 ≤ y ∧ y < 2147483648 := by omega) (ht : (pc : Int) + off = (tgt : Int) := by decide) : Z p l e R s m args below meth c nL ce sl E Q G pc vs (.int (iN y) :: .int (iN x) :: st) :=
  fun H locs ls hP hS hL => lv_icmp_ge cx.1 cx.2.1 hd ht (fun q => Kt (zc_ge h q) H locs ls hP hS hL) (fun q => Kf (zn_ge h q) H locs ls hP hS hL)
theorem z_if_ge (cx : Cx p s m args meth c own cc nL rt E) {x : Int} {off : Int} {tgt : Nat} (hd : decode cc pc = .ok (.ifCond .ge off, 3)) (Kt : 0 ≤ x → Z p l e R s m args below meth c nL ce sl E Q G tgt vs st) (Kf : x < 0 → Z p l e R s m args below meth c nL ce sl E Q G (pc + 3) vs st) (h : -2147483648 ≤ x ∧ x < 2147483648 := by omega) (ht : (pc : Int) + off = (tgt : Int) := by decide) : Z p l e R s m args below meth c nL ce sl E Q G pc vs (.int (iN x) :: st) :=
  fun H locs ls hP hS hL => lv_if_ge cx.1 cx.2.1 hd ht (fun q => Kt (zc_ge (y := 0) (by omega) q) H locs ls hP hS hL) (fun q => Kf (zn_ge (y := 0) (by omega) q) H locs ls hP hS hL)
theorem z_icmp_gt (cx : Cx p s m args meth c own cc nL rt E) {x y : Int} {off : Int} {tgt : Nat} (hd : decode cc pc = .ok (.if_icmp .gt off, 3)) (Kt : y < x → Z p l e R s m args below meth c nL ce sl E Q G tgt vs st) (Kf : x ≤ y → Z p l e R s m args below meth c nL ce sl E Q G (pc + 3) vs st) (h : -2147483648 ≤ x ∧ x < 2147483648 ∧ -2147483648 ≤ y ∧ y < 2147483648 := by omega) (ht : (pc : Int) + off = (tgt : Int) := by decide) : Z p l e R s m args below meth c nL ce sl E Q G pc vs (.int (iN y) :: .int (iN x) :: st) :=
  fun H locs ls hP hS hL => lv_icmp_gt cx.1 cx.2.1 hd ht (fun q => Kt (zc_gt h q) H locs ls hP hS hL) (fun q => Kf (zn_gt h q) H locs ls hP hS hL)
theorem z_if_gt (cx : Cx p s m args meth c own cc nL rt E) {x : Int} {off : Int} {tgt : Nat} (hd : decode cc pc = .ok (.ifCond .gt off, 3)) (Kt : 0 < x → Z p l e R s m args below meth c nL ce sl E Q G tgt vs st) (Kf : x ≤ 0 → Z p l e R s m args below meth c nL ce sl E Q G (pc + 3) vs st) (h : -2147483648 ≤ x ∧ x < 2147483648 := by omega) (ht : (pc : Int) + off = (tgt : Int) := by decide) : Z p l e R s m args below meth c nL ce sl E Q G pc vs (.int (iN x) :: st) :=
  fun H locs ls hP hS hL => lv_if_gt cx.1 cx.2.1 hd ht (fun q => Kt (zc_gt (y := 0) (by omega) q) H locs ls hP hS hL) (fun q => Kf (zn_gt (y := 0) (by omega) q) H locs ls hP hS hL)
theorem z_icmp_le (cx : Cx p s m args meth c own cc nL rt E) {x y : Int} {off : Int} {tgt : Nat} (hd : decode cc pc = .ok (.if_icmp .le off, 3)) (Kt : x ≤ y → Z p l e R s m args below meth c nL ce sl E Q G tgt vs st) (Kf : y < x → Z p l e R s m args below meth c nL ce sl E Q G (pc + 3) vs st) (h : -2147483648 ≤ x ∧ x < 2147483648 ∧ -2147483648 ≤ y ∧ y < 2147483648 := by omega) (ht : (pc : Int) + off = (tgt : Int) := by decide) : Z p l e R s m args below meth c nL ce sl E Q G pc vs (.int (iN y) :: .int (iN x) :: st) :=
  fun H locs ls hP hS hL => lv_icmp_le cx.1 cx.2.1 hd ht (fun q => Kt (zc_le h q) H locs ls hP hS hL) (fun q => Kf (zn_le h q) H locs ls hP hS hL)
theorem z_if_le (cx : Cx p s m args meth c own cc nL rt E) {x : Int} {off : Int} {tgt : Nat} (hd : decode cc pc = .ok (.ifCond .le off, 3)) (Kt : x ≤ 0 → Z p l e R s m args below meth c nL ce sl E Q G tgt vs st) (Kf : 0 < x → Z p l e R s m args below meth c nL ce sl E Q G (pc + 3) vs st) (h : -2147483648 ≤ x ∧ x < 2147483648 := by omega) (ht : (pc : Int) + off = (tgt : Int) := by decide) : Z p l e R s m args below meth c nL ce sl E Q G pc vs (.int (iN x) :: st) :=
  fun H locs ls hP hS hL => lv_if_le cx.1 cx.2.1 hd ht (fun q => Kt (zc_le (y := 0) (by omega) q) H locs ls hP hS hL) (fun q => Kf (zn_le (y := 0) (by omega) q) H locs ls hP hS hL)
end ZZ
