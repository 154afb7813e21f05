/-! ===== constructors: a judgement over a list of cells ===== -/
/-- classes, array classes, the first address that is free, the table of the first settings -/
abbrev Ga : Type := va_G × (Nat → ClassId) × Nat × Nat
abbrev tyK (K : Nat → ClassId) : List (ClassId × FieldType) := [(K 0, .int), (K 1, .char), (K 2, .object "SubtitleSeats$Subtitle"), (K 3, .object "SubtitleSeats$Film")]
abbrev nest_ : Cond := .fieldLinkNest "SubtitleSeats$Film" 25 "SubtitleSeats" "AT_FIRST" "[I" "SubtitleSeats"
def St_ (g : Ga) (U : State) (H : Heap) : Prop := va_Nw nest_ U ∧ va_K g.1 vwCl (tyK g.2.1) U ∧ va_AO "SubtitleSeats$Subtitle" U ∧ va_AO "SubtitleSeats$Film" U ∧ va_Z "SubtitleSeats" "AT_FIRST" "[I" (.ref g.2.2.2) (fun q => g.2.2.1 ≤ q) U H ∧ va_T .int g.2.2.2 6 (fun j => .int (iN (v0_ j))) (fun q => g.2.2.1 ≤ q) U H
theorem St_.warm {g : Ga} {s U : State} {H : Heap} (hW : s.WarmedH U.vm) (h : St_ g s H) : St_ g U H :=
  ⟨h.1.warmF hW, h.2.1.moved hW.alike, h.2.2.1.moved hW.alike, h.2.2.2.1.moved hW.alike, h.2.2.2.2.1.moved hW.alike, h.2.2.2.2.2.moved hW.alike⟩
theorem St_.calling {g : Ga} {u U : State} {H : Heap} (e : u.vm = U.vm) (h : St_ g u H) : St_ g U H := by
  have hvm : u.vm.Alike U.vm := by rw [e]; exact Vm.Alike.refl _
  exact ⟨h.1.same rfl e, h.2.1.moved hvm, h.2.2.1.moved hvm, h.2.2.2.1.moved hvm, h.2.2.2.2.1.moved hvm, h.2.2.2.2.2.moved hvm⟩
theorem St_.kept {g : Ga} {U : State} {H H1 : Heap} (h : St_ g U H) (hq : ∀ a : Nat, a < H.size → ¬ g.2.2.1 ≤ a → H1[a]? = H[a]?) : St_ g U H1 :=
  ⟨h.1, h.2.1, h.2.2.1, h.2.2.2.1, h.2.2.2.2.1.kept hq, h.2.2.2.2.2.kept hq⟩
def Pk_ (g : Ga) (ws : va_W) (sz : Nat) (U : State) : Prop := U.heap.size = sz ∧ va_P g.1 vwCl ws U.heap ∧ va_D (fun q => g.2.2.1 ≤ q) ws ∧ g.2.2.1 ≤ sz ∧ St_ g U U.heap
def Bw_ (g : Ga) (A : Nat → Prop) (w1 : va_W) (t : State) : Prop := va_P g.1 vwCl w1 t.heap ∧ va_D A w1
def Cn_ (g : Ga) (y : MethodName) (cc : ByteArray) (nL fr lo mc ms ci : Nat) (fs : List Value) (post : Nat → va_W → Prop) : Prop :=
  ∀ (l : Launch) (h0 sz : Nat), Met l y (zw y cc nL none) ({ frames := fr, cells := mc, slots := ms, locals := lo }) (va_Pc [.ref h0] (Pk_ g [(h0, .inr (ci, fs))] sz)) (va_Qv (post h0) (Bw_ g (va_A [(h0, .inr (ci, fs))] sz)) (va_A [(h0, .inr (ci, fs))] sz)) mc ms (va_A [(h0, .inr (ci, fs))] sz)
theorem last_P {D : va_G} {cl : List vw_C} {ws : va_W} {x : Nat × va_E} {H : Heap} (h : va_P D cl (ws ++ [x]) H) : va_P D cl [x] H := fun k y hy => by
  have hk : k = 0 := by
    have := (List.getElem?_eq_some_iff.mp hy).1
    simpa using this
  subst hk
  cases hy
  exact h ws.length x (by simp)
theorem last_D {A : Nat → Prop} {ws : va_W} {x : Nat × va_E} (h : va_D A (ws ++ [x])) : va_D A [x] := by
  have hk : ∀ (k : Nat) (y : Nat × va_E), [x][k]? = some y → k = 0 := fun k y hy => by
    have := (List.getElem?_eq_some_iff.mp hy).1
    simpa using this
  refine ⟨fun i j y z hy hz _ => (hk i y hy).trans (hk j z hz).symm, fun k y hy => ?_⟩
  have e := hk k y hy
  subst e
  cases hy
  exact h.2 ws.length x (by simp)
theorem last_A {A : Nat → Prop} {ws : va_W} {x : Nat × va_E} {sz : Nat} (h : va_D A (ws ++ [x])) (hA : ∀ q, sz ≤ q → A q) : ∀ q, va_A [x] sz q → A q := by
  rintro q (⟨k, v, hv⟩ | hq)
  · exact (last_D h).2 k (q, v) hv
  · exact hA q hq
theorem nd_range' (a k : Nat) : va_nd (List.range' a k) = true := by
  induction k generalizing a with
  | zero => rfl
  | succ k ih =>
    rw [List.range'_succ]
    unfold va_nd
    rw [ih, Bool.and_true, decide_eq_true_eq, List.mem_range'_1]
    omega
theorem map_range'_l {α : Type} (l1 l2 : List α) : (List.range' 0 l1.length).map (fun i => (l1 ++ l2)[i]?) = l1.map some := by
  apply List.ext_getElem?
  intro k
  rw [List.getElem?_map, List.getElem?_map]
  by_cases hk : k < l1.length
  · rw [List.getElem?_range' hk, List.getElem?_eq_getElem hk]
    simp only [Option.map_some, Nat.zero_add, Nat.one_mul]
    rw [List.getElem?_append_left hk, List.getElem?_eq_getElem hk]
  · rw [List.getElem?_eq_none (by simpa using hk), List.getElem?_eq_none (by omega)]
    rfl
theorem vjoin1 {A0 : Nat → Prop} {D : va_G} {cl : List vw_C} {wr w1 : va_W} {x : Nat × va_E} {H H1 : Heap} (hP : va_P D cl (wr ++ [x]) H) (hD : va_D A0 (wr ++ [x]))
    (hk : ∀ q : Nat, q < H.size → ¬ va_A [x] H.size q → H1[q]? = H[q]?) (hF : ∀ q, va_A [x] H.size q → A0 q) (hP1 : va_P D cl w1 H1) (hD1 : va_D (va_A [x] H.size) w1) : va_P D cl (wr ++ w1) H1 ∧ va_D A0 (wr ++ w1) := by
  refine va_join (wc := [x]) hP hD [wr.length] (List.range' 0 wr.length) (by simp) (map_range'_l _ _) (nd_range' _ _) (fun i hi => ?_) hk hF hP1 hD1
  rw [List.mem_range'_1] at hi
  simp
  omega
section YY
variable {p : Program} {l : Launch} {e : Env} {s : State} {m : MethodId} {args : Array Value} {below : List Frame} {meth : Method} {c : Code} {own : String} {cc : ByteArray} {nL ce sl : Nat} {g : Ga} {A : Nat → Prop}
def Cy (p : Program) (s : State) (m : MethodId) (args : Array Value) (c : Code) (own : String) (cc : ByteArray) (nL : Nat) (g : Ga) (A : Nat → Prop) : Prop :=
  p.tables.exec = Jvm.exec ∧ c.code = cc ∧ c.maxLocals = nL ∧ s.vm.findClass own = some m.cls ∧ (∀ w ∈ zWL, w.before args s = true) ∧ St_ g s s.heap ∧ (∀ q, s.heap.size ≤ q → A q) ∧ ∀ q, A q → g.2.2.1 ≤ q
def Y (p : Program) (l : Launch) (e : Env) (R : Room) (s : State) (m : MethodId) (args : Array Value) (below : List Frame) (meth : Method) (c : Code) (nL ce sl : Nat) (g : Ga) (A : Nat → Prop) (Q : State → Prop) (ws : va_W) (pc : Nat) (vs : List (Option Value)) (st : List Value) : Prop :=
  ∀ (H : Heap) (locs : List Loc) (ls : Array Slot), va_P g.1 vwCl ws H → va_D A ws → va_S A s.heap H locs → Lo nL vs ls → W p l e R s m args below meth c H locs ce sl Q (F0 m pc ls st)
variable {R : Room} {Q : State → Prop} {ws : va_W} {pc : Nat} {vs : List (Option Value)} {st : List Value}
theorem Cy.hts (cx : Cy p s m args c own cc nL g A) {w : Cond} (h : w ∈ zWL) : w.before args s = true := cx.2.2.2.2.1 w h
theorem Cy.K (cx : Cy p s m args c own cc nL g A) : va_K g.1 vwCl (tyK g.2.1) s := cx.2.2.2.2.2.1.2.1
theorem Y.to {ws' : va_W} (K : Y p l e R s m args below meth c nL ce sl g A Q ws' pc vs st) (h : ws = ws') : Y p l e R s m args below meth c nL ce sl g A Q ws pc vs st := h ▸ K
theorem Y.wide {ce' sl' : Nat} (K : Y p l e R s m args below meth c nL ce' sl' g A Q ws pc vs st) (h1 : ce ≤ ce') (h2 : sl ≤ sl') : Y p l e R s m args below meth c nL ce sl g A Q ws pc vs st := fun H locs ls hP hD hS hL => W.widen h1 h2 (K H locs ls hP hD hS hL)
theorem Y.loc {vs' : List (Option Value)} (K : Y p l e R s m args below meth c nL ce sl g A Q ws pc vs' st) (h : Lsub vs' vs) : Y p l e R s m args below meth c nL ce sl g A Q ws pc vs st :=
  fun H locs ls hP hD hS hL => K H locs ls hP hD hS (hL.sub h.get)
theorem y_iconst (cx : Cy p s m args c own cc nL g A) {n : Int} (hd : decode cc pc = .ok (.iconst n, 1)) (K : Y p l e R s m args below meth c nL ce sl g A Q ws (pc + 1) vs (.int (iN n) :: st)) : Y p l e R s m args below meth c nL ce sl g A Q ws pc vs st :=
  fun H locs ls hP hD hS hL => lv_iconst cx.1 cx.2.1 hd rfl (K H locs ls hP hD hS hL)
theorem y_bipush (cx : Cy p s m args c own cc nL g A) {n : Int} (hd : decode cc pc = .ok (.bipush n, 2)) (K : Y p l e R s m args below meth c nL ce sl g A Q ws (pc + 2) vs (.int (iN n) :: st)) (hn : (Int8.ofInt n).toInt32 = iN n := by decide +kernel) : Y p l e R s m args below meth c nL ce sl g A Q ws pc vs st :=
  fun H locs ls hP hD hS hL => lv_bipush cx.1 cx.2.1 hd hn (K H locs ls hP hD hS hL)
theorem y_sipush (cx : Cy p s m args c own cc nL g A) {n : Int} (hd : decode cc pc = .ok (.sipush n, 3)) (K : Y p l e R s m args below meth c nL ce sl g A Q ws (pc + 3) vs (.int (iN n) :: st)) (hn : (Int16.ofInt n).toInt32 = iN n := by decide +kernel) : Y p l e R s m args below meth c nL ce sl g A Q ws pc vs st :=
  fun H locs ls hP hD hS hL => lv_sipush cx.1 cx.2.1 hd hn (K H locs ls hP hD hS hL)
theorem y_iload_n (cx : Cy p s m args c own cc nL g A) {k : Fin 4} {x : Int32} (hd : decode cc pc = .ok (.iload_n k, 1)) (hv : vs[(k : Nat)]? = some (some (.int x))) (K : Y p l e R s m args below meth c nL ce sl g A Q ws (pc + 1) vs (.int x :: st)) : Y p l e R s m args below meth c nL ce sl g A Q ws pc vs st :=
  fun H locs ls hP hD hS hL => lv_iload_n cx.1 cx.2.1 hd rfl (hL.at_ hv) (K H locs ls hP hD hS hL)
theorem y_aload_n (cx : Cy p s m args c own cc nL g A) {k : Fin 4} {x : Nat} (hd : decode cc pc = .ok (.aload_n k, 1)) (hv : vs[(k : Nat)]? = some (some (.ref x))) (K : Y p l e R s m args below meth c nL ce sl g A Q ws (pc + 1) vs (.ref x :: st)) : Y p l e R s m args below meth c nL ce sl g A Q ws pc vs st :=
  fun H locs ls hP hD hS hL => lv_aload_n cx.1 cx.2.1 hd rfl (hL.at_ hv) (K H locs ls hP hD hS hL)
theorem y_istore_n (cx : Cy p s m args c own cc nL g A) {k : Fin 4} {x : Int32} (hd : decode cc pc = .ok (.istore_n k, 1)) (K : Y p l e R s m args below meth c nL ce sl g A Q ws (pc + 1) (vs.set (k : Nat) (some (.int x))) st) (hk : (k : Nat) < nL := by decide) (hp : pre1 vs (k : Nat) = true := by rfl) : Y p l e R s m args below meth c nL ce sl g A Q ws pc vs (.int x :: st) :=
  fun H locs ls hP hD hS hL => lv_istore_n cx.1 cx.2.1 hd rfl hL.1 hk rfl (fun ls' hl' => K H locs ls' hP hD hS (hL.set rfl hp hl'))
theorem y_astore_n (cx : Cy p s m args c own cc nL g A) {k : Fin 4} {x : Nat} (hd : decode cc pc = .ok (.astore_n k, 1)) (K : Y p l e R s m args below meth c nL ce sl g A Q ws (pc + 1) (vs.set (k : Nat) (some (.ref x))) st) (hk : (k : Nat) < nL := by decide) (hp : pre1 vs (k : Nat) = true := by rfl) : Y p l e R s m args below meth c nL ce sl g A Q ws pc vs (.ref x :: st) :=
  fun H locs ls hP hD hS hL => lv_astore_n cx.1 cx.2.1 hd rfl hL.1 hk rfl (fun ls' hl' => K H locs ls' hP hD hS (hL.set rfl hp hl'))
theorem y_iinc (cx : Cy p s m args c own cc nL g A) {k : Nat} {n x : Int} (hd : decode cc pc = .ok (.iinc k n, 3)) (hv : vs[k]? = some (some (.int (iN x)))) (K : Y p l e R s m args below meth c nL ce sl g A Q ws (pc + 3) (vs.set k (some (.int (iN (x + n))))) st) (hk : k < nL := by decide) (hp : pre1 vs k = true := by rfl) : Y p l e R s m args below meth c nL ce sl g A Q ws pc vs st := by
  intro H locs ls hP hD hS hL
  obtain ⟨j, hj⟩ := la_at hv
  exact lv_iinc cx.1 cx.2.1 hd hL.1 hj (iN_add x n) hk rfl (fun ls' hl' => K H locs ls' hP hD hS (hL.set rfl hp hl'))
theorem y_dup (cx : Cy p s m args c own cc nL g A) {v : Value} (hd : decode cc pc = .ok (.dup, 1)) (K : Y p l e R s m args below meth c nL ce sl g A Q ws (pc + 1) vs (v :: v :: st)) (hv : v.category = 1 := by rfl) : Y p l e R s m args below meth c nL ce sl g A Q ws pc vs (v :: st) :=
  fun H locs ls hP hD hS hL => lv_dup cx.1 cx.2.1 hd hv (K H locs ls hP hD hS hL)
theorem y_goto (cx : Cy p s m args c own cc nL g A) {off : Int} {tgt : Nat} (hd : decode cc pc = .ok (.goto off, 3)) (K : Y p l e R s m args below meth c nL ce sl g A Q ws tgt vs st) (ht : (pc : Int) + off = (tgt : Int) := by decide) : Y p l e R s m args below meth c nL ce sl g A Q ws pc vs st :=
  fun H locs ls hP hD hS hL => lv_goto cx.1 cx.2.1 hd ht (K H locs ls hP hD hS hL)
theorem y_icmp_ge (cx : Cy p s m args c own cc nL g A) {x y : Int} {off : Int} {tgt : Nat} (hd : decode cc pc = .ok (.if_icmp .ge off, 3)) (Kt : y ≤ x → Y p l e R s m args below meth c nL ce sl g A Q ws tgt vs st) (Kf : x < y → Y p l e R s m args below meth c nL ce sl g A Q ws (pc + 3) vs st) (h : -2147483648 ≤ x ∧ x < 2147483648 ∧ -2147483648 ≤ y ∧ y < 2147483648 := by omega) (ht : (pc : Int) + off = (tgt : Int) := by decide) : Y p l e R s m args below meth c nL ce sl g A Q ws pc vs (.int (iN y) :: .int (iN x) :: st) :=
  fun H locs ls hP hD hS hL => lv_icmp_ge cx.1 cx.2.1 hd ht (fun q => Kt (zc_ge h q) H locs ls hP hD hS hL) (fun q => Kf (zn_ge h q) H locs ls hP hD hS hL)
theorem y_objinit (cx : Cy p s m args c own cc nL g A) {idx x : Nat} (hl : Cond.methodLink own idx ⟨"java/lang/Object", "<init>", "()V"⟩ ∈ zWL) (hd : decode cc pc = .ok (.invokespecial idx, 3)) (K : Y p l e R s m args below meth c nL ce sl g A Q ws (pc + 3) vs st) (hf : 1 ≤ R.frames := by exact Nat.le_of_ble_eq_true rfl) (hr : (st.map fun v => v.category).sum + 12 ≤ R.locals := by exact Nat.le_of_ble_eq_true rfl) : Y p l e R s m args below meth c nL ce sl g A Q ws pc vs (.ref x :: st) :=
  fun H locs ls hP hD hS hL => W.objInit cx.1 cx.2.1 cx.2.2.2.1 (cx.hts hl) (cx.hts im_javalangObjectinit) (cx.hts cd_objinit) rfl (hL.size.trans cx.2.2.1.symm) rfl hd hf (by show 2 * 0 + _ + 12 ≤ _; omega) (W.eq (g2 := F0 m (pc + 3) ls st) rfl (K H locs ls hP hD hS hL))
theorem K_int (cx : Cy p s m args c own cc nL g A) {cA : ClassId} {tys : List (ClassId × FieldType)} {k : Nat} (h : va_K g.1 vwCl tys s) (ht : tys[k]? = some (cA, .int)) : cA = g.2.1 0 :=
  Option.some.inj ((va_nm_int (h.2 k _ ht).2).symm.trans (va_nm_int (cx.K.2 0 _ rfl).2))
theorem K_char (cx : Cy p s m args c own cc nL g A) {cA : ClassId} {tys : List (ClassId × FieldType)} {k : Nat} (h : va_K g.1 vwCl tys s) (ht : tys[k]? = some (cA, .char)) : cA = g.2.1 1 :=
  Option.some.inj ((va_nm_char (h.2 k _ ht).2).symm.trans (va_nm_char (cx.K.2 1 _ rfl).2))
theorem K_obj (cx : Cy p s m args c own cc nL g A) {cA cB : ClassId} {tys : List (ClassId × FieldType)} {k j : Nat} {C : String} (h : va_K g.1 vwCl tys s) (ht : tys[k]? = some (cA, .object C)) (hj : (tyK g.2.1)[j]? = some (cB, .object C)) : cA = cB := by
  obtain ⟨-, -, -, -, -, h4⟩ := (h.2 k _ ht).2
  obtain ⟨-, -, -, -, -, g4⟩ := (cx.K.2 j _ hj).2
  exact Option.some.inj (h4.symm.trans g4)
theorem y_newi (cx : Cy p s m args c own cc nL g A) (N : Nat) {x : Int} (hx : x = (N : Int)) (hd : decode cc pc = .ok (.newarray .int, 2)) (K : ∀ q : Nat, Y p l e R s m args below meth c nL (ce + 1) (sl + N) g A Q (ws ++ [(q, .inl (g.2.1 0, N, .inl (fun _ => 0)))]) (pc + 2) vs (.ref q :: st)) (hc : ce + 1 ≤ R.cells := by exact Nat.le_of_ble_eq_true rfl) (hs : sl + N ≤ R.slots := by exact Nat.le_of_ble_eq_true rfl) (hN : N ≤ 134217728 := by exact Nat.le_of_ble_eq_true rfl) : Y p l e R s m args below meth c nL ce sl g A Q ws pc vs (.int (iN x) :: st) := by
  intro H locs ls hP hD hS hL
  subst hx
  refine va_newa cx.1 cx.2.1 (atype := .int) (cx.hts ac_int) rfl cx.K hP hD hS cx.2.2.2.2.2.2.1 (a0 := (N, .inl (fun _ => 0))) (N' := N) (fun cA => rfl) (fun q => ?_) (iN_clamp (by omega)) (by show N * 4 ≤ _; omega) hc hs hd (fun q cA H1 hK hP hD hS => ?_)
  · rw [iN_zero, iN_lt (by omega)] at q
    omega
  · rw [K_int cx (k := 4) hK rfl] at hP hD
    exact K q H1 locs ls hP hD hS hL
theorem y_newc (cx : Cy p s m args c own cc nL g A) (N : Nat) {x : Int} (hx : x = (N : Int)) (hd : decode cc pc = .ok (.newarray .char, 2)) (K : ∀ q : Nat, Y p l e R s m args below meth c nL (ce + 1) (sl + N) g A Q (ws ++ [(q, .inl (g.2.1 1, N, .inl (fun _ => 0)))]) (pc + 2) vs (.ref q :: st)) (hc : ce + 1 ≤ R.cells := by exact Nat.le_of_ble_eq_true rfl) (hs : sl + N ≤ R.slots := by exact Nat.le_of_ble_eq_true rfl) (hN : N ≤ 134217728 := by exact Nat.le_of_ble_eq_true rfl) : Y p l e R s m args below meth c nL ce sl g A Q ws pc vs (.int (iN x) :: st) := by
  intro H locs ls hP hD hS hL
  subst hx
  refine va_newa cx.1 cx.2.1 (atype := .char) (cx.hts ac_char) rfl cx.K hP hD hS cx.2.2.2.2.2.2.1 (a0 := (N, .inl (fun _ => 0))) (N' := N) (fun cA => rfl) (fun q => ?_) (iN_clamp (by omega)) (by show N * 2 ≤ _; omega) hc hs hd (fun q cA H1 hK hP hD hS => ?_)
  · rw [iN_zero, iN_lt (by omega)] at q
    omega
  · rw [K_char cx (k := 4) hK rfl] at hP hD
    exact K q H1 locs ls hP hD hS hL
theorem y_newq (cx : Cy p s m args c own cc nL g A) (N k : Nat) {C : String} {x : Int} {idx : Nat} (hx : x = (N : Int)) (hao : va_AO C s) (hk : (tyK g.2.1)[k]? = some (g.2.1 k, .object C)) (hcl : Cond.classLink own idx C ∈ zWL) (hd : decode cc pc = .ok (.anewarray idx, 3)) (K : ∀ q : Nat, Y p l e R s m args below meth c nL (ce + 1) (sl + N) g A Q (ws ++ [(q, .inl (g.2.1 k, N, .inr (.inr (.inr (.inr (fun _ => none))))))]) (pc + 3) vs (.ref q :: st)) (hc : ce + 1 ≤ R.cells := by exact Nat.le_of_ble_eq_true rfl) (hs : sl + N ≤ R.slots := by exact Nat.le_of_ble_eq_true rfl) (hN : N ≤ 134217728 := by exact Nat.le_of_ble_eq_true rfl) : Y p l e R s m args below meth c nL ce sl g A Q ws pc vs (.int (iN x) :: st) := by
  intro H locs ls hP hD hS hL
  subst hx
  refine va_newq cx.1 cx.2.1 cx.2.2.2.1 (cx.hts hcl) hao cx.K hP hD hS cx.2.2.2.2.2.2.1 (N' := N) (fun q => ?_) (iN_clamp (by omega)) (by omega) hc hs hd (fun q cA H1 hK hP hD hS => ?_)
  · rw [iN_zero, iN_lt (by omega)] at q
    omega
  · rw [K_obj cx (k := 4) hK rfl hk] at hP hD
    exact K q H1 locs ls hP hD hS hL
theorem y_putF (cx : Cy p s m args c own cc nL g A) (q0 k ci : Nat) {a N idx : Nat} {fs : List Value} {T : u_T} {ty0 : Nat → FieldType} {ty : FieldType} {v : Value} (he : ws[q0]? = some (a, .inr (ci, fs))) (hcl : vwCl[ci]? = some (own, T, N)) (hin : ∀ w ∈ u_ws own T N, w ∈ zWL) (hty : ∀ k, k < N → parseFieldDescriptor (T k).2.2.1 = some (ty0 k)) (hnm : ∀ a, a < N → ∀ b, b < N → a ≠ b → (T a).2.1 ≠ (T b).2.1) (hk : k < N) (hfin : (T k).2.2.2 = true) (hi : meth.name = "<init>") (hdecl : (T k).1 = own) (hpd : ty0 k = ty) (hnar : narrow ty v = v) (hfit : fits ty v = true) (hlen : k < fs.length) (hl : Cond.fieldLink own idx (T k).1 (T k).2.1 (T k).2.2.1 ∈ zWL) (hd : decode cc pc = .ok (.putfield idx, 3)) (K : Y p l e R s m args below meth c nL ce sl g A Q (ws.set q0 (a, .inr (ci, fs.set k v))) (pc + 3) vs st) : Y p l e R s m args below meth c nL ce sl g A Q ws pc vs (v :: .ref a :: st) :=
  fun H locs ls hP hD hS hL => va_putF cx.1 cx.2.1 cx.2.2.2.2.1 hin ty0 hty hnm cx.2.2.2.1 cx.K hP hD hS q0 he hcl k hk (cx.hts hl) (fun _ h => h) hfin hi hdecl (by rw [hty k hk, hpd]) hnar hfit hlen hd (fun H1 locs1 hP1 hD1 hS1 => K H1 locs1 ls hP1 hD1 hS1 hL)
theorem y_get (cx : Cy p s m args c own cc nL g A) (q0 k ci : Nat) {a N idx : Nat} {fs : List Value} {C : String} {T : u_T} {v : Value} (he : ws[q0]? = some (a, .inr (ci, fs))) (hcl : vwCl[ci]? = some (C, T, N)) (hin : ∀ w ∈ u_ws C T N, w ∈ zWL) (hk : k < N) (hv : fs[k]? = some v) (hl : Cond.fieldLink own idx (T k).1 (T k).2.1 (T k).2.2.1 ∈ zWL) (hd : decode cc pc = .ok (.getfield idx, 3)) (K : Y p l e R s m args below meth c nL ce sl g A Q ws (pc + 3) vs (v :: st)) : Y p l e R s m args below meth c nL ce sl g A Q ws pc vs (.ref a :: st) :=
  fun H locs ls hP hD hS hL => va_get cx.1 cx.2.1 cx.2.2.2.2.1 hin cx.2.2.2.1 cx.K hP q0 he hcl k hk (cx.hts hl) (fun _ h => h) hv hd (K H locs ls hP hD hS hL)
theorem y_iast (cx : Cy p s m args c own cc nL g A) (q0 j : Nat) {a N : Nat} {f : Nat → Int32} {x : Int} {v : Int32} (hx : x = (j : Int)) (he : ws[q0]? = some (a, .inl (g.2.1 0, N, .inl f))) (hd : decode cc pc = .ok (.iastore, 1)) (K : Y p l e R s m args below meth c nL ce sl g A Q (ws.set q0 (a, .inl (g.2.1 0, N, .inl (upd f j v)))) (pc + 1) vs st) (hj : j < N := by exact Nat.le_of_ble_eq_true rfl) (hN : N < 2147483648 := by exact Nat.le_of_ble_eq_true rfl) : Y p l e R s m args below meth c nL ce sl g A Q ws pc vs (.int v :: .int (iN x) :: .ref a :: st) :=
  fun H locs ls hP hD hS hL => va_iast cx.1 cx.2.1 cx.K hP hD hS q0 0 he rfl (iN_in (by omega) hN) hd (fun H1 locs1 hP1 hD1 hS1 => by
    rw [iN_clamp (by omega), hx, Int.toNat_natCast] at hP1 hD1
    exact K H1 locs1 ls hP1 hD1 hS1 hL)
theorem y_astq (cx : Cy p s m args c own cc nL g A) (q0 t0 qk ci j : Nat) {a N b : Nat} {r : vw_C} {us : List Value} {f : Nat → Option Nat} {x : Int} (hx : x = (j : Int)) (he : ws[q0]? = some (a, .inl (g.2.1 t0, N, .inr (.inr (.inr (.inr f)))))) (ht : (tyK g.2.1)[t0]? = some (g.2.1 t0, .object r.1)) (hv : ws[qk]? = some (b, .inr (ci, us))) (hcl : vwCl[ci]? = some r) (hd : decode cc pc = .ok (.aastore, 1)) (hj : j < N) (hN : N < 2147483648) (K : Y p l e R s m args below meth c nL ce sl g A Q (ws.set q0 (a, .inl (g.2.1 t0, N, .inr (.inr (.inr (.inr (va_up f j (some b)))))))) (pc + 1) vs st) : Y p l e R s m args below meth c nL ce sl g A Q ws pc vs (.ref b :: .int (iN x) :: .ref a :: st) :=
  fun H locs ls hP hD hS hL => va_astq cx.1 cx.2.1 cx.K hP hD hS q0 t0 qk ci he ht hv hcl (iN_in (by omega) hN) hd (fun H1 locs1 hP1 hD1 hS1 => by
    rw [iN_clamp (by omega), hx, Int.toNat_natCast] at hP1 hD1
    exact K H1 locs1 ls hP1 hD1 hS1 hL)
/-- the table of the first settings, and its copy -/
theorem y_getT (cx : Cy p s m args c "SubtitleSeats$Film" cc nL g A) (hd : decode cc pc = .ok (.getstatic 25, 3)) (K : Y p l e R s m args below meth c nL ce sl g A Q ws (pc + 3) vs (.ref g.2.2.2 :: st)) : Y p l e R s m args below meth c nL ce sl g A Q ws pc vs st :=
  fun H locs ls hP hD hS hL => va_getsN cx.1 cx.2.1 (cx.2.2.2.2.2.1.2.2.2.2.1.narrow (B := A) cx.2.2.2.2.2.2.2) hS cx.2.2.2.1 (va_Nw.use (w := nest_) rfl cx.2.2.2.2.2.1.1) (fun _ h => h) hd (K H locs ls hP hD hS hL)
theorem arrV_congr {cA : ClassId} {n : Nat} {f f' : Nat → Value} (h : ∀ k, k < n → f k = f' k) : arrV cA n f = arrV cA n f' := by
  unfold arrV
  congr 2
  funext j
  exact h j.1 j.2
theorem copied_T (cs : Cell) (cA : ClassId) {n : Nat} (f v : Nat → Int32) (hs : ∀ j, j < n → cs.slots[j]? = some (.int (v j))) (hn : n < 2147483648) (hf : ∀ j, j < n → f j = v j) : copied cs (vp_cell cA (n, .inl (fun _ => 0))) (iN 0) (iN 0) (iN (n : Int)) = vp_cell cA (n, .inl f) := by
  show (arrV cA n (fun _ => .int 0)).storeRun (iN 0).toNatClampNeg (cs.stretch (iN 0).toNatClampNeg (iN (n : Int)).toNatClampNeg) = arrV cA n (fun j => .int (f j))
  rw [iN_clamp (by omega), iN_clamp (by omega), Int.toNat_natCast, show (0 : Int).toNat = 0 from rfl]
  have e1 : cs.stretch 0 n = (List.range n).map (fun i => .int (f i)) := by
    unfold Cell.stretch
    apply List.map_congr_left
    intro i hi
    have hi' := List.mem_range.mp hi
    rw [Array.getD_eq_getD_getElem?, Nat.zero_add, hs i hi', hf i hi']
    rfl
  rw [e1, Cell.storeRun, va_pairs]
  refine arrV_congr (fun k hk => ?_)
  rw [if_pos (by simp; omega), List.getD_eq_getElem?_getD, List.getElem?_map, List.getElem?_range (by omega)]
  simp
theorem y_cpyT (cx : Cy p s m args c own cc nL g A) {idx : Nat} (q1 : Nat) {a : Nat} (ha1 : ws[q1]? = some (a, .inl (g.2.1 0, 6, .inl (fun _ => 0)))) (hl : Cond.methodLink own idx arraycopyName ∈ zWL) (hd : decode cc pc = .ok (.invokestatic idx, 3))
    (K : Y p l e R s m args below meth c nL ce sl g A Q (ws.set q1 (a, .inl (g.2.1 0, 6, .inl (fun j => iN (v0_ j))))) (pc + 3) vs st) (hframes : 1 ≤ R.frames) (hlocals : (st.map fun v => v.category).sum + (nativeFrameWords "java/lang/System" "arraycopy" 5 + 11) ≤ R.locals) :
    Y p l e R s m args below meth c nL ce sl g A Q ws pc vs (.int (iN 6) :: .int (iN 0) :: .ref a :: .int (iN 0) :: .ref g.2.2.2 :: st) := by
  intro H locs ls hP hD hS hL T hT X
  have hTb := cx.2.2.2.2.2.1.2.2.2.2.2.narrow (B := A) cx.2.2.2.2.2.2.2
  obtain ⟨cell, hc0, hof, hkn, hsz, -, hsl, hnA⟩ := hTb
  have hc0 : H[g.2.2.2]? = some cell := by rw [hS.2.1 _ (Array.getElem?_eq_some_iff.mp hc0).1 hnA]; exact hc0
  have hc1 : H[a]? = some (vp_cell (g.2.1 0) (6, .inl (fun _ => 0))) := hP q1 _ ha1
  obtain ⟨hst0, k0, hk0, cm0, hkk0⟩ := hof
  obtain ⟨-, k1, hk1, cm1, hkk1⟩ := (cx.K.2 0 _ rfl).1 6 (fun j => .int 0)
  have h0 : ¬ iN 0 < 0 := by rw [iN_zero, iN_lt (by omega)]; omega
  have h6 : ¬ iN 6 < 0 := by rw [iN_zero, iN_lt (by omega)]; omega
  obtain ⟨vm', X', step⟩ := X.arraycopy cx.1 cx.2.2.2.1 (cx.hts hl) (cx.hts nt_javalangSystemarraycopy) (cx.hts sc_javalangSystemarraycopy) (cx.hts ii_J10) (src := g.2.2.2) (dst := a) (cs := cell) (cd := vp_cell (g.2.1 0) (6, .inl (fun _ => 0))) (srcPos := iN 0) (destPos := iN 0) (n := iN 6) (by rw [hT]; exact hc0) (by rw [hT]; exact hc1)
    hst0 (fun _ h => by cases h) hkn (fun h => by cases h) hk0 hk1 hkk0 hkk1 rfl h0 h0 h6
    (by rw [iN_toInt (by omega), iN_toInt (by omega)]; omega)
    (by rw [iN_toInt (by omega), iN_toInt (by omega)]; show ¬ _ > ((arrV (g.2.1 0) 6 (fun j => .int 0)).slots.size : Int); rw [arrV_size]; omega)
    (fun vm₁ _ i hi => by
      rw [iN_clamp (by omega)] at hi
      have hi : i < 6 := hi
      have e1 : cell.slots.getD ((iN 0).toNatClampNeg + i) .null = .int (iN (v0_ i)) := by
        rw [iN_clamp (by omega), show (0 : Int).toNat + i = i by omega, Array.getD_eq_getD_getElem?, hsl i hi]
        rfl
      refine ⟨?_, ?_⟩
      · rw [e1]
        rfl
      · rw [e1]
        exact trivial)
    (g := F0 m pc ls (.int (iN 6) :: .int (iN 0) :: .ref a :: .int (iN 0) :: .ref g.2.2.2 :: st)) rfl (hL.size.trans cx.2.2.1.symm) (rest := st) rfl (by rw [cx.2.1]; exact hd) hframes (by show 2 * 0 + _ + _ ≤ _; omega)
  have e1 := copied_T cell (g.2.1 0) (n := 6) (fun j => iN (v0_ j)) (fun j => iN (v0_ j)) hsl (by decide) (fun _ _ => rfl)
  rw [show ((6 : Nat) : Int) = 6 from rfl] at e1
  rw [e1] at X' step
  have hl2 : a < H.size := (Array.getElem?_eq_some_iff.mp hc1).1
  have hheap : ((T.setVm vm').setCell a (vp_cell (g.2.1 0) (6, .inl (fun j => iN (v0_ j))))).heap = H.setIfInBounds a (vp_cell (g.2.1 0) (6, .inl (fun j => iN (v0_ j)))) := by rw [← hT]; rfl
  have oq : ∀ q : Nat, q ≠ a → (H.setIfInBounds a (vp_cell (g.2.1 0) (6, .inl (fun j => iN (v0_ j)))))[q]? = H[q]? := fun q hq => by simp [Array.getElem?_setIfInBounds, Ne.symm hq]
  obtain ⟨t, a1, b1⟩ := K _ _ ls (hP.set hD ha1 (show (H.setIfInBounds a _)[a]? = some _ by simp [Array.getElem?_setIfInBounds, hl2]) oq) (hD.set ha1) ⟨by simp; exact hS.1, fun q g1 g2 => by
      rw [oq q (fun e => g2 (by rw [e]; exact hD.2 q1 _ ha1))]
      exact hS.2.1 q g1 g2, fun q hq => by
      rcases List.mem_append.mp hq with h | h
      · exact hS.2.2 q h
      · obtain ⟨z, -, hz⟩ := List.mem_map.mp h
        rw [← hz]
        exact hD.2 q1 _ ha1⟩ hL _ hheap X'
  exact ⟨t, step t a1, b1⟩
/-- a new object and its constructor -/
def MI (y : MethodName) (cc : ByteArray) (nL : Nat) : Prop :=
  Cond.instanceMethod y ∈ zWL ∧ Cond.initialized y.cls ∈ zWL ∧ Cond.code y cc nL none ∈ zWL ∧ y.name = "<init>" ∧ y.cls ≠ "java/lang/invoke/MethodHandle" ∧ y.cls ≠ "java/lang/invoke/VarHandle" ∧ (parseMethodDescriptor y.desc).map (fun d => d.parameters.length) = some 0
theorem MI.good {y : MethodName} {cc' : ByteArray} {nL' : Nat} (h : MI y cc' nL') : GoodIn zWL (zw y cc' nL' none) := by
  intro w hw
  unfold zw at hw
  rcases List.mem_cons.mp hw with rfl | hw
  · exact zWL_good _ h.2.2.1
  · exact zWL_good _ hw
theorem Pk_blind {av : List Value} {ws : va_W} {sz : Nat} : FrameBlind (va_Pc av (Pk_ g ws sz)) := fun a U f mk h => ⟨h.1, h.2.1, h.2.2.1, h.2.2.2.1, h.2.2.2.2.1, h.2.2.2.2.2.calling (u := U) (U := U.calling f mk a) rfl⟩
theorem y_mk (cx : Cy p s m args c own cc nL g A) {C : String} {T : u_T} {N ci idx idx2 : Nat} {y : MethodName} {cc' : ByteArray} {nL' fr' lo' mc ms : Nat} {fs : List Value} {post : Nat → va_W → Prop} {ty : Nat → FieldType}
    (CN : Cn_ g y cc' nL' fr' lo' mc ms ci fs post) (hM : MI y cc' nL') (hl : Cond.methodLink own idx2 y ∈ zWL) (hcl : vwCl[ci]? = some (C, T, N)) (hin : ∀ w ∈ u_ws C T N, w ∈ zWL) (hty : ∀ k, k < N → parseFieldDescriptor (T k).2.2.1 = some (ty k)) (hclk : Cond.classLink own idx C ∈ zWL) (hinst : Cond.instantiable C N ∈ zWL) (hini : Cond.initialized C ∈ zWL) (hfs : ∀ j, j < N → defaultValue (ty j) = vp_V fs j)
    (hd0 : decode cc pc = .ok (.new idx, 3)) (hd1 : decode cc (pc + 3) = .ok (.dup, 1)) (hd2 : decode cc (pc + 4) = .ok (.invokespecial idx2, 3))
    (K : ∀ (q : Nat) (w1 : va_W), post q w1 → Y p l e R s m args below meth c nL (ce + 1 + mc) (sl + N + ms) g A Q (ws ++ w1) (pc + 7) vs (.ref q :: st))
    (hrest : (st.map fun v => v.category).sum ≤ 7) (hces : ce + 1 + mc ≤ R.cells ∧ sl + N + ms ≤ R.slots) (hroom : fr' + 1 ≤ R.frames ∧ 8 + (nL' + 11) + lo' ≤ R.locals) : Y p l e R s m args below meth c nL ce sl g A Q ws pc vs st := by
  intro H locs ls hP hD hS hL
  refine va_new (ci := ci) (fs := fs) cx.1 cx.2.1 cx.2.2.2.2.1 hin ty hty cx.2.2.2.1 (cx.hts hclk) (cx.hts hinst) (cx.hts hini) cx.K hP hD hS cx.2.2.2.2.2.2.1 hcl hfs (by omega) (by omega) hd0 (fun q H1 hP hD hS => ?_)
  refine lv_dup cx.1 cx.2.1 hd1 rfl ?_
  have hFc := last_A hD (sz := H1.size) (fun q h => cx.2.2.2.2.2.2.1 q (Nat.le_trans hS.1 h))
  refine va_callv (va_runI (As := []) (rest := .ref q :: st) ⟨cx.1, cx.2.1, cx.2.2.1, cx.2.2.2.1, cx.2.2.2.2.1⟩ (CN l q H1.size) (cwI 0 cx.2.2.2.2.1 hM.good rfl rfl rfl (cx.hts hM.2.1) (cx.hts hl) (cx.hts hM.1) hM.2.2.2.1 hM.2.2.2.2 hroom) ⟨Pk_blind, fun U hU hW => ⟨rfl, by rw [hU], by rw [hU]; exact last_P hP, (last_D hD).weaken (fun _ _ _ h => cx.2.2.2.2.2.2.2 _ h), ?_, ?_⟩⟩ rfl rfl hL.size rfl ?_ hd2 ⟨hces.1, hces.2⟩) hS (fun q _ h => hFc q h) hFc (fun w1 t H2 locs2 ht hvm hp hB hz hk hS2 => ?_)
  · exact cx.2.2.2.2.2.2.2 _ (cx.2.2.2.2.2.2.1 _ hS.1)
  · rw [hU]
    exact (cx.2.2.2.2.2.1.warm hW).kept (fun a h1 h2 => hS.2.1 a h1 (fun h => h2 (cx.2.2.2.2.2.2.2 a h)))
  · show 2 * 0 + ((Value.ref q :: st).map fun v => v.category).sum ≤ 8
    rw [List.map_cons, List.sum_cons]
    show 2 * 0 + (1 + _) ≤ 8
    omega
  · obtain ⟨hP1, hD1⟩ := hB
    rw [ht] at hP1
    obtain ⟨hP, hD⟩ := vjoin1 hP hD hk hFc hP1 hD1
    exact K q w1 hp H2 locs2 ls hP hD hS2 hL
theorem y_vret (cx : Cy p s m args c own cc nL g A) (hr : meth.sig.returnType = none) (hlk : meth.locks = false) {post : va_W → Prop} {mc ms : Nat} (hd : decode cc pc = .ok (.return_, 1)) (h : post ws) (h1 : ce ≤ mc) (h2 : sl ≤ ms) : Y p l e R s m args below meth c nL ce sl g A (MQ below (va_Qv post (Bw_ g A) A) args s mc ms A) ws pc vs [] :=
  fun H locs ls hP hD hS hL => W.widen h1 h2 (W.vret cx.1 cx.2.1 hr (fun t ht hW => ⟨⟨ws, rfl, h, by rw [ht]; exact hP, hD⟩, hS.F ht⟩) hS.2.2 hd hlk)
theorem Cn_.mk {y : MethodName} {fr lo mc ms ci : Nat} {fs : List Value} {post : Nat → va_W → Prop} (hy : plainName y.cls = true) (hn : y.name = "<init>") (hnL : 1 ≤ nL)
    (body : ∀ (p : Program) (l : Launch) (e : Env) (s : State) (m : MethodId) (args : Array Value) (below : List Frame) (meth : Method) (c : Code) (h0 : Nat) (A : Nat → Prop), Cy p s m args c y.cls cc nL g A → meth.sig.returnType = none → meth.locks = false → meth.name = "<init>" → Y p l e ({ frames := fr, cells := mc, slots := ms, locals := lo }) s m args below meth c nL 0 0 g A (MQ below (va_Qv (post h0) (Bw_ g A) A) args s mc ms A) [(h0, .inr (ci, fs))] 0 (some (.ref h0) :: List.replicate (nL - 1) none) []) : Cn_ g y cc nL fr lo mc ms ci fs post := by
  intro l h0 sz
  refine Met.ofW hy rfl ?_
  intro p e s m args below meth c s₁ B hml hv
  obtain ⟨rfl, hsz, hP, hD, hb0, hSt⟩ := hv
  subst hsz
  have cx : Cy p s m [Value.ref h0].toArray c y.cls cc nL g (va_A [(h0, .inr (ci, fs))] s.heap.size) := by
    refine ⟨B.exec, B.bytes, hml, findClass_of_methodNamed (by cases y; exact B.named), fun w h => atoms_spec (ws := zw y cc nL none) B.pre w (List.mem_cons_of_mem _ h), hSt, fun q h => Or.inr h, ?_⟩
    rintro q (⟨k, v, hv⟩ | hq)
    · exact hD.2 k (q, v) hv
    · exact Nat.le_trans hb0 hq
  have h := body p l e s m [Value.ref h0].toArray below meth c h0 _ cx B.returns B.notSynchronized ((name_of_methodNamed (by cases y; exact B.named) B.method).1.trans hn)
  rw [lg_entry_eq]
  exact h s.heap [] _ hP hD.self va_S.rf (Lo_entry (by intro v hv; simp at hv; subst hv; rfl) (by simp) (by simpa using hnL))
end YY
