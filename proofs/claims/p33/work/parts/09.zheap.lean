/-! ===== fields, arrays, calls, ends ===== -/
theorem lv_args_mem {av : List Value} (hc : ∀ v ∈ av, v.category = 1) : ∀ (k i : Nat) (v : Value), av[i]? = some v → (k + i, v) ∈ lv_args k av := by
  induction av with
  | nil => intro k i v h; simp at h
  | cons a t ih =>
    intro k i v h
    have ha : a.category = 1 := hc a List.mem_cons_self
    unfold lv_args
    rw [if_neg (by rw [ha]; decide)]
    cases i with
    | zero =>
      have h := Option.some.inj h
      subst h
      exact List.mem_cons_self
    | succ j =>
      have h2 := ih (fun w hw => hc w (List.mem_cons_of_mem _ hw)) (k + 1) j v h
      rw [show k + (j + 1) = k + 1 + j by omega]
      exact List.mem_cons_of_mem _ h2
theorem lg_sl_len {av : List Value} (hc : ∀ v ∈ av, v.category = 1) : (lg_sl av).length = av.length := by
  induction av with
  | nil => rfl
  | cons a t ih =>
    have ha : a.category = 1 := hc a List.mem_cons_self
    have ht := ih (fun w hw => hc w (List.mem_cons_of_mem _ hw))
    unfold lg_sl at ht ⊢
    rw [List.flatMap_cons, if_neg (by rw [ha]; decide), List.length_append, ht]
    simp
    omega
section ZH
variable {p : Program} {l : Launch} {e : Env} {s : State} {m : MethodId} {args : Array Value} {below : List Frame} {meth : Method} {c : Code} {own : String} {cc : ByteArray} {nL fr lo ce sl : Nat} {rt : Option FieldType} {E : En}
variable {R : Room} {Q : State → Prop} {G : Wd} {pc : Nat} {vs : List (Option Value)} {st : List Value}
theorem Cx.hts (cx : Cx p s m args meth c own cc nL rt E) {w : Cond} (h : w ∈ zWL) : w.before args s = true := cx.2.2.2.2.1 w h
theorem Cx.K (cx : Cx p s m args meth c own cc nL rt E) : va_K E.2.1 vwCl (tyE E) s := cx.2.2.2.2.2.2.2.2.1
theorem Cx.ok (cx : Cx p s m args meth c own cc nL rt E) : EOk E := cx.2.2.2.2.2.2.2.1
theorem Cx.ke (cx : Cx p s m args meth c own cc nL rt E) : KE E s s.heap := cx.2.2.2.2.2.2.2
theorem z_get (cx : Cx p s m args meth c own cc nL rt E) {ci k cn N idx : Nat} {fs : List Value} {C : String} {T : u_T} {v : Value} (hn : (cn < 278 ∧ (cn < 6 ∨ 14 ≤ cn))) (hc : cont E G cn = .inr (ci, fs)) (hcl : vwCl[ci]? = some (C, T, N)) (hin : ∀ w ∈ u_ws C T N, w ∈ zWL) (hk : k < N) (hv : fs[k]? = some v) (hl : Cond.fieldLink own idx (T k).1 (T k).2.1 (T k).2.2.1 ∈ zWL) (hd : decode cc pc = .ok (.getfield idx, 3)) (K : Z p l e R s m args below meth c nL ce sl E Q G (pc + 3) vs (v :: st)) : Z p l e R s m args below meth c nL ce sl E Q G pc vs (.ref (E.1 cn) :: st) :=
  fun H locs ls hP hS hL => va_get cx.1 cx.2.1 cx.2.2.2.2.1 hin cx.2.2.2.1 cx.K hP (px_ cn) (by rw [ws_get E G hn, hc]) hcl k hk (cx.hts hl) (fun _ h => h) hv hd (K H locs ls hP hS hL)
theorem z_put (cx : Cx p s m args meth c own cc nL rt E) {ci k cn N idx f a : Nat} {fs : List Value} {C : String} {T : u_T} {ty0 : Nat → FieldType} {ty : FieldType} {x : Int} (hn : (cn < 278 ∧ (cn < 6 ∨ 14 ≤ cn))) (hcel : cel f a = cn) (hc : cont E G cn = .inr (ci, fs)) (hnew : cont E (gup G f a 0 x) cn = .inr (ci, fs.set k (.int (iN x)))) (hcl : vwCl[ci]? = some (C, T, N)) (hin : ∀ w ∈ u_ws C T N, w ∈ zWL) (hty : ∀ k, k < N → parseFieldDescriptor (T k).2.2.1 = some (ty0 k)) (hnm : ∀ a, a < N → ∀ b, b < N → a ≠ b → (T a).2.1 ≠ (T b).2.1) (hk : k < N) (hfin : (T k).2.2.2 = false) (hpd : parseFieldDescriptor (T k).2.2.1 = some ty) (hnar : narrow ty (.int (iN x)) = .int (iN x)) (hfit : fits ty (.int (iN x)) = true) (hlen : k < fs.length) (hl : Cond.fieldLink own idx (T k).1 (T k).2.1 (T k).2.2.1 ∈ zWL) (hd : decode cc pc = .ok (.putfield idx, 3)) (K : Z p l e R s m args below meth c nL ce sl E Q (gup G f a 0 x) (pc + 3) vs st) : Z p l e R s m args below meth c nL ce sl E Q G pc vs (.int (iN x) :: .ref (E.1 cn) :: st) :=
  fun H locs ls hP hS hL => va_put cx.1 cx.2.1 cx.2.2.2.2.1 hin ty0 hty hnm cx.2.2.2.1 cx.K hP (cx.ok.D G) hS (px_ cn) (by rw [ws_get E G hn, hc]) hcl k hk (cx.hts hl) (fun _ h => h) hfin hpd hnar hfit hlen hd (fun H1 locs1 hP1 _ hS1 => by
    rw [ws_up E hn hcel hnew] at hP1
    exact K H1 locs1 ls hP1 hS1 hL)
theorem z_iald (cx : Cx p s m args meth c own cc nL rt E) {cn n f a : Nat} {x : Int} (j : Nat) (hj : x = (j : Int)) (hn : (cn < 278 ∧ (cn < 6 ∨ 14 ≤ cn))) (hc : cont E G cn = ci_ E 0 n (fun i => iN (G f a i))) (hd : decode cc pc = .ok (.iaload, 1)) (K : Z p l e R s m args below meth c nL ce sl E Q G (pc + 1) vs (.int (iN (G f a j)) :: st)) (h : j < n := by omega) (hnn : n < 2147483648 := by decide) : Z p l e R s m args below meth c nL ce sl E Q G pc vs (.int (iN x) :: .ref (E.1 cn) :: st) :=
  fun H locs ls hP hS hL => va_iald cx.1 cx.2.1 cx.K hP (px_ cn) 0 (by rw [ws_get E G hn, hc]) rfl (iN_in (by omega) hnn) hd (by rw [iN_clamp (by omega), hj, Int.toNat_natCast]; exact K H locs ls hP hS hL)
theorem z_cald (cx : Cx p s m args meth c own cc nL rt E) {cn n f a : Nat} {x : Int} (j : Nat) (hj : x = (j : Int)) (hn : (cn < 278 ∧ (cn < 6 ∨ 14 ≤ cn))) (hc : cont E G cn = ci_ E 1 n (fun i => iN (G f a i))) (hd : decode cc pc = .ok (.caload, 1)) (K : Z p l e R s m args below meth c nL ce sl E Q G (pc + 1) vs (.int (iN (G f a j)) :: st)) (h : j < n := by omega) (hnn : n < 2147483648 := by decide) : Z p l e R s m args below meth c nL ce sl E Q G pc vs (.int (iN x) :: .ref (E.1 cn) :: st) :=
  fun H locs ls hP hS hL => va_cald cx.1 cx.2.1 cx.K hP (px_ cn) 1 (by rw [ws_get E G hn, hc]) rfl (iN_in (by omega) hnn) hd (by rw [iN_clamp (by omega), hj, Int.toNat_natCast]; exact K H locs ls hP hS hL)
theorem z_aldq (cx : Cx p s m args meth c own cc nL rt E) {cn n : Nat} {g : Nat → Nat} {k : Nat} {C : String} {x : Int} (j : Nat) (hj : x = (j : Int)) (hn : (cn < 278 ∧ (cn < 6 ∨ 14 ≤ cn))) (hc : cont E G cn = cr_ E k n (fun i => some (E.1 (g i)))) (ht : (tyE E)[k]? = some (E.2.2.1 k, .object C)) (hd : decode cc pc = .ok (.aaload, 1)) (K : Z p l e R s m args below meth c nL ce sl E Q G (pc + 1) vs (.ref (E.1 (g j)) :: st)) (h : j < n := by omega) (hnn : n < 2147483648 := by decide) : Z p l e R s m args below meth c nL ce sl E Q G pc vs (.int (iN x) :: .ref (E.1 cn) :: st) :=
  fun H locs ls hP hS hL => va_aldq cx.1 cx.2.1 cx.K hP (px_ cn) k (by rw [ws_get E G hn, hc]) ht (iN_in (by omega) hnn) hd (by rw [iN_clamp (by omega), hj, Int.toNat_natCast]; exact K H locs ls hP hS hL)
theorem z_iast (cx : Cx p s m args meth c own cc nL rt E) {cn n f a : Nat} {x v : Int} (j : Nat) (hj : x = (j : Int)) (hn : (cn < 278 ∧ (cn < 6 ∨ 14 ≤ cn))) (hcel : cel f a = cn) (hc : ∀ G : Wd, cont E G cn = ci_ E 0 n (fun i => iN (G f a i))) (hd : decode cc pc = .ok (.iastore, 1)) (K : Z p l e R s m args below meth c nL ce sl E Q (gup G f a j v) (pc + 1) vs st) (h : j < n := by omega) (hnn : n < 2147483648 := by decide) : Z p l e R s m args below meth c nL ce sl E Q G pc vs (.int (iN v) :: .int (iN x) :: .ref (E.1 cn) :: st) :=
  fun H locs ls hP hS hL => va_iast cx.1 cx.2.1 cx.K hP (cx.ok.D G) hS (px_ cn) 0 (by rw [ws_get E G hn, hc G]) rfl (iN_in (by omega) hnn) hd (fun H1 locs1 hP1 _ hS1 => by
    rw [iN_clamp (by omega), hj, Int.toNat_natCast, ws_up E hn hcel (G := G) (f := f) (a := a) (i := j) (v := v) (by
      rw [hc]
      congr 4
      funext j2
      unfold upd
      by_cases hj2 : j2 = j
      · rw [if_pos hj2, hj2, gup_s]
      · rw [if_neg hj2, gup_i _ _ _ _ _ hj2])] at hP1
    exact K H1 locs1 ls hP1 hS1 hL)
theorem iN_char {v : Int} (h : 0 ≤ v ∧ v < 65536) : vp_nar .char (iN v) = iN v := by
  obtain ⟨k, rfl⟩ : ∃ k : Nat, v = k := ⟨v.toNat, by omega⟩
  have hk : k < 65536 := by omega
  have h1 : iN (k : Int) = nI k := Int32.ofInt_eq_ofNat
  rw [h1]
  have h2 := (pk_charN hk).1
  unfold vp_nar
  rw [h2]
theorem z_cast (cx : Cx p s m args meth c own cc nL rt E) {cn n f a : Nat} {x v : Int} (j : Nat) (hj : x = (j : Int)) (hn : (cn < 278 ∧ (cn < 6 ∨ 14 ≤ cn))) (hcel : cel f a = cn) (hc : ∀ G : Wd, cont E G cn = ci_ E 1 n (fun i => iN (G f a i))) (hd : decode cc pc = .ok (.castore, 1)) (K : Z p l e R s m args below meth c nL ce sl E Q (gup G f a j v) (pc + 1) vs st) (h : j < n := by omega) (hv : 0 ≤ v ∧ v < 65536 := by omega) (hnn : n < 2147483648 := by decide) : Z p l e R s m args below meth c nL ce sl E Q G pc vs (.int (iN v) :: .int (iN x) :: .ref (E.1 cn) :: st) :=
  fun H locs ls hP hS hL => va_cast cx.1 cx.2.1 cx.K hP (cx.ok.D G) hS (px_ cn) 1 (by rw [ws_get E G hn, hc G]) rfl (iN_in (by omega) hnn) hd (fun H1 locs1 hP1 _ hS1 => by
    rw [iN_clamp (by omega), hj, Int.toNat_natCast, iN_char hv, ws_up E hn hcel (G := G) (f := f) (a := a) (i := j) (v := v) (by
      rw [hc]
      congr 4
      funext j2
      unfold upd
      by_cases hj2 : j2 = j
      · rw [if_pos hj2, hj2, gup_s]
      · rw [if_neg hj2, gup_i _ _ _ _ _ hj2])] at hP1
    exact K H1 locs1 ls hP1 hS1 hL)
theorem z_astq (cx : Cx p s m args meth c own cc nL rt E) {q k : Nat} {x : Int} (j : Nat) (hj : x = (j : Int)) (hq : q < 6) (hk : k < 120) (hd : decode cc pc = .ok (.aastore, 1)) (K : Z p l e R s m args below meth c nL ce sl E Q (gup G 4 q j k) (pc + 1) vs st) (h : j < 20 := by omega) : Z p l e R s m args below meth c nL ce sl E Q G pc vs (.ref (E.1 (38 + k)) :: .int (iN x) :: .ref (E.1 (20 + q)) :: st) :=
  fun H locs ls hP hS hL => va_astq cx.1 cx.2.1 cx.K hP (cx.ok.D G) hS (px_ (20 + q)) 2 (px_ (38 + k)) 3 (r := (RX3, TX3, 4)) (by rw [ws_get E G (by omega), co_rows E G hq]) rfl (by rw [ws_get E G (by omega), co_sub E G hk]) rfl (iN_in (by omega) (by decide)) hd (fun H1 locs1 hP1 _ hS1 => by
    rw [iN_clamp (by omega), hj, Int.toNat_natCast, ws_up E (c := 20 + q) (by omega) rfl (G := G) (f := 4) (a := q) (i := j) (v := (k : Int)) (by
      rw [co_rows E _ hq]
      congr 6
      funext j2
      unfold va_up
      by_cases hj2 : j2 = j
      · rw [if_pos hj2, hj2, gup_s, Int.toNat_natCast]
      · rw [if_neg hj2, gup_i _ _ _ _ _ hj2])] at hP1
    exact K H1 locs1 ls hP1 hS1 hL)
/-- the words of a method -/
def MV (y : MethodName) (cc : ByteArray) (nL : Nat) (ret : Option FieldType) (n : Nat) : Prop :=
  Cond.instanceMethod y ∈ zWL ∧ Cond.selects y.cls y y ∈ zWL ∧ Cond.initialized y.cls ∈ zWL ∧ Cond.code y cc nL ret ∈ zWL ∧ y.cls ≠ "java/lang/invoke/MethodHandle" ∧ y.cls ≠ "java/lang/invoke/VarHandle" ∧ (parseMethodDescriptor y.desc).map (fun d => d.parameters.length) = some n
def MS (y : MethodName) (cc : ByteArray) (nL : Nat) (ret : Option FieldType) (n : Nat) : Prop :=
  Cond.static y ∈ zWL ∧ Cond.initialized y.cls ∈ zWL ∧ Cond.code y cc nL ret ∈ zWL ∧ y.cls ≠ "java/lang/invoke/MethodHandle" ∧ y.cls ≠ "java/lang/invoke/VarHandle" ∧ (parseMethodDescriptor y.desc).map (fun d => d.parameters.length) = some n
theorem MV.good {y : MethodName} {cc' : ByteArray} {nL' n idx : Nat} {ret : Option FieldType} (h : MV y cc' nL' ret n) (hl : Cond.methodLink own idx y ∈ zWL) : GoodIn zWL (wsV own idx y.cls y (zw y cc' nL' ret)) := by
  intro w hw
  unfold wsV zw at hw
  simp only [List.cons_append, List.nil_append, List.mem_cons] at hw
  rcases hw with rfl | rfl | rfl | rfl | rfl | hw
  · exact zWL_good _ hl
  · exact zWL_good _ h.1
  · exact zWL_good _ h.2.1
  · exact zWL_good _ h.2.2.1
  · exact zWL_good _ h.2.2.2.1
  · exact zWL_good _ hw
theorem MS.good {y : MethodName} {cc' : ByteArray} {nL' n idx : Nat} {ret : Option FieldType} (h : MS y cc' nL' ret n) (hl : Cond.methodLink own idx y ∈ zWL) : GoodIn zWL (va_wsS own idx y (zw y cc' nL' ret)) := by
  intro w hw
  unfold va_wsS zw at hw
  simp only [List.cons_append, List.nil_append, List.mem_cons] at hw
  rcases hw with rfl | rfl | rfl | rfl | hw
  · exact zWL_good _ hl
  · exact zWL_good _ h.1
  · exact zWL_good _ h.2.1
  · exact zWL_good _ h.2.2.1
  · exact zWL_good _ hw
theorem Ok_blind {av : List Value} : FrameBlind (va_Pc av (Ok_ E G)) := fun a U g mk h => ⟨h.1, h.2.1, h.2.2.moved (u := U) (U := U.calling g mk a) (Vm.Alike.refl U.vm)⟩
theorem Ok_at (cx : Cx p s m args meth c own cc nL rt E) {H : Heap} {locs : List Loc} (hP : va_P E.2.1 vwCl (ws_ E G) H) (hS : va_S (AE E) s.heap H locs) {U : State} (hU : U.heap = H) (hW : s.WarmedH U.vm) : Ok_ E G U :=
  ⟨by rw [hU]; exact hP, by rw [hU]; exact (cx.ke.moved hW.alike).kept (fun a h1 h2 => hS.2.1 a h1 h2)⟩
theorem z_vi (cx : Cx p s m args meth c own cc nL rt E) {y : MethodName} {cc' : ByteArray} {nL' fr' lo' n idx cn ci : Nat} {ty : FieldType} {av rest : List Value} {q : vw_C} {fs : List Value} {post : Int → Wd → Prop}
    (C : Cti E y cc' nL' ty fr' lo' (.ref (E.1 cn) :: av) G post) (hst : st = av.reverse ++ .ref (E.1 cn) :: rest) (hM : MV y cc' nL' (some ty) n) (hl : Cond.methodLink own idx y ∈ zWL) (hn : (cn < 278 ∧ (cn < 6 ∨ 14 ≤ cn))) (hc : cont E G cn = .inr (ci, fs)) (hcl : vwCl[ci]? = some q) (hd : decode cc pc = .ok (.invokevirtual idx, 3))
    (K : ∀ (z : Int) (G' : Wd), post z G' → Z p l e R s m args below meth c nL ce sl E Q G' (pc + 3) vs (.int (iN z) :: rest))
    (hq : q.1 = y.cls := by rfl) (hav : av.length = n := by rfl) (hroom : fr' + 1 ≤ R.frames ∧ 8 + (nL' + 11) + lo' ≤ R.locals := by exact ⟨Nat.le_of_ble_eq_true rfl, Nat.le_of_ble_eq_true rfl⟩) (hrest : (rest.map fun v => v.category).sum ≤ 8 := by exact Nat.le_of_ble_eq_true rfl) (hces : ce ≤ R.cells ∧ sl ≤ R.slots := by exact ⟨Nat.le_of_ble_eq_true rfl, Nat.le_of_ble_eq_true rfl⟩) : Z p l e R s m args below meth c nL ce sl E Q G pc vs st := by
  intro H locs ls hP hS hL
  subst hst
  refine va_calli (va_runV (As := av) (rest := rest) ⟨cx.1, cx.2.1, cx.2.2.1, cx.2.2.2.1, cx.2.2.2.2.1⟩ (C l) (cwV (C := y.cls) n cx.2.2.2.2.1 (hM.good hl) rfl rfl rfl ⟨rfl, hM.2.2.2.2⟩ hroom) ⟨Ok_blind, ?_, fun U hU hW => ⟨rfl, Ok_at cx hP hS hU hW⟩⟩ rfl hav (hL.size) rfl ?_ hd ⟨by omega, by omega⟩) hS (fun _ _ h => h) (fun _ h => h) (fun r u t H1 locs1 ht hvm hp hB hz hk hS1 => ?_)
  · have h2 := va_recv cx.K hP hcl (by rw [ws_get E G hn, hc])
    rw [hq] at h2
    exact h2
  · simpa using hrest
  · obtain ⟨z, rfl, hz2⟩ := hp
    unfold Wv at hB
    rw [ht] at hB
    exact K z u hz2 H1 locs1 ls hB hS1 hL
theorem z_vv (cx : Cx p s m args meth c own cc nL rt E) {y : MethodName} {cc' : ByteArray} {nL' fr' lo' n idx cn ci : Nat} {av rest : List Value} {q : vw_C} {fs : List Value} {post : Wd → Prop}
    (C : Ctv E y cc' nL' fr' lo' (.ref (E.1 cn) :: av) G post) (hst : st = av.reverse ++ .ref (E.1 cn) :: rest) (hM : MV y cc' nL' none n) (hl : Cond.methodLink own idx y ∈ zWL) (hn : (cn < 278 ∧ (cn < 6 ∨ 14 ≤ cn))) (hc : cont E G cn = .inr (ci, fs)) (hcl : vwCl[ci]? = some q) (hd : decode cc pc = .ok (.invokevirtual idx, 3))
    (K : ∀ (G' : Wd), post G' → Z p l e R s m args below meth c nL ce sl E Q G' (pc + 3) vs rest)
    (hq : q.1 = y.cls := by rfl) (hav : av.length = n := by rfl) (hroom : fr' + 1 ≤ R.frames ∧ 8 + (nL' + 11) + lo' ≤ R.locals := by exact ⟨Nat.le_of_ble_eq_true rfl, Nat.le_of_ble_eq_true rfl⟩) (hrest : (rest.map fun v => v.category).sum ≤ 8 := by exact Nat.le_of_ble_eq_true rfl) (hces : ce ≤ R.cells ∧ sl ≤ R.slots := by exact ⟨Nat.le_of_ble_eq_true rfl, Nat.le_of_ble_eq_true rfl⟩) : Z p l e R s m args below meth c nL ce sl E Q G pc vs st := by
  intro H locs ls hP hS hL
  subst hst
  refine va_callv (va_runV (As := av) (rest := rest) ⟨cx.1, cx.2.1, cx.2.2.1, cx.2.2.2.1, cx.2.2.2.2.1⟩ (C l) (cwV (C := y.cls) n cx.2.2.2.2.1 (hM.good hl) rfl rfl rfl ⟨rfl, hM.2.2.2.2⟩ hroom) ⟨Ok_blind, ?_, fun U hU hW => ⟨rfl, Ok_at cx hP hS hU hW⟩⟩ rfl hav (hL.size) rfl ?_ hd ⟨by omega, by omega⟩) hS (fun _ _ h => h) (fun _ h => h) (fun u t H1 locs1 ht hvm hp hB hz hk hS1 => ?_)
  · have h2 := va_recv cx.K hP hcl (by rw [ws_get E G hn, hc])
    rw [hq] at h2
    exact h2
  · simpa using hrest
  · unfold Wv at hB
    rw [ht] at hB
    exact K u hp H1 locs1 ls hB hS1 hL
theorem z_vf (cx : Cx p s m args meth c own cc nL rt E) {y : MethodName} {cc' : ByteArray} {nL' fr' lo' n idx cn ci : Nat} {av rest : List Value} {q : vw_C} {fs : List Value} {post : UInt32 → Wd → Prop}
    (C : Ctf E y cc' nL' fr' lo' (.ref (E.1 cn) :: av) G post) (hst : st = av.reverse ++ .ref (E.1 cn) :: rest) (hM : MV y cc' nL' (some .float) n) (hl : Cond.methodLink own idx y ∈ zWL) (hn : (cn < 278 ∧ (cn < 6 ∨ 14 ≤ cn))) (hc : cont E G cn = .inr (ci, fs)) (hcl : vwCl[ci]? = some q) (hd : decode cc pc = .ok (.invokevirtual idx, 3))
    (K : ∀ (z : UInt32) (G' : Wd), post z G' → Z p l e R s m args below meth c nL ce sl E Q G' (pc + 3) vs (.float z :: rest))
    (hq : q.1 = y.cls := by rfl) (hav : av.length = n := by rfl) (hroom : fr' + 1 ≤ R.frames ∧ 8 + (nL' + 11) + lo' ≤ R.locals := by exact ⟨Nat.le_of_ble_eq_true rfl, Nat.le_of_ble_eq_true rfl⟩) (hrest : (rest.map fun v => v.category).sum ≤ 8 := by exact Nat.le_of_ble_eq_true rfl) (hces : ce ≤ R.cells ∧ sl ≤ R.slots := by exact ⟨Nat.le_of_ble_eq_true rfl, Nat.le_of_ble_eq_true rfl⟩) : Z p l e R s m args below meth c nL ce sl E Q G pc vs st := by
  intro H locs ls hP hS hL
  subst hst
  refine va_callf (va_runV (As := av) (rest := rest) ⟨cx.1, cx.2.1, cx.2.2.1, cx.2.2.2.1, cx.2.2.2.2.1⟩ (C l) (cwV (C := y.cls) n cx.2.2.2.2.1 (hM.good hl) rfl rfl rfl ⟨rfl, hM.2.2.2.2⟩ hroom) ⟨Ok_blind, ?_, fun U hU hW => ⟨rfl, Ok_at cx hP hS hU hW⟩⟩ rfl hav (hL.size) rfl ?_ hd ⟨by omega, by omega⟩) hS (fun _ _ h => h) (fun _ h => h) (fun r u t H1 locs1 ht hvm hp hB hz hk hS1 => ?_)
  · have h2 := va_recv cx.K hP hcl (by rw [ws_get E G hn, hc])
    rw [hq] at h2
    exact h2
  · simpa using hrest
  · unfold Wv at hB
    rw [ht] at hB
    exact K r u hp H1 locs1 ls hB hS1 hL
theorem z_si (cx : Cx p s m args meth c own cc nL rt E) {y : MethodName} {cc' : ByteArray} {nL' fr' lo' n idx : Nat} {ty : FieldType} {av rest : List Value} {post : Int → Wd → Prop}
    (C : Cti E y cc' nL' ty fr' lo' av G post) (hst : st = av.reverse ++ rest) (hM : MS y cc' nL' (some ty) n) (hl : Cond.methodLink own idx y ∈ zWL) (hd : decode cc pc = .ok (.invokestatic idx, 3))
    (K : ∀ (z : Int) (G' : Wd), post z G' → Z p l e R s m args below meth c nL ce sl E Q G' (pc + 3) vs (.int (iN z) :: rest))
    (hav : av.length = n := by rfl) (hroom : fr' + 1 ≤ R.frames ∧ 8 + (nL' + 11) + lo' ≤ R.locals := by exact ⟨Nat.le_of_ble_eq_true rfl, Nat.le_of_ble_eq_true rfl⟩) (hrest : (rest.map fun v => v.category).sum ≤ 8 := by exact Nat.le_of_ble_eq_true rfl) (hces : ce ≤ R.cells ∧ sl ≤ R.slots := by exact ⟨Nat.le_of_ble_eq_true rfl, Nat.le_of_ble_eq_true rfl⟩) : Z p l e R s m args below meth c nL ce sl E Q G pc vs st := by
  intro H locs ls hP hS hL
  subst hst
  refine va_calli (va_runS (As := av) (rest := rest) ⟨cx.1, cx.2.1, cx.2.2.1, cx.2.2.2.1, cx.2.2.2.2.1⟩ (C l) (va_cwS n cx.2.2.2.2.1 (hM.good hl) rfl rfl rfl hM.2.2.2 hroom) ⟨Ok_blind, fun U hU hW => ⟨rfl, Ok_at cx hP hS hU hW⟩⟩ rfl hav (hL.size) rfl ?_ hd ⟨by omega, by omega⟩) hS (fun _ _ h => h) (fun _ h => h) (fun r u t H1 locs1 ht hvm hp hB hz hk hS1 => ?_)
  · simpa using hrest
  · obtain ⟨z, rfl, hz2⟩ := hp
    unfold Wv at hB
    rw [ht] at hB
    exact K z u hz2 H1 locs1 ls hB hS1 hL
theorem z_sv (cx : Cx p s m args meth c own cc nL rt E) {y : MethodName} {cc' : ByteArray} {nL' fr' lo' n idx : Nat} {av rest : List Value} {post : Wd → Prop}
    (C : Ctv E y cc' nL' fr' lo' av G post) (hst : st = av.reverse ++ rest) (hM : MS y cc' nL' none n) (hl : Cond.methodLink own idx y ∈ zWL) (hd : decode cc pc = .ok (.invokestatic idx, 3))
    (K : ∀ (G' : Wd), post G' → Z p l e R s m args below meth c nL ce sl E Q G' (pc + 3) vs rest)
    (hav : av.length = n := by rfl) (hroom : fr' + 1 ≤ R.frames ∧ 8 + (nL' + 11) + lo' ≤ R.locals := by exact ⟨Nat.le_of_ble_eq_true rfl, Nat.le_of_ble_eq_true rfl⟩) (hrest : (rest.map fun v => v.category).sum ≤ 8 := by exact Nat.le_of_ble_eq_true rfl) (hces : ce ≤ R.cells ∧ sl ≤ R.slots := by exact ⟨Nat.le_of_ble_eq_true rfl, Nat.le_of_ble_eq_true rfl⟩) : Z p l e R s m args below meth c nL ce sl E Q G pc vs st := by
  intro H locs ls hP hS hL
  subst hst
  refine va_callv (va_runS (As := av) (rest := rest) ⟨cx.1, cx.2.1, cx.2.2.1, cx.2.2.2.1, cx.2.2.2.2.1⟩ (C l) (va_cwS n cx.2.2.2.2.1 (hM.good hl) rfl rfl rfl hM.2.2.2 hroom) ⟨Ok_blind, fun U hU hW => ⟨rfl, Ok_at cx hP hS hU hW⟩⟩ rfl hav (hL.size) rfl ?_ hd ⟨by omega, by omega⟩) hS (fun _ _ h => h) (fun _ h => h) (fun u t H1 locs1 ht hvm hp hB hz hk hS1 => ?_)
  · simpa using hrest
  · unfold Wv at hB
    rw [ht] at hB
    exact K u hp H1 locs1 ls hB hS1 hL
/-- ends -/
def Qi_ (E : En) (below : List Frame) (args : Array Value) (s : State) (post : Int → Wd → Prop) : State → Prop := MQ below (va_Qi (fun r G' => ∃ z : Int, r = iN z ∧ post z G') (Wv E) (AE E)) args s 0 0 (AE E)
def Qv_ (E : En) (below : List Frame) (args : Array Value) (s : State) (post : Wd → Prop) : State → Prop := MQ below (va_Qv post (Wv E) (AE E)) args s 0 0 (AE E)
def Qf_ (E : En) (below : List Frame) (args : Array Value) (s : State) (post : UInt32 → Wd → Prop) : State → Prop := MQ below (va_Qf post (Wv E) (AE E)) args s 0 0 (AE E)
theorem z_iret (cx : Cx p s m args meth c own cc nL (some .int) E) {post : Int → Wd → Prop} {x : Int} (hd : decode cc pc = .ok (.ireturn, 1)) (h : post x G) : Z p l e R s m args below meth c nL 0 0 E (Qi_ E below args s post) G pc vs [.int (iN x)] :=
  fun H locs ls hP hS hL => W.iret cx.1 cx.2.1 cx.2.2.2.2.2.1 (fun t ht hW => ⟨⟨iN x, G, rfl, ⟨x, rfl, h⟩, by unfold Wv; rw [ht]; exact hP⟩, hS.F ht⟩) hS.2.2 hd cx.2.2.2.2.2.2.1
theorem narb {x : Int} (h : x = 0 ∨ x = 1) : narrow .boolean (.int (iN x)) = .int (iN x) ∧ fits .boolean (.int (iN x)) = true := by
  rcases h with rfl | rfl <;> decide +kernel
theorem z_zret (cx : Cx p s m args meth c own cc nL (some .boolean) E) {post : Int → Wd → Prop} {x : Int} (hd : decode cc pc = .ok (.ireturn, 1)) (h : post x G) (h01 : x = 0 ∨ x = 1 := by omega) : Z p l e R s m args below meth c nL 0 0 E (Qi_ E below args s post) G pc vs [.int (iN x)] :=
  fun H locs ls hP hS hL => W.zret cx.1 cx.2.1 cx.2.2.2.2.2.1 (narb h01).1 (fun t ht hW => ⟨⟨iN x, G, rfl, ⟨x, rfl, h⟩, by unfold Wv; rw [ht]; exact hP⟩, hS.F ht⟩) hS.2.2 hd cx.2.2.2.2.2.2.1
theorem z_vret (cx : Cx p s m args meth c own cc nL none E) {post : Wd → Prop} (hd : decode cc pc = .ok (.return_, 1)) (h : post G) : Z p l e R s m args below meth c nL 0 0 E (Qv_ E below args s post) G pc vs [] :=
  fun H locs ls hP hS hL => W.vret cx.1 cx.2.1 cx.2.2.2.2.2.1 (fun t ht hW => ⟨⟨G, rfl, h, by unfold Wv; rw [ht]; exact hP⟩, hS.F ht⟩) hS.2.2 hd cx.2.2.2.2.2.2.1
theorem z_fret (cx : Cx p s m args meth c own cc nL (some .float) E) {post : UInt32 → Wd → Prop} {x : UInt32} (hd : decode cc pc = .ok (.freturn, 1)) (h : post x G) : Z p l e R s m args below meth c nL 0 0 E (Qf_ E below args s post) G pc vs [.float x] :=
  fun H locs ls hP hS hL => W.fret cx.1 cx.2.1 cx.2.2.2.2.2.1 (fun t ht hW => ⟨⟨x, G, rfl, h, by unfold Wv; rw [ht]; exact hP⟩, hS.F ht⟩) hS.2.2 hd cx.2.2.2.2.2.2.1
/-- beginnings -/
theorem Lo_entry {av : List Value} {vs : List (Option Value)} (hcat : ∀ v ∈ av, v.category = 1) (hvs : vs = av.map some ++ List.replicate (nL - av.length) none) (hlen : av.length ≤ nL) : Lo nL vs ((lg_sl av ++ List.replicate (nL - (lg_sl av).length) Slot.unset).toArray) := by
  have hl := lv_entry av (n := nL) (by rw [lg_sl_len hcat]; exact hlen)
  have key : ∀ (i : Nat) (v : Value), vs[i]? = some (some v) → av[i]? = some v := by
    intro i v hv
    rw [hvs] at hv
    by_cases hi : i < av.length
    · rw [List.getElem?_append_left (by rw [List.length_map]; exact hi), List.getElem?_map] at hv
      cases hx : av[i]? with
      | none => rw [hx] at hv; cases hv
      | some w => rw [hx] at hv; cases hv; rfl
    · rw [List.getElem?_append_right (by rw [List.length_map]; omega)] at hv
      have := List.eq_of_mem_replicate (List.mem_of_getElem? hv)
      cases this
  refine ⟨hl.mono (fun q hq => ?_), fun i v hv => Or.inl (hcat v (List.mem_of_getElem? (key i v hv)))⟩
  obtain ⟨i, v⟩ := q
  have h2 := lv_args_mem hcat 0 i v (key i v (la_mem.mp hq))
  rwa [Nat.zero_add] at h2
theorem Cx.of {y : MethodName} {ret : Option FieldType} {maxL : Nat} {s₁ : State} {rm : Room} (B : BodyLoose p l y (headSpec (zw y cc maxL ret) rm) cc maxL ret e s m args below meth c s₁) (hml : c.maxLocals = maxL) (hKE : KE E s s.heap) : Cx p s m args meth c y.cls cc maxL ret E :=
  ⟨B.exec, B.bytes, hml, findClass_of_methodNamed (by cases y; exact B.named), fun w h => atoms_spec (ws := zw y cc maxL ret) B.pre w (List.mem_cons_of_mem _ h), B.returns, B.notSynchronized, hKE⟩
theorem Cti.mk {y : MethodName} {ty : FieldType} {av : List Value} {post : Int → Wd → Prop} (vs : List (Option Value)) (hy : plainName y.cls = true) (hvs : vs = av.map some ++ List.replicate (nL - av.length) none) (hcat : ∀ v ∈ av, v.category = 1) (hlen : av.length ≤ nL)
    (body : ∀ (p : Program) (l : Launch) (e : Env) (s : State) (m : MethodId) (args : Array Value) (below : List Frame) (meth : Method) (c : Code), Cx p s m args meth c y.cls cc nL (some ty) E → Z p l e (zr fr lo) s m args below meth c nL 0 0 E (Qi_ E below args s post) G 0 vs []) : Cti E y cc nL ty fr lo av G post := by
  intro l
  refine Met.ofW hy rfl ?_
  intro p e s m args below meth c s₁ B hml hv
  obtain ⟨rfl, hP, hKE⟩ := hv
  have h := body p l e s m av.toArray below meth c (Cx.of B hml hKE)
  rw [lg_entry_eq]
  exact h s.heap [] _ hP va_S.rf (Lo_entry hcat hvs hlen)
theorem Ctv.mk {y : MethodName} {av : List Value} {post : Wd → Prop} (vs : List (Option Value)) (hy : plainName y.cls = true) (hvs : vs = av.map some ++ List.replicate (nL - av.length) none) (hcat : ∀ v ∈ av, v.category = 1) (hlen : av.length ≤ nL)
    (body : ∀ (p : Program) (l : Launch) (e : Env) (s : State) (m : MethodId) (args : Array Value) (below : List Frame) (meth : Method) (c : Code), Cx p s m args meth c y.cls cc nL none E → Z p l e (zr fr lo) s m args below meth c nL 0 0 E (Qv_ E below args s post) G 0 vs []) : Ctv E y cc nL fr lo av G post := by
  intro l
  refine Met.ofW hy rfl ?_
  intro p e s m args below meth c s₁ B hml hv
  obtain ⟨rfl, hP, hKE⟩ := hv
  have h := body p l e s m av.toArray below meth c (Cx.of B hml hKE)
  rw [lg_entry_eq]
  exact h s.heap [] _ hP va_S.rf (Lo_entry hcat hvs hlen)
theorem Ctf.mk {y : MethodName} {av : List Value} {post : UInt32 → Wd → Prop} (vs : List (Option Value)) (hy : plainName y.cls = true) (hvs : vs = av.map some ++ List.replicate (nL - av.length) none) (hcat : ∀ v ∈ av, v.category = 1) (hlen : av.length ≤ nL)
    (body : ∀ (p : Program) (l : Launch) (e : Env) (s : State) (m : MethodId) (args : Array Value) (below : List Frame) (meth : Method) (c : Code), Cx p s m args meth c y.cls cc nL (some .float) E → Z p l e (zr fr lo) s m args below meth c nL 0 0 E (Qf_ E below args s post) G 0 vs []) : Ctf E y cc nL fr lo av G post := by
  intro l
  refine Met.ofW hy rfl ?_
  intro p e s m args below meth c s₁ B hml hv
  obtain ⟨rfl, hP, hKE⟩ := hv
  have h := body p l e s m av.toArray below meth c (Cx.of B hml hKE)
  rw [lg_entry_eq]
  exact h s.heap [] _ hP va_S.rf (Lo_entry hcat hvs hlen)
end ZH
