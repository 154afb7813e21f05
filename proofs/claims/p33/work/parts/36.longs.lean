/-! ===== longs, shifts; calls that answer a long; the script ===== -/
theorem iN_all (w : Int32) : ∃ z : Int, w = iN z := ⟨w.toInt, (Int32.ofInt_toInt w).symm⟩
def lowV (v n : Int) : Int := v % 2147483648 % n
theorem lowV_b {v n : Int} (h : 0 < n) : 0 ≤ lowV v n ∧ lowV v n < n := ⟨Int.emod_nonneg _ (by omega), Int.emod_lt_of_pos _ h⟩
theorem iN_and31 (v : Int) : iN v &&& 2147483647 = iN (v % 2147483648) := by
  have hv : 0 ≤ v % 2147483648 ∧ v % 2147483648 < 2147483648 := ⟨Int.emod_nonneg _ (by decide), Int.emod_lt_of_pos _ (by decide)⟩
  have h0 : (iN v &&& 2147483647).toBitVec = (iN v).toBitVec &&& 2147483647#32 := rfl
  have h3 : (iN v).toBitVec.toNat = (v % 4294967296).toNat := by
    show (BitVec.ofInt 32 v).toNat = _
    rw [BitVec.toNat_ofInt]
    rfl
  have h1 : (iN v &&& 2147483647).toBitVec.toNat = (v % 2147483648).toNat := by
    rw [h0, BitVec.toNat_and, h3, show (2147483647#32).toNat = 2 ^ 31 - 1 by decide, Nat.and_two_pow_sub_one_eq_mod]
    omega
  have h2 : (iN v &&& 2147483647).toInt = v % 2147483648 := by
    show (iN v &&& 2147483647).toBitVec.toInt = _
    rw [BitVec.toInt_eq_toNat_of_lt (by omega), h1]
    omega
  rw [← h2]
  exact (Int32.ofInt_toInt _).symm
/-- a contract that answers a long -/
def Ctl (E : En) (y : MethodName) (cc : ByteArray) (nL : Nat) (fr lo : Nat) (av : List Value) (G : Wd) (post : Int64 → Wd → Prop) : Prop :=
  ∀ l : Launch, Met l y (zw y cc nL (some .long)) (zr fr lo) (va_Pc av (Ok_ E G)) (va_Ql post (Wv E) (AE E)) 0 0 (AE E)
def Ql_ (E : En) (below : List Frame) (args : Array Value) (s : State) (post : Int64 → Wd → Prop) : State → Prop := MQ below (va_Ql post (Wv E) (AE E)) args s 0 0 (AE E)
section ZLO
variable {p : Program} {l : Launch} {e : Env} {s : State} {m : MethodId} {args : Array Value} {below : List Frame} {meth : Method} {c : Code} {own : String} {cc : ByteArray} {nL fr lo ce sl : Nat} {rt : Option FieldType} {E : En}
variable {R : Room} {Q : State → Prop} {G : Wd} {pc : Nat} {vs : List (Option Value)} {st : List Value}
theorem z_ldc (cx : Cx p s m args meth c own cc nL rt E) {idx : Nat} {v : Int32} (hl : Cond.constant own idx v ∈ zWL) (hd : decode cc pc = .ok (.ldc idx, 2)) (K : Z p l e R s m args below meth c nL ce sl E Q G (pc + 2) vs (.int v :: st)) : Z p l e R s m args below meth c nL ce sl E Q G pc vs st :=
  fun H locs ls hP hS hL => lv_ldc cx.1 cx.2.1 cx.2.2.2.1 (cx.hts hl) hd (K H locs ls hP hS hL)
theorem z_ldc2 (cx : Cx p s m args meth c own cc nL rt E) {idx : Nat} {v : Int64} (hl : Cond.constantLong own idx v ∈ zWL) (hd : decode cc pc = .ok (.ldc2_w idx, 3)) (K : Z p l e R s m args below meth c nL ce sl E Q G (pc + 3) vs (.long v :: st)) : Z p l e R s m args below meth c nL ce sl E Q G pc vs st :=
  fun H locs ls hP hS hL => lv_ldc2 cx.1 cx.2.1 cx.2.2.2.1 (cx.hts hl) hd (K H locs ls hP hS hL)
theorem z_lload_n (cx : Cx p s m args meth c own cc nL rt E) {k : Fin 4} {x : Int64} (hd : decode cc pc = .ok (.lload_n k, 1)) (hv : vs[(k : Nat)]? = some (some (.long x))) (K : Z p l e R s m args below meth c nL ce sl E Q G (pc + 1) vs (.long x :: st)) : Z p l e R s m args below meth c nL ce sl E Q G pc vs st :=
  fun H locs ls hP hS hL => lv_lload_n cx.1 cx.2.1 hd rfl (hL.at_ hv) (K H locs ls hP hS hL)
theorem z_lload (cx : Cx p s m args meth c own cc nL rt E) {k : Nat} {x : Int64} (hd : decode cc pc = .ok (.lload k, 2)) (hv : vs[k]? = some (some (.long x))) (K : Z p l e R s m args below meth c nL ce sl E Q G (pc + 2) vs (.long x :: st)) : Z p l e R s m args below meth c nL ce sl E Q G pc vs st :=
  fun H locs ls hP hS hL => lv_lload cx.1 cx.2.1 hd (hL.at_ hv) (K H locs ls hP hS hL)
theorem z_lstore_n (cx : Cx p s m args meth c own cc nL rt E) {k : Fin 4} {x : Int64} (hd : decode cc pc = .ok (.lstore_n k, 1)) (K : Z p l e R s m args below meth c nL ce sl E Q G (pc + 1) (vs.set (k : Nat) (some (.long x))) st) (hk : (k : Nat) + 1 < nL := by decide) (hf : vs[(k : Nat) + 1]? = some none := by rfl) (hp : pre1 vs (k : Nat) = true := by rfl) : Z p l e R s m args below meth c nL ce sl E Q G pc vs (.long x :: st) :=
  fun H locs ls hP hS hL => lv_lstore_n cx.1 cx.2.1 hd rfl hL.1 hk rfl (fun ls' hl' => K H locs ls' hP hS (hL.setL hf hp hl'))
theorem z_lstore (cx : Cx p s m args meth c own cc nL rt E) {k : Nat} {x : Int64} (hd : decode cc pc = .ok (.lstore k, 2)) (K : Z p l e R s m args below meth c nL ce sl E Q G (pc + 2) (vs.set k (some (.long x))) st) (hk : k + 1 < nL := by decide) (hf : vs[k + 1]? = some none := by rfl) (hp : pre1 vs k = true := by rfl) : Z p l e R s m args below meth c nL ce sl E Q G pc vs (.long x :: st) :=
  fun H locs ls hP hS hL => lv_lstore cx.1 cx.2.1 hd hL.1 hk rfl (fun ls' hl' => K H locs ls' hP hS (hL.setL hf hp hl'))
theorem z_lmul (cx : Cx p s m args meth c own cc nL rt E) {x y : Int64} (hd : decode cc pc = .ok (.lmul, 1)) (K : Z p l e R s m args below meth c nL ce sl E Q G (pc + 1) vs (.long (x * y) :: st)) : Z p l e R s m args below meth c nL ce sl E Q G pc vs (.long y :: .long x :: st) :=
  fun H locs ls hP hS hL => lv_lmul cx.1 cx.2.1 hd (K H locs ls hP hS hL)
theorem z_ladd (cx : Cx p s m args meth c own cc nL rt E) {x y : Int64} (hd : decode cc pc = .ok (.ladd, 1)) (K : Z p l e R s m args below meth c nL ce sl E Q G (pc + 1) vs (.long (x + y) :: st)) : Z p l e R s m args below meth c nL ce sl E Q G pc vs (.long y :: .long x :: st) :=
  fun H locs ls hP hS hL => lv_ladd cx.1 cx.2.1 hd (K H locs ls hP hS hL)
theorem z_i2l (cx : Cx p s m args meth c own cc nL rt E) {x : Int32} (hd : decode cc pc = .ok (.i2l, 1)) (K : Z p l e R s m args below meth c nL ce sl E Q G (pc + 1) vs (.long x.toInt64 :: st)) : Z p l e R s m args below meth c nL ce sl E Q G pc vs (.int x :: st) :=
  fun H locs ls hP hS hL => lv_i2l cx.1 cx.2.1 hd rfl (K H locs ls hP hS hL)
theorem z_lcmp (cx : Cx p s m args meth c own cc nL rt E) {x y : Int64} (hd : decode cc pc = .ok (.lcmp, 1)) (K : ∀ z : Int, (z = 0 ∧ x = y) ∨ ((z = 1 ∨ z = -1) ∧ x ≠ y) → Z p l e R s m args below meth c nL ce sl E Q G (pc + 1) vs (.int (iN z) :: st)) : Z p l e R s m args below meth c nL ce sl E Q G pc vs (.long y :: .long x :: st) := by
  intro H locs ls hP hS hL
  refine W.lcmp cx.1 cx.2.1 hd ?_
  unfold lg_cmp
  by_cases h1 : x > y
  · rw [if_pos h1]
    exact K 1 (Or.inr ⟨Or.inl rfl, fun w => by
      subst w
      have : x.toInt < x.toInt := Int64.lt_iff_toInt_lt.mp h1
      omega⟩) H locs ls hP hS hL
  · rw [if_neg h1]
    by_cases h2 : x = y
    · rw [if_pos h2]
      exact K 0 (Or.inl ⟨rfl, h2⟩) H locs ls hP hS hL
    · rw [if_neg h2]
      exact K (-1) (Or.inr ⟨Or.inr rfl, h2⟩) H locs ls hP hS hL
theorem z_ishr (cx : Cx p s m args meth c own cc nL rt E) {x y : Int32} (hd : decode cc pc = .ok (.ishr, 1)) (K : ∀ z : Int, iN z = x >>> (y &&& 31) → Z p l e R s m args below meth c nL ce sl E Q G (pc + 1) vs (.int (iN z) :: st)) : Z p l e R s m args below meth c nL ce sl E Q G pc vs (.int y :: .int x :: st) := by
  intro H locs ls hP hS hL
  refine lv_ishr cx.1 cx.2.1 hd ?_
  obtain ⟨z, hz⟩ := iN_all (x >>> (y &&& 31))
  have q := K z hz.symm H locs ls hP hS hL
  rw [hz]
  exact q
theorem z_fcmpl (cx : Cx p s m args meth c own cc nL rt E) {x y : UInt32} (hd : decode cc pc = .ok (.fcmp .l, 1)) (K : ∀ z : Int, (z = 1 ∧ FP.fcmp x y = some .gt) ∨ ((z = 0 ∨ z = -1) ∧ FP.fcmp x y ≠ some .gt) → Z p l e R s m args below meth c nL ce sl E Q G (pc + 1) vs (.int (iN z) :: st)) : Z p l e R s m args below meth c nL ce sl E Q G pc vs (.float y :: .float x :: st) := by
  intro H locs ls hP hS hL
  refine lv_fcmp cx.1 cx.2.1 hd ?_
  cases hf : FP.fcmp x y with
  | none => exact K (-1) (Or.inr ⟨Or.inr rfl, by rw [hf]; intro w; cases w⟩) H locs ls hP hS hL
  | some o =>
    cases o with
    | lt => exact K (-1) (Or.inr ⟨Or.inr rfl, by rw [hf]; intro w; cases w⟩) H locs ls hP hS hL
    | eq => exact K 0 (Or.inr ⟨Or.inl rfl, by rw [hf]; intro w; cases w⟩) H locs ls hP hS hL
    | gt => exact K 1 (Or.inl ⟨rfl, hf⟩) H locs ls hP hS hL
theorem z_lret (cx : Cx p s m args meth c own cc nL (some .long) E) {post : Int64 → Wd → Prop} {x : Int64} (hd : decode cc pc = .ok (.lreturn, 1)) (h : post x G) : Z p l e R s m args below meth c nL 0 0 E (Ql_ E below args s post) G pc vs [.long x] :=
  fun H locs ls hP hS hL => W.lret cx.1 cx.2.1 cx.2.2.2.2.2.1 (fun t ht hW => ⟨⟨x, G, rfl, h, by unfold Wv; rw [ht]; exact hP⟩, hS.F ht⟩) hS.2.2 hd cx.2.2.2.2.2.2.1
theorem z_sl (cx : Cx p s m args meth c own cc nL rt E) {y : MethodName} {cc' : ByteArray} {nL' fr' lo' n idx : Nat} {av rest : List Value} {post : Int64 → Wd → Prop}
    (C : Ctl E y cc' nL' fr' lo' av G post) (hst : st = av.reverse ++ rest) (hM : MS y cc' nL' (some .long) n) (hl : Cond.methodLink own idx y ∈ zWL) (hd : decode cc pc = .ok (.invokestatic idx, 3))
    (K : ∀ (z : Int64) (G' : Wd), post z G' → Z p l e R s m args below meth c nL ce sl E Q G' (pc + 3) vs (.long z :: rest))
    (hav : av.length = n := by rfl) (hroom : fr' + 1 ≤ R.frames ∧ 8 + (nL' + 11) + lo' ≤ R.locals := by exact ⟨Nat.le_of_ble_eq_true rfl, Nat.le_of_ble_eq_true rfl⟩) (hrest : (rest.map fun v => v.category).sum ≤ 8 := by exact Nat.le_of_ble_eq_true rfl) (hces : ce ≤ R.cells ∧ sl ≤ R.slots := by exact ⟨Nat.le_of_ble_eq_true rfl, Nat.le_of_ble_eq_true rfl⟩) : Z p l e R s m args below meth c nL ce sl E Q G pc vs st := by
  intro H locs ls hP hS hL
  subst hst
  refine va_calll (va_runS (As := av) (rest := rest) ⟨cx.1, cx.2.1, cx.2.2.1, cx.2.2.2.1, cx.2.2.2.2.1⟩ (C l) (va_cwS n cx.2.2.2.2.1 (hM.good hl) rfl rfl rfl hM.2.2.2 hroom) ⟨Ok_blind, fun U hU hW => ⟨rfl, Ok_at cx hP hS hU hW⟩⟩ rfl hav (hL.size) rfl ?_ hd ⟨by omega, by omega⟩) hS (fun _ _ h => h) (fun _ h => h) (fun r u t H1 locs1 ht hvm hp hB hz hk hS1 => ?_)
  · simpa using hrest
  · unfold Wv at hB
    rw [ht] at hB
    exact K r u hp H1 locs1 ls hB hS1 hL
theorem Ctl.mk {y : MethodName} {av : List Value} {post : Int64 → Wd → Prop} (vs : List (Option Value)) (hy : plainName y.cls = true) (hvs : vs = av.map some ++ List.replicate (nL - av.length) none) (hcat : ∀ v ∈ av, v.category = 1) (hlen : av.length ≤ nL)
    (body : ∀ (p : Program) (l : Launch) (e : Env) (s : State) (m : MethodId) (args : Array Value) (below : List Frame) (meth : Method) (c : Code), Cx p s m args meth c y.cls cc nL (some .long) E → Z p l e (zr fr lo) s m args below meth c nL 0 0 E (Ql_ E below args s post) G 0 vs []) : Ctl E y cc nL fr lo av G post := by
  intro l
  refine Met.ofW hy rfl ?_
  intro p e s m args below meth c s₁ B hml hv
  obtain ⟨rfl, hP, hKE⟩ := hv
  have h := body p l e s m av.toArray below meth c (Cx.of B hml hKE)
  rw [lg_entry_eq]
  exact h s.heap [] _ hP va_S.rf (Lo_entry hcat hvs hlen)
/-! ===== the script, out of our cells' reach ===== -/
def Sx_ (E : En) (s : State) (b L : Nat) (xs : Nat → Int32) : Prop := va_X b L xs s s.heap ∧ b < s.heap.size ∧ ¬ AE E b ∧ L ≤ 260
theorem z_slen {b L : Nat} {xs : Nat → Int32} (cx : Cx p s m args meth c own cc nL rt E) (hX : Sx_ E s b L xs) (hd : decode cc pc = .ok (.arraylength, 1)) (K : Z p l e R s m args below meth c nL ce sl E Q G (pc + 1) vs (.int (iN (L : Int)) :: st)) : Z p l e R s m args below meth c nL ce sl E Q G pc vs (.ref b :: st) :=
  fun H locs ls hP hS hL => va_slen cx.1 cx.2.1 hX.1 hX.2.1 hX.2.2.1 hS hd (by rw [← Int32.ofInt_eq_ofNat]; exact K H locs ls hP hS hL)
theorem z_sld {b L : Nat} {xs : Nat → Int32} (cx : Cx p s m args meth c own cc nL rt E) (hX : Sx_ E s b L xs) {x : Int} (h : 0 ≤ x ∧ x < L) (hd : decode cc pc = .ok (.iaload, 1)) (K : ∀ z : Int, Z p l e R s m args below meth c nL ce sl E Q G (pc + 1) vs (.int (iN z) :: st)) : Z p l e R s m args below meth c nL ce sl E Q G pc vs (.int (iN x) :: .ref b :: st) :=
  fun H locs ls hP hS hL => va_sld cx.1 cx.2.1 hX.1 hX.2.1 hX.2.2.1 hS (iN_in (by omega) (by have := hX.2.2.2; omega)) hd (by
    obtain ⟨z, hz⟩ := iN_all (xs (iN x).toNatClampNeg)
    rw [hz]
    exact K z H locs ls hP hS hL)
/-- what a method that is handed the script finds -/
def OkX (E : En) (G : Wd) (b L : Nat) (xs : Nat → Int32) (U : State) : Prop := Ok_ E G U ∧ Sx_ E U b L xs
theorem OkX_blind {av : List Value} {b L : Nat} {xs : Nat → Int32} : FrameBlind (va_Pc av (OkX E G b L xs)) := fun a U g mk h => ⟨h.1, ⟨h.2.1.1, h.2.1.2.moved (u := U) (U := U.calling g mk a) (Vm.Alike.refl U.vm)⟩, h.2.2.1.moved (u := U) (U := U.calling g mk a) (Vm.Alike.refl U.vm), h.2.2.2⟩
theorem OkX_at {b L : Nat} {xs : Nat → Int32} (cx : Cx p s m args meth c own cc nL rt E) (hX : Sx_ E s b L xs) {H : Heap} {locs : List Loc} (hP : va_P E.2.1 vwCl (ws_ E G) H) (hS : va_S (AE E) s.heap H locs) {U : State} (hU : U.heap = H) (hW : s.WarmedH U.vm) : OkX E G b L xs U :=
  ⟨Ok_at cx hP hS hU hW, by rw [hU]; exact (hX.1.moved hW.alike).kept (hS.2.1 b hX.2.1 hX.2.2.1), by rw [hU]; exact Nat.lt_of_lt_of_le hX.2.1 hS.1, hX.2.2⟩
end ZLO
