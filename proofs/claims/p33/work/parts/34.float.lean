/-! ===== the mean speed; the report ===== -/
theorem nf32 (x : UInt32) : vf_n32 x ↔ FP.Core.fIsNaN x = false := by
  have h0 : vf_n32 x ↔ x.toNat % 2147483648 ≤ 2139095040 := by
    unfold vf_n32
    rw [UInt32.le_iff_toNat_le, UInt32.toNat_and, show (0x7fffffff : UInt32).toNat = 2 ^ 31 - 1 by decide, show (0x7f800000 : UInt32).toNat = 2139095040 by decide, Nat.and_two_pow_sub_one_eq_mod]
  rw [h0, ← Bool.not_eq_true, FP.Core.isNaN_bits32]
  omega
theorem nf64 (x : UInt64) : vf_n64 x ↔ FP.Core.dIsNaN x = false := by
  have h0 : vf_n64 x ↔ x.toNat % 9223372036854775808 ≤ 9218868437227405312 := by
    unfold vf_n64
    rw [UInt64.le_iff_toNat_le, UInt64.toNat_and, show (0x7fffffffffffffff : UInt64).toNat = 2 ^ 63 - 1 by decide, show (0x7ff0000000000000 : UInt64).toNat = 9218868437227405312 by decide, Nat.and_two_pow_sub_one_eq_mod]
  rw [h0, ← Bool.not_eq_true, FP.Core.isNaN_bits]
  omega
def mulV (n : Int) : UInt32 := FP.fmul (FP.i2f (iN n)) 1103626240
def divV (n d : Int) : UInt32 := FP.fdiv (mulV n) (FP.i2f (iN d))
theorem mulV_ok (n : Int) : vf_n32 (mulV n) := (nf32 _).mpr (FP.Core.fmul_out (FP.Core.i2f_fin _) ((FP.Core.fin_bits32 _).mpr (by decide)))
theorem divV_ok (n : Int) {d : Int} (hd : 0 < d ∧ d < 2147483648) : vf_n32 (divV n d) := by
  refine (nf32 _).mpr (FP.Core.fdiv_out ((nf32 _).mp (mulV_ok n)) (FP.Core.i2f_fin _) (fun hz => ?_))
  rw [FP.Core.zero_bits232] at hz
  refine FP.Core.i2f_ne_zero (v := iN d) (fun w => ?_) hz
  rw [iN_zero, iN_eq (by omega)] at w
  omega
noncomputable def meanV (F : Fm) : UInt32 := if F.2.2.length = 0 then FP.fconst0 else divV (lnS F) (frS F)
theorem meanV_ok {F : Fm} (hF : FOk F) : vf_n32 (meanV F) ∧ (F.2.2.length = 0 ∨ (0 < frS F ∧ frS F ≤ 100000)) ∧ 0 ≤ lnS F ∧ lnS F ≤ 800 := by
  have hl := hF.2.2.1
  have b1 := sumN_b (f := fun i => (F.2.2.getD i dS).2.1 - (F.2.2.getD i dS).1) (n := F.2.2.length) (a := 1) (b := 5000) (fun i hi => by
    have h := hF.2.2.2.1 i hi
    have := h.1
    have := h.2.1
    have := h.2.2.1
    omega)
  have b2 := sumN_b (f := fun i => ((F.2.2.getD i dS).2.2.length : Int)) (n := F.2.2.length) (a := 0) (b := 40) (fun i hi => by
    have h := (hF.2.2.2.1 i hi).2.2.2
    have := h.1
    have := h.2.1
    omega)
  have e1 : frS F = sumN (fun i => (F.2.2.getD i dS).2.1 - (F.2.2.getD i dS).1) F.2.2.length := rfl
  have e2 : lnS F = sumN (fun i => ((F.2.2.getD i dS).2.2.length : Int)) F.2.2.length := rfl
  rw [← e1] at b1
  rw [← e2] at b2
  have hfr : F.2.2.length = 0 ∨ (0 < frS F ∧ frS F ≤ 100000) := by omega
  refine ⟨?_, hfr, by omega, by omega⟩
  unfold meanV
  split
  · exact (nf32 _).mpr (by decide +kernel)
  · exact divV_ok _ (by omega)
theorem rep_rel {G : Wd} {A : Ast} {a b c : Int} (h : CRel G A) (hA : AOk A) : CRel (gup (gup (gup G 19 0 0 a) 19 0 1 b) 19 0 2 c) (A.1, A.2.1, A.2.2.1, (a, b, c)) ∧ MFx G (gup (gup (gup G 19 0 0 a) 19 0 1 b) 19 0 2 c) := by
  have e : ∀ f x i, f ≠ 19 → gup (gup (gup G 19 0 0 a) 19 0 1 b) 19 0 2 c f x i = G f x i := fun f x i hf => by
    rw [gup_f _ _ _ _ _ _ _ hf, gup_f _ _ _ _ _ _ _ hf, gup_f _ _ _ _ _ _ _ hf]
  obtain ⟨h1, h2, ⟨la, h30, h31, h32, h33⟩, h4, h5, h6, h7⟩ := h
  refine ⟨⟨h1.same hA.1.2.2.1 (fun f a i hq => e f a i (by unfold inF at hq; omega)), fun q hq => (h2 q hq).same (fun i => e 4 q i (by omega)), ⟨la, h30, (e 10 0 0 (by omega)).trans h31, (e 9 0 0 (by omega)).trans h32, fun k hk => (h33 k hk).same (hA.2.2.1 k hk).2.2.1 (fun f a i hq => e f a i (by unfold inF at hq; omega))⟩, h4.of (fun f i hq => e f 0 i (by omega)), ?_, ?_, gup_s _ _ _ _ _⟩, fun f a i hq => e f a i (by omega)⟩
  · rw [gup_i _ _ _ _ _ (by decide), gup_i _ _ _ _ _ (by decide), gup_s]
  · rw [gup_i _ _ _ _ _ (by decide), gup_s]
section ZF
variable {p : Program} {l : Launch} {e : Env} {s : State} {m : MethodId} {args : Array Value} {below : List Frame} {meth : Method} {c : Code} {own : String} {cc : ByteArray} {nL fr lo ce sl : Nat} {rt : Option FieldType} {E : En}
variable {R : Room} {Q : State → Prop} {G : Wd} {pc : Nat} {vs : List (Option Value)} {st : List Value}
theorem z_i2f (cx : Cx p s m args meth c own cc nL rt E) {x : Int32} (hd : decode cc pc = .ok (.i2f, 1)) (K : Z p l e R s m args below meth c nL ce sl E Q G (pc + 1) vs (.float (FP.i2f x) :: st)) : Z p l e R s m args below meth c nL ce sl E Q G pc vs (.int x :: st) :=
  fun H locs ls hP hS hL => lv_i2f cx.1 cx.2.1 hd (K H locs ls hP hS hL)
theorem z_fmul (cx : Cx p s m args meth c own cc nL rt E) {n : Int} (hd : decode cc pc = .ok (.fmul, 1)) (K : Z p l e R s m args below meth c nL ce sl E Q G (pc + 1) vs (.float (mulV n) :: st)) : Z p l e R s m args below meth c nL ce sl E Q G pc vs (.float 1103626240 :: .float (FP.i2f (iN n)) :: st) :=
  fun H locs ls hP hS hL => lv_fmul cx.1 cx.2.1 hd (mulV_ok n) (K H locs ls hP hS hL)
theorem z_fdiv (cx : Cx p s m args meth c own cc nL rt E) {n d : Int} (h : 0 < d ∧ d < 2147483648) (hd : decode cc pc = .ok (.fdiv, 1)) (K : Z p l e R s m args below meth c nL ce sl E Q G (pc + 1) vs (.float (divV n d) :: st)) : Z p l e R s m args below meth c nL ce sl E Q G pc vs (.float (FP.i2f (iN d)) :: .float (mulV n) :: st) :=
  fun H locs ls hP hS hL => lv_fdiv cx.1 cx.2.1 hd (divV_ok n h) (K H locs ls hP hS hL)
theorem z_fconst0 (cx : Cx p s m args meth c own cc nL rt E) (hd : decode cc pc = .ok (.fconst 0, 1)) (K : Z p l e R s m args below meth c nL ce sl E Q G (pc + 1) vs (.float FP.fconst0 :: st)) : Z p l e R s m args below meth c nL ce sl E Q G pc vs st :=
  fun H locs ls hP hS hL => lv_fconst0 cx.1 cx.2.1 hd (K H locs ls hP hS hL)
theorem z_ldcf (cx : Cx p s m args meth c own cc nL rt E) {idx : Nat} {v : UInt32} (hl : Cond.constantFloat own idx v ∈ zWL) (hd : decode cc pc = .ok (.ldc idx, 2)) (K : Z p l e R s m args below meth c nL ce sl E Q G (pc + 2) vs (.float v :: st)) : Z p l e R s m args below meth c nL ce sl E Q G pc vs st :=
  fun H locs ls hP hS hL => lv_ldcf cx.1 cx.2.1 cx.2.2.2.1 (cx.hts hl) hd (K H locs ls hP hS hL)
end ZF
theorem faultS_b {sc : List Int} (h : ScOk sc) : -6 ≤ faultS sc ∧ faultS sc ≤ 80 := by
  have key : ∀ (f i : Nat), i ≤ sc.length → -6 ≤ fltF sc f i ∧ fltF sc f i ≤ 80 := by
    intro f
    induction f with
    | zero => intro i _; exact ⟨Int.le_refl _, (by decide : (-6 : Int) ≤ 80)⟩
    | succ f ih =>
      intro i hi
      have hok := ent_ok h hi
      have hl := h.1
      rw [fltF_s]
      split
      · omega
      · split
        · rename_i q
          exact ih _ q.1
        · split <;> omega
  exact key 81 0 (Nat.zero_le _)
theorem seatF_tx (F : Fm) (g : Int) (i : Nat) : ((seatF F g).2.2.getD i dS).2.2 = (F.2.2.getD i dS).2.2 := by
  have key : ∀ n, n ≤ F.2.2.length → ((seatN F g n).getD i dS).2.2 = (F.2.2.getD i dS).2.2 := by
    intro n
    induction n with
    | zero => intro _; rfl
    | succ n ih =>
      intro hn
      rw [seatN_s]
      by_cases q : i = n
      · subst q
        rw [seatL_eq (by rw [seatN_len]; omega), seat1_eq]
        exact ih (by omega)
      · rw [seatL_ne q]
        exact ih (by omega)
  exact key _ (Nat.le_refl _)
