/-! ===== the mean speed is above zero ===== -/
theorem fdiv_pos {a b : UInt32} {i j : Int} (ha : FP.Core.FInt i a) (hb : FP.Core.FInt j b) (hi : 0 < i) (hj : 0 < j) (hj2 : j ≤ 100000) : FP.Core.fcmp (FP.Core.fdiv a b) 0 = some .gt := by
  have za := FP.Core.FInt_zval ha
  have zb := FP.Core.FInt_zval hb
  have fa := FP.Core.val32_fits a
  have fb := FP.Core.val32_fits b
  have hone : (0 : Int) < (FP.Core.one32 : Int) := by
    have := FP.Core.one32_pos
    omega
  have pa : 0 < FP.Core.zval FP.Core.b32 (FP.Core.val32 a) := by
    rw [za]
    exact Int.mul_pos hi hone
  have pb : 0 < FP.Core.zval FP.Core.b32 (FP.Core.val32 b) := by
    rw [zb]
    exact Int.mul_pos hj hone
  have hq := FP.Core.val32_fdiv a b
  cases hda : FP.Core.val32 a with
  | nan => exact absurd hda (FP.Core.FInt_ne_nan ha)
  | inf s =>
    unfold FP.Core.FInt at ha
    rw [hda] at ha
    exact ha.elim
  | fin s c q =>
    cases hdb : FP.Core.val32 b with
    | nan => exact absurd hdb (FP.Core.FInt_ne_nan hb)
    | inf s =>
      unfold FP.Core.FInt at hb
      rw [hdb] at hb
      exact hb.elim
    | fin t d r =>
      rw [hda] at za fa pa hq
      rw [hdb] at zb fb pb hq
      have qa := FP.Core.signed_pos (s := s) (m := FP.Core.inUnits c q FP.Core.b32.qmin) pa
      have qb := FP.Core.signed_pos (s := t) (m := FP.Core.inUnits d r FP.Core.b32.qmin) pb
      have hs : s = false := by
        cases s with
        | false => rfl
        | true =>
          exfalso
          have e : FP.Core.signed true (FP.Core.inUnits c q FP.Core.b32.qmin) = -((FP.Core.inUnits c q FP.Core.b32.qmin : Nat) : Int) := rfl
          omega
      have ht : t = false := by
        cases t with
        | false => rfl
        | true =>
          exfalso
          have e : FP.Core.signed true (FP.Core.inUnits d r FP.Core.b32.qmin) = -((FP.Core.inUnits d r FP.Core.b32.qmin : Nat) : Int) := rfl
          omega
      subst hs
      subst ht
      have ma : ((FP.Core.inUnits c q FP.Core.b32.qmin : Nat) : Int) = i * (FP.Core.one32 : Int) := qa.1.symm.trans za
      have mb : ((FP.Core.inUnits d r FP.Core.b32.qmin : Nat) : Int) = j * (FP.Core.one32 : Int) := qb.1.symm.trans zb
      have hd0 : d ≠ 0 := by
        rintro rfl
        have e : FP.Core.inUnits 0 r FP.Core.b32.qmin = 0 := Nat.zero_mul _
        omega
      have hD : FP.Core.val32 (FP.Core.fdiv a b) = FP.Core.roundRatio FP.Core.b32 false c d (q - r) := by
        rw [hq]
        simp only [FP.Core.quotient, if_neg hd0]
        rfl
      have hqm := FP.Core.qmin_b32
      have fa1 := fa.2.1
      have fb1 := fb.2.1
      have hN : FP.Core.one32 = 2 ^ (-FP.Core.b32.qmin).toNat := FP.Core.pow_qmin32.symm
      have hbig : 100000 ≤ FP.Core.one32 := by
        unfold FP.Core.one32
        exact Nat.le_of_ble_eq_true rfl
      have e1 : FP.Core.inUnits c (q - r) (2 * FP.Core.b32.qmin - r) = FP.Core.inUnits c q FP.Core.b32.qmin * FP.Core.one32 := by
        rw [hN]
        show c * _ = c * _ * _
        rw [Nat.mul_assoc, ← Nat.pow_add]
        congr 2
        omega
      have e2 : 2 ^ (FP.Core.b32.qmin - (2 * FP.Core.b32.qmin - r)).toNat * d = FP.Core.inUnits d r FP.Core.b32.qmin := by
        show _ = d * _
        rw [Nat.mul_comm]
        congr 2
        omega
      have e3 : FP.Core.zmag FP.Core.b32 (.fin false 1 FP.Core.b32.qmin) = 1 := by decide +kernel
      have hle : FP.Core.inUnits d r FP.Core.b32.qmin ≤ FP.Core.inUnits c q FP.Core.b32.qmin * FP.Core.one32 := by
        generalize FP.Core.one32 = N at *
        generalize FP.Core.inUnits d r FP.Core.b32.qmin = x at *
        generalize FP.Core.inUnits c q FP.Core.b32.qmin = y at *
        have g1 : x ≤ 100000 * N := by
          have : j * (N : Int) ≤ 100000 * (N : Int) := Int.mul_le_mul_of_nonneg_right hj2 (by omega)
          omega
        have g2 : N ≤ y := by
          have : 1 * (N : Int) ≤ i * (N : Int) := Int.mul_le_mul_of_nonneg_right (by omega) (by omega)
          omega
        exact Nat.le_trans g1 (Nat.mul_le_mul (Nat.le_trans hbig g2) (Nat.le_refl _))
      have key := FP.Core.zmag_roundRatio_ge FP.Core.good_b32 (s := false) (A := c) (B := d) (e := q - r) (e0 := 2 * FP.Core.b32.qmin - r) (V := .fin false 1 FP.Core.b32.qmin) (Nat.pos_of_ne_zero hd0) ⟨by decide, Int.le_refl _, by decide, Or.inl rfl⟩ (by omega) (by omega) (by
        rw [e3, Nat.one_mul, e2, e1]
        exact hle)
      rw [e3, ← hD] at key
      have hsg : FP.Core.sgn (FP.Core.val32 (FP.Core.fdiv a b)) = false := by
        rw [hD]
        rcases FP.Core.roundRatio_cases FP.Core.b32 false c d (q - r) with ⟨c2, q2, w⟩ | w
        · rw [w]
          rfl
        · rw [w]
          rfl
      refine FP.Core.fcmp_gt.mpr ⟨?_, ?_, ?_⟩
      · rw [hD]
        exact FP.Core.roundRatio_ne_nan _ _ _ _ _
      · rw [FP.Core.val32_zero]
        intro w
        cases w
      · rw [FP.Core.zval32_zero]
        unfold FP.Core.zval
        rw [hsg]
        show 0 < ((FP.Core.zmag FP.Core.b32 (FP.Core.val32 (FP.Core.fdiv a b)) : Nat) : Int)
        omega
theorem f25 : FP.Core.FInt 25 1103626240 := by
  have e : FP.Core.val32 1103626240 = .fin false 13107200 (-19) := by decide +kernel
  unfold FP.Core.FInt
  rw [e]
  show FP.Core.signed false (13107200 * 2 ^ (-19 : Int).toNat) = 25 * ((2 ^ (-(-19 : Int)).toNat : Nat) : Int)
  decide +kernel
theorem fint_iN {n : Int} (h : 0 ≤ n ∧ n ≤ 100000) : FP.Core.FInt n (FP.Core.i2f (iN n)) := by
  have e := iN_toInt (z := n) (by omega)
  have q := FP.Core.i2f_int (a := iN n) (by rw [e]; omega)
  rwa [e] at q
theorem mean_gt {A : Ast} (hA : AOk A) (h : 0 < A.1.2.2.length) : FP.fcmp (meanV A.1) FP.fconst0 = some .gt := by
  have hf := frS_b hA.1
  have b2 := sumN_b (f := fun i => ((A.1.2.2.getD i dS).2.2.length : Int)) (n := A.1.2.2.length) (a := 1) (b := 40) (fun i hi => by
    have h := (hA.1.2.2.2.1 i hi).2.2.2
    have := h.1
    have := h.2.1
    omega)
  have e2 : lnS A.1 = sumN (fun i => ((A.1.2.2.getD i dS).2.2.length : Int)) A.1.2.2.length := rfl
  rw [← e2] at b2
  have h20 := hA.1.2.2.1
  have e : meanV A.1 = divV (lnS A.1) (frS A.1) := by
    unfold meanV
    rw [if_neg (by omega)]
  rw [e]
  exact fdiv_pos (FP.Core.fmul_int (fint_iN (n := lnS A.1) (by omega)) f25 (by omega)) (fint_iN (n := frS A.1) (by omega)) (by omega) (by omega) (by omega)
theorem mean_0 {A : Ast} (h : A.1.2.2.length = 0) : FP.fcmp (meanV A.1) FP.fconst0 ≠ some .gt := by
  have e : meanV A.1 = FP.fconst0 := by
    unfold meanV
    rw [if_pos h]
  rw [e]
  decide +kernel
