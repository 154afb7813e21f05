/-! ===== answers of the questions, in the words of the state ===== -/
def sb (A : Ast) (x : Int) : Sb := A.1.2.2.getD x.toNat dS
theorem sb_ok {A : Ast} (hA : AOk A) {x : Int} (h : 0 ≤ x ∧ x < (A.1.2.2.length : Int)) : SbOk (sb A x) := hA.1.2.2.2.1 x.toNat (by omega)
theorem sb_nat (A : Ast) (i : Nat) : sb A (i : Int) = A.1.2.2.getD i dS := rfl
theorem sb_next {A : Ast} (hA : AOk A) {x : Int} (h : 0 ≤ x ∧ x + 1 < (A.1.2.2.length : Int)) : (sb A x).2.1 ≤ (sb A (x + 1)).1 := by
  have q := hA.1.2.2.2.2 x.toNat (by omega)
  unfold sb
  rw [show (x + 1).toNat = x.toNat + 1 by omega]
  exact q
theorem rs_no {A : Ast} {x w : Int} (h : ¬ (0 ≤ x ∧ x < (A.1.2.2.length : Int))) : r_subtitle A x w = -1 := by
  unfold r_subtitle
  rw [if_neg h]
theorem rs_0 {A : Ast} {x : Int} (h : 0 ≤ x ∧ x < (A.1.2.2.length : Int)) : r_subtitle A x 0 = (sb A x).1 := by
  unfold r_subtitle
  rw [if_pos h, if_pos rfl]
  rfl
theorem rs_1 {A : Ast} {x : Int} (h : 0 ≤ x ∧ x < (A.1.2.2.length : Int)) : r_subtitle A x 1 = (sb A x).2.1 := by
  unfold r_subtitle
  rw [if_pos h, if_neg (by decide), if_pos rfl]
  rfl
theorem rs_2 {A : Ast} {x : Int} (h : 0 ≤ x ∧ x < (A.1.2.2.length : Int)) : r_subtitle A x 2 = ((sb A x).2.2.length : Int) := by
  unfold r_subtitle
  rw [if_pos h, if_neg (by decide), if_neg (by decide), if_pos rfl]
  rfl
theorem rs_3 {A : Ast} {x : Int} (h : 0 ≤ x ∧ x < (A.1.2.2.length : Int)) : r_subtitle A x 3 = need A.1 (sb A x) := by
  unfold r_subtitle
  rw [if_pos h, if_neg (by decide), if_neg (by decide), if_neg (by decide), if_pos rfl]
  rfl
theorem rs_4 {A : Ast} {x : Int} (h : 0 ≤ x ∧ x < (A.1.2.2.length : Int)) : r_subtitle A x 4 = flt A.1 x.toNat := by
  unfold r_subtitle
  rw [if_pos h, if_neg (by decide), if_neg (by decide), if_neg (by decide), if_neg (by decide), if_pos rfl]
theorem rs_5 {A : Ast} {x : Int} (h : 0 ≤ x ∧ x < (A.1.2.2.length : Int)) : r_subtitle A x 5 = ((lns (sb A x).2.2 (A.1.1 4)).length : Int) := by
  unfold r_subtitle
  rw [if_pos h, if_neg (by decide), if_neg (by decide), if_neg (by decide), if_neg (by decide), if_neg (by decide), if_pos rfl]
  rfl
theorem rs_6 {A : Ast} {x : Int} (h : 0 ≤ x ∧ x < (A.1.2.2.length : Int)) : r_subtitle A x 6 = bBl (sb A x).2.2 := by
  unfold r_subtitle
  rw [if_pos h, if_neg (by decide), if_neg (by decide), if_neg (by decide), if_neg (by decide), if_neg (by decide), if_neg (by decide), if_pos rfl]
  rfl
theorem rc_in {A : Ast} {x j : Int} (h : 0 ≤ x ∧ x < (A.1.2.2.length : Int)) (hj : 0 ≤ j ∧ j < ((sb A x).2.2.length : Int)) : r_character A x j = (sb A x).2.2.getD j.toNat 0 := by
  unfold r_character
  rw [if_pos h, if_neg (by omega), if_pos (c := j < ((A.1.2.2.getD x.toNat dS).2.2.length : Int)) hj.2]
  rfl
theorem rc_end {A : Ast} {x j : Int} (h : 0 ≤ x ∧ x < (A.1.2.2.length : Int)) (hj : j = ((sb A x).2.2.length : Int)) : r_character A x j = -6 := by
  unfold r_character
  rw [if_pos h, if_neg (by omega), if_neg]
  intro w
  have w2 : j < ((sb A x).2.2.length : Int) := w
  omega
theorem rc_neg {A : Ast} {x j : Int} (h : 0 ≤ x ∧ x < (A.1.2.2.length : Int)) (hj : j < 0) : r_character A x j = -2 := by
  unfold r_character
  rw [if_pos h, if_pos hj]
theorem rl_in {A : Ast} {x j : Int} (h : 0 ≤ x ∧ x < (A.1.2.2.length : Int)) (hj : 0 ≤ j ∧ j < ((lns (sb A x).2.2 (A.1.1 4)).length : Int)) : r_line A x j = (lns (sb A x).2.2 (A.1.1 4)).getD j.toNat 0 := by
  unfold r_line
  rw [if_pos h, if_neg (by omega), if_pos (c := j < ((lns (A.1.2.2.getD x.toNat dS).2.2 (A.1.1 4)).length : Int)) hj.2]
  rfl
theorem rk_in {A : Ast} {i : Int} (h : 0 ≤ i ∧ i < (A.1.2.1.length : Int)) : r_cutAt A i = A.1.2.1.getD i.toNat 0 := by
  unfold r_cutAt
  rw [if_neg (by omega), if_pos h.2]
theorem rk_end {A : Ast} {i : Int} (h : i = (A.1.2.1.length : Int)) : r_cutAt A i = -6 := by
  unfold r_cutAt
  rw [if_neg (by omega), if_neg (by omega)]
theorem rv_in {A : Ast} {k : Int} (j : Nat) (hj : k = (j : Int)) (h : j < 6) : r_setting A k = A.1.1 j := by
  unfold r_setting
  rw [if_pos (by omega), hj, Int.toNat_natCast]
theorem rt_in {A : Ast} (hA : AOk A) {f x : Int} (h : 0 ≤ x ∧ x < (A.1.2.2.length : Int)) (hf : (sb A x).1 ≤ f ∧ f < (sb A x).2.1) : r_at A f = x := by
  have h5 := (sb_ok hA h).2.2.1
  have h0 := (sb_ok hA h).1
  unfold r_at
  rw [if_pos (by omega)]
  exact atF_of hA.1 (Or.inr ⟨x.toNat, by omega, by omega, hf⟩)
theorem rt_any {A : Ast} (hA : AOk A) {f : Int} (hf : 0 ≤ f ∧ f ≤ 4999) : r_at A f = -6 ∨ (0 ≤ r_at A f ∧ r_at A f < (A.1.2.2.length : Int) ∧ (sb A (r_at A f)).1 ≤ f ∧ f < (sb A (r_at A f)).2.1) := by
  by_cases h : ∃ i, i < A.1.2.2.length ∧ (A.1.2.2.getD i dS).1 ≤ f ∧ f < (A.1.2.2.getD i dS).2.1
  · obtain ⟨i, hi, h1⟩ := h
    have e : r_at A f = (i : Int) := by
      unfold r_at
      rw [if_pos hf]
      exact atF_of hA.1 (Or.inr ⟨i, rfl, hi, h1⟩)
    rw [e]
    exact Or.inr ⟨by omega, by omega, h1⟩
  · refine Or.inl ?_
    unfold r_at
    rw [if_pos hf]
    exact atF_of hA.1 (Or.inl ⟨rfl, fun i hi w => h ⟨i, hi, w⟩⟩)
theorem rt_bad {A : Ast} {f : Int} (hf : ¬ (0 ≤ f ∧ f ≤ 4999)) : r_at A f = -2 := by
  unfold r_at
  rw [if_neg hf]
/-! ===== bits ===== -/
theorem bit_01 (p : Prop) : bit p 1 = 0 ∨ bit p 1 = 1 := by
  by_cases h : p
  · exact Or.inr (bit_t h)
  · exact Or.inl (bit_f h)
theorem bit_ne {p : Prop} {v : Int} (h : ¬ bit p v = 0) : p := Classical.byContradiction (fun w => h (bit_f w))
theorem bit_z {p : Prop} {v : Int} (hv : v ≠ 0) (h : bit p v = 0) : ¬ p := fun w => hv (by rw [bit_t w] at h; exact h)
theorem bit_iff {p q : Prop} {v : Int} (h : p ↔ q) : bit p v = bit q v := by
  by_cases w : p
  · rw [bit_t w, bit_t (h.mp w)]
  · rw [bit_f w, bit_f (fun g => w (h.mpr g))]
def wideP (t : List Int) (w : Int) (k : Nat) : Prop := 2 < (lns t w).length ∨ ∃ i, i < k ∧ w < (lns t w).getD i 0
theorem wide_iff (t : List Int) (w : Int) : wideP t w (lns t w).length ↔ wide w t := by
  unfold wide wideP
  constructor
  · rintro (h | ⟨i, hi, h⟩) ⟨w1, w2⟩
    · omega
    · have := w2 i hi
      omega
  · intro h
    by_cases h2 : 2 < (lns t w).length
    · exact Or.inl h2
    · refine Or.inr (Classical.byContradiction (fun hn => h ⟨by omega, fun i hi => ?_⟩))
      exact Int.not_lt.mp (fun g => hn ⟨i, hi, g⟩)
theorem wide_0 {t : List Int} {w x : Int} (h : x = if 2 < (lns t w).length then 1 else 0) : x = bit (wideP t w 0) 1 := by
  by_cases g : 2 < (lns t w).length
  · rw [bit_t (p := wideP t w 0) (Or.inl g), h, if_pos g]
  · rw [bit_f (p := wideP t w 0) (by
      rintro (q | ⟨i, hi, -⟩)
      · exact g q
      · omega), h, if_neg g]
theorem wide_1 {t : List Int} {w x : Int} {k : Nat} (hw : x = bit (wideP t w k) 1) (h : ¬ x = 0) : 1 = bit (wideP t w (k + 1)) 1 := by
  have q := bit_ne (hw ▸ h)
  refine (bit_t ?_).symm
  rcases q with q | ⟨i, hi, q⟩
  · exact Or.inl q
  · exact Or.inr ⟨i, by omega, q⟩
theorem wide_2 {t : List Int} {w : Int} {k : Nat} (h : w < (lns t w).getD k 0) : 1 = bit (wideP t w (k + 1)) 1 := (bit_t (Or.inr ⟨k, by omega, h⟩)).symm
theorem wide_3 {t : List Int} {w x : Int} {k : Nat} (hw : x = bit (wideP t w k) 1) (h : x = 0) (h2 : (lns t w).getD k 0 ≤ w) : 0 = bit (wideP t w (k + 1)) 1 := by
  have q := bit_z (by decide) (hw.symm.trans h)
  refine (bit_f ?_).symm
  rintro (g | ⟨i, hi, g⟩)
  · exact q (Or.inl g)
  · rcases Nat.lt_succ_iff_lt_or_eq.mp hi with hi | rfl
    · exact q (Or.inr ⟨i, hi, g⟩)
    · omega
def nearP (F : Fm) (S : Sb) (k : Nat) : Prop := ∃ i, i < k ∧ F.2.1.getD i 0 - S.1 > 0 ∧ S.2.1 - F.2.1.getD i 0 > 0 ∧ (F.2.1.getD i 0 - S.1 < F.1 5 ∨ S.2.1 - F.2.1.getD i 0 < F.1 5)
theorem near_0 (F : Fm) (S : Sb) : 0 = bit (nearP F S 0) 1 := (bit_f (by rintro ⟨i, hi, -⟩; omega)).symm
theorem near_1 {F : Fm} {S : Sb} {k : Nat} {x : Int} (hw : x = bit (nearP F S k) 1) (h : ¬ x = 0) : 1 = bit (nearP F S (k + 1)) 1 := by
  obtain ⟨i, hi, q⟩ := bit_ne (hw ▸ h)
  exact (bit_t ⟨i, by omega, q⟩).symm
theorem near_2 {F : Fm} {S : Sb} {k : Nat} (h : F.2.1.getD k 0 - S.1 > 0 ∧ S.2.1 - F.2.1.getD k 0 > 0 ∧ (F.2.1.getD k 0 - S.1 < F.1 5 ∨ S.2.1 - F.2.1.getD k 0 < F.1 5)) : 1 = bit (nearP F S (k + 1)) 1 := (bit_t ⟨k, by omega, h⟩).symm
theorem near_3 {F : Fm} {S : Sb} {k : Nat} {x : Int} (hw : x = bit (nearP F S k) 1) (h : x = 0) (h2 : ¬ (F.2.1.getD k 0 - S.1 > 0 ∧ S.2.1 - F.2.1.getD k 0 > 0 ∧ (F.2.1.getD k 0 - S.1 < F.1 5 ∨ S.2.1 - F.2.1.getD k 0 < F.1 5))) : 0 = bit (nearP F S (k + 1)) 1 := by
  have q := bit_z (by decide) (hw.symm.trans h)
  refine (bit_f ?_).symm
  rintro ⟨i, hi, g⟩
  rcases Nat.lt_succ_iff_lt_or_eq.mp hi with hi | rfl
  · exact q ⟨i, hi, g⟩
  · exact h2 g
theorem bit_mul (p : Prop) (v : Int) (x : Int) (hx : x = bit p 1) : (¬ x = 0 → v = bit p v) ∧ (x = 0 → 0 = bit p v) := by
  subst hx
  exact ⟨fun h => (bit_t (bit_ne h)).symm, fun h => (bit_f (bit_z (by decide) h)).symm⟩
/-! ===== lines ===== -/
def LnI (t : List Int) (w : Int) (k a : Nat) : Prop := LnAt t w k a ∧ (a = t.length + 1 ∨ a < t.length)
theorem LnI_0 {t : List Int} (w : Int) (ht : TxOk t) : LnI t w 0 0 := ⟨LnAt_0 t w, Or.inr ht.1⟩
theorem LnI.lt {t : List Int} {w : Int} {k a : Nat} (h : LnI t w k a) (hk : k < (lns t w).length) : a < t.length := by
  rcases h.2 with q | q
  · have := h.1.len (by omega)
    omega
  · exact q
theorem LnI.end_ {t : List Int} {w : Int} {k a : Nat} (ht : TxOk t) (h : LnI t w k a) (hk : (lns t w).length ≤ k) : a = t.length + 1 := by
  rcases h.2 with q | q
  · exact q
  · have := (h.1.lt ht.2.1 q).1
    omega
theorem LnI.next {t : List Int} {w : Int} {k a : Nat} (ht : TxOk t) (h : LnI t w k a) (hk : k < (lns t w).length) : 1 ≤ (lns t w).getD k 0 ∧ (lns t w).getD k 0 ≤ 40 ∧ (a : Int) + (lns t w).getD k 0 ≤ t.length ∧ ((a : Int) + (lns t w).getD k 0 = t.length ∨ t.getD ((a : Int) + (lns t w).getD k 0).toNat 0 = 32) ∧ LnI t w (k + 1) ((a : Int) + (lns t w).getD k 0 + 1).toNat := by
  have ha := h.lt hk
  have hl := (h.1.lt ht.2.1 ha).2
  have hb := lend_b w ha
  have hLE := lend_LE w ha
  have h40 := ht.2.1
  rw [hl]
  have e1 : ((a : Int) + ((lend t w a : Int) - a)).toNat = lend t w a := by omega
  have e2 : ((a : Int) + ((lend t w a : Int) - a) + 1).toNat = lend t w a + 1 := by omega
  rw [e1, e2]
  refine ⟨by omega, by omega, by omega, ?_, h.1.next ht.2.1 ha, ?_⟩
  · rcases hLE.2.1 with q | q
    · exact Or.inl (by omega)
    · exact Or.inr q.2
  · rcases hLE.2.1 with q | q
    · exact Or.inl (by omega)
    · refine Or.inr ?_
      rcases Nat.lt_or_ge (lend t w a + 1) t.length with g | g
      · exact g
      · exfalso
        have := ht.2.2.2.2.1
        rw [show t.length - 1 = lend t w a by omega] at this
        exact this q.2
/-! ===== needs, masks, sums ===== -/
theorem need_is {F : Fm} {S : Sb} (hv : VlOk F.1) : F.1 2 ≤ need F S ∧ 25 * (S.2.2.length : Int) ≤ need F S * F.1 0 ∧ (need F S = F.1 2 ∨ (need F S - 1) * F.1 0 < 25 * (S.2.2.length : Int)) := by
  have h0 := hv.1
  obtain ⟨d, hd⟩ : ∃ d : Int, d = F.1 0 := ⟨_, rfl⟩
  obtain ⟨q, hq⟩ : ∃ q : Int, q = (25 * (S.2.2.length : Int) + F.1 0 - 1) / F.1 0 := ⟨_, rfl⟩
  have hn : need F S = max (F.1 2) q := by rw [hq]; rfl
  have e1 := Int.mul_ediv_add_emod (25 * (S.2.2.length : Int) + F.1 0 - 1) (F.1 0)
  have e2 := Int.emod_nonneg (25 * (S.2.2.length : Int) + F.1 0 - 1) (b := F.1 0) (by omega)
  have e3 := Int.emod_lt_of_pos (25 * (S.2.2.length : Int) + F.1 0 - 1) (b := F.1 0) (by omega)
  rw [← hq] at e1
  rw [← hd] at e1 e2 e3 h0 ⊢
  have e4 : d * q = q * d := Int.mul_comm _ _
  have e5 : (q - 1) * d = q * d - d := by rw [Int.sub_mul, Int.one_mul]
  have hmono : q * d ≤ need F S * d := Int.mul_le_mul_of_nonneg_right (by rw [hn]; omega) (by omega)
  refine ⟨by rw [hn]; omega, by omega, ?_⟩
  rcases Int.le_total q (F.1 2) with w | w
  · exact Or.inl (by rw [hn]; omega)
  · refine Or.inr ?_
    have e6 : need F S = q := by rw [hn]; omega
    rw [e6, e5]
    omega
theorem fl_tab : ∀ v : Nat, v < 64 → (v &&& 63 ≠ 0 ↔ 0 < v) ∧ (v &&& 1 = 0 ∨ v &&& 1 = 1) ∧ (v &&& 8 ≠ 0 ↔ v / 8 &&& 1 = 1) ∧ (v / 8 &&& 1 = 0 ∨ v / 8 &&& 1 = 1) := by decide +kernel
theorem fl_shr : ∀ v : Nat, v < 64 → iN (v : Int) >>> (iN 3 &&& 31) = iN ((v / 8 : Nat) : Int) := by decide +kernel
theorem fl_any (F : Fm) (i : Nat) : (0 < flt F i → cnt (fun i => flH 63 (flt F i)) i + 1 = cnt (fun i => flH 63 (flt F i)) (i + 1)) ∧ (flt F i ≤ 0 → cnt (fun i => flH 63 (flt F i)) i + 0 = cnt (fun i => flH 63 (flt F i)) (i + 1)) := by
  have hb := flt_b F i
  have ht := (fl_tab (flt F i).toNat (by omega)).1
  constructor
  · intro h
    rw [cnt_t (p := fun i => flH 63 (flt F i))]
    exact ht.mpr (by omega)
  · intro h
    rw [cnt_f (p := fun i => flH 63 (flt F i)), Int.add_zero]
    exact fun w => by have := ht.mp w; omega
theorem fl_one (F : Fm) (i : Nat) : cnt (fun i => flH 1 (flt F i)) i + (((flt F i).toNat &&& (1 : Int).toNat : Nat) : Int) = cnt (fun i => flH 1 (flt F i)) (i + 1) := by
  have hb := flt_b F i
  have ht := (fl_tab (flt F i).toNat (by omega)).2.1
  have e : (1 : Int).toNat = 1 := rfl
  rcases ht with h | h
  · rw [cnt_f (p := fun i => flH 1 (flt F i)) (fun w => w h), e, h]
    exact Int.add_zero _
  · rw [cnt_t (p := fun i => flH 1 (flt F i)) (show (flt F i).toNat &&& 1 ≠ 0 by rw [h]; decide), e, h]
    rfl
theorem fl_eight (F : Fm) (i : Nat) : cnt (fun i => flH 8 (flt F i)) i + (((((flt F i).toNat / 8 : Nat) : Int).toNat &&& (1 : Int).toNat : Nat) : Int) = cnt (fun i => flH 8 (flt F i)) (i + 1) := by
  have hb := flt_b F i
  have ht := (fl_tab (flt F i).toNat (by omega)).2.2
  rw [Int.toNat_natCast, show (1 : Int).toNat = 1 from rfl]
  rcases ht.2 with h | h
  · rw [cnt_f (p := fun i => flH 8 (flt F i)), h]
    · exact Int.add_zero _
    · intro w
      have := ht.1.mp w
      omega
  · rw [cnt_t (p := fun i => flH 8 (flt F i)) (ht.1.mpr h), h]
    rfl
theorem frS_b {F : Fm} (hF : FOk F) : (F.2.2.length : Int) ≤ frS F ∧ frS F ≤ 5000 := by
  have key : ∀ n, n ≤ F.2.2.length → (n : Int) ≤ sumN (fun i => (F.2.2.getD i dS).2.1 - (F.2.2.getD i dS).1) n ∧ (n = 0 ∨ sumN (fun i => (F.2.2.getD i dS).2.1 - (F.2.2.getD i dS).1) n ≤ (F.2.2.getD (n - 1) dS).2.1) ∧ (n = 0 → sumN (fun i => (F.2.2.getD i dS).2.1 - (F.2.2.getD i dS).1) n = 0) := by
    intro n
    induction n with
    | zero => intro _; exact ⟨Int.le_refl _, Or.inl rfl, fun _ => rfl⟩
    | succ n ih =>
      intro hn
      obtain ⟨h1, h2, h3⟩ := ih (by omega)
      have hS := hF.2.2.2.1 n (by omega)
      have a1 := hS.1
      have a2 := hS.2.1
      have e : sumN (fun i => (F.2.2.getD i dS).2.1 - (F.2.2.getD i dS).1) (n + 1) = sumN (fun i => (F.2.2.getD i dS).2.1 - (F.2.2.getD i dS).1) n + ((F.2.2.getD n dS).2.1 - (F.2.2.getD n dS).1) := rfl
      rw [e]
      refine ⟨by omega, Or.inr ?_, fun w => by omega⟩
      rw [show n + 1 - 1 = n by omega]
      rcases h2 with h2 | h2
      · have := h3 h2
        omega
      · by_cases hn0 : n = 0
        · have := h3 hn0
          omega
        · have := hF.2.2.mono (i := n - 1) (j := n) (by omega) (by omega)
          omega
  obtain ⟨h1, h2, h3⟩ := key F.2.2.length (Nat.le_refl _)
  have e : frS F = sumN (fun i => (F.2.2.getD i dS).2.1 - (F.2.2.getD i dS).1) F.2.2.length := rfl
  rw [e]
  refine ⟨h1, ?_⟩
  by_cases h0 : F.2.2.length = 0
  · rw [h3 h0]
    decide
  · rcases h2 with h2 | h2
    · exact absurd h2 h0
    · have := (hF.2.2.2.1 (F.2.2.length - 1) (by omega)).2.2.1
      omega
theorem fr_step (A : Ast) (i : Nat) : sumN (fun i => (A.1.2.2.getD i dS).2.1 - (A.1.2.2.getD i dS).1) i + ((sb A (i : Int)).2.1 - (sb A (i : Int)).1) = sumN (fun i => (A.1.2.2.getD i dS).2.1 - (A.1.2.2.getD i dS).1) (i + 1) := rfl
/-! ===== paces, seating tried, gaps ===== -/
theorem cnt_le {p q : Nat → Prop} {n : Nat} (h : ∀ i, i < n → p i → q i) : cnt p n ≤ cnt q n := by
  induction n with
  | zero => exact Int.le_refl _
  | succ n ih =>
    have hn := ih (fun i hi => h i (by omega))
    by_cases hp : p n
    · rw [cnt_t hp, cnt_t (h n (by omega) hp)]
      omega
    · by_cases hq : q n
      · rw [cnt_f hp, cnt_t hq]
        omega
      · rw [cnt_f hp, cnt_f hq]
        exact hn
theorem unr_mono {F : Fm} (hF : FOk F) {p q : Int} (h : p ≤ q) : unr F q ≤ unr F p := by
  refine cnt_le (fun i hi w => ?_)
  have hS := hF.2.2.2.1 i hi
  have h1 := hS.2.1
  unfold fast at w ⊢
  have e : p * ((F.2.2.getD i dS).2.1 - (F.2.2.getD i dS).1) ≤ q * ((F.2.2.getD i dS).2.1 - (F.2.2.getD i dS).1) := Int.mul_le_mul_of_nonneg_right h (by omega)
  omega
theorem lp_is {F : Fm} (hF : FOk F) : (lpF F = -6 ∧ ∀ p : Int, 1 ≤ p → p ≤ 60 → unr F p ≠ 0) ∨ (1 ≤ lpF F ∧ lpF F ≤ 60 ∧ (∀ p : Int, lpF F ≤ p → unr F p = 0) ∧ ∀ p : Int, 1 ≤ p → p < lpF F → unr F p ≠ 0) := by
  by_cases h : ∃ k : Nat, 1 ≤ k ∧ k ≤ 60 ∧ unr F (k : Int) = 0
  · obtain ⟨k, ⟨h1, h2, h3⟩, h4⟩ := pk_least (fun k => 1 ≤ k ∧ k ≤ 60 ∧ unr F (k : Int) = 0) h
    have e : lpF F = (k : Int) := lpF_of (Or.inr ⟨by omega, by omega, h3, fun p p1 p2 w => h4 p.toNat (by omega) ⟨by omega, by omega, by rw [show ((p.toNat : Nat) : Int) = p by omega]; exact w⟩⟩)
    rw [e]
    refine Or.inr ⟨by omega, by omega, fun p hp => ?_, fun p p1 p2 w => h4 p.toNat (by omega) ⟨by omega, by omega, by rw [show ((p.toNat : Nat) : Int) = p by omega]; exact w⟩⟩
    have a := unr_mono hF hp
    have b := unr_b F p
    omega
  · have hn : ∀ p : Int, 1 ≤ p → p ≤ 60 → unr F p ≠ 0 := fun p p1 p2 w => h ⟨p.toNat, by omega, by omega, by rw [show ((p.toNat : Nat) : Int) = p by omega]; exact w⟩
    exact Or.inl ⟨lpF_of (Or.inl ⟨rfl, hn⟩), hn⟩
theorem bg_b (F : Fm) : ∀ g, 0 ≤ (bgS F (g + 1)).1 ∧ (bgS F (g + 1)).1 ≤ (g : Int) := by
  intro g
  induction g with
  | zero =>
    show 0 ≤ (@ite (Int × Int) _ (Classical.propDecidable _) _ _).1 ∧ (@ite (Int × Int) _ (Classical.propDecidable _) _ _).1 ≤ _
    split
    · exact ⟨Int.le_refl _, Int.le_refl _⟩
    · have e0 : 0 ≤ (bgS F 0).1 ∧ (bgS F 0).1 ≤ 0 := by
        first | exact ⟨by decide, by decide⟩ | (unfold bgS; decide)
      exact e0
  | succ g ih =>
    show 0 ≤ (@ite (Int × Int) _ (Classical.propDecidable _) _ _).1 ∧ (@ite (Int × Int) _ (Classical.propDecidable _) _ _).1 ≤ _
    split
    · dsimp only
      omega
    · have q := ih
      exact ⟨q.1, by have := q.2; omega⟩
theorem ifs_bad {A : Ast} {w : Int} (h : ¬ (0 ≤ w ∧ w ≤ 2)) : r_ifSeated A w = -2 := by
  unfold r_ifSeated
  rw [if_neg h]
theorem ifs_0 (A : Ast) : r_ifSeated A 0 = seatC A.1 (A.1.1 1) := by
  unfold r_ifSeated
  rw [if_pos (by decide), if_pos rfl]
theorem ifs_1 (A : Ast) : r_ifSeated A 1 = cnt (fun i => flH 63 (flt (seatF A.1 (A.1.1 1)) i)) A.1.2.2.length := by
  unfold r_ifSeated
  rw [if_pos (by decide), if_neg (by decide), if_pos rfl]
theorem ifs_2 (A : Ast) : r_ifSeated A 2 = frS (seatF A.1 (A.1.1 1)) := by
  unfold r_ifSeated
  rw [if_pos (by decide), if_neg (by decide), if_neg (by decide)]
theorem ifs_b {A : Ast} (hA : AOk A) {w : Int} (h : 0 ≤ w ∧ w ≤ 2) : (w < 2 → 0 ≤ r_ifSeated A w ∧ r_ifSeated A w ≤ (A.1.2.2.length : Int)) ∧ (w = 2 → (A.1.2.2.length : Int) ≤ r_ifSeated A w ∧ r_ifSeated A w ≤ 5000) := by
  rcases (show w = 0 ∨ w = 1 ∨ w = 2 by omega) with rfl | rfl | rfl
  · rw [ifs_0]
    exact ⟨fun _ => cnt_b _ _, fun w => by omega⟩
  · rw [ifs_1]
    exact ⟨fun _ => cnt_b _ _, fun w => by omega⟩
  · rw [ifs_2]
    refine ⟨fun w => by omega, fun _ => ?_⟩
    have hs := frS_b (seatF_ok hA.1 (g := A.1.1 1) (by have := hA.1.1.2.1.1; omega))
    have e : (seatF A.1 (A.1.1 1)).2.2.length = A.1.2.2.length := seatN_len _ _ _
    rw [e] at hs
    exact hs
theorem fy_0 (A : Ast) : r_faulty A 0 = cnt (fun i => flH 63 (flt A.1 i)) A.1.2.2.length := by
  unfold r_faulty
  rw [if_pos rfl]
theorem fy_k (A : Ast) {f : Int} (h : f = 1 ∨ f = 2 ∨ f = 4 ∨ f = 8 ∨ f = 16 ∨ f = 32) : r_faulty A f = cnt (fun i => flH f (flt A.1 i)) A.1.2.2.length := by
  unfold r_faulty
  rw [if_neg (by omega), if_pos h]
theorem fy_bad (A : Ast) {f : Int} (h : ¬ (f = 0 ∨ f = 1 ∨ f = 2 ∨ f = 4 ∨ f = 8 ∨ f = 16 ∨ f = 32)) : r_faulty A f = -2 := by
  unfold r_faulty
  rw [if_neg (fun w => h (Or.inl w)), if_neg (fun w => h (Or.inr w))]
theorem fy_b (A : Ast) {f : Int} (h : f = 0 ∨ f = 1 ∨ f = 2 ∨ f = 4 ∨ f = 8 ∨ f = 16 ∨ f = 32) : 0 ≤ r_faulty A f ∧ r_faulty A f ≤ r_faulty A 0 ∧ r_faulty A 0 ≤ (A.1.2.2.length : Int) := by
  have h0 : r_faulty A 0 ≤ (A.1.2.2.length : Int) := by
    rw [fy_0]
    exact (cnt_b _ _).2
  rcases h with rfl | h
  · refine ⟨?_, Int.le_refl _, h0⟩
    rw [fy_0]
    exact (cnt_b _ _).1
  · refine ⟨?_, ?_, h0⟩
    · rw [fy_k A h]
      exact (cnt_b _ _).1
    · rw [fy_k A h, fy_0]
      refine cnt_le (fun i hi w => ?_)
      have hb := flt_b A.1 i
      refine (fl_tab (flt A.1 i).toNat (by omega)).1.mpr (Nat.pos_of_ne_zero (fun z => w ?_))
      rw [z, Nat.zero_and]
/-! ===== the digest of a state ===== -/
def dgs (f : Nat → Int) : Nat → Int64 → Int64
  | 0, h => h
  | n + 1, h => 31 * dgs f n h + (iN (f n)).toInt64
def dgT (S : Sb) (h : Int64) : Int64 := dgs (fun j => S.2.2.getD j 0) S.2.2.length (dgs (fun k => if k = 0 then S.1 else if k = 1 then S.2.1 else (S.2.2.length : Int)) 3 h)
def dgL (L : List Sb) : Nat → Int64 → Int64
  | 0, h => h
  | n + 1, h => dgT (L.getD n dS) (dgL L n h)
def dgF (F : Fm) : Int64 := dgL F.2.2 F.2.2.length (dgs (fun i => F.2.1.getD i 0) F.2.1.length (dgs F.1 6 461))
