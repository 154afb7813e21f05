/-! ===== what the other actions make of the state ===== -/
def hasP (L : List Int) (f : Int) (k : Nat) : Prop := ∃ i, i < k ∧ L.getD i 0 = f
theorem has_0 (L : List Int) (f : Int) : 0 = bit (hasP L f 0) 1 := (bit_f (by rintro ⟨i, hi, -⟩; omega)).symm
theorem has_1 {L : List Int} {f x : Int} {k : Nat} (hw : x = bit (hasP L f k) 1) (h : ¬ x = 0) : 1 = bit (hasP L f (k + 1)) 1 := by
  obtain ⟨i, hi, q⟩ := bit_ne (hw ▸ h)
  exact (bit_t ⟨i, by omega, q⟩).symm
theorem has_2 {L : List Int} {f : Int} {k : Nat} (h : L.getD k 0 = f) : 1 = bit (hasP L f (k + 1)) 1 := (bit_t ⟨k, by omega, h⟩).symm
theorem has_3 {L : List Int} {f x : Int} {k : Nat} (hw : x = bit (hasP L f k) 1) (h : x = 0) (h2 : ¬ L.getD k 0 = f) : 0 = bit (hasP L f (k + 1)) 1 := by
  have q := bit_z (by decide) (hw.symm.trans h)
  refine (bit_f ?_).symm
  rintro ⟨i, hi, g⟩
  rcases Nat.lt_succ_iff_lt_or_eq.mp hi with hi | rfl
  · exact q ⟨i, hi, g⟩
  · exact h2 g
theorem ct_post {A : Ast} (hA : AOk A) {f : Int} : ∃ (B : Ast) (told : Int), s_cut A f = (told, B) ∧ AOk B ∧ Nx A B ∧ ((told < 0 ∧ (B.1.2.1.length : Int) = (A.1.2.1.length : Int)) ∨ (0 ≤ told ∧ (B.1.2.1.length : Int) = told)) ∧
    (((f < 1 ∨ 4999 < f) ∧ told = -2) ∨ ((1 ≤ f ∧ f ≤ 4999) ∧ ((bit (hasC A.1.2.1 f) 1 = 1 ∧ told = -5) ∨ (bit (hasC A.1.2.1 f) 1 = 0 ∧ (((A.1.2.1.length : Int) = 12 ∧ told = -4) ∨ ((A.1.2.1.length : Int) < 12 ∧ told = (A.1.2.1.length : Int) + 1)))))) := by
  have hB := ok_cut hA f
  have h12 := hA.1.2.1.1
  by_cases h1 : 1 ≤ f ∧ f ≤ 4999
  · by_cases h2 : hasC A.1.2.1 f
    · have e : s_cut A f = (-5, A) := by
        unfold s_cut
        rw [if_pos h1, if_pos h2]
      exact ⟨A, -5, e, hA, Or.inl rfl, Or.inl ⟨by decide, rfl⟩, Or.inr ⟨h1, Or.inl ⟨bit_t h2, rfl⟩⟩⟩
    · by_cases h3 : 12 ≤ A.1.2.1.length
      · have e : s_cut A f = (-4, A) := by
          unfold s_cut
          rw [if_pos h1, if_neg h2, if_pos h3]
        exact ⟨A, -4, e, hA, Or.inl rfl, Or.inl ⟨by decide, rfl⟩, Or.inr ⟨h1, Or.inr ⟨bit_f h2, Or.inl ⟨by omega, rfl⟩⟩⟩⟩
      · have e : s_cut A f = ((A.1.2.1.length : Int) + 1, act A (A.1.1, insL A.1.2.1 (cpos A.1.2.1 f) f, A.1.2.2)) := by
          unfold s_cut
          rw [if_pos h1, if_neg h2, if_neg h3]
        rw [e] at hB
        have hp := (CP_ex hA.1.2.1 (x := f) (fun i hi w => h2 ⟨i, hi, w⟩)).1
        have g : (act A (A.1.1, insL A.1.2.1 (cpos A.1.2.1 f) f, A.1.2.2)).1.2.1.length = A.1.2.1.length + 1 := insL_len hp
        exact ⟨_, _, e, hB, Or.inr rfl, Or.inr ⟨by omega, by rw [g]; omega⟩, Or.inr ⟨h1, Or.inr ⟨bit_f h2, Or.inr ⟨by omega, rfl⟩⟩⟩⟩
  · have e : s_cut A f = (-2, A) := by
      unfold s_cut
      rw [if_neg h1]
    exact ⟨A, -2, e, hA, Or.inl rfl, Or.inl ⟨by decide, rfl⟩, Or.inl ⟨by omega, rfl⟩⟩
theorem un_0 {A : Ast} (hA : AOk A) : bit (hasC A.1.2.1 0) 1 = 0 := bit_f (by
  rintro ⟨i, hi, h⟩
  have := hA.1.2.1.2.1 i hi
  omega)
theorem un_in {A : Ast} (hA : AOk A) {j : Int} (h : 0 ≤ j ∧ j < (A.1.2.1.length : Int)) : (1 ≤ A.1.2.1.getD j.toNat 0 ∧ A.1.2.1.getD j.toNat 0 ≤ 4999) ∧ bit (hasC A.1.2.1 (A.1.2.1.getD j.toNat 0)) 1 = 1 :=
  ⟨hA.1.2.1.2.1 _ (by omega), bit_t ⟨j.toNat, by omega, rfl⟩⟩
theorem un_post {A : Ast} (hA : AOk A) {f : Int} : ∃ (B : Ast) (told : Int), s_uncut A f = (told, B) ∧ AOk B ∧ Nx A B ∧ ((bit (hasC A.1.2.1 f) 1 = 1 ∧ told = (A.1.2.1.length : Int) - 1 ∧ (B.1.2.1.length : Int) = (A.1.2.1.length : Int) - 1) ∨ (bit (hasC A.1.2.1 f) 1 = 0 ∧ told = -1 ∧ (B.1.2.1.length : Int) = (A.1.2.1.length : Int))) := by
  have hB := ok_uncut hA f
  by_cases h2 : hasC A.1.2.1 f
  · have e : s_uncut A f = ((A.1.2.1.length : Int) - 1, act A (A.1.1, A.1.2.1.eraseIdx (cidx A.1.2.1 f), A.1.2.2)) := by
      unfold s_uncut
      rw [if_pos h2]
    rw [e] at hB
    obtain ⟨i, hi, hf⟩ := id h2
    have g : (act A (A.1.1, A.1.2.1.eraseIdx (cidx A.1.2.1 f), A.1.2.2)).1.2.1.length = A.1.2.1.length - 1 := by
      show (A.1.2.1.eraseIdx (cidx A.1.2.1 f)).length = _
      rw [cidx_of hA.1.2.1 hi hf, delL_len hi]
    exact ⟨_, _, e, hB, Or.inr rfl, Or.inl ⟨bit_t h2, rfl, by rw [g]; omega⟩⟩
  · have e : s_uncut A f = (-1, A) := by
      unfold s_uncut
      rw [if_neg h2]
    exact ⟨A, -1, e, hA, Or.inl rfl, Or.inr ⟨bit_f h2, rfl, rfl⟩⟩
def LoP (wt lo : Int) : Prop := (wt = 0 ∧ lo = 5) ∨ (wt = 1 ∧ lo = 0) ∨ (wt = 2 ∧ lo = 5) ∨ (wt = 3 ∧ lo = 50) ∨ (wt = 4 ∧ lo = 10) ∨ ((wt = 5 ∨ wt = 6) ∧ lo = 0)
def HiP (wt hi : Int) : Prop := (wt = 0 ∧ hi = 40) ∨ (wt = 1 ∧ hi = 20) ∨ (wt = 2 ∧ hi = 50) ∨ (wt = 3 ∧ hi = 250) ∨ (wt = 4 ∧ hi = 40) ∨ ((wt = 5 ∨ wt = 6) ∧ hi = 12)
theorem LH_b {wt lo hi : Int} (h1 : LoP wt lo) (h2 : HiP wt hi) : 0 ≤ lo ∧ lo < hi ∧ hi ≤ 250 := by
  unfold LoP at h1
  unfold HiP at h2
  omega
theorem lo_is {wt lo : Int} (h1 : LoP wt lo) (h : wt < 6) : lowT wt.toNat = lo := by
  rcases h1 with ⟨rfl, rfl⟩ | ⟨rfl, rfl⟩ | ⟨rfl, rfl⟩ | ⟨rfl, rfl⟩ | ⟨rfl, rfl⟩ | ⟨rfl | rfl, rfl⟩
  · rfl
  · rfl
  · rfl
  · rfl
  · rfl
  · rfl
  · omega
theorem hi_is {wt hi : Int} (h1 : HiP wt hi) (h : wt < 6) : higT wt.toNat = hi := by
  rcases h1 with ⟨rfl, rfl⟩ | ⟨rfl, rfl⟩ | ⟨rfl, rfl⟩ | ⟨rfl, rfl⟩ | ⟨rfl, rfl⟩ | ⟨rfl | rfl, rfl⟩
  · rfl
  · rfl
  · rfl
  · rfl
  · rfl
  · rfl
  · omega
theorem val_b {A : Ast} (hA : AOk A) {wt : Int} (h : 0 ≤ wt ∧ wt < 6) : 0 ≤ A.1.1 wt.toNat ∧ A.1.1 wt.toNat ≤ 250 := by
  obtain ⟨h0, h1, h2, h3, h4, h5, h6⟩ := hA.1.1
  rcases (show wt = 0 ∨ wt = 1 ∨ wt = 2 ∨ wt = 3 ∨ wt = 4 ∨ wt = 5 by omega) with rfl | rfl | rfl | rfl | rfl | rfl
  · show 0 ≤ A.1.1 0 ∧ A.1.1 0 ≤ 250
    omega
  · show 0 ≤ A.1.1 1 ∧ A.1.1 1 ≤ 250
    omega
  · show 0 ≤ A.1.1 2 ∧ A.1.1 2 ≤ 250
    omega
  · show 0 ≤ A.1.1 3 ∧ A.1.1 3 ≤ 250
    omega
  · show 0 ≤ A.1.1 4 ∧ A.1.1 4 ≤ 250
    omega
  · show 0 ≤ A.1.1 5 ∧ A.1.1 5 ≤ 250
    omega
theorem rv_any {A : Ast} {wt : Int} (h : 0 ≤ wt ∧ wt < 6) : r_setting A wt = A.1.1 wt.toNat := by
  unfold r_setting
  rw [if_pos h]
theorem st_post {A : Ast} (hA : AOk A) {wt vl lo hi : Int} (h0 : 0 ≤ wt ∧ wt ≤ 6) (hl : LoP wt lo) (hh : HiP wt hi) : ∃ (B : Ast) (told : Int), s_set A wt vl = (told, B) ∧ AOk B ∧ Nx A B ∧
    ((wt = 6 ∧ told = -1) ∨ (wt < 6 ∧ (((vl < lo ∨ hi < vl) ∧ told = -2 ∧ B.1.1 wt.toNat = A.1.1 wt.toNat) ∨ ((lo ≤ vl ∧ vl ≤ hi) ∧ told = A.1.1 wt.toNat ∧ B.1.1 wt.toNat = vl)))) := by
  have hB := ok_set hA wt vl
  by_cases h1 : wt < 6
  · have e1 := lo_is hl h1
    have e2 := hi_is hh h1
    by_cases h2 : lo ≤ vl ∧ vl ≤ hi
    · have e : s_set A wt vl = (A.1.1 wt.toNat, act A (updV1 A.1.1 wt.toNat vl, A.1.2)) := by
        unfold s_set
        rw [if_pos ⟨h0.1, h1⟩, e1, e2, if_pos h2]
      rw [e] at hB
      exact ⟨_, _, e, hB, Or.inr rfl, Or.inr ⟨h1, Or.inr ⟨h2, rfl, if_pos rfl⟩⟩⟩
    · have e : s_set A wt vl = (-2, A) := by
        unfold s_set
        rw [if_pos ⟨h0.1, h1⟩, e1, e2, if_neg h2]
      exact ⟨A, -2, e, hA, Or.inl rfl, Or.inr ⟨h1, Or.inl ⟨by omega, rfl, rfl⟩⟩⟩
  · have e : s_set A wt vl = (-1, A) := by
      unfold s_set
      rw [if_neg (fun w => h1 w.2)]
    exact ⟨A, -1, e, hA, Or.inl rfl, Or.inl ⟨by omega, rfl⟩⟩
