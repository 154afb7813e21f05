/-! ===== the model: the parser ===== -/
def hr_ (sc : List Int) (i : Nat) : Int := if i < sc.length then sc.getD i 0 else 0
/-- the script the model holds -/
def MSc (G : Wd) (sc : List Int) : Prop := G 28 0 0 = (sc.length : Int) ∧ ∀ i, i < sc.length → G 24 0 i = sc.getD i 0
theorem MSc.of {G G' : Wd} {sc : List Int} (h : MSc G sc) (e : ∀ f a i, f = 24 ∨ f = 28 → G' f a i = G f a i) : MSc G' sc := ⟨(e 28 0 0 (Or.inr rfl)).trans h.1, fun i hi => (e 24 0 i (Or.inl rfl)).trans (h.2 i hi)⟩
theorem hr_b {sc : List Int} (h : ScOk sc) (i : Nat) : 0 ≤ hr_ sc i ∧ hr_ sc i ≤ 126 := by
  unfold hr_
  split
  · have := h.2 i ‹_›
    omega
  · omega
theorem hr_n {sc : List Int} {i : Nat} (h : hr_ sc i ≠ 0) : i < sc.length ∧ hr_ sc i = sc.getD i 0 := by
  unfold hr_ at h ⊢
  split at h
  · rename_i q
    exact ⟨q, if_pos q⟩
  · exact absurd rfl h
theorem hr_t {sc : List Int} {i : Nat} (h : i < sc.length) : hr_ sc i = sc.getD i 0 := if_pos h
/-- the place and the form are set, nothing else -/
def PS (G G' : Wd) (b : Int) (i : Nat) : Prop := G' 31 0 0 = b ∧ G' 29 0 0 = (i : Int) ∧ ∀ f a i, f ≠ 29 → f ≠ 31 → G' f a i = G f a i
theorem PS.sc {G G' : Wd} {b : Int} {i : Nat} {sc : List Int} (h : PS G G' b i) (hs : MSc G sc) : MSc G' sc := hs.of (fun f a j hf => h.2.2 f a j (by omega) (by omega))
set_option maxRecDepth 100000 in
set_option maxHeartbeats 4000000 in
theorem c_X5_here {E : En} {G : Wd} {sc : List Int} {i : Nat} (hs : MSc G sc) (hO : ScOk sc) (hi : G 29 0 0 = (i : Int)) (hi2 : i ≤ 100) : Cti E yX5_here cX5_here 1 .int 0 0 [.ref (E.1 6)] G (fun z G' => G' = G ∧ z = hr_ sc i) := by
  have h28 := hs.1
  have h80 := hO.1
  refine Cti.mk [some (.ref (E.1 6))] (by decide) rfl (by intro v hv; simp only [List.mem_cons, List.not_mem_nil, or_false] at hv; subst hv; rfl) (Nat.le_of_ble_eq_true rfl) ?_
  intro p l e s m args below meth c cx
  refine z_aload_n cx dX5_here_0 rfl ?_
  refine g_X5_8 cx fl_X5_101 dX5_here_1 ?_
  refine z_aload_n cx dX5_here_4 rfl ?_
  refine g_X5_6 cx fl_X5_98 dX5_here_5 ?_
  refine z_icmp_ge cx (tgt := 23) dX5_here_8 (fun h8 => ?_) (fun h8 => ?_)
  · skip
    refine z_iconst cx dX5_here_23 ?_
    refine z_iret cx dX5_here_24 ?_
    exact ⟨rfl, (if_neg (by omega)).symm⟩
  · skip
    have ei := hs.2 i (by omega)
    refine z_aload_n cx dX5_here_11 rfl ?_
    refine g_X5_5 cx fl_X5_22 dX5_here_12 ?_
    refine z_aload_n cx dX5_here_15 rfl ?_
    refine g_X5_8 cx fl_X5_101 dX5_here_16 ?_
    refine z_iald cx (i) (by omega) (by omega) (co_mscr E _) dX5_here_19 ?_
    refine z_goto cx (tgt := 24) dX5_here_20 ?_
    refine z_iret cx dX5_here_24 ?_
    exact ⟨rfl, ei.trans (if_pos (by omega)).symm⟩
set_option maxRecDepth 100000 in
set_option maxHeartbeats 4000000 in
theorem c_X5_takes {E : En} {G : Wd} {b mm : Int} {i : Nat} (hb : G 31 0 0 = b) (hb2 : b = 1 ∨ b = 0) (hm : mm = 1 ∨ mm = 0) (hi : G 29 0 0 = (i : Int)) (hi2 : i ≤ 100) : Ctv E yX5_takes cX5_takes 2 0 0 [.ref (E.1 6), .int (iN (mm))] G (fun G' => (b = 1 ∧ mm = 1 ∧ PS G G' 1 (i + 1)) ∨ (¬ (b = 1 ∧ mm = 1) ∧ PS G G' 0 i)) := by
  refine Ctv.mk [some (.ref (E.1 6)), some (.int (iN (mm)))] (by decide) rfl (by intro v hv; simp only [List.mem_cons, List.not_mem_nil, or_false] at hv; rcases hv with rfl | rfl <;> rfl) (Nat.le_of_ble_eq_true rfl) ?_
  intro p l e s m args below meth c cx
  have L17 : ∀ (zz : Int), ((zz = 1 ∧ b = 1 ∧ mm = 1) ∨ (zz = 0 ∧ ¬ (b = 1 ∧ mm = 1))) → Z p l e (zr 0 0) s m args below meth c 2 0 0 E (Qv_ E below args s (fun G' => (b = 1 ∧ mm = 1 ∧ PS G G' 1 (i + 1)) ∨ (¬ (b = 1 ∧ mm = 1) ∧ PS G G' 0 i))) G 17 [some (.ref (E.1 6)), some (.int (iN (mm)))] [.int (iN (zz)), .ref (E.1 6)] := by
    intro zz hz
    refine p_X5_10 cx fl_X5_104 dX5_takes_17 ?_
    refine z_aload_n cx dX5_takes_20 rfl ?_
    refine z_dup cx dX5_takes_21 ?_
    refine g_X5_8 cx fl_X5_101 dX5_takes_22 ?_
    refine z_aload_n cx dX5_takes_25 rfl ?_
    refine g_X5_10 cx fl_X5_104 dX5_takes_26 ?_
    rw [gup_s]
    refine z_if_eq cx (tgt := 36) dX5_takes_29 (fun h29 => ?_) (fun h29 => ?_)
    · skip
      refine z_iconst cx dX5_takes_36 ?_
      refine z_iadd cx dX5_takes_37 ?_
      refine p_X5_8 cx fl_X5_101 dX5_takes_38 ?_
      refine z_vret cx dX5_takes_41 ?_
      have hfr : ∀ (G2 : Wd) (u v : Int) (f a j : Nat), f ≠ 29 → f ≠ 31 → gup (gup G2 31 0 0 u) 29 0 0 v f a j = G2 f a j := fun G2 u v f a j h1 h2 => by rw [gup_f _ _ _ _ _ _ _ h1, gup_f _ _ _ _ _ _ _ h2]
      rcases hz with ⟨q1, q2, q3⟩ | ⟨q1, q2⟩
      · first
        | (exfalso; omega)
        | exact Or.inl ⟨q2, q3, by rw [gup_f _ _ _ _ _ _ _ (by decide), gup_s, q1], by rw [gup_s, gup_f _ _ _ _ _ _ _ (by decide)]; omega, hfr _ _ _⟩
      · first
        | (exfalso; omega)
        | exact Or.inr ⟨q2, by rw [gup_f _ _ _ _ _ _ _ (by decide), gup_s, q1], by rw [gup_s, gup_f _ _ _ _ _ _ _ (by decide)]; omega, hfr _ _ _⟩
    · skip
      refine z_iconst cx dX5_takes_32 ?_
      refine z_goto cx (tgt := 37) dX5_takes_33 ?_
      refine z_iadd cx dX5_takes_37 ?_
      refine p_X5_8 cx fl_X5_101 dX5_takes_38 ?_
      refine z_vret cx dX5_takes_41 ?_
      have hfr : ∀ (G2 : Wd) (u v : Int) (f a j : Nat), f ≠ 29 → f ≠ 31 → gup (gup G2 31 0 0 u) 29 0 0 v f a j = G2 f a j := fun G2 u v f a j h1 h2 => by rw [gup_f _ _ _ _ _ _ _ h1, gup_f _ _ _ _ _ _ _ h2]
      rcases hz with ⟨q1, q2, q3⟩ | ⟨q1, q2⟩
      · first
        | (exfalso; omega)
        | exact Or.inl ⟨q2, q3, by rw [gup_f _ _ _ _ _ _ _ (by decide), gup_s, q1], by rw [gup_s, gup_f _ _ _ _ _ _ _ (by decide)]; omega, hfr _ _ _⟩
      · first
        | (exfalso; omega)
        | exact Or.inr ⟨q2, by rw [gup_f _ _ _ _ _ _ _ (by decide), gup_s, q1], by rw [gup_s, gup_f _ _ _ _ _ _ _ (by decide)]; omega, hfr _ _ _⟩
  refine z_aload_n cx dX5_takes_0 rfl ?_
  refine z_aload_n cx dX5_takes_1 rfl ?_
  refine g_X5_10 cx fl_X5_104 dX5_takes_2 ?_
  refine z_if_eq cx (tgt := 16) dX5_takes_5 (fun h5 => ?_) (fun h5 => ?_)
  · skip
    refine z_iconst cx dX5_takes_16 ?_
    refine Z.locs (L17 _ (by omega)) ⟨rfl, rfl, trivial⟩
  · skip
    refine z_iload_n cx dX5_takes_8 rfl ?_
    refine z_if_eq cx (tgt := 16) dX5_takes_9 (fun h9 => ?_) (fun h9 => ?_)
    · skip
      refine z_iconst cx dX5_takes_16 ?_
      refine Z.locs (L17 _ (by omega)) ⟨rfl, rfl, trivial⟩
    · skip
      refine z_iconst cx dX5_takes_12 ?_
      refine z_goto cx (tgt := 17) dX5_takes_13 ?_
      refine Z.locs (L17 _ (by omega)) ⟨rfl, rfl, trivial⟩
theorem numF_digit {sc : List Int} (hs : sc.length ≤ 80) {i : Nat} (h : i < sc.length) (hd : isDig (sc.getD i 0)) : numF sc i (-6) = numF sc (i + 1) (sc.getD i 0 - 48) := by
  have hd1 := hd.1
  have hd2 := hd.2
  have e : lng (-6) (sc.getD i 0 - 48) = sc.getD i 0 - 48 := if_pos rfl
  rw [numF_go hs ⟨h, hd, by decide, by rw [e]; omega⟩, e]
theorem numF_none {sc : List Int} {i : Nat} (h : ¬ (i < sc.length ∧ isDig (sc.getD i 0))) : numF sc i (-6) = (-6, i) := numF_stop (fun w => h ⟨w.1, w.2.1⟩)
def NumR (sc : List Int) (i : Nat) (b z : Int) (G G' : Wd) : Prop := (b = 1 ∧ (numF sc i (-6)).1 ≠ -6 ∧ z = (numF sc i (-6)).1 ∧ PS G G' 1 (numF sc i (-6)).2) ∨ (b = 1 ∧ (numF sc i (-6)).1 = -6 ∧ (numF sc i (-6)).2 = i ∧ PS G G' 0 i) ∨ (b = 0 ∧ PS G G' 0 i)
set_option maxRecDepth 100000 in
set_option maxHeartbeats 4000000 in
theorem c_X5_takesNumber {E : En} {G : Wd} {sc : List Int} {b : Int} {i : Nat} (hs : MSc G sc) (hO : ScOk sc) (hb : G 31 0 0 = b) (hb2 : b = 1 ∨ b = 0) (hi : G 29 0 0 = (i : Int)) (hi2 : i ≤ 80) : Cti E yX5_takesNumber cX5_takesNumber 2 .int 1 22 [.ref (E.1 6)] G (fun z G' => NumR sc i b z G G') := by
  have h80 := hO.1
  have hhb := hr_b hO i
  refine Cti.mk [some (.ref (E.1 6)), none] (by decide) rfl (by intro v hv; simp only [List.mem_cons, List.not_mem_nil, or_false] at hv; subst hv; rfl) (Nat.le_of_ble_eq_true rfl) ?_
  intro p l e s m args below meth c cx
  have L19 : ∀ (n : Nat) (j : Nat) (v fm : Int) (G1 : Wd), (100 - j) < n → (j ≤ 81) → (fm = 1 ∨ fm = 0) → (PS G G1 fm j) → (-100 ≤ v ∧ v ≤ 5000) → ((fm = 1 ∧ b = 1 ∧ 0 ≤ v ∧ j ≤ sc.length ∧ numF sc i (-6) = numF sc j v) ∨ (fm = 0 ∧ j = i ∧ ((b = 1 ∧ numF sc i (-6) = (-6, i)) ∨ b = 0))) → Z p l e (zr 1 22) s m args below meth c 2 0 0 E (Qi_ E below args s (fun z G' => NumR sc i b z G G')) G1 19 [some (.ref (E.1 6)), some (.int (iN (v)))] [] := by
    intro n
    induction n with
    | zero =>
      intro j v fm G1 hmu
      exact absurd hmu (Nat.not_lt_zero _)
    | succ n ih =>
      intro j v fm G1 hmu hj hfm hP hv hN
      have hs1 := hP.sc hs
      have hb1 := hP.1
      have hj1 := hP.2.1
      have hhb1 := hr_b hO j
      refine z_aload_n cx dX5_takesNumber_19 rfl ?_
      refine g_X5_10 cx fl_X5_104 dX5_takesNumber_20 ?_
      refine z_if_eq cx (tgt := 88) dX5_takesNumber_23 (fun h23 => ?_) (fun h23 => ?_)
      · skip
        refine z_iload_n cx dX5_takesNumber_88 rfl ?_
        refine z_iret cx dX5_takesNumber_89 ?_
        rcases hN with ⟨q0, qb, q1, q2, q3⟩ | ⟨q0, q1, ⟨q2, q3⟩ | q2⟩
        · have hst : ¬ numC sc j v := by
            rintro ⟨w1, ⟨w2, w3⟩, w4, w5⟩
            have e : lng v (sc.getD j 0 - 48) = 10 * v + (sc.getD j 0 - 48) := by
              unfold lng
              rw [if_neg (by omega)]
            rw [e] at w5
            have := hr_t w1
            omega
          rw [numF_stop hst] at q3
          subst q0
          exact Or.inl ⟨qb, by rw [q3]; dsimp only; omega, by rw [q3], by rw [q3]; exact hP⟩
        · subst q0 q1
          exact Or.inr (Or.inl ⟨q2, by rw [q3], by rw [q3], hP⟩)
        · subst q0 q1
          exact Or.inr (Or.inr ⟨q2, hP⟩)
      · skip
        refine z_iload_n cx dX5_takesNumber_26 rfl ?_
        refine z_if_le cx (tgt := 88) dX5_takesNumber_27 (fun h27 => ?_) (fun h27 => ?_)
        · skip
          refine z_iload_n cx dX5_takesNumber_88 rfl ?_
          refine z_iret cx dX5_takesNumber_89 ?_
          rcases hN with ⟨q0, qb, q1, q2, q3⟩ | ⟨q0, q1, ⟨q2, q3⟩ | q2⟩
          · have hst : ¬ numC sc j v := by
              rintro ⟨w1, ⟨w2, w3⟩, w4, w5⟩
              have e : lng v (sc.getD j 0 - 48) = 10 * v + (sc.getD j 0 - 48) := by
                unfold lng
                rw [if_neg (by omega)]
              rw [e] at w5
              have := hr_t w1
              omega
            rw [numF_stop hst] at q3
            subst q0
            exact Or.inl ⟨qb, by rw [q3]; dsimp only; omega, by rw [q3], by rw [q3]; exact hP⟩
          · subst q0 q1
            exact Or.inr (Or.inl ⟨q2, by rw [q3], by rw [q3], hP⟩)
          · subst q0 q1
            exact Or.inr (Or.inr ⟨q2, hP⟩)
        · skip
          refine z_aload_n cx dX5_takesNumber_30 rfl ?_
          refine z_vi cx (c_X5_here hs1 hO hj1 (by omega)) rfl mv_X5_here ml_X5_108 (by omega) (co_mod E _) rfl dX5_takesNumber_31 (fun z31 G31 hz31 => ?_)
          obtain ⟨eG, rfl⟩ := hz31
          have eG := eG.symm
          subst eG
          refine z_bipush cx dX5_takesNumber_34 ?_
          refine z_bipush cx dX5_takesNumber_36 ?_
          refine z_si cx (c_X5_in (by omega)) rfl ms_X5_in ml_X5_39 dX5_takesNumber_38 (fun z38 G38 hz38 => ?_)
          obtain ⟨eG, hz38⟩ := hz38
          have eG := eG.symm
          subst eG
          refine z_if_eq cx (tgt := 88) dX5_takesNumber_41 (fun h41 => ?_) (fun h41 => ?_)
          · skip
            refine z_iload_n cx dX5_takesNumber_88 rfl ?_
            refine z_iret cx dX5_takesNumber_89 ?_
            rcases hN with ⟨q0, qb, q1, q2, q3⟩ | ⟨q0, q1, ⟨q2, q3⟩ | q2⟩
            · have hst : ¬ numC sc j v := by
                rintro ⟨w1, ⟨w2, w3⟩, w4, w5⟩
                have e : lng v (sc.getD j 0 - 48) = 10 * v + (sc.getD j 0 - 48) := by
                  unfold lng
                  rw [if_neg (by omega)]
                rw [e] at w5
                have := hr_t w1
                omega
              rw [numF_stop hst] at q3
              subst q0
              exact Or.inl ⟨qb, by rw [q3]; dsimp only; omega, by rw [q3], by rw [q3]; exact hP⟩
            · subst q0 q1
              exact Or.inr (Or.inl ⟨q2, by rw [q3], by rw [q3], hP⟩)
            · subst q0 q1
              exact Or.inr (Or.inr ⟨q2, hP⟩)
          · skip
            refine z_bipush cx dX5_takesNumber_44 ?_
            refine z_iload_n cx dX5_takesNumber_46 rfl ?_
            refine z_imul cx dX5_takesNumber_47 ?_
            refine z_aload_n cx dX5_takesNumber_48 rfl ?_
            refine z_vi cx (c_X5_here hs1 hO hj1 (by omega)) rfl mv_X5_here ml_X5_108 (by omega) (co_mod E _) rfl dX5_takesNumber_49 (fun z49 G49 hz49 => ?_)
            obtain ⟨eG, rfl⟩ := hz49
            have eG := eG.symm
            subst eG
            refine z_iadd cx dX5_takesNumber_52 ?_
            refine z_bipush cx dX5_takesNumber_53 ?_
            refine z_isub cx dX5_takesNumber_55 ?_
            refine z_sipush cx dX5_takesNumber_56 ?_
            refine z_icmp_gt cx (tgt := 88) dX5_takesNumber_59 (fun h59 => ?_) (fun h59 => ?_)
            · skip
              refine z_iload_n cx dX5_takesNumber_88 rfl ?_
              refine z_iret cx dX5_takesNumber_89 ?_
              rcases hN with ⟨q0, qb, q1, q2, q3⟩ | ⟨q0, q1, ⟨q2, q3⟩ | q2⟩
              · have hst : ¬ numC sc j v := by
                  rintro ⟨w1, ⟨w2, w3⟩, w4, w5⟩
                  have e : lng v (sc.getD j 0 - 48) = 10 * v + (sc.getD j 0 - 48) := by
                    unfold lng
                    rw [if_neg (by omega)]
                  rw [e] at w5
                  have := hr_t w1
                  omega
                rw [numF_stop hst] at q3
                subst q0
                exact Or.inl ⟨qb, by rw [q3]; dsimp only; omega, by rw [q3], by rw [q3]; exact hP⟩
              · subst q0 q1
                exact Or.inr (Or.inl ⟨q2, by rw [q3], by rw [q3], hP⟩)
              · subst q0 q1
                exact Or.inr (Or.inr ⟨q2, hP⟩)
            · skip
              refine z_bipush cx dX5_takesNumber_62 ?_
              refine z_iload_n cx dX5_takesNumber_64 rfl ?_
              refine z_imul cx dX5_takesNumber_65 ?_
              refine z_aload_n cx dX5_takesNumber_66 rfl ?_
              refine z_vi cx (c_X5_here hs1 hO hj1 (by omega)) rfl mv_X5_here ml_X5_108 (by omega) (co_mod E _) rfl dX5_takesNumber_67 (fun z67 G67 hz67 => ?_)
              obtain ⟨eG, rfl⟩ := hz67
              have eG := eG.symm
              subst eG
              refine z_iadd cx dX5_takesNumber_70 ?_
              refine z_bipush cx dX5_takesNumber_71 ?_
              refine z_isub cx dX5_takesNumber_73 ?_
              refine z_istore_n cx dX5_takesNumber_74 ?_
              refine z_aload_n cx dX5_takesNumber_75 rfl ?_
              refine z_dup cx dX5_takesNumber_76 ?_
              refine g_X5_8 cx fl_X5_101 dX5_takesNumber_77 ?_
              refine z_iconst cx dX5_takesNumber_80 ?_
              refine z_iadd cx dX5_takesNumber_81 ?_
              refine p_X5_8 cx fl_X5_101 dX5_takesNumber_82 ?_
              refine z_goto cx (tgt := 19) dX5_takesNumber_85 ?_
              refine Z.locs (ih (j + 1) _ (1) _ (by omega) (by omega) (Or.inl rfl) ⟨(gup_f _ _ _ _ _ _ _ (by decide)).trans (by omega), by rw [gup_s]; omega, fun f a q h1 h2 => (gup_f _ _ _ _ _ _ _ h1).trans (hP.2.2 f a q h1 h2)⟩ (by omega) ?_) ⟨rfl, rfl, trivial⟩
              have hx := hr_n (sc := sc) (i := j) (by omega)
              refine Or.inl ⟨rfl, by omega, by omega, by omega, ?_⟩
              rcases hN with ⟨-, -, q1, q2, q3⟩ | ⟨q1, -⟩
              · have e : lng v (sc.getD j 0 - 48) = 10 * v + hr_ sc j - 48 := by
                  unfold lng
                  rw [if_neg (by omega), hx.2]
                  omega
                rw [q3, numF_go h80 ⟨hx.1, ⟨by omega, by omega⟩, by omega, by rw [e]; omega⟩, e]
              · exfalso; omega
  refine z_aload_n cx dX5_takesNumber_0 rfl ?_
  refine z_vi cx (c_X5_here hs hO hi (by omega)) rfl mv_X5_here ml_X5_108 (by omega) (co_mod E _) rfl dX5_takesNumber_1 (fun z1 G1 hz1 => ?_)
  obtain ⟨eG, rfl⟩ := hz1
  have eG := eG.symm
  subst eG
  refine z_bipush cx dX5_takesNumber_4 ?_
  refine z_isub cx dX5_takesNumber_6 ?_
  refine z_istore_n cx dX5_takesNumber_7 ?_
  refine z_aload_n cx dX5_takesNumber_8 rfl ?_
  refine z_iload_n cx dX5_takesNumber_9 rfl ?_
  refine z_iconst cx dX5_takesNumber_10 ?_
  refine z_bipush cx dX5_takesNumber_11 ?_
  refine z_si cx (c_X5_in (by omega)) rfl ms_X5_in ml_X5_39 dX5_takesNumber_13 (fun z13 G13 hz13 => ?_)
  obtain ⟨eG, hz13⟩ := hz13
  have eG := eG.symm
  subst eG
  refine z_vv cx (c_X5_takes hb hb2 (by omega) hi (by omega)) rfl mv_X5_takes ml_X5_112 (by omega) (co_mod E _) rfl dX5_takesNumber_16 (fun G16 hz16 => ?_)
  refine Z.locs (L19 _ ((if b = 1 ∧ z13 = 1 then i + 1 else i)) _ ((if b = 1 ∧ z13 = 1 then 1 else 0)) _ (Nat.lt_succ_self _) ?_ ?_ ?_ (by omega) ?_) ⟨rfl, rfl, trivial⟩
  · split <;> omega
  · split
    · exact Or.inl rfl
    · exact Or.inr rfl
  · rcases hz16 with ⟨q1, q2, q3⟩ | ⟨q1, q2⟩
    · rw [if_pos ⟨q1, q2⟩, if_pos ⟨q1, q2⟩]; exact q3
    · rw [if_neg q1, if_neg q1]; exact q2
  · by_cases q : b = 1 ∧ z13 = 1
    · rw [if_pos q, if_pos q]
      have hx := hr_n (sc := sc) (i := i) (by omega)
      exact Or.inl ⟨rfl, q.1, by omega, by omega, by rw [hx.2]; exact numF_digit h80 hx.1 ⟨by omega, by omega⟩⟩
    · rw [if_neg q, if_neg q]
      refine Or.inr ⟨rfl, rfl, ?_⟩
      rcases hb2 with w | w
      · refine Or.inl ⟨w, numF_none ?_⟩
        rintro ⟨w1, w2, w3⟩
        have := hr_t w1
        omega
      · exact Or.inr w
set_option maxRecDepth 100000 in
set_option maxHeartbeats 4000000 in
theorem c_X5_isLetter {E : En} {G : Wd} {x : Int} (hx : 0 ≤ x ∧ x ≤ 200) : Cti E yX5_isLetter cX5_isLetter 1 .boolean 1 22 [.int (iN (x))] G (fun z G' => G' = G ∧ (z = 1 ∧ isLet x ∨ z = 0 ∧ ¬ isLet x)) := by
  refine Cti.mk [some (.int (iN (x)))] (by decide) rfl (by intro v hv; simp only [List.mem_cons, List.not_mem_nil, or_false] at hv; subst hv; rfl) (Nat.le_of_ble_eq_true rfl) ?_
  intro p l e s m args below meth c cx
  refine z_iload_n cx dX5_isLetter_0 rfl ?_
  refine z_bipush cx dX5_isLetter_1 ?_
  refine z_bipush cx dX5_isLetter_3 ?_
  refine z_si cx (c_X5_in (by omega)) rfl ms_X5_in ml_X5_39 dX5_isLetter_5 (fun z5 G5 hz5 => ?_)
  obtain ⟨eG, hz5⟩ := hz5
  have eG := eG.symm
  subst eG
  refine z_if_ne cx (tgt := 23) dX5_isLetter_8 (fun h8 => ?_) (fun h8 => ?_)
  · skip
    refine z_iconst cx dX5_isLetter_23 ?_
    refine z_goto cx (tgt := 28) dX5_isLetter_24 ?_
    refine z_zret cx dX5_isLetter_28 ?_
    exact ⟨rfl, by omega⟩
  · skip
    refine z_iload_n cx dX5_isLetter_11 rfl ?_
    refine z_bipush cx dX5_isLetter_12 ?_
    refine z_icmp_eq cx (tgt := 23) dX5_isLetter_14 (fun h14 => ?_) (fun h14 => ?_)
    · skip
      refine z_iconst cx dX5_isLetter_23 ?_
      refine z_goto cx (tgt := 28) dX5_isLetter_24 ?_
      refine z_zret cx dX5_isLetter_28 ?_
      exact ⟨rfl, by omega⟩
    · skip
      refine z_iload_n cx dX5_isLetter_17 rfl ?_
      refine z_bipush cx dX5_isLetter_18 ?_
      refine z_icmp_ne cx (tgt := 27) dX5_isLetter_20 (fun h20 => ?_) (fun h20 => ?_)
      · skip
        refine z_iconst cx dX5_isLetter_27 ?_
        refine z_zret cx dX5_isLetter_28 ?_
        exact ⟨rfl, by omega⟩
      · skip
        refine z_iconst cx dX5_isLetter_23 ?_
        refine z_goto cx (tgt := 28) dX5_isLetter_24 ?_
        refine z_zret cx dX5_isLetter_28 ?_
        exact ⟨rfl, by omega⟩
