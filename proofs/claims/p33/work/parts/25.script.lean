set_option maxRecDepth 100000 in
set_option maxHeartbeats 4000000 in
theorem c_X2_rewind {E : En} {G : Wd} : Ctv E yX2_rewind cX2_rewind 1 0 0 [.ref (E.1 3)] G (fun G' => G' = gup G 13 0 0 0) := by
  refine Ctv.mk [some (.ref (E.1 3))] (by decide) rfl (by intro v hv; simp only [List.mem_cons, List.not_mem_nil, or_false] at hv; subst hv; rfl) (Nat.le_of_ble_eq_true rfl) ?_
  intro p l e s m args below meth c cx
  refine z_aload_n cx dX2_rewind_0 rfl ?_
  refine z_iconst cx dX2_rewind_1 ?_
  refine p_X2_2 cx fl_X2_22 dX2_rewind_2 ?_
  refine z_vret cx dX2_rewind_5 ?_
  exact rfl
set_option maxRecDepth 100000 in
set_option maxHeartbeats 4000000 in
theorem c_X2_isDigit {E : En} {G : Wd} {x : Int} (hx : -2147483648 ≤ x ∧ x < 2147483648) : Cti E yX2_isDigit cX2_isDigit 1 .boolean 0 0 [.int (iN x)] G (fun z G' => G' = G ∧ (z = 1 ∧ isDig x ∨ z = 0 ∧ ¬ isDig x)) := by
  refine Cti.mk [some (.int (iN x))] (by decide) rfl (by intro v hv; simp only [List.mem_cons, List.not_mem_nil, or_false] at hv; subst hv; rfl) (Nat.le_of_ble_eq_true rfl) ?_
  intro p l e s m args below meth c cx
  refine z_iload_n cx dX2_isDigit_0 rfl ?_
  refine z_bipush cx dX2_isDigit_1 ?_
  refine z_icmp_lt cx (tgt := 16) dX2_isDigit_3 (fun h3 => ?_) (fun h3 => ?_)
  · skip
    refine z_iconst cx dX2_isDigit_16 ?_
    refine z_zret cx dX2_isDigit_17 ?_
    exact ⟨rfl, by omega⟩
  · skip
    refine z_iload_n cx dX2_isDigit_6 rfl ?_
    refine z_bipush cx dX2_isDigit_7 ?_
    refine z_icmp_gt cx (tgt := 16) dX2_isDigit_9 (fun h9 => ?_) (fun h9 => ?_)
    · skip
      refine z_iconst cx dX2_isDigit_16 ?_
      refine z_zret cx dX2_isDigit_17 ?_
      exact ⟨rfl, by omega⟩
    · skip
      refine z_iconst cx dX2_isDigit_12 ?_
      refine z_goto cx (tgt := 17) dX2_isDigit_13 ?_
      refine z_zret cx dX2_isDigit_17 ?_
      exact ⟨rfl, by omega⟩
set_option maxRecDepth 100000 in
set_option maxHeartbeats 4000000 in
theorem c_X2_isSign {E : En} {G : Wd} {x : Int} (hx : -2147483648 ≤ x ∧ x < 2147483648) : Cti E yX2_isSign cX2_isSign 1 .boolean 0 0 [.int (iN x)] G (fun z G' => G' = G ∧ (z = 1 ∧ isLet x ∨ z = 0 ∧ ¬ isLet x)) := by
  refine Cti.mk [some (.int (iN x))] (by decide) rfl (by intro v hv; simp only [List.mem_cons, List.not_mem_nil, or_false] at hv; subst hv; rfl) (Nat.le_of_ble_eq_true rfl) ?_
  intro p l e s m args below meth c cx
  refine z_iload_n cx dX2_isSign_0 rfl ?_
  refine z_bipush cx dX2_isSign_1 ?_
  refine z_icmp_lt cx (tgt := 12) dX2_isSign_3 (fun h3 => ?_) (fun h3 => ?_)
  · skip
    refine z_iload_n cx dX2_isSign_12 rfl ?_
    refine z_bipush cx dX2_isSign_13 ?_
    refine z_icmp_eq cx (tgt := 24) dX2_isSign_15 (fun h15 => ?_) (fun h15 => ?_)
    · skip
      refine z_iconst cx dX2_isSign_24 ?_
      refine z_goto cx (tgt := 29) dX2_isSign_25 ?_
      refine z_zret cx dX2_isSign_29 ?_
      exact ⟨rfl, by omega⟩
    · skip
      refine z_iload_n cx dX2_isSign_18 rfl ?_
      refine z_bipush cx dX2_isSign_19 ?_
      refine z_icmp_ne cx (tgt := 28) dX2_isSign_21 (fun h21 => ?_) (fun h21 => ?_)
      · skip
        refine z_iconst cx dX2_isSign_28 ?_
        refine z_zret cx dX2_isSign_29 ?_
        exact ⟨rfl, by omega⟩
      · skip
        refine z_iconst cx dX2_isSign_24 ?_
        refine z_goto cx (tgt := 29) dX2_isSign_25 ?_
        refine z_zret cx dX2_isSign_29 ?_
        exact ⟨rfl, by omega⟩
  · skip
    refine z_iload_n cx dX2_isSign_6 rfl ?_
    refine z_bipush cx dX2_isSign_7 ?_
    refine z_icmp_le cx (tgt := 24) dX2_isSign_9 (fun h9 => ?_) (fun h9 => ?_)
    · skip
      refine z_iconst cx dX2_isSign_24 ?_
      refine z_goto cx (tgt := 29) dX2_isSign_25 ?_
      refine z_zret cx dX2_isSign_29 ?_
      exact ⟨rfl, by omega⟩
    · skip
      refine z_iload_n cx dX2_isSign_12 rfl ?_
      refine z_bipush cx dX2_isSign_13 ?_
      refine z_icmp_eq cx (tgt := 24) dX2_isSign_15 (fun h15 => ?_) (fun h15 => ?_)
      · skip
        refine z_iconst cx dX2_isSign_24 ?_
        refine z_goto cx (tgt := 29) dX2_isSign_25 ?_
        refine z_zret cx dX2_isSign_29 ?_
        exact ⟨rfl, by omega⟩
      · skip
        refine z_iload_n cx dX2_isSign_18 rfl ?_
        refine z_bipush cx dX2_isSign_19 ?_
        refine z_icmp_ne cx (tgt := 28) dX2_isSign_21 (fun h21 => ?_) (fun h21 => ?_)
        · skip
          refine z_iconst cx dX2_isSign_28 ?_
          refine z_zret cx dX2_isSign_29 ?_
          exact ⟨rfl, by omega⟩
        · skip
          refine z_iconst cx dX2_isSign_24 ?_
          refine z_goto cx (tgt := 29) dX2_isSign_25 ?_
          refine z_zret cx dX2_isSign_29 ?_
          exact ⟨rfl, by omega⟩
set_option maxRecDepth 100000 in
set_option maxHeartbeats 4000000 in
theorem c_X2_take {E : En} {G : Wd} {sc : List Int} (hs : ScrIs G sc) (hsO : ScOk sc) {i : Nat} {x : Int} (hi : i ≤ sc.length) (h13 : G 13 0 0 = i) (hx : -2147483648 ≤ x ∧ x < 2147483648) : Cti E yX2_take cX2_take 2 .boolean 0 0 [.ref (E.1 3), .int (iN x)] G (fun z G' => z = 1 ∧ at_ sc i x ∧ G' = gup G 13 0 0 ((i : Int) + 1) ∨ z = 0 ∧ ¬ at_ sc i x ∧ G' = G) := by
  have hl80 := hsO.1
  have h12 := hs.1
  refine Cti.mk [some (.ref (E.1 3)), some (.int (iN x))] (by decide) rfl (by intro v hv; simp only [List.mem_cons, List.not_mem_nil, or_false] at hv; rcases hv with rfl | rfl <;> rfl) (Nat.le_of_ble_eq_true rfl) ?_
  intro p l e s m args below meth c cx
  refine z_aload_n cx dX2_take_0 rfl ?_
  refine g_X2_2 cx fl_X2_22 dX2_take_1 ?_
  refine z_aload_n cx dX2_take_4 rfl ?_
  refine g_X2_1 cx fl_X2_30 dX2_take_5 ?_
  refine z_icmp_ge cx (tgt := 24) dX2_take_8 (fun h8 => ?_) (fun h8 => ?_)
  · skip
    refine z_iconst cx dX2_take_24 ?_
    refine z_zret cx dX2_take_25 ?_
    exact Or.inr ⟨rfl, by rintro ⟨w1, w2⟩; omega, rfl⟩
  · skip
    have e11 := hs.2 i (by omega)
    have hc := hsO.2 i (by omega)
    refine z_aload_n cx dX2_take_11 rfl ?_
    refine g_X2_0 cx fl_X2_9 dX2_take_12 ?_
    refine z_aload_n cx dX2_take_15 rfl ?_
    refine g_X2_2 cx fl_X2_22 dX2_take_16 ?_
    refine z_cald cx (i) (by omega) (by omega) (co_chars E _) dX2_take_19 ?_
    refine z_iload_n cx dX2_take_20 rfl ?_
    refine z_icmp_eq cx (tgt := 26) dX2_take_21 (fun h21 => ?_) (fun h21 => ?_)
    · skip
      refine z_aload_n cx dX2_take_26 rfl ?_
      refine z_dup cx dX2_take_27 ?_
      refine g_X2_2 cx fl_X2_22 dX2_take_28 ?_
      rw [h13]
      refine z_iconst cx dX2_take_31 ?_
      refine z_iadd cx dX2_take_32 ?_
      refine p_X2_2 cx fl_X2_22 dX2_take_33 ?_
      refine z_iconst cx dX2_take_36 ?_
      refine z_zret cx dX2_take_37 ?_
      exact Or.inl ⟨rfl, ⟨by omega, by omega⟩, rfl⟩
    · skip
      refine z_iconst cx dX2_take_24 ?_
      refine z_zret cx dX2_take_25 ?_
      exact Or.inr ⟨rfl, by rintro ⟨w1, w2⟩; omega, rfl⟩
set_option maxRecDepth 100000 in
set_option maxHeartbeats 4000000 in
theorem c_X2_readNumber {E : En} {G : Wd} {sc : List Int} (hs : ScrIs G sc) (hsO : ScOk sc) {pos : Nat} (hp : pos ≤ sc.length) (hp13 : G 13 0 0 = pos) : Cti E yX2_readNumber cX2_readNumber 4 .int 1 20 [.ref (E.1 3)] G (fun z G' => z = (numF sc pos (-6)).1 ∧ G' 13 0 0 = ((numF sc pos (-6)).2 : Int) ∧ ∀ f a j, f ≠ 13 → G' f a j = G f a j) := by
  have hl80 := hsO.1
  have h12 := hs.1
  refine Cti.mk [some (.ref (E.1 3)), none, none, none] (by decide) rfl (by intro v hv; simp only [List.mem_cons, List.not_mem_nil, or_false] at hv; subst hv; rfl) (Nat.le_of_ble_eq_true rfl) ?_
  intro p l e s m args below meth c cx
  have L3 : ∀ (n : Nat) (i : Nat) (v : Int) (G1 : Wd), (100 - i) < n → (i ≤ sc.length) → (G1 13 0 0 = i) → (∀ f a j, f ≠ 13 → G1 f a j = G f a j) → (v = -6 ∨ (0 ≤ v ∧ v ≤ 5000)) → (numF sc i v = numF sc pos (-6)) → Z p l e (zr 1 20) s m args below meth c 4 0 0 E (Qi_ E below args s (fun z G' => z = (numF sc pos (-6)).1 ∧ G' 13 0 0 = ((numF sc pos (-6)).2 : Int) ∧ ∀ f a j, f ≠ 13 → G' f a j = G f a j)) G1 3 [some (.ref (E.1 3)), some (.int (iN v)), none, none] [] := by
    intro n
    induction n with
    | zero =>
      intro i v G1 hmu
      exact absurd hmu (Nat.not_lt_zero _)
    | succ n ih =>
      intro i v G1 hmu hi h13 hfr hv hN
      have h121 := hfr 12 0 0 (by decide)
      refine z_aload_n cx dX2_readNumber_3 rfl ?_
      refine g_X2_2 cx fl_X2_22 dX2_readNumber_4 ?_
      refine z_aload_n cx dX2_readNumber_7 rfl ?_
      refine g_X2_1 cx fl_X2_30 dX2_readNumber_8 ?_
      refine z_icmp_ge cx (tgt := 87) dX2_readNumber_11 (fun h11 => ?_) (fun h11 => ?_)
      · skip
        refine z_iload_n cx dX2_readNumber_87 rfl ?_
        refine z_iret cx dX2_readNumber_88 ?_
        have hst : numF sc i v = (v, i) := numF_stop (by
          rintro ⟨w1, w2, w3, w4⟩
          unfold lng at w4
          split at w4 <;> omega)
        rw [← hN, hst]
        exact ⟨rfl, h13, hfr⟩
      · skip
        have e11 := hs.2 i (by omega)
        have e111 := hfr 11 0 i (by decide)
        have hc := hsO.2 i (by omega)
        refine z_aload_n cx dX2_readNumber_14 rfl ?_
        refine g_X2_0 cx fl_X2_9 dX2_readNumber_15 ?_
        refine z_aload_n cx dX2_readNumber_18 rfl ?_
        refine g_X2_2 cx fl_X2_22 dX2_readNumber_19 ?_
        refine z_cald cx (i) (by omega) (by omega) (co_chars E _) dX2_readNumber_22 ?_
        rw [e111, e11]
        refine z_si cx (c_X2_isDigit (by omega)) rfl ms_X2_isDigit ml_X2_49 dX2_readNumber_23 (fun z23 G23 hz23 => ?_)
        obtain ⟨eG, hz23⟩ := hz23
        have eG := eG.symm
        subst eG
        refine z_if_eq cx (tgt := 87) dX2_readNumber_26 (fun h26 => ?_) (fun h26 => ?_)
        · skip
          refine z_iload_n cx dX2_readNumber_87 rfl ?_
          refine z_iret cx dX2_readNumber_88 ?_
          have hst : numF sc i v = (v, i) := numF_stop (by
            rintro ⟨w1, w2, w3, w4⟩
            unfold lng at w4
            split at w4 <;> omega)
          rw [← hN, hst]
          exact ⟨rfl, h13, hfr⟩
        · skip
          refine z_aload_n cx dX2_readNumber_29 rfl ?_
          refine g_X2_0 cx fl_X2_9 dX2_readNumber_30 ?_
          refine z_aload_n cx dX2_readNumber_33 rfl ?_
          refine g_X2_2 cx fl_X2_22 dX2_readNumber_34 ?_
          refine z_cald cx (i) (by omega) (by omega) (co_chars E _) dX2_readNumber_37 ?_
          rw [e111, e11]
          refine z_bipush cx dX2_readNumber_38 ?_
          refine z_isub cx dX2_readNumber_40 ?_
          refine z_istore_n cx dX2_readNumber_41 ?_
          refine z_iload_n cx dX2_readNumber_42 rfl ?_
          refine z_bipush cx dX2_readNumber_43 ?_
          refine z_icmp_ne cx (tgt := 52) dX2_readNumber_45 (fun h45 => ?_) (fun h45 => ?_)
          · skip
            refine z_bipush cx dX2_readNumber_52 ?_
            refine z_iload_n cx dX2_readNumber_54 rfl ?_
            refine z_imul cx dX2_readNumber_55 ?_
            refine z_iload_n cx dX2_readNumber_56 rfl ?_
            refine z_iadd cx dX2_readNumber_57 ?_
            refine z_istore_n cx dX2_readNumber_58 ?_
            refine z_iload_n cx dX2_readNumber_59 rfl ?_
            refine z_if_eq cx (tgt := 70) dX2_readNumber_60 (fun h60 => ?_) (fun h60 => ?_)
            · skip
              refine z_iload_n cx dX2_readNumber_70 rfl ?_
              refine z_iret cx dX2_readNumber_71 ?_
              have hst : numF sc i v = (v, i) := numF_stop (by
                rintro ⟨w1, w2, w3, w4⟩
                unfold lng at w4
                split at w4 <;> omega)
              rw [← hN, hst]
              exact ⟨rfl, h13, hfr⟩
            · skip
              refine z_iload_n cx dX2_readNumber_63 rfl ?_
              refine z_sipush cx dX2_readNumber_64 ?_
              refine z_icmp_le cx (tgt := 72) dX2_readNumber_67 (fun h67 => ?_) (fun h67 => ?_)
              · skip
                have hgo : numC sc i v := ⟨by omega, by omega, by omega, by unfold lng; split <;> omega⟩
                first
                | (have hlng : lng v (sc.getD i 0 - 48) = 10 * v + (sc.getD i 0 - 48) := by
                     unfold lng
                     rw [if_neg (by omega)])
                | (have hlng : lng v (sc.getD i 0 - 48) = sc.getD i 0 - 48 := by
                     unfold lng
                     rw [if_pos (by omega)])
                refine z_iload_n cx dX2_readNumber_72 rfl ?_
                refine z_istore_n cx dX2_readNumber_73 ?_
                refine z_aload_n cx dX2_readNumber_74 rfl ?_
                refine z_dup cx dX2_readNumber_75 ?_
                refine g_X2_2 cx fl_X2_22 dX2_readNumber_76 ?_
                refine z_iconst cx dX2_readNumber_79 ?_
                refine z_iadd cx dX2_readNumber_80 ?_
                refine p_X2_2 cx fl_X2_22 dX2_readNumber_81 ?_
                refine z_goto cx (tgt := 3) dX2_readNumber_84 ?_
                refine Z.locs (ih (i + 1) _ _ (by omega) (by omega) (by rw [gup_s, h13]; rfl) (fun f a j w => (gup_f _ _ _ _ _ _ _ w).trans (hfr f a j w)) (by omega) (by rw [← hN, numF_go hl80 hgo, hlng])) ⟨rfl, rfl, trivial⟩
              · skip
                refine z_iload_n cx dX2_readNumber_70 rfl ?_
                refine z_iret cx dX2_readNumber_71 ?_
                have hst : numF sc i v = (v, i) := numF_stop (by
                  rintro ⟨w1, w2, w3, w4⟩
                  unfold lng at w4
                  split at w4 <;> omega)
                rw [← hN, hst]
                exact ⟨rfl, h13, hfr⟩
          · skip
            refine z_iload_n cx dX2_readNumber_48 rfl ?_
            refine z_goto cx (tgt := 58) dX2_readNumber_49 ?_
            refine z_istore_n cx dX2_readNumber_58 ?_
            refine z_iload_n cx dX2_readNumber_59 rfl ?_
            refine z_if_eq cx (tgt := 70) dX2_readNumber_60 (fun h60 => ?_) (fun h60 => ?_)
            · skip
              refine z_iload_n cx dX2_readNumber_70 rfl ?_
              refine z_iret cx dX2_readNumber_71 ?_
              have hst : numF sc i v = (v, i) := numF_stop (by
                rintro ⟨w1, w2, w3, w4⟩
                unfold lng at w4
                split at w4 <;> omega)
              rw [← hN, hst]
              exact ⟨rfl, h13, hfr⟩
            · skip
              refine z_iload_n cx dX2_readNumber_63 rfl ?_
              refine z_sipush cx dX2_readNumber_64 ?_
              refine z_icmp_le cx (tgt := 72) dX2_readNumber_67 (fun h67 => ?_) (fun h67 => ?_)
              · skip
                have hgo : numC sc i v := ⟨by omega, by omega, by omega, by unfold lng; split <;> omega⟩
                first
                | (have hlng : lng v (sc.getD i 0 - 48) = 10 * v + (sc.getD i 0 - 48) := by
                     unfold lng
                     rw [if_neg (by omega)])
                | (have hlng : lng v (sc.getD i 0 - 48) = sc.getD i 0 - 48 := by
                     unfold lng
                     rw [if_pos (by omega)])
                refine z_iload_n cx dX2_readNumber_72 rfl ?_
                refine z_istore_n cx dX2_readNumber_73 ?_
                refine z_aload_n cx dX2_readNumber_74 rfl ?_
                refine z_dup cx dX2_readNumber_75 ?_
                refine g_X2_2 cx fl_X2_22 dX2_readNumber_76 ?_
                refine z_iconst cx dX2_readNumber_79 ?_
                refine z_iadd cx dX2_readNumber_80 ?_
                refine p_X2_2 cx fl_X2_22 dX2_readNumber_81 ?_
                refine z_goto cx (tgt := 3) dX2_readNumber_84 ?_
                refine Z.locs (ih (i + 1) _ _ (by omega) (by omega) (by rw [gup_s, h13]; rfl) (fun f a j w => (gup_f _ _ _ _ _ _ _ w).trans (hfr f a j w)) (by omega) (by rw [← hN, numF_go hl80 hgo, hlng])) ⟨rfl, rfl, trivial⟩
              · skip
                refine z_iload_n cx dX2_readNumber_70 rfl ?_
                refine z_iret cx dX2_readNumber_71 ?_
                have hst : numF sc i v = (v, i) := numF_stop (by
                  rintro ⟨w1, w2, w3, w4⟩
                  unfold lng at w4
                  split at w4 <;> omega)
                rw [← hN, hst]
                exact ⟨rfl, h13, hfr⟩
  refine z_bipush cx dX2_readNumber_0 ?_
  refine z_istore_n cx dX2_readNumber_2 ?_
  refine Z.locs (L3 _ (pos) (-6) _ (Nat.lt_succ_self _) hp hp13 (fun _ _ _ _ => rfl) (Or.inl rfl) rfl) ⟨rfl, rfl, trivial⟩
set_option maxRecDepth 100000 in
set_option maxHeartbeats 4000000 in
theorem c_X2_mayFollowInText {E : En} {G : Wd} {sc : List Int} (hs : ScrIs G sc) (hsO : ScOk sc) {i tp : Nat} (hi : tp ≤ i ∧ i < sc.length) (h13 : G 13 0 0 = i) (h17 : G 17 0 0 = tp) : Cti E yX2_mayFollowInText cX2_mayFollowInText 3 .boolean 1 20 [.ref (E.1 3), .int (iN (sc.getD i 0))] G (fun z G' => G' = G ∧ (z = 1 ∧ mayF sc tp i ∨ z = 0 ∧ ¬ mayF sc tp i)) := by
  have hl80 := hsO.1
  have h12 := hs.1
  have hc := hsO.2 i hi.2
  refine Cti.mk [some (.ref (E.1 3)), some (.int (iN (sc.getD i 0))), none] (by decide) rfl (by intro v hv; simp only [List.mem_cons, List.not_mem_nil, or_false] at hv; rcases hv with rfl | rfl <;> rfl) (Nat.le_of_ble_eq_true rfl) ?_
  intro p l e s m args below meth c cx
  refine z_aload_n cx dX2_mayFollowInText_0 rfl ?_
  refine g_X2_2 cx fl_X2_22 dX2_mayFollowInText_1 ?_
  refine z_aload_n cx dX2_mayFollowInText_4 rfl ?_
  refine g_X2_6 cx fl_X2_52 dX2_mayFollowInText_5 ?_
  refine z_isub cx dX2_mayFollowInText_8 ?_
  refine z_istore_n cx dX2_mayFollowInText_9 ?_
  refine z_iload_n cx dX2_mayFollowInText_10 rfl ?_
  refine z_bipush cx dX2_mayFollowInText_11 ?_
  refine z_icmp_ne cx (tgt := 48) dX2_mayFollowInText_13 (fun h13 => ?_) (fun h13 => ?_)
  · skip
    refine z_iload_n cx dX2_mayFollowInText_48 rfl ?_
    refine z_bipush cx dX2_mayFollowInText_49 ?_
    refine z_icmp_ge cx (tgt := 65) dX2_mayFollowInText_51 (fun h51 => ?_) (fun h51 => ?_)
    · skip
      refine z_iconst cx dX2_mayFollowInText_65 ?_
      refine z_zret cx dX2_mayFollowInText_66 ?_
      refine ⟨rfl, ?_⟩
      first
      | exact Or.inl ⟨rfl, Or.inl ⟨by omega, by omega, by omega, by omega⟩⟩
      | exact Or.inl ⟨rfl, Or.inr ⟨by omega, by omega, by omega⟩⟩
      | exact Or.inr ⟨rfl, by rintro (⟨w1, w2, w3, w4⟩ | ⟨w1, w2, w3⟩) <;> omega⟩
    · skip
      refine z_iload_n cx dX2_mayFollowInText_54 rfl ?_
      refine z_si cx (c_X2_isSign (by omega)) rfl ms_X2_isSign ml_X2_61 dX2_mayFollowInText_55 (fun z55 G55 hz55 => ?_)
      obtain ⟨eG, hz55⟩ := hz55
      have eG := eG.symm
      subst eG
      refine z_if_eq cx (tgt := 65) dX2_mayFollowInText_58 (fun h58 => ?_) (fun h58 => ?_)
      · skip
        refine z_iconst cx dX2_mayFollowInText_65 ?_
        refine z_zret cx dX2_mayFollowInText_66 ?_
        refine ⟨rfl, ?_⟩
        first
        | exact Or.inl ⟨rfl, Or.inl ⟨by omega, by omega, by omega, by omega⟩⟩
        | exact Or.inl ⟨rfl, Or.inr ⟨by omega, by omega, by omega⟩⟩
        | exact Or.inr ⟨rfl, by rintro (⟨w1, w2, w3, w4⟩ | ⟨w1, w2, w3⟩) <;> omega⟩
      · skip
        refine z_iconst cx dX2_mayFollowInText_61 ?_
        refine z_goto cx (tgt := 66) dX2_mayFollowInText_62 ?_
        refine z_zret cx dX2_mayFollowInText_66 ?_
        refine ⟨rfl, ?_⟩
        first
        | exact Or.inl ⟨rfl, Or.inl ⟨by omega, by omega, by omega, by omega⟩⟩
        | exact Or.inl ⟨rfl, Or.inr ⟨by omega, by omega, by omega⟩⟩
        | exact Or.inr ⟨rfl, by rintro (⟨w1, w2, w3, w4⟩ | ⟨w1, w2, w3⟩) <;> omega⟩
  · skip
    refine z_iload_n cx dX2_mayFollowInText_16 rfl ?_
    refine z_if_le cx (tgt := 46) dX2_mayFollowInText_17 (fun h17 => ?_) (fun h17 => ?_)
    · skip
      refine z_iconst cx dX2_mayFollowInText_46 ?_
      refine z_zret cx dX2_mayFollowInText_47 ?_
      refine ⟨rfl, ?_⟩
      first
      | exact Or.inl ⟨rfl, Or.inl ⟨by omega, by omega, by omega, by omega⟩⟩
      | exact Or.inl ⟨rfl, Or.inr ⟨by omega, by omega, by omega⟩⟩
      | exact Or.inr ⟨rfl, by rintro (⟨w1, w2, w3, w4⟩ | ⟨w1, w2, w3⟩) <;> omega⟩
    · skip
      refine z_iload_n cx dX2_mayFollowInText_20 rfl ?_
      refine z_bipush cx dX2_mayFollowInText_21 ?_
      refine z_icmp_ge cx (tgt := 46) dX2_mayFollowInText_23 (fun h23 => ?_) (fun h23 => ?_)
      · skip
        refine z_iconst cx dX2_mayFollowInText_46 ?_
        refine z_zret cx dX2_mayFollowInText_47 ?_
        refine ⟨rfl, ?_⟩
        first
        | exact Or.inl ⟨rfl, Or.inl ⟨by omega, by omega, by omega, by omega⟩⟩
        | exact Or.inl ⟨rfl, Or.inr ⟨by omega, by omega, by omega⟩⟩
        | exact Or.inr ⟨rfl, by rintro (⟨w1, w2, w3, w4⟩ | ⟨w1, w2, w3⟩) <;> omega⟩
      · skip
        have e11 := hs.2 (i - 1) (by omega)
        have hc1 := hsO.2 (i - 1) (by omega)
        refine z_aload_n cx dX2_mayFollowInText_26 rfl ?_
        refine g_X2_0 cx fl_X2_9 dX2_mayFollowInText_27 ?_
        refine z_aload_n cx dX2_mayFollowInText_30 rfl ?_
        refine g_X2_2 cx fl_X2_22 dX2_mayFollowInText_31 ?_
        refine z_iconst cx dX2_mayFollowInText_34 ?_
        refine z_isub cx dX2_mayFollowInText_35 ?_
        refine z_cald cx (i - 1) (by omega) (by omega) (co_chars E _) dX2_mayFollowInText_36 ?_
        refine z_bipush cx dX2_mayFollowInText_37 ?_
        refine z_icmp_eq cx (tgt := 46) dX2_mayFollowInText_39 (fun h39 => ?_) (fun h39 => ?_)
        · skip
          refine z_iconst cx dX2_mayFollowInText_46 ?_
          refine z_zret cx dX2_mayFollowInText_47 ?_
          refine ⟨rfl, ?_⟩
          first
          | exact Or.inl ⟨rfl, Or.inl ⟨by omega, by omega, by omega, by omega⟩⟩
          | exact Or.inl ⟨rfl, Or.inr ⟨by omega, by omega, by omega⟩⟩
          | exact Or.inr ⟨rfl, by rintro (⟨w1, w2, w3, w4⟩ | ⟨w1, w2, w3⟩) <;> omega⟩
        · skip
          refine z_iconst cx dX2_mayFollowInText_42 ?_
          refine z_goto cx (tgt := 47) dX2_mayFollowInText_43 ?_
          refine z_zret cx dX2_mayFollowInText_47 ?_
          refine ⟨rfl, ?_⟩
          first
          | exact Or.inl ⟨rfl, Or.inl ⟨by omega, by omega, by omega, by omega⟩⟩
          | exact Or.inl ⟨rfl, Or.inr ⟨by omega, by omega, by omega⟩⟩
          | exact Or.inr ⟨rfl, by rintro (⟨w1, w2, w3, w4⟩ | ⟨w1, w2, w3⟩) <;> omega⟩
set_option maxRecDepth 100000 in
set_option maxHeartbeats 4000000 in
theorem c_X2_readText {E : En} {G : Wd} {sc : List Int} (hs : ScrIs G sc) (hsO : ScOk sc) {tp : Nat} (hp : tp ≤ sc.length) (hp13 : G 13 0 0 = tp) : Cti E yX2_readText cX2_readText 1 .boolean 2 42 [.ref (E.1 3)] G (fun z G' => (z = 1 ∧ (tp < txE sc tp tp ∧ sc.getD (txE sc tp tp - 1) 0 ≠ 32) ∨ z = 0 ∧ ¬ (tp < txE sc tp tp ∧ sc.getD (txE sc tp tp - 1) 0 ≠ 32)) ∧ G' 13 0 0 = (txE sc tp tp : Int) ∧ G' 17 0 0 = tp ∧ G' 18 0 0 = (txE sc tp tp : Int) - tp ∧ ∀ f a j, f ≠ 13 → f ≠ 17 → f ≠ 18 → G' f a j = G f a j) := by
  have hl80 := hsO.1
  have h12 := hs.1
  refine Cti.mk [some (.ref (E.1 3))] (by decide) rfl (by intro v hv; simp only [List.mem_cons, List.not_mem_nil, or_false] at hv; subst hv; rfl) (Nat.le_of_ble_eq_true rfl) ?_
  intro p l e s m args below meth c cx
  have L8 : ∀ (n : Nat) (i : Nat) (G1 : Wd), (100 - i) < n → (tp ≤ i ∧ i ≤ sc.length) → (G1 13 0 0 = i) → (G1 17 0 0 = tp) → (∀ f a j, f ≠ 13 → f ≠ 17 → G1 f a j = G f a j) → (txE sc tp i = txE sc tp tp) → Z p l e (zr 2 42) s m args below meth c 1 0 0 E (Qi_ E below args s (fun z G' => (z = 1 ∧ (tp < txE sc tp tp ∧ sc.getD (txE sc tp tp - 1) 0 ≠ 32) ∨ z = 0 ∧ ¬ (tp < txE sc tp tp ∧ sc.getD (txE sc tp tp - 1) 0 ≠ 32)) ∧ G' 13 0 0 = (txE sc tp tp : Int) ∧ G' 17 0 0 = tp ∧ G' 18 0 0 = (txE sc tp tp : Int) - tp ∧ ∀ f a j, f ≠ 13 → f ≠ 17 → f ≠ 18 → G' f a j = G f a j)) G1 8 [some (.ref (E.1 3))] [] := by
    intro n
    induction n with
    | zero =>
      intro i G1 hmu
      exact absurd hmu (Nat.not_lt_zero _)
    | succ n ih =>
      intro i G1 hmu hi h13 h17 hfr hE
      have h121 := hfr 12 0 0 (by decide) (by decide)
      have hs1 : ScrIs G1 sc := hs.of (fun f j w => hfr f 0 j (by omega) (by omega))
      refine z_aload_n cx dX2_readText_8 rfl ?_
      refine g_X2_2 cx fl_X2_22 dX2_readText_9 ?_
      refine z_aload_n cx dX2_readText_12 rfl ?_
      refine g_X2_1 cx fl_X2_30 dX2_readText_13 ?_
      refine z_icmp_ge cx (tgt := 48) dX2_readText_16 (fun h16 => ?_) (fun h16 => ?_)
      · skip
        have hst : txE sc tp i = i := txE_stop (by
          rintro ⟨w1, w2⟩
          first
          | omega
          | (rcases hz29 with ⟨g1, g2⟩ | ⟨g1, g2⟩ <;> first | exact g2 w2 | omega))
        rw [hst] at hE
        refine z_aload_n cx dX2_readText_48 rfl ?_
        refine z_aload_n cx dX2_readText_49 rfl ?_
        refine g_X2_2 cx fl_X2_22 dX2_readText_50 ?_
        refine z_aload_n cx dX2_readText_53 rfl ?_
        refine g_X2_6 cx fl_X2_52 dX2_readText_54 ?_
        refine z_isub cx dX2_readText_57 ?_
        refine p_X2_7 cx fl_X2_58 dX2_readText_58 ?_
        refine z_aload_n cx dX2_readText_61 rfl ?_
        refine g_X2_7 cx fl_X2_58 dX2_readText_62 ?_
        rw [gup_s]
        refine z_if_le cx (tgt := 88) dX2_readText_65 (fun h65 => ?_) (fun h65 => ?_)
        · skip
          refine z_iconst cx dX2_readText_88 ?_
          refine z_zret cx dX2_readText_89 ?_
          rw [← hE]
          refine ⟨?_, ?_, ?_, ?_, fun f a j w1 w2 w3 => ?_⟩
          · first
            | exact Or.inl ⟨rfl, by omega, by omega⟩
            | exact Or.inr ⟨rfl, by rintro ⟨w1, w2⟩; omega⟩
          · rw [gup_f _ _ _ _ _ _ _ (by decide)]
            exact h13
          · rw [gup_f _ _ _ _ _ _ _ (by decide)]
            exact h17
          · rw [gup_s, h13, h17]
          · rw [gup_f _ _ _ _ _ _ _ w3]
            exact hfr f a j w1 w2
        · skip
          have e11 := hs.2 (i - 1) (by omega)
          have e111 := hfr 11 0 (i - 1) (by decide) (by decide)
          have hc := hsO.2 (i - 1) (by omega)
          have hi0 : tp < i := by omega
          refine z_aload_n cx dX2_readText_68 rfl ?_
          refine g_X2_0 cx fl_X2_9 dX2_readText_69 ?_
          refine z_aload_n cx dX2_readText_72 rfl ?_
          refine g_X2_2 cx fl_X2_22 dX2_readText_73 ?_
          rw [gup_f _ _ _ _ _ _ _ (show (13 : Nat) ≠ 18 by decide)]
          refine z_iconst cx dX2_readText_76 ?_
          refine z_isub cx dX2_readText_77 ?_
          refine z_cald cx (i - 1) (by omega) (by omega) (co_chars E _) dX2_readText_78 ?_
          rw [gup_f _ _ _ _ _ _ _ (show (11 : Nat) ≠ 18 by decide), e111, e11]
          refine z_bipush cx dX2_readText_79 ?_
          refine z_icmp_eq cx (tgt := 88) dX2_readText_81 (fun h81 => ?_) (fun h81 => ?_)
          · skip
            refine z_iconst cx dX2_readText_88 ?_
            refine z_zret cx dX2_readText_89 ?_
            rw [← hE]
            refine ⟨?_, ?_, ?_, ?_, fun f a j w1 w2 w3 => ?_⟩
            · first
              | exact Or.inl ⟨rfl, by omega, by omega⟩
              | exact Or.inr ⟨rfl, by rintro ⟨w1, w2⟩; omega⟩
            · rw [gup_f _ _ _ _ _ _ _ (by decide)]
              exact h13
            · rw [gup_f _ _ _ _ _ _ _ (by decide)]
              exact h17
            · rw [gup_s, h13, h17]
            · rw [gup_f _ _ _ _ _ _ _ w3]
              exact hfr f a j w1 w2
          · skip
            refine z_iconst cx dX2_readText_84 ?_
            refine z_goto cx (tgt := 89) dX2_readText_85 ?_
            refine z_zret cx dX2_readText_89 ?_
            rw [← hE]
            refine ⟨?_, ?_, ?_, ?_, fun f a j w1 w2 w3 => ?_⟩
            · first
              | exact Or.inl ⟨rfl, by omega, by omega⟩
              | exact Or.inr ⟨rfl, by rintro ⟨w1, w2⟩; omega⟩
            · rw [gup_f _ _ _ _ _ _ _ (by decide)]
              exact h13
            · rw [gup_f _ _ _ _ _ _ _ (by decide)]
              exact h17
            · rw [gup_s, h13, h17]
            · rw [gup_f _ _ _ _ _ _ _ w3]
              exact hfr f a j w1 w2
      · skip
        have e11 := hs.2 i (by omega)
        have e111 := hfr 11 0 i (by decide) (by decide)
        have hc := hsO.2 i (by omega)
        refine z_aload_n cx dX2_readText_19 rfl ?_
        refine z_aload_n cx dX2_readText_20 rfl ?_
        refine g_X2_0 cx fl_X2_9 dX2_readText_21 ?_
        refine z_aload_n cx dX2_readText_24 rfl ?_
        refine g_X2_2 cx fl_X2_22 dX2_readText_25 ?_
        refine z_cald cx (i) (by omega) (by omega) (co_chars E _) dX2_readText_28 ?_
        rw [e111, e11]
        refine z_vi cx (c_X2_mayFollowInText (i := i) (tp := tp) hs1 hsO (by omega) h13 h17) rfl mv_X2_mayFollowInText ml_X2_55 (by omega) (co_scr E _) rfl dX2_readText_29 (fun z29 G29 hz29 => ?_)
        obtain ⟨eG, hz29⟩ := hz29
        have eG := eG.symm
        subst eG
        refine z_if_eq cx (tgt := 48) dX2_readText_32 (fun h32 => ?_) (fun h32 => ?_)
        · skip
          have hst : txE sc tp i = i := txE_stop (by
            rintro ⟨w1, w2⟩
            first
            | omega
            | (rcases hz29 with ⟨g1, g2⟩ | ⟨g1, g2⟩ <;> first | exact g2 w2 | omega))
          rw [hst] at hE
          refine z_aload_n cx dX2_readText_48 rfl ?_
          refine z_aload_n cx dX2_readText_49 rfl ?_
          refine g_X2_2 cx fl_X2_22 dX2_readText_50 ?_
          refine z_aload_n cx dX2_readText_53 rfl ?_
          refine g_X2_6 cx fl_X2_52 dX2_readText_54 ?_
          refine z_isub cx dX2_readText_57 ?_
          refine p_X2_7 cx fl_X2_58 dX2_readText_58 ?_
          refine z_aload_n cx dX2_readText_61 rfl ?_
          refine g_X2_7 cx fl_X2_58 dX2_readText_62 ?_
          rw [gup_s]
          refine z_if_le cx (tgt := 88) dX2_readText_65 (fun h65 => ?_) (fun h65 => ?_)
          · skip
            refine z_iconst cx dX2_readText_88 ?_
            refine z_zret cx dX2_readText_89 ?_
            rw [← hE]
            refine ⟨?_, ?_, ?_, ?_, fun f a j w1 w2 w3 => ?_⟩
            · first
              | exact Or.inl ⟨rfl, by omega, by omega⟩
              | exact Or.inr ⟨rfl, by rintro ⟨w1, w2⟩; omega⟩
            · rw [gup_f _ _ _ _ _ _ _ (by decide)]
              exact h13
            · rw [gup_f _ _ _ _ _ _ _ (by decide)]
              exact h17
            · rw [gup_s, h13, h17]
            · rw [gup_f _ _ _ _ _ _ _ w3]
              exact hfr f a j w1 w2
          · skip
            have e11 := hs.2 (i - 1) (by omega)
            have e111 := hfr 11 0 (i - 1) (by decide) (by decide)
            have hc := hsO.2 (i - 1) (by omega)
            have hi0 : tp < i := by omega
            refine z_aload_n cx dX2_readText_68 rfl ?_
            refine g_X2_0 cx fl_X2_9 dX2_readText_69 ?_
            refine z_aload_n cx dX2_readText_72 rfl ?_
            refine g_X2_2 cx fl_X2_22 dX2_readText_73 ?_
            rw [gup_f _ _ _ _ _ _ _ (show (13 : Nat) ≠ 18 by decide)]
            refine z_iconst cx dX2_readText_76 ?_
            refine z_isub cx dX2_readText_77 ?_
            refine z_cald cx (i - 1) (by omega) (by omega) (co_chars E _) dX2_readText_78 ?_
            rw [gup_f _ _ _ _ _ _ _ (show (11 : Nat) ≠ 18 by decide), e111, e11]
            refine z_bipush cx dX2_readText_79 ?_
            refine z_icmp_eq cx (tgt := 88) dX2_readText_81 (fun h81 => ?_) (fun h81 => ?_)
            · skip
              refine z_iconst cx dX2_readText_88 ?_
              refine z_zret cx dX2_readText_89 ?_
              rw [← hE]
              refine ⟨?_, ?_, ?_, ?_, fun f a j w1 w2 w3 => ?_⟩
              · first
                | exact Or.inl ⟨rfl, by omega, by omega⟩
                | exact Or.inr ⟨rfl, by rintro ⟨w1, w2⟩; omega⟩
              · rw [gup_f _ _ _ _ _ _ _ (by decide)]
                exact h13
              · rw [gup_f _ _ _ _ _ _ _ (by decide)]
                exact h17
              · rw [gup_s, h13, h17]
              · rw [gup_f _ _ _ _ _ _ _ w3]
                exact hfr f a j w1 w2
            · skip
              refine z_iconst cx dX2_readText_84 ?_
              refine z_goto cx (tgt := 89) dX2_readText_85 ?_
              refine z_zret cx dX2_readText_89 ?_
              rw [← hE]
              refine ⟨?_, ?_, ?_, ?_, fun f a j w1 w2 w3 => ?_⟩
              · first
                | exact Or.inl ⟨rfl, by omega, by omega⟩
                | exact Or.inr ⟨rfl, by rintro ⟨w1, w2⟩; omega⟩
              · rw [gup_f _ _ _ _ _ _ _ (by decide)]
                exact h13
              · rw [gup_f _ _ _ _ _ _ _ (by decide)]
                exact h17
              · rw [gup_s, h13, h17]
              · rw [gup_f _ _ _ _ _ _ _ w3]
                exact hfr f a j w1 w2
        · skip
          refine z_aload_n cx dX2_readText_35 rfl ?_
          refine z_dup cx dX2_readText_36 ?_
          refine g_X2_2 cx fl_X2_22 dX2_readText_37 ?_
          refine z_iconst cx dX2_readText_40 ?_
          refine z_iadd cx dX2_readText_41 ?_
          refine p_X2_2 cx fl_X2_22 dX2_readText_42 ?_
          refine z_goto cx (tgt := 8) dX2_readText_45 ?_
          refine Z.locs (ih (i + 1) _ (by omega) (by omega) (by rw [gup_s, h13]; rfl) (by rw [gup_f _ _ _ _ _ _ _ (by decide)]; exact h17) (fun f a j w w2 => (gup_f _ _ _ _ _ _ _ w).trans (hfr f a j w w2)) (by rw [← hE, txE_go (tp := tp) (i := i) hl80 ⟨by omega, by rcases hz29 with ⟨g1, g2⟩ | ⟨g1, g2⟩ <;> first | exact g2 | (exfalso; omega)⟩])) ⟨rfl, trivial⟩
  refine z_aload_n cx dX2_readText_0 rfl ?_
  refine z_aload_n cx dX2_readText_1 rfl ?_
  refine g_X2_2 cx fl_X2_22 dX2_readText_2 ?_
  refine p_X2_6 cx fl_X2_52 dX2_readText_5 ?_
  refine Z.locs (L8 _ (tp) _ (Nat.lt_succ_self _) (by omega) (by rw [gup_f _ _ _ _ _ _ _ (by decide)]; exact hp13) (by rw [gup_s]; exact hp13) (fun f a j _ w => gup_f _ _ _ _ _ _ _ w) rfl) ⟨rfl, trivial⟩
set_option maxRecDepth 100000 in
set_option maxHeartbeats 4000000 in
theorem c_X2_readEntry {E : En} {G : Wd} {sc : List Int} (hs : ScrIs G sc) (hsO : ScOk sc) {pos : Nat} (hp : pos ≤ sc.length) (hp13 : G 13 0 0 = pos) : Cti E yX2_readEntry cX2_readEntry 1 .boolean 3 62 [.ref (E.1 3)] G (fun z G' => (z = 1 ∧ (ent sc pos).1 = 1 ∧ G' 14 0 0 = pos ∧ G' 15 0 0 = (ent sc pos).2.2.1 ∧ G' 16 0 0 = (ent sc pos).2.2.2.1 ∧ G' 17 0 0 = ((ent sc pos).2.2.2.2 : Int) ∧ G' 18 0 0 = ((ent sc pos).2.1 : Int) - ((ent sc pos).2.2.2.2 : Int) ∨ z = 0 ∧ (ent sc pos).1 = 0) ∧ G' 13 0 0 = ((ent sc pos).2.1 : Int) ∧ ∀ f a j, ¬ (13 ≤ f ∧ f ≤ 18) → G' f a j = G f a j) := by
  have hl80 := hsO.1
  have h12 := hs.1
  obtain ⟨va, p1, ha⟩ : ∃ a p1, numF sc pos (-6) = (a, p1) := ⟨_, _, rfl⟩
  have b1 := numF_b hl80 _ pos (-6) (Nat.le_refl _) hp (Or.inl rfl)
  rw [ha] at b1
  dsimp only at b1
  refine Cti.mk [some (.ref (E.1 3))] (by decide) rfl (by intro v hv; simp only [List.mem_cons, List.not_mem_nil, or_false] at hv; subst hv; rfl) (Nat.le_of_ble_eq_true rfl) ?_
  intro p l e s m args below meth c cx
  have L64 : ∀ (p2 : Nat) (vb : Int) (G1 : Wd), (va ≠ -6) → (at_ sc p1 45) → (numF sc (p1 + 1) (-6) = (vb, p2)) → (vb ≠ -6) → (at_ sc p2 58) → (G1 13 0 0 = (p2 : Int) + 1) → (G1 14 0 0 = pos) → (G1 15 0 0 = va) → (G1 16 0 0 = vb) → (∀ f a j, ¬ (13 ≤ f ∧ f ≤ 18) → G1 f a j = G f a j) → Z p l e (zr 3 62) s m args below meth c 1 0 0 E (Qi_ E below args s (fun z G' => (z = 1 ∧ (ent sc pos).1 = 1 ∧ G' 14 0 0 = pos ∧ G' 15 0 0 = (ent sc pos).2.2.1 ∧ G' 16 0 0 = (ent sc pos).2.2.2.1 ∧ G' 17 0 0 = ((ent sc pos).2.2.2.2 : Int) ∧ G' 18 0 0 = ((ent sc pos).2.1 : Int) - ((ent sc pos).2.2.2.2 : Int) ∨ z = 0 ∧ (ent sc pos).1 = 0) ∧ G' 13 0 0 = ((ent sc pos).2.1 : Int) ∧ ∀ f a j, ¬ (13 ≤ f ∧ f ≤ 18) → G' f a j = G f a j)) G1 64 [some (.ref (E.1 3))] [] := by
    intro p2 vb G1 ha1 hat hb hb1 hat2 g13 g14 g15 g16 gf
    have hs65 : ScrIs G1 sc := hs.of (fun f j w => gf f 0 j (by omega))
    refine z_aload_n cx dX2_readEntry_64 rfl ?_
    refine z_vi cx (c_X2_readText (tp := p2 + 1) (sc := sc) hs65 hsO hat2.1 (by omega)) rfl mv_X2_readText ml_X2_46 (by omega) (co_scr E _) rfl dX2_readEntry_65 (fun z65 G65 hz65 => ?_)
    have h01 : z65 = 0 ∨ z65 = 1 := by rcases hz65.1 with ⟨w, _⟩ | ⟨w, _⟩ <;> omega
    refine z_zret cx dX2_readEntry_68 ?_
    obtain ⟨h65, h6513, h6517, h6518, h65f⟩ := hz65
    rcases h65 with ⟨w1, w2⟩ | ⟨w1, w2⟩
    · have hen := ent_5 ha ha1 hat hb hb1 hat2 w2
      rw [hen]
      exact ⟨Or.inl ⟨w1, rfl, by rw [h65f _ _ _ (by decide) (by decide) (by decide)]; exact g14, by rw [h65f _ _ _ (by decide) (by decide) (by decide)]; exact g15, by rw [h65f _ _ _ (by decide) (by decide) (by decide)]; exact g16, h6517, h6518⟩, h6513, fun f a j w => by rw [h65f _ _ _ (by omega) (by omega) (by omega)]; exact gf f a j w⟩
    · have hen := ent_6 ha ha1 hat hb hb1 hat2 w2
      rw [hen]
      exact ⟨Or.inr ⟨w1, rfl⟩, h6513, fun f a j w => by rw [h65f _ _ _ (by omega) (by omega) (by omega)]; exact gf f a j w⟩
  have L36 : ∀ (G1 : Wd), (va ≠ -6) → (at_ sc p1 45) → (G1 13 0 0 = (p1 : Int) + 1) → (G1 14 0 0 = pos) → (G1 15 0 0 = va) → (∀ f a j, ¬ (13 ≤ f ∧ f ≤ 18) → G1 f a j = G f a j) → Z p l e (zr 3 62) s m args below meth c 1 0 0 E (Qi_ E below args s (fun z G' => (z = 1 ∧ (ent sc pos).1 = 1 ∧ G' 14 0 0 = pos ∧ G' 15 0 0 = (ent sc pos).2.2.1 ∧ G' 16 0 0 = (ent sc pos).2.2.2.1 ∧ G' 17 0 0 = ((ent sc pos).2.2.2.2 : Int) ∧ G' 18 0 0 = ((ent sc pos).2.1 : Int) - ((ent sc pos).2.2.2.2 : Int) ∨ z = 0 ∧ (ent sc pos).1 = 0) ∧ G' 13 0 0 = ((ent sc pos).2.1 : Int) ∧ ∀ f a j, ¬ (13 ≤ f ∧ f ≤ 18) → G' f a j = G f a j)) G1 36 [some (.ref (E.1 3))] [] := by
    intro G1 ha1 hat g13 g14 g15 gf
    have hs38 : ScrIs G1 sc := hs.of (fun f j w => gf f 0 j (by omega))
    obtain ⟨vb, p2, hb⟩ : ∃ b p2, numF sc (p1 + 1) (-6) = (b, p2) := ⟨_, _, rfl⟩
    have b2 := numF_b hl80 _ (p1 + 1) (-6) (Nat.le_refl _) hat.1 (Or.inl rfl)
    rw [hb] at b2
    dsimp only at b2
    refine z_aload_n cx dX2_readEntry_36 rfl ?_
    refine z_aload_n cx dX2_readEntry_37 rfl ?_
    refine z_vi cx (c_X2_readNumber (pos := p1 + 1) (sc := sc) hs38 hsO hat.1 (by omega)) rfl mv_X2_readNumber ml_X2_36 (by omega) (co_scr E _) rfl dX2_readEntry_38 (fun z38 G38 hz38 => ?_)
    rw [hb] at hz38
    dsimp only at hz38
    obtain ⟨hz38v, hz38b⟩ := id hz38
    subst hz38v
    refine p_X2_5 cx fl_X2_43 dX2_readEntry_41 ?_
    refine z_aload_n cx dX2_readEntry_44 rfl ?_
    refine g_X2_5 cx fl_X2_43 dX2_readEntry_45 ?_
    rw [gup_s]
    refine z_bipush cx dX2_readEntry_48 ?_
    refine z_icmp_eq cx (tgt := 62) dX2_readEntry_50 (fun h50 => ?_) (fun h50 => ?_)
    · skip
      refine z_iconst cx dX2_readEntry_62 ?_
      refine z_zret cx dX2_readEntry_63 ?_
      first
      | (have hen := ent_3 ha ha1 hat (show numF sc (p1 + 1) (-6) = (-6, p2) by rw [hb]; simp only [Prod.mk.injEq, and_true]; omega)
         rw [hen]
         exact ⟨Or.inr ⟨rfl, rfl⟩, by rw [gup_f _ _ _ _ _ _ _ (by decide)]; exact hz38.2.1, fun f a j w => by rw [gup_f _ _ _ _ _ _ _ (by omega), hz38.2.2 _ _ _ (by omega)]; exact gf f a j w⟩)
      | (have hen := ent_4 ha ha1 hat hb (by omega) hat2
         rw [hen, hG56]
         dsimp only
         exact ⟨Or.inr ⟨rfl, rfl⟩, by rw [gup_f _ _ _ _ _ _ _ (by decide)]; exact hz38.2.1, fun f a j w => by rw [gup_f _ _ _ _ _ _ _ (by omega), hz38.2.2 _ _ _ (by omega)]; exact gf f a j w⟩)
    · skip
      refine z_aload_n cx dX2_readEntry_53 rfl ?_
      refine z_bipush cx dX2_readEntry_54 ?_
      refine z_vi cx (c_X2_take (i := p2) (x := 58) (sc := sc) (hs38.of (fun f j w => (gup_f _ _ _ _ _ _ _ (by omega)).trans (hz38.2.2 f 0 j (by omega)))) hsO b2.2.2.1 ((gup_f _ _ _ _ _ _ _ (by decide)).trans hz38.2.1) (by omega)) rfl mv_X2_take ml_X2_26 (by omega) (co_scr E _) rfl dX2_readEntry_56 (fun z56 G56 hz56 => ?_)
      refine z_if_ne cx (tgt := 64) dX2_readEntry_59 (fun h59 => ?_) (fun h59 => ?_)
      · skip
        obtain ⟨hat2, hG56⟩ : at_ sc p2 58 ∧ _ := by
          rcases hz56 with ⟨_, w1, w2⟩ | ⟨w, _⟩
          · exact ⟨w1, w2⟩
          · exact absurd w h59
        refine Z.locs (L64 (p2) (z38) _ ha1 hat hb (by omega) hat2 (by rw [hG56, gup_s]) (by rw [hG56, gup_f _ _ _ _ _ _ _ (by decide), gup_f _ _ _ _ _ _ _ (by decide), hz38.2.2 _ _ _ (by decide)]; exact g14) (by rw [hG56, gup_f _ _ _ _ _ _ _ (by decide), gup_f _ _ _ _ _ _ _ (by decide), hz38.2.2 _ _ _ (by decide)]; exact g15) (by rw [hG56, gup_f _ _ _ _ _ _ _ (by decide), gup_s]) (fun f a j w => by rw [hG56, gup_f _ _ _ _ _ _ _ (by omega), gup_f _ _ _ _ _ _ _ (by omega), hz38.2.2 _ _ _ (by omega)]; exact gf f a j w)) ⟨rfl, trivial⟩
      · skip
        obtain ⟨hat2, hG56⟩ : ¬ at_ sc p2 58 ∧ _ := by
          rcases hz56 with ⟨w, _⟩ | ⟨_, w1, w2⟩
          · exfalso; omega
          · exact ⟨w1, w2⟩
        refine z_iconst cx dX2_readEntry_62 ?_
        refine z_zret cx dX2_readEntry_63 ?_
        first
        | (have hen := ent_3 ha ha1 hat (show numF sc (p1 + 1) (-6) = (-6, p2) by rw [hb]; simp only [Prod.mk.injEq, and_true]; omega)
           rw [hen]
           exact ⟨Or.inr ⟨rfl, rfl⟩, by rw [gup_f _ _ _ _ _ _ _ (by decide)]; exact hz38.2.1, fun f a j w => by rw [gup_f _ _ _ _ _ _ _ (by omega), hz38.2.2 _ _ _ (by omega)]; exact gf f a j w⟩)
        | (have hen := ent_4 ha ha1 hat hb (by omega) hat2
           rw [hen, hG56]
           dsimp only
           exact ⟨Or.inr ⟨rfl, rfl⟩, by rw [gup_f _ _ _ _ _ _ _ (by decide)]; exact hz38.2.1, fun f a j w => by rw [gup_f _ _ _ _ _ _ _ (by omega), hz38.2.2 _ _ _ (by omega)]; exact gf f a j w⟩)
  refine z_aload_n cx dX2_readEntry_0 rfl ?_
  refine z_aload_n cx dX2_readEntry_1 rfl ?_
  refine g_X2_2 cx fl_X2_22 dX2_readEntry_2 ?_
  refine p_X2_3 cx fl_X2_33 dX2_readEntry_5 ?_
  refine z_aload_n cx dX2_readEntry_8 rfl ?_
  refine z_aload_n cx dX2_readEntry_9 rfl ?_
  refine z_vi cx (c_X2_readNumber (pos := pos) (sc := sc) (hs.of (fun f j w => gup_f _ _ _ _ _ _ _ (by omega))) hsO hp ((gup_f _ _ _ _ _ _ _ (by decide)).trans hp13)) rfl mv_X2_readNumber ml_X2_36 (by omega) (co_scr E _) rfl dX2_readEntry_10 (fun z10 G10 hz10 => ?_)
  rw [ha] at hz10
  dsimp only at hz10
  obtain ⟨hz10v, hz10b⟩ := id hz10
  subst hz10v
  refine p_X2_4 cx fl_X2_40 dX2_readEntry_13 ?_
  refine z_aload_n cx dX2_readEntry_16 rfl ?_
  refine g_X2_4 cx fl_X2_40 dX2_readEntry_17 ?_
  rw [gup_s]
  refine z_bipush cx dX2_readEntry_20 ?_
  refine z_icmp_eq cx (tgt := 34) dX2_readEntry_22 (fun h22 => ?_) (fun h22 => ?_)
  · skip
    refine z_iconst cx dX2_readEntry_34 ?_
    refine z_zret cx dX2_readEntry_35 ?_
    first
    | (have hen := ent_1 (show numF sc pos (-6) = (-6, p1) by rw [ha]; simp only [Prod.mk.injEq, and_true]; omega)
       rw [hen]
       exact ⟨Or.inr ⟨rfl, rfl⟩, by rw [gup_f _ _ _ _ _ _ _ (by decide)]; exact hz10.2.1, fun f a j w => by rw [gup_f _ _ _ _ _ _ _ (by omega), hz10.2.2 _ _ _ (by omega), gup_f _ _ _ _ _ _ _ (by omega)]⟩)
    | (have hen := ent_2 ha (by omega) hat
       rw [hen, hG28]
       dsimp only
       exact ⟨Or.inr ⟨rfl, rfl⟩, by rw [gup_f _ _ _ _ _ _ _ (by decide)]; exact hz10.2.1, fun f a j w => by rw [gup_f _ _ _ _ _ _ _ (by omega), hz10.2.2 _ _ _ (by omega), gup_f _ _ _ _ _ _ _ (by omega)]⟩)
  · skip
    refine z_aload_n cx dX2_readEntry_25 rfl ?_
    refine z_bipush cx dX2_readEntry_26 ?_
    refine z_vi cx (c_X2_take (i := p1) (x := 45) (sc := sc) (hs.of (fun f j w => (gup_f _ _ _ _ _ _ _ (by omega)).trans ((hz10.2.2 f 0 j (by omega)).trans (gup_f _ _ _ _ _ _ _ (by omega))))) hsO b1.2.2.1 ((gup_f _ _ _ _ _ _ _ (by decide)).trans hz10.2.1) (by omega)) rfl mv_X2_take ml_X2_26 (by omega) (co_scr E _) rfl dX2_readEntry_28 (fun z28 G28 hz28 => ?_)
    refine z_if_ne cx (tgt := 36) dX2_readEntry_31 (fun h31 => ?_) (fun h31 => ?_)
    · skip
      obtain ⟨hat, hG28⟩ : at_ sc p1 45 ∧ _ := by
        rcases hz28 with ⟨_, w1, w2⟩ | ⟨w, _⟩
        · exact ⟨w1, w2⟩
        · exact absurd w h31
      refine Z.locs (L36 _ (by omega) hat (by rw [hG28, gup_s]) (by rw [hG28, gup_f _ _ _ _ _ _ _ (by decide), gup_f _ _ _ _ _ _ _ (by decide), hz10.2.2 _ _ _ (by decide), gup_s]; exact hp13) (by rw [hG28, gup_f _ _ _ _ _ _ _ (by decide), gup_s]) (fun f a j w => by rw [hG28, gup_f _ _ _ _ _ _ _ (by omega), gup_f _ _ _ _ _ _ _ (by omega), hz10.2.2 _ _ _ (by omega), gup_f _ _ _ _ _ _ _ (by omega)])) ⟨rfl, trivial⟩
    · skip
      obtain ⟨hat, hG28⟩ : ¬ at_ sc p1 45 ∧ _ := by
        rcases hz28 with ⟨w, _⟩ | ⟨_, w1, w2⟩
        · exfalso; omega
        · exact ⟨w1, w2⟩
      refine z_iconst cx dX2_readEntry_34 ?_
      refine z_zret cx dX2_readEntry_35 ?_
      first
      | (have hen := ent_1 (show numF sc pos (-6) = (-6, p1) by rw [ha]; simp only [Prod.mk.injEq, and_true]; omega)
         rw [hen]
         exact ⟨Or.inr ⟨rfl, rfl⟩, by rw [gup_f _ _ _ _ _ _ _ (by decide)]; exact hz10.2.1, fun f a j w => by rw [gup_f _ _ _ _ _ _ _ (by omega), hz10.2.2 _ _ _ (by omega), gup_f _ _ _ _ _ _ _ (by omega)]⟩)
      | (have hen := ent_2 ha (by omega) hat
         rw [hen, hG28]
         dsimp only
         exact ⟨Or.inr ⟨rfl, rfl⟩, by rw [gup_f _ _ _ _ _ _ _ (by decide)]; exact hz10.2.1, fun f a j w => by rw [gup_f _ _ _ _ _ _ _ (by omega), hz10.2.2 _ _ _ (by omega), gup_f _ _ _ _ _ _ _ (by omega)]⟩)
set_option maxRecDepth 100000 in
set_option maxHeartbeats 4000000 in
theorem c_X2_findFault {E : En} {G : Wd} {sc : List Int} (hs : ScrIs G sc) (hsO : ScOk sc) : Cti E yX2_findFault cX2_findFault 2 .int 4 82 [.ref (E.1 3)] G (fun z G' => z = faultS sc ∧ ∀ f a j, ¬ (13 ≤ f ∧ f ≤ 18) → G' f a j = G f a j) := by
  have hl80 := hsO.1
  have h12 := hs.1
  refine Cti.mk [some (.ref (E.1 3)), none] (by decide) rfl (by intro v hv; simp only [List.mem_cons, List.not_mem_nil, or_false] at hv; subst hv; rfl) (Nat.le_of_ble_eq_true rfl) ?_
  intro p l e s m args below meth c cx
  have L6 : ∀ (n : Nat) (i pos : Nat) (G1 : Wd), (100 - i) < n → (i ≤ pos ∧ pos ≤ sc.length) → (G1 13 0 0 = pos) → (∀ f a j, ¬ (13 ≤ f ∧ f ≤ 18) → G1 f a j = G f a j) → (fltF sc (81 - i) pos = faultS sc) → Z p l e (zr 4 82) s m args below meth c 2 0 0 E (Qi_ E below args s (fun z G' => z = faultS sc ∧ ∀ f a j, ¬ (13 ≤ f ∧ f ≤ 18) → G' f a j = G f a j)) G1 6 [some (.ref (E.1 3)), some (.int (iN (i : Int)))] [] := by
    intro n
    induction n with
    | zero =>
      intro i pos G1 hmu
      exact absurd hmu (Nat.not_lt_zero _)
    | succ n ih =>
      intro i pos G1 hmu hi h13 gf hF
      have hs1 : ScrIs G1 sc := hs.of (fun f j w => gf f 0 j (by omega))
      have hok := ent_ok hsO hi.2
      rw [show 81 - i = (81 - (i + 1)) + 1 by omega, fltF_s] at hF
      refine z_iload_n cx dX2_findFault_6 rfl ?_
      refine z_bipush cx dX2_findFault_7 ?_
      refine z_icmp_gt cx (tgt := 42) dX2_findFault_9 (fun h9 => ?_) (fun h9 => ?_)
      · skip
        exfalso; omega
      · skip
        refine z_aload_n cx dX2_findFault_12 rfl ?_
        refine z_vi cx (c_X2_readEntry (pos := pos) hs1 hsO hi.2 h13) rfl mv_X2_readEntry ml_X2_18 (by omega) (co_scr E _) rfl dX2_findFault_13 (fun z13 G13 hz13 => ?_)
        refine z_if_ne cx (tgt := 24) dX2_findFault_16 (fun h16 => ?_) (fun h16 => ?_)
        · skip
          have he1 : (ent sc pos).1 = 1 := by
            rcases hz13.1 with ⟨_, w, _⟩ | ⟨w, _⟩
            · exact w
            · exact absurd w h16
          have hs13 : ScrIs G13 sc := hs1.of (fun f j w => hz13.2.2 f 0 j (by omega))
          refine z_aload_n cx dX2_findFault_24 rfl ?_
          refine z_bipush cx dX2_findFault_25 ?_
          refine z_vi cx (c_X2_take (i := (ent sc pos).2.1) (x := 124) (sc := sc) hs13 hsO hok.2.2.1 hz13.2.1 (by omega)) rfl mv_X2_take ml_X2_26 (by omega) (co_scr E _) rfl dX2_findFault_27 (fun z27 G27 hz27 => ?_)
          refine z_if_ne cx (tgt := 36) dX2_findFault_30 (fun h30 => ?_) (fun h30 => ?_)
          · skip
            obtain ⟨hat, hG27⟩ : at_ sc (ent sc pos).2.1 124 ∧ _ := by
              rcases hz27 with ⟨_, w1, w2⟩ | ⟨w, _⟩
              · exact ⟨w1, w2⟩
              · exact absurd w h30
            refine z_iinc cx dX2_findFault_36 rfl ?_
            refine z_goto cx (tgt := 6) dX2_findFault_39 ?_
            refine Z.locs (ih (i + 1) ((ent sc pos).2.1 + 1) _ (by omega) ⟨by have := (hok.2.2.2 he1).1; omega, hat.1⟩ (by rw [hG27, gup_s]; rfl) (fun f a j w => by rw [hG27, gup_f _ _ _ _ _ _ _ (by omega), hz13.2.2 f a j w]; exact gf f a j w) (by rw [← hF, if_neg (by omega), if_pos hat])) ⟨rfl, rfl, trivial⟩
          · skip
            obtain ⟨hat, hG27⟩ : ¬ at_ sc (ent sc pos).2.1 124 ∧ _ := by
              rcases hz27 with ⟨w, _⟩ | ⟨_, w1, w2⟩
              · exfalso; omega
              · exact ⟨w1, w2⟩
            have h1327 : G27 13 0 0 = ((ent sc pos).2.1 : Int) := by rw [hG27]; exact hz13.2.1
            have h1227 : G27 12 0 0 = (sc.length : Int) := by rw [hG27]; exact hs13.1
            refine z_goto cx (tgt := 42) dX2_findFault_33 ?_
            refine z_aload_n cx dX2_findFault_42 rfl ?_
            refine g_X2_2 cx fl_X2_22 dX2_findFault_43 ?_
            refine z_aload_n cx dX2_findFault_46 rfl ?_
            refine g_X2_1 cx fl_X2_30 dX2_findFault_47 ?_
            refine z_icmp_ge cx (tgt := 60) dX2_findFault_50 (fun h50 => ?_) (fun h50 => ?_)
            · skip
              refine z_bipush cx dX2_findFault_60 ?_
              refine z_iret cx dX2_findFault_62 ?_
              rw [if_neg (by omega), if_neg hat, if_neg (by omega)] at hF
              refine ⟨by rw [hF], fun f a j w => by rw [hG27, hz13.2.2 f a j w]; exact gf f a j w⟩
            · skip
              refine z_aload_n cx dX2_findFault_53 rfl ?_
              refine g_X2_2 cx fl_X2_22 dX2_findFault_54 ?_
              refine z_goto cx (tgt := 62) dX2_findFault_57 ?_
              refine z_iret cx dX2_findFault_62 ?_
              rw [if_neg (by omega), if_neg hat, if_pos (by omega)] at hF
              refine ⟨by rw [h1327, hF], fun f a j w => by rw [hG27, hz13.2.2 f a j w]; exact gf f a j w⟩
        · skip
          have he0 : (ent sc pos).1 = 0 := by
            rcases hz13.1 with ⟨w, _⟩ | ⟨_, w⟩
            · exfalso; omega
            · exact w
          refine z_aload_n cx dX2_findFault_19 rfl ?_
          have hpl := hz13.2.1
          refine g_X2_2 cx fl_X2_22 dX2_findFault_20 ?_
          refine z_iret cx dX2_findFault_23 ?_
          rw [if_pos he0] at hF
          refine ⟨?_, fun f a j w => by rw [hz13.2.2 f a j w]; exact gf f a j w⟩
          rw [hz13.2.1, hF]
  refine z_aload_n cx dX2_findFault_0 rfl ?_
  refine z_vv cx (c_X2_rewind) rfl mv_X2_rewind ml_X2_15 (by omega) (co_scr E _) rfl dX2_findFault_1 (fun G1 hz1 => ?_)
  refine z_iconst cx dX2_findFault_4 ?_
  refine z_istore_n cx dX2_findFault_5 ?_
  refine Z.locs (L6 _ (0) (0) _ (Nat.lt_succ_self _) (by omega) (by rw [hz1, gup_s]; rfl) (fun f a j w => by rw [hz1, gup_f _ _ _ _ _ _ _ (by omega)]) rfl) ⟨rfl, rfl, trivial⟩
