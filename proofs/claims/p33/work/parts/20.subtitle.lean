set_option maxRecDepth 100000 in
set_option maxHeartbeats 4000000 in
theorem c_X3_frames {E : En} {G : Wd} {k : Nat} (hk : k < 120) : Cti E yX3_frames cX3_frames 1 .int 0 0 [.ref (E.1 (38 + k))] G (fun z G' => G' = G ∧ z = G 6 k 0 - G 5 k 0) := by
  refine Cti.mk [some (.ref (E.1 (38 + k)))] (by decide) rfl (by intro v hv; simp only [List.mem_cons, List.not_mem_nil, or_false] at hv; subst hv; rfl) (Nat.le_of_ble_eq_true rfl) ?_
  intro p l e s m args below meth c cx
  refine z_aload_n cx dX3_frames_0 rfl ?_
  refine g_X3_1 cx (by omega) fl_X3_19 dX3_frames_1 ?_
  refine z_aload_n cx dX3_frames_4 rfl ?_
  refine g_X3_0 cx (by omega) fl_X3_15 dX3_frames_5 ?_
  refine z_isub cx dX3_frames_8 ?_
  refine z_iret cx dX3_frames_9 ?_
  exact ⟨rfl, rfl⟩
set_option maxRecDepth 100000 in
set_option maxHeartbeats 4000000 in
theorem c_X3_isTooFastFor {E : En} {G : Wd} {k : Nat} {x : Int} {S : Sb} (hk : k < 120) (hS : SubIs G k S) (hO : SbOk S) (hx : 0 ≤ x ∧ x ≤ 100) : Cti E yX3_isTooFastFor cX3_isTooFastFor 2 .boolean 1 20 [.ref (E.1 (38 + k)), .int (iN x)] G (fun z G' => G' = G ∧ (z = 1 ∧ fast S x ∨ z = 0 ∧ ¬ fast S x)) := by
  have e5 := hS.1
  have e6 := hS.2.1
  have eL := hS.2.2.1
  have hO1 := hO.1
  have hO2 := hO.2.1
  have hO3 := hO.2.2.1
  have hT1 := hO.2.2.2.1
  have hT2 := hO.2.2.2.2.1
  have hm : 0 ≤ x * (G 6 k 0 - G 5 k 0) ∧ x * (G 6 k 0 - G 5 k 0) ≤ 500000 := by
    have h1 := Int.mul_le_mul hx.2 (show G 6 k 0 - G 5 k 0 ≤ 5000 by omega) (show 0 ≤ G 6 k 0 - G 5 k 0 by omega) (by omega)
    have h2 := Int.mul_nonneg hx.1 (show 0 ≤ G 6 k 0 - G 5 k 0 by omega)
    omega
  refine Cti.mk [some (.ref (E.1 (38 + k))), some (.int (iN x))] (by decide) rfl (by intro v hv; simp only [List.mem_cons, List.not_mem_nil, or_false] at hv; rcases hv with rfl | rfl <;> rfl) (Nat.le_of_ble_eq_true rfl) ?_
  intro p l e s m args below meth c cx
  refine z_bipush cx dX3_isTooFastFor_0 ?_
  refine z_aload_n cx dX3_isTooFastFor_2 rfl ?_
  refine g_X3_2 cx (by omega) fl_X3_22 dX3_isTooFastFor_3 ?_
  refine z_imul cx dX3_isTooFastFor_6 ?_
  refine z_iload_n cx dX3_isTooFastFor_7 rfl ?_
  refine z_aload_n cx dX3_isTooFastFor_8 rfl ?_
  refine z_vi cx (c_X3_frames hk) rfl mv_X3_frames ml_X3_35 (by omega) (co_sub E _ (by omega)) rfl dX3_isTooFastFor_9 (fun z9 G9 hz9 => ?_)
  obtain ⟨eG, rfl⟩ := hz9
  have eG := eG.symm
  subst eG
  refine z_imul cx dX3_isTooFastFor_12 ?_
  refine z_icmp_le cx (tgt := 20) dX3_isTooFastFor_13 (fun h13 => ?_) (fun h13 => ?_)
  · skip
    refine z_iconst cx dX3_isTooFastFor_20 ?_
    refine z_zret cx dX3_isTooFastFor_21 ?_
    refine ⟨rfl, ?_⟩
    unfold fast
    rw [← e5, ← e6, ← eL]
    omega
  · skip
    refine z_iconst cx dX3_isTooFastFor_16 ?_
    refine z_goto cx (tgt := 21) dX3_isTooFastFor_17 ?_
    refine z_zret cx dX3_isTooFastFor_21 ?_
    refine ⟨rfl, ?_⟩
    unfold fast
    rw [← e5, ← e6, ← eL]
    omega
set_option maxRecDepth 100000 in
set_option maxHeartbeats 4000000 in
theorem c_X3_kindOfBlankBehind {E : En} {G : Wd} {x : Int} (hx : -2147483648 ≤ x ∧ x < 2147483648) : Cti E yX3_kindOfBlankBehind cX3_kindOfBlankBehind 1 .int 0 0 [.int (iN x)] G (fun z G' => G' = G ∧ z = kindB x) := by
  refine Cti.mk [some (.int (iN x))] (by decide) rfl (by intro v hv; simp only [List.mem_cons, List.not_mem_nil, or_false] at hv; subst hv; rfl) (Nat.le_of_ble_eq_true rfl) ?_
  intro p l e s m args below meth c cx
  refine z_iload_n cx dX3_kindOfBlankBehind_0 rfl ?_
  refine z_bipush cx dX3_kindOfBlankBehind_1 ?_
  refine z_icmp_ne cx (tgt := 8) dX3_kindOfBlankBehind_3 (fun h3 => ?_) (fun h3 => ?_)
  · skip
    refine z_iload_n cx dX3_kindOfBlankBehind_8 rfl ?_
    refine z_bipush cx dX3_kindOfBlankBehind_9 ?_
    refine z_icmp_ne cx (tgt := 18) dX3_kindOfBlankBehind_11 (fun h11 => ?_) (fun h11 => ?_)
    · skip
      refine z_iconst cx dX3_kindOfBlankBehind_18 ?_
      refine z_iret cx dX3_kindOfBlankBehind_19 ?_
      refine ⟨rfl, ?_⟩
      unfold kindB
      rw [if_neg h3]
      first | (rw [if_pos h11]; done) | (rw [if_neg h11])
    · skip
      refine z_iconst cx dX3_kindOfBlankBehind_14 ?_
      refine z_goto cx (tgt := 19) dX3_kindOfBlankBehind_15 ?_
      refine z_iret cx dX3_kindOfBlankBehind_19 ?_
      refine ⟨rfl, ?_⟩
      unfold kindB
      rw [if_neg h3]
      first | (rw [if_pos h11]; done) | (rw [if_neg h11])
  · skip
    refine z_iconst cx dX3_kindOfBlankBehind_6 ?_
    refine z_iret cx dX3_kindOfBlankBehind_7 ?_
    refine ⟨rfl, ?_⟩
    unfold kindB
    rw [if_pos h3]
set_option maxRecDepth 100000 in
set_option maxHeartbeats 4000000 in
theorem c_X3_bestBlank {E : En} {G : Wd} {k : Nat} {S : Sb} (hk : k < 120) (hS : SubIs G k S) (hT : TxOk S.2.2) : Cti E yX3_bestBlank cX3_bestBlank 7 .int 1 21 [.ref (E.1 (38 + k))] G (fun z G' => G' = G ∧ z = bBl S.2.2) := by
  have eL := hS.2.2.1
  have hTl := hT.1
  have hTu := hT.2.1
  refine Cti.mk [some (.ref (E.1 (38 + k))), none, none, none, none, none, none] (by decide) rfl (by intro v hv; simp only [List.mem_cons, List.not_mem_nil, or_false] at hv; subst hv; rfl) (Nat.le_of_ble_eq_true rfl) ?_
  intro p l e s m args below meth c cx
  have L10 : ∀ (n : Nat) (j : Nat) (b kd off : Int), (60 - j) < n → (1 ≤ j ∧ j ≤ S.2.2.length) → (bbS S.2.2 j = (b, kd, off)) → Z p l e (zr 1 21) s m args below meth c 7 0 0 E (Qi_ E below args s (fun z G' => G' = G ∧ z = bBl S.2.2)) G 10 [some (.ref (E.1 (38 + k))), some (.int (iN b)), some (.int (iN kd)), some (.int (iN off)), some (.int (iN (j : Int))), none, none] [] := by
    intro n
    induction n with
    | zero =>
      intro j b kd off hmu
      exact absurd hmu (Nat.not_lt_zero _)
    | succ n ih =>
      intro j b kd off hmu hi hb
      have hbb := bbS_b S.2.2 hTu j (by omega)
      rw [hb] at hbb
      dsimp only at hbb
      refine z_iload cx dX3_bestBlank_10 rfl ?_
      refine z_aload_n cx dX3_bestBlank_12 rfl ?_
      refine g_X3_2 cx (by omega) fl_X3_22 dX3_bestBlank_13 ?_
      refine z_icmp_ge cx (tgt := 97) dX3_bestBlank_16 (fun h16 => ?_) (fun h16 => ?_)
      · skip
        refine z_iload_n cx dX3_bestBlank_97 rfl ?_
        refine z_iret cx dX3_bestBlank_98 ?_
        refine ⟨rfl, ?_⟩
        have : j = S.2.2.length := by omega
        subst this
        unfold bBl
        rw [hb]
      · skip
        have e8 := hS.2.2.2 j (by omega)
        have hc := hT.ch (i := j) (by omega)
        refine z_aload_n cx dX3_bestBlank_19 rfl ?_
        refine g_X3_3 cx (by omega) fl_X3_9 dX3_bestBlank_20 ?_
        refine z_iload cx dX3_bestBlank_23 rfl ?_
        refine z_cald cx _ rfl (by omega) (co_text E _ _) dX3_bestBlank_25 ?_
        refine z_bipush cx dX3_bestBlank_26 ?_
        refine z_icmp_eq cx (tgt := 34) dX3_bestBlank_28 (fun h28 => ?_) (fun h28 => ?_)
        · skip
          have e9 := hS.2.2.2 (j - 1) (by omega)
          have hc9 := hT.ch (i := j - 1) (by omega)
          refine z_aload_n cx dX3_bestBlank_34 rfl ?_
          refine g_X3_3 cx (by omega) fl_X3_9 dX3_bestBlank_35 ?_
          refine z_iload cx dX3_bestBlank_38 rfl ?_
          refine z_iconst cx dX3_bestBlank_40 ?_
          refine z_isub cx dX3_bestBlank_41 ?_
          refine z_cald cx (j - 1) (by omega) (by omega) (co_text E _ _) dX3_bestBlank_42 ?_
          refine z_si cx (c_X3_kindOfBlankBehind (by omega)) rfl ms_X3_kindOfBlankBehind ml_X3_39 dX3_bestBlank_43 (fun z43 G43 hz43 => ?_)
          obtain ⟨eG, rfl⟩ := hz43
          have eG := eG.symm
          subst eG
          rw [e9]
          have hkk := kindB_b (S.2.2.getD (j - 1) 0)
          refine z_istore cx dX3_bestBlank_46 ?_
          refine z_iconst cx dX3_bestBlank_48 ?_
          refine z_iload cx dX3_bestBlank_49 rfl ?_
          refine z_imul cx dX3_bestBlank_51 ?_
          refine z_aload_n cx dX3_bestBlank_52 rfl ?_
          refine g_X3_2 cx (by omega) fl_X3_22 dX3_bestBlank_53 ?_
          refine z_iconst cx dX3_bestBlank_56 ?_
          refine z_isub cx dX3_bestBlank_57 ?_
          refine z_isub cx dX3_bestBlank_58 ?_
          rw [eL]
          refine z_abs cx ml_X3_43 dX3_bestBlank_59 ?_
          refine z_istore cx dX3_bestBlank_62 ?_
          refine z_iload cx dX3_bestBlank_64 rfl ?_
          refine z_iload_n cx dX3_bestBlank_66 rfl ?_
          refine z_icmp_gt cx (tgt := 82) dX3_bestBlank_67 (fun h67 => ?_) (fun h67 => ?_)
          · skip
            refine z_iload cx dX3_bestBlank_82 rfl ?_
            refine z_istore_n cx dX3_bestBlank_84 ?_
            refine z_iload cx dX3_bestBlank_85 rfl ?_
            refine z_istore_n cx dX3_bestBlank_87 ?_
            refine z_iload cx dX3_bestBlank_88 rfl ?_
            refine z_istore_n cx dX3_bestBlank_90 ?_
            refine z_iinc cx dX3_bestBlank_91 rfl ?_
            refine z_goto cx (tgt := 10) dX3_bestBlank_94 ?_
            refine Z.locs (ih (j + 1) _ _ _ (by omega) (by omega) (by rw [bbS_s, hb]; first | (rw [if_pos (by refine ⟨?_, ?_, ?_⟩ <;> (try dsimp only) <;> omega)]; done) | (rw [if_neg (by dsimp only; omega)]; done))) ⟨rfl, rfl, rfl, rfl, rfl, trivial⟩
          · skip
            refine z_iload cx dX3_bestBlank_70 rfl ?_
            refine z_iload_n cx dX3_bestBlank_72 rfl ?_
            refine z_icmp_ne cx (tgt := 91) dX3_bestBlank_73 (fun h73 => ?_) (fun h73 => ?_)
            · skip
              refine z_iinc cx dX3_bestBlank_91 rfl ?_
              refine z_goto cx (tgt := 10) dX3_bestBlank_94 ?_
              refine Z.locs (ih (j + 1) _ _ _ (by omega) (by omega) (by rw [bbS_s, hb]; first | (rw [if_pos (by refine ⟨?_, ?_, ?_⟩ <;> (try dsimp only) <;> omega)]; done) | (rw [if_neg (by dsimp only; omega)]; done))) ⟨rfl, rfl, rfl, rfl, rfl, trivial⟩
            · skip
              refine z_iload cx dX3_bestBlank_76 rfl ?_
              refine z_iload_n cx dX3_bestBlank_78 rfl ?_
              refine z_icmp_ge cx (tgt := 91) dX3_bestBlank_79 (fun h79 => ?_) (fun h79 => ?_)
              · skip
                refine z_iinc cx dX3_bestBlank_91 rfl ?_
                refine z_goto cx (tgt := 10) dX3_bestBlank_94 ?_
                refine Z.locs (ih (j + 1) _ _ _ (by omega) (by omega) (by rw [bbS_s, hb]; first | (rw [if_pos (by refine ⟨?_, ?_, ?_⟩ <;> (try dsimp only) <;> omega)]; done) | (rw [if_neg (by dsimp only; omega)]; done))) ⟨rfl, rfl, rfl, rfl, rfl, trivial⟩
              · skip
                refine z_iload cx dX3_bestBlank_82 rfl ?_
                refine z_istore_n cx dX3_bestBlank_84 ?_
                refine z_iload cx dX3_bestBlank_85 rfl ?_
                refine z_istore_n cx dX3_bestBlank_87 ?_
                refine z_iload cx dX3_bestBlank_88 rfl ?_
                refine z_istore_n cx dX3_bestBlank_90 ?_
                refine z_iinc cx dX3_bestBlank_91 rfl ?_
                refine z_goto cx (tgt := 10) dX3_bestBlank_94 ?_
                refine Z.locs (ih (j + 1) _ _ _ (by omega) (by omega) (by rw [bbS_s, hb]; first | (rw [if_pos (by refine ⟨?_, ?_, ?_⟩ <;> (try dsimp only) <;> omega)]; done) | (rw [if_neg (by dsimp only; omega)]; done))) ⟨rfl, rfl, rfl, rfl, rfl, trivial⟩
        · skip
          refine z_goto cx (tgt := 91) dX3_bestBlank_31 ?_
          refine z_iinc cx dX3_bestBlank_91 rfl ?_
          refine z_goto cx (tgt := 10) dX3_bestBlank_94 ?_
          refine Z.locs (ih (j + 1) _ _ _ (by omega) (by omega) (by rw [bbS_s, hb]; first | (rw [if_pos (by refine ⟨?_, ?_, ?_⟩ <;> (try dsimp only) <;> omega)]; done) | (rw [if_neg (by dsimp only; omega)]; done))) ⟨rfl, rfl, rfl, rfl, rfl, trivial⟩
  refine z_bipush cx dX3_bestBlank_0 ?_
  refine z_istore_n cx dX3_bestBlank_2 ?_
  refine z_iconst cx dX3_bestBlank_3 ?_
  refine z_istore_n cx dX3_bestBlank_4 ?_
  refine z_iconst cx dX3_bestBlank_5 ?_
  refine z_istore_n cx dX3_bestBlank_6 ?_
  refine z_iconst cx dX3_bestBlank_7 ?_
  refine z_istore cx dX3_bestBlank_8 ?_
  refine Z.locs (L10 _ (1) (-6) (0) (0) (Nat.lt_succ_self _) (by omega) (bbS_1 _)) ⟨rfl, rfl, rfl, rfl, rfl, trivial⟩
set_option maxRecDepth 100000 in
set_option maxHeartbeats 4000000 in
theorem c_X3_lineEnd {E : En} {G : Wd} {k a : Nat} {w : Int} {S : Sb} (hk : k < 120) (hS : SubIs G k S) (hT : TxOk S.2.2) (ha : a < S.2.2.length) (hw : 0 ≤ w ∧ w ≤ 100) : Cti E yX3_lineEnd cX3_lineEnd 6 .int 0 0 [.ref (E.1 (38 + k)), .int (iN (a : Int)), .int (iN w)] G (fun z G' => G' = G ∧ z = (lend S.2.2 w a : Int)) := by
  have eL := hS.2.2.1
  have hTl := hT.1
  have hTu := hT.2.1
  refine Cti.mk [some (.ref (E.1 (38 + k))), some (.int (iN (a : Int))), some (.int (iN w)), none, none, none] (by decide) rfl (by intro v hv; simp only [List.mem_cons, List.not_mem_nil, or_false] at hv; rcases hv with rfl | rfl | rfl <;> rfl) (Nat.le_of_ble_eq_true rfl) ?_
  intro p l e s m args below meth c cx
  have L13 : ∀ (n : Nat) (j fnd : Nat) (h : Int), (60 - j) < n → (a < j ∧ j ≤ S.2.2.length + 1) → ((h = 0 ∧ fnd = S.2.2.length ∧ ∀ b, a < b → b < j → ¬ BP S.2.2 b) ∨ (h = 1 ∧ BP S.2.2 fnd ∧ a < fnd ∧ fnd < j ∧ ((∀ b, a < b → BP S.2.2 b → fnd ≤ b) ∨ (fnd : Int) ≤ a + w) ∧ ∀ b, fnd < b → b < j → ¬ BP S.2.2 b)) → Z p l e (zr 0 0) s m args below meth c 6 0 0 E (Qi_ E below args s (fun z G' => G' = G ∧ z = (lend S.2.2 w a : Int))) G 13 [some (.ref (E.1 (38 + k))), some (.int (iN (a : Int))), some (.int (iN w)), some (.int (iN (fnd : Int))), some (.int (iN h)), some (.int (iN (j : Int)))] [] := by
    intro n
    induction n with
    | zero =>
      intro j fnd h hmu
      exact absurd hmu (Nat.not_lt_zero _)
    | succ n ih =>
      intro j fnd h hmu hj hh
      have hf : h = 0 ∨ h = 1 := by rcases hh with q | q <;> omega
      have hfn : fnd ≤ S.2.2.length + 1 := by rcases hh with q | q <;> omega
      refine z_iload cx dX3_lineEnd_13 rfl ?_
      refine z_aload_n cx dX3_lineEnd_15 rfl ?_
      refine g_X3_2 cx (by omega) fl_X3_22 dX3_lineEnd_16 ?_
      refine z_icmp_gt cx (tgt := 74) dX3_lineEnd_19 (fun h19 => ?_) (fun h19 => ?_)
      · skip
        have hle : LE S.2.2 w a fnd := by
          rcases hh with ⟨q1, q2, q3⟩ | ⟨q1, q2, q3, q4, q5, q6⟩
          · first
            | (exfalso; omega)
            | exact absurd (Or.inl rfl) (q3 S.2.2.length (by omega) (by omega))
          · refine ⟨q3, q2, q5, fun b g1 g2 => ?_⟩
            rcases Nat.lt_or_ge b j with q | q
            · exact absurd g2 (q6 b g1 q)
            · rcases g2 with g2 | ⟨g2, -⟩ <;> omega
        refine z_iload_n cx dX3_lineEnd_74 rfl ?_
        refine z_iret cx dX3_lineEnd_75 ?_
        exact ⟨rfl, by rw [lend_of hle]⟩
      · skip
        refine z_iload cx dX3_lineEnd_22 rfl ?_
        refine z_aload_n cx dX3_lineEnd_24 rfl ?_
        refine g_X3_2 cx (by omega) fl_X3_22 dX3_lineEnd_25 ?_
        refine z_icmp_ge cx (tgt := 46) dX3_lineEnd_28 (fun h28 => ?_) (fun h28 => ?_)
        · skip
          have bp : BP S.2.2 j := by first | exact Or.inl (by omega) | exact Or.inr ⟨by omega, by omega⟩
          refine z_iload cx dX3_lineEnd_46 rfl ?_
          refine z_if_eq cx (tgt := 62) dX3_lineEnd_48 (fun h48 => ?_) (fun h48 => ?_)
          · skip
            have hnew : ((1 : Int) = 0 ∧ j = S.2.2.length ∧ ∀ b, a < b → b < j + 1 → ¬ BP S.2.2 b) ∨ ((1 : Int) = 1 ∧ BP S.2.2 j ∧ a < j ∧ j < j + 1 ∧ ((∀ b, a < b → BP S.2.2 b → j ≤ b) ∨ (j : Int) ≤ a + w) ∧ ∀ b, j < b → b < j + 1 → ¬ BP S.2.2 b) := by
              refine Or.inr ⟨rfl, bp, by omega, by omega, ?_, fun b g1 g2 => by omega⟩
              rcases hh with ⟨q1, q2, q3⟩ | ⟨q1, q2, q3, q4, q5, q6⟩
              · refine Or.inl fun b g1 g2 => ?_
                rcases Nat.lt_or_ge b j with q | q
                · exact absurd g2 (q3 b g1 q)
                · exact q
              · exact Or.inr (by omega)
            refine z_iload cx dX3_lineEnd_62 rfl ?_
            refine z_istore_n cx dX3_lineEnd_64 ?_
            refine z_iconst cx dX3_lineEnd_65 ?_
            refine z_istore cx dX3_lineEnd_66 ?_
            refine z_iinc cx dX3_lineEnd_68 rfl ?_
            refine z_goto cx (tgt := 13) dX3_lineEnd_71 ?_
            refine Z.locs (ih (j + 1) _ _ (by omega) (by omega) (by assumption)) ⟨rfl, rfl, rfl, rfl, rfl, rfl, trivial⟩
          · skip
            refine z_iload cx dX3_lineEnd_51 rfl ?_
            refine z_iload_n cx dX3_lineEnd_53 rfl ?_
            refine z_isub cx dX3_lineEnd_54 ?_
            refine z_iload_n cx dX3_lineEnd_55 rfl ?_
            refine z_icmp_le cx (tgt := 62) dX3_lineEnd_56 (fun h56 => ?_) (fun h56 => ?_)
            · skip
              have hnew : ((1 : Int) = 0 ∧ j = S.2.2.length ∧ ∀ b, a < b → b < j + 1 → ¬ BP S.2.2 b) ∨ ((1 : Int) = 1 ∧ BP S.2.2 j ∧ a < j ∧ j < j + 1 ∧ ((∀ b, a < b → BP S.2.2 b → j ≤ b) ∨ (j : Int) ≤ a + w) ∧ ∀ b, j < b → b < j + 1 → ¬ BP S.2.2 b) := by
                refine Or.inr ⟨rfl, bp, by omega, by omega, ?_, fun b g1 g2 => by omega⟩
                rcases hh with ⟨q1, q2, q3⟩ | ⟨q1, q2, q3, q4, q5, q6⟩
                · refine Or.inl fun b g1 g2 => ?_
                  rcases Nat.lt_or_ge b j with q | q
                  · exact absurd g2 (q3 b g1 q)
                  · exact q
                · exact Or.inr (by omega)
              refine z_iload cx dX3_lineEnd_62 rfl ?_
              refine z_istore_n cx dX3_lineEnd_64 ?_
              refine z_iconst cx dX3_lineEnd_65 ?_
              refine z_istore cx dX3_lineEnd_66 ?_
              refine z_iinc cx dX3_lineEnd_68 rfl ?_
              refine z_goto cx (tgt := 13) dX3_lineEnd_71 ?_
              refine Z.locs (ih (j + 1) _ _ (by omega) (by omega) (by assumption)) ⟨rfl, rfl, rfl, rfl, rfl, rfl, trivial⟩
            · skip
              refine z_goto cx (tgt := 74) dX3_lineEnd_59 ?_
              have hle : LE S.2.2 w a fnd := by
                rcases hh with ⟨q1, q2, q3⟩ | ⟨q1, q2, q3, q4, q5, q6⟩
                · first
                  | (exfalso; omega)
                  | exact absurd (Or.inl rfl) (q3 S.2.2.length (by omega) (by omega))
                · refine ⟨q3, q2, q5, fun b g1 g2 => ?_⟩
                  rcases Nat.lt_or_ge b j with q | q
                  · exact absurd g2 (q6 b g1 q)
                  · rcases g2 with g2 | ⟨g2, -⟩ <;> omega
              refine z_iload_n cx dX3_lineEnd_74 rfl ?_
              refine z_iret cx dX3_lineEnd_75 ?_
              exact ⟨rfl, by rw [lend_of hle]⟩
        · skip
          have e8 := hS.2.2.2 j (by omega)
          have hc := hT.ch (i := j) (by omega)
          refine z_aload_n cx dX3_lineEnd_31 rfl ?_
          refine g_X3_3 cx (by omega) fl_X3_9 dX3_lineEnd_32 ?_
          refine z_iload cx dX3_lineEnd_35 rfl ?_
          refine z_cald cx _ rfl (by omega) (co_text E _ _) dX3_lineEnd_37 ?_
          refine z_bipush cx dX3_lineEnd_38 ?_
          refine z_icmp_eq cx (tgt := 46) dX3_lineEnd_40 (fun h40 => ?_) (fun h40 => ?_)
          · skip
            have bp : BP S.2.2 j := by first | exact Or.inl (by omega) | exact Or.inr ⟨by omega, by omega⟩
            refine z_iload cx dX3_lineEnd_46 rfl ?_
            refine z_if_eq cx (tgt := 62) dX3_lineEnd_48 (fun h48 => ?_) (fun h48 => ?_)
            · skip
              have hnew : ((1 : Int) = 0 ∧ j = S.2.2.length ∧ ∀ b, a < b → b < j + 1 → ¬ BP S.2.2 b) ∨ ((1 : Int) = 1 ∧ BP S.2.2 j ∧ a < j ∧ j < j + 1 ∧ ((∀ b, a < b → BP S.2.2 b → j ≤ b) ∨ (j : Int) ≤ a + w) ∧ ∀ b, j < b → b < j + 1 → ¬ BP S.2.2 b) := by
                refine Or.inr ⟨rfl, bp, by omega, by omega, ?_, fun b g1 g2 => by omega⟩
                rcases hh with ⟨q1, q2, q3⟩ | ⟨q1, q2, q3, q4, q5, q6⟩
                · refine Or.inl fun b g1 g2 => ?_
                  rcases Nat.lt_or_ge b j with q | q
                  · exact absurd g2 (q3 b g1 q)
                  · exact q
                · exact Or.inr (by omega)
              refine z_iload cx dX3_lineEnd_62 rfl ?_
              refine z_istore_n cx dX3_lineEnd_64 ?_
              refine z_iconst cx dX3_lineEnd_65 ?_
              refine z_istore cx dX3_lineEnd_66 ?_
              refine z_iinc cx dX3_lineEnd_68 rfl ?_
              refine z_goto cx (tgt := 13) dX3_lineEnd_71 ?_
              refine Z.locs (ih (j + 1) _ _ (by omega) (by omega) (by assumption)) ⟨rfl, rfl, rfl, rfl, rfl, rfl, trivial⟩
            · skip
              refine z_iload cx dX3_lineEnd_51 rfl ?_
              refine z_iload_n cx dX3_lineEnd_53 rfl ?_
              refine z_isub cx dX3_lineEnd_54 ?_
              refine z_iload_n cx dX3_lineEnd_55 rfl ?_
              refine z_icmp_le cx (tgt := 62) dX3_lineEnd_56 (fun h56 => ?_) (fun h56 => ?_)
              · skip
                have hnew : ((1 : Int) = 0 ∧ j = S.2.2.length ∧ ∀ b, a < b → b < j + 1 → ¬ BP S.2.2 b) ∨ ((1 : Int) = 1 ∧ BP S.2.2 j ∧ a < j ∧ j < j + 1 ∧ ((∀ b, a < b → BP S.2.2 b → j ≤ b) ∨ (j : Int) ≤ a + w) ∧ ∀ b, j < b → b < j + 1 → ¬ BP S.2.2 b) := by
                  refine Or.inr ⟨rfl, bp, by omega, by omega, ?_, fun b g1 g2 => by omega⟩
                  rcases hh with ⟨q1, q2, q3⟩ | ⟨q1, q2, q3, q4, q5, q6⟩
                  · refine Or.inl fun b g1 g2 => ?_
                    rcases Nat.lt_or_ge b j with q | q
                    · exact absurd g2 (q3 b g1 q)
                    · exact q
                  · exact Or.inr (by omega)
                refine z_iload cx dX3_lineEnd_62 rfl ?_
                refine z_istore_n cx dX3_lineEnd_64 ?_
                refine z_iconst cx dX3_lineEnd_65 ?_
                refine z_istore cx dX3_lineEnd_66 ?_
                refine z_iinc cx dX3_lineEnd_68 rfl ?_
                refine z_goto cx (tgt := 13) dX3_lineEnd_71 ?_
                refine Z.locs (ih (j + 1) _ _ (by omega) (by omega) (by assumption)) ⟨rfl, rfl, rfl, rfl, rfl, rfl, trivial⟩
              · skip
                refine z_goto cx (tgt := 74) dX3_lineEnd_59 ?_
                have hle : LE S.2.2 w a fnd := by
                  rcases hh with ⟨q1, q2, q3⟩ | ⟨q1, q2, q3, q4, q5, q6⟩
                  · first
                    | (exfalso; omega)
                    | exact absurd (Or.inl rfl) (q3 S.2.2.length (by omega) (by omega))
                  · refine ⟨q3, q2, q5, fun b g1 g2 => ?_⟩
                    rcases Nat.lt_or_ge b j with q | q
                    · exact absurd g2 (q6 b g1 q)
                    · rcases g2 with g2 | ⟨g2, -⟩ <;> omega
                refine z_iload_n cx dX3_lineEnd_74 rfl ?_
                refine z_iret cx dX3_lineEnd_75 ?_
                exact ⟨rfl, by rw [lend_of hle]⟩
          · skip
            have nb : ¬ BP S.2.2 j := by
              rintro (q | ⟨_, q⟩) <;> omega
            have hnew : (h = 0 ∧ fnd = S.2.2.length ∧ ∀ b, a < b → b < j + 1 → ¬ BP S.2.2 b) ∨ (h = 1 ∧ BP S.2.2 fnd ∧ a < fnd ∧ fnd < j + 1 ∧ ((∀ b, a < b → BP S.2.2 b → fnd ≤ b) ∨ (fnd : Int) ≤ a + w) ∧ ∀ b, fnd < b → b < j + 1 → ¬ BP S.2.2 b) := by
              rcases hh with ⟨q1, q2, q3⟩ | ⟨q1, q2, q3, q4, q5, q6⟩
              · refine Or.inl ⟨q1, q2, fun b g1 g2 => ?_⟩
                rcases Nat.lt_succ_iff_lt_or_eq.mp g2 with g2 | rfl
                · exact q3 b g1 g2
                · exact nb
              · refine Or.inr ⟨q1, q2, q3, by omega, q5, fun b g1 g2 => ?_⟩
                rcases Nat.lt_succ_iff_lt_or_eq.mp g2 with g2 | rfl
                · exact q6 b g1 g2
                · exact nb
            refine z_goto cx (tgt := 68) dX3_lineEnd_43 ?_
            refine z_iinc cx dX3_lineEnd_68 rfl ?_
            refine z_goto cx (tgt := 13) dX3_lineEnd_71 ?_
            refine Z.locs (ih (j + 1) _ _ (by omega) (by omega) (by assumption)) ⟨rfl, rfl, rfl, rfl, rfl, rfl, trivial⟩
  refine z_aload_n cx dX3_lineEnd_0 rfl ?_
  refine g_X3_2 cx (by omega) fl_X3_22 dX3_lineEnd_1 ?_
  rw [eL]
  refine z_istore_n cx dX3_lineEnd_4 ?_
  refine z_iconst cx dX3_lineEnd_5 ?_
  refine z_istore cx dX3_lineEnd_6 ?_
  refine z_iload_n cx dX3_lineEnd_8 rfl ?_
  refine z_iconst cx dX3_lineEnd_9 ?_
  refine z_iadd cx dX3_lineEnd_10 ?_
  refine z_istore cx dX3_lineEnd_11 ?_
  refine Z.locs (L13 _ (a + 1) (S.2.2.length) (0) (Nat.lt_succ_self _) (by omega) (Or.inl ⟨rfl, rfl, fun b h1 h2 => by omega⟩)) ⟨rfl, rfl, rfl, rfl, rfl, rfl, trivial⟩
set_option maxRecDepth 100000 in
set_option maxHeartbeats 4000000 in
theorem c_X3_lineCount {E : En} {G : Wd} {k : Nat} {w : Int} {S : Sb} (hk : k < 120) (hS : SubIs G k S) (hT : TxOk S.2.2) (hw : 0 ≤ w ∧ w ≤ 100) : Cti E yX3_lineCount cX3_lineCount 4 .int 1 25 [.ref (E.1 (38 + k)), .int (iN w)] G (fun z G' => G' = G ∧ z = ((lns S.2.2 w).length : Int)) := by
  have eL := hS.2.2.1
  have hTl := hT.1
  have hTu := hT.2.1
  refine Cti.mk [some (.ref (E.1 (38 + k))), some (.int (iN w)), none, none] (by decide) rfl (by intro v hv; simp only [List.mem_cons, List.not_mem_nil, or_false] at hv; rcases hv with rfl | rfl <;> rfl) (Nat.le_of_ble_eq_true rfl) ?_
  intro p l e s m args below meth c cx
  have L4 : ∀ (n : Nat) (ct a : Nat), (100 - a) < n → (LnAt S.2.2 w ct a) → (a ≤ S.2.2.length + 1) → Z p l e (zr 1 25) s m args below meth c 4 0 0 E (Qi_ E below args s (fun z G' => G' = G ∧ z = ((lns S.2.2 w).length : Int))) G 4 [some (.ref (E.1 (38 + k))), some (.int (iN w)), some (.int (iN (ct : Int))), some (.int (iN (a : Int)))] [] := by
    intro n
    induction n with
    | zero =>
      intro ct a hmu
      exact absurd hmu (Nat.not_lt_zero _)
    | succ n ih =>
      intro ct a hmu hI ha
      have h2c := hI.1
      refine z_iload_n cx dX3_lineCount_4 rfl ?_
      refine z_aload_n cx dX3_lineCount_5 rfl ?_
      refine g_X3_2 cx (by omega) fl_X3_22 dX3_lineCount_6 ?_
      refine z_icmp_ge cx (tgt := 33) dX3_lineCount_9 (fun h9 => ?_) (fun h9 => ?_)
      · skip
        refine z_iload_n cx dX3_lineCount_33 rfl ?_
        refine z_iret cx dX3_lineCount_34 ?_
        refine ⟨rfl, ?_⟩
        rw [hI.len (by omega)]
      · skip
        refine z_iload_n cx dX3_lineCount_12 rfl ?_
        refine z_bipush cx dX3_lineCount_13 ?_
        refine z_icmp_ge cx (tgt := 33) dX3_lineCount_15 (fun h15 => ?_) (fun h15 => ?_)
        · skip
          refine z_iload_n cx dX3_lineCount_33 rfl ?_
          refine z_iret cx dX3_lineCount_34 ?_
          refine ⟨rfl, ?_⟩
          rw [hI.len (by omega)]
        · skip
          have hlb := lend_b w (show a < S.2.2.length by omega)
          refine z_iinc cx dX3_lineCount_18 rfl ?_
          refine z_aload_n cx dX3_lineCount_21 rfl ?_
          refine z_iload_n cx dX3_lineCount_22 rfl ?_
          refine z_iload_n cx dX3_lineCount_23 rfl ?_
          refine z_vi cx (c_X3_lineEnd hk hS hT (a := a) (by omega) hw) rfl mv_X3_lineEnd ml_X3_49 (by omega) (co_sub E _ (by omega)) rfl dX3_lineCount_24 (fun z24 G24 hz24 => ?_)
          obtain ⟨eG, rfl⟩ := hz24
          have eG := eG.symm
          subst eG
          refine z_iconst cx dX3_lineCount_27 ?_
          refine z_iadd cx dX3_lineCount_28 ?_
          refine z_istore_n cx dX3_lineCount_29 ?_
          refine z_goto cx (tgt := 4) dX3_lineCount_30 ?_
          refine Z.locs (ih (ct + 1) (lend S.2.2 w a + 1) (by omega) (hI.next hTu (by omega)) (by omega)) ⟨rfl, rfl, rfl, rfl, trivial⟩
  refine z_iconst cx dX3_lineCount_0 ?_
  refine z_istore_n cx dX3_lineCount_1 ?_
  refine z_iconst cx dX3_lineCount_2 ?_
  refine z_istore_n cx dX3_lineCount_3 ?_
  refine Z.locs (L4 _ (0) (0) (Nat.lt_succ_self _) (LnAt_0 _ _) (by omega)) ⟨rfl, rfl, rfl, rfl, trivial⟩
set_option maxRecDepth 100000 in
set_option maxHeartbeats 4000000 in
theorem c_X3_lineLength {E : En} {G : Wd} {k : Nat} {w ln : Int} {S : Sb} (hk : k < 120) (hS : SubIs G k S) (hT : TxOk S.2.2) (hw : 0 ≤ w ∧ w ≤ 100) (hln : 0 ≤ ln ∧ ln < 2147483648) : Cti E yX3_lineLength cX3_lineLength 5 .int 1 25 [.ref (E.1 (38 + k)), .int (iN ln), .int (iN w)] G (fun z G' => G' = G ∧ z = if ln < ((lns S.2.2 w).length : Int) then (lns S.2.2 w).getD ln.toNat 0 else -6) := by
  have eL := hS.2.2.1
  have hTl := hT.1
  have hTu := hT.2.1
  refine Cti.mk [some (.ref (E.1 (38 + k))), some (.int (iN ln)), some (.int (iN w)), none, none] (by decide) rfl (by intro v hv; simp only [List.mem_cons, List.not_mem_nil, or_false] at hv; rcases hv with rfl | rfl | rfl <;> rfl) (Nat.le_of_ble_eq_true rfl) ?_
  intro p l e s m args below meth c cx
  have L5 : ∀ (n : Nat) (ct a : Nat), (100 - a) < n → (LnAt S.2.2 w ct a) → (a ≤ S.2.2.length + 1) → ((ct : Int) ≤ ln) → Z p l e (zr 1 25) s m args below meth c 5 0 0 E (Qi_ E below args s (fun z G' => G' = G ∧ z = if ln < ((lns S.2.2 w).length : Int) then (lns S.2.2 w).getD ln.toNat 0 else -6)) G 5 [some (.ref (E.1 (38 + k))), some (.int (iN ln)), some (.int (iN w)), some (.int (iN (a : Int))), some (.int (iN (ct : Int)))] [] := by
    intro n
    induction n with
    | zero =>
      intro ct a hmu
      exact absurd hmu (Nat.not_lt_zero _)
    | succ n ih =>
      intro ct a hmu hI ha hc
      have h2c := hI.1
      refine z_iload cx dX3_lineLength_5 rfl ?_
      refine z_iload_n cx dX3_lineLength_7 rfl ?_
      refine z_icmp_ge cx (tgt := 34) dX3_lineLength_8 (fun h8 => ?_) (fun h8 => ?_)
      · skip
        refine z_iload_n cx dX3_lineLength_34 rfl ?_
        refine z_aload_n cx dX3_lineLength_35 rfl ?_
        refine g_X3_2 cx (by omega) fl_X3_22 dX3_lineLength_36 ?_
        refine z_icmp_ge cx (tgt := 53) dX3_lineLength_39 (fun h39 => ?_) (fun h39 => ?_)
        · skip
          refine z_bipush cx dX3_lineLength_53 ?_
          refine z_iret cx dX3_lineLength_55 ?_
          refine ⟨rfl, ?_⟩
          have hq := hI.len (show S.2.2.length ≤ a by omega)
          rw [if_neg (by omega)]
        · skip
          have hlb := lend_b w (show a < S.2.2.length by omega)
          refine z_aload_n cx dX3_lineLength_42 rfl ?_
          refine z_iload_n cx dX3_lineLength_43 rfl ?_
          refine z_iload_n cx dX3_lineLength_44 rfl ?_
          refine z_vi cx (c_X3_lineEnd hk hS hT (a := a) (by omega) hw) rfl mv_X3_lineEnd ml_X3_49 (by omega) (co_sub E _ (by omega)) rfl dX3_lineLength_45 (fun z45 G45 hz45 => ?_)
          obtain ⟨eG, rfl⟩ := hz45
          have eG := eG.symm
          subst eG
          refine z_iload_n cx dX3_lineLength_48 rfl ?_
          refine z_isub cx dX3_lineLength_49 ?_
          refine z_goto cx (tgt := 55) dX3_lineLength_50 ?_
          refine z_iret cx dX3_lineLength_55 ?_
          refine ⟨rfl, ?_⟩
          have hq := hI.lt hTu (show a < S.2.2.length by omega)
          have hcc : ln.toNat = ct := by omega
          rw [if_pos (by omega), hcc, hq.2]
      · skip
        refine z_iload_n cx dX3_lineLength_11 rfl ?_
        refine z_aload_n cx dX3_lineLength_12 rfl ?_
        refine g_X3_2 cx (by omega) fl_X3_22 dX3_lineLength_13 ?_
        refine z_icmp_ge cx (tgt := 34) dX3_lineLength_16 (fun h16 => ?_) (fun h16 => ?_)
        · skip
          refine z_iload_n cx dX3_lineLength_34 rfl ?_
          refine z_aload_n cx dX3_lineLength_35 rfl ?_
          refine g_X3_2 cx (by omega) fl_X3_22 dX3_lineLength_36 ?_
          refine z_icmp_ge cx (tgt := 53) dX3_lineLength_39 (fun h39 => ?_) (fun h39 => ?_)
          · skip
            refine z_bipush cx dX3_lineLength_53 ?_
            refine z_iret cx dX3_lineLength_55 ?_
            refine ⟨rfl, ?_⟩
            have hq := hI.len (show S.2.2.length ≤ a by omega)
            rw [if_neg (by omega)]
          · skip
            have hlb := lend_b w (show a < S.2.2.length by omega)
            refine z_aload_n cx dX3_lineLength_42 rfl ?_
            refine z_iload_n cx dX3_lineLength_43 rfl ?_
            refine z_iload_n cx dX3_lineLength_44 rfl ?_
            refine z_vi cx (c_X3_lineEnd hk hS hT (a := a) (by omega) hw) rfl mv_X3_lineEnd ml_X3_49 (by omega) (co_sub E _ (by omega)) rfl dX3_lineLength_45 (fun z45 G45 hz45 => ?_)
            obtain ⟨eG, rfl⟩ := hz45
            have eG := eG.symm
            subst eG
            refine z_iload_n cx dX3_lineLength_48 rfl ?_
            refine z_isub cx dX3_lineLength_49 ?_
            refine z_goto cx (tgt := 55) dX3_lineLength_50 ?_
            refine z_iret cx dX3_lineLength_55 ?_
            refine ⟨rfl, ?_⟩
            have hq := hI.lt hTu (show a < S.2.2.length by omega)
            have hcc : ln.toNat = ct := by omega
            rw [if_pos (by omega), hcc, hq.2]
        · skip
          have hlb := lend_b w (show a < S.2.2.length by omega)
          refine z_aload_n cx dX3_lineLength_19 rfl ?_
          refine z_iload_n cx dX3_lineLength_20 rfl ?_
          refine z_iload_n cx dX3_lineLength_21 rfl ?_
          refine z_vi cx (c_X3_lineEnd hk hS hT (a := a) (by omega) hw) rfl mv_X3_lineEnd ml_X3_49 (by omega) (co_sub E _ (by omega)) rfl dX3_lineLength_22 (fun z22 G22 hz22 => ?_)
          obtain ⟨eG, rfl⟩ := hz22
          have eG := eG.symm
          subst eG
          refine z_iconst cx dX3_lineLength_25 ?_
          refine z_iadd cx dX3_lineLength_26 ?_
          refine z_istore_n cx dX3_lineLength_27 ?_
          refine z_iinc cx dX3_lineLength_28 rfl ?_
          refine z_goto cx (tgt := 5) dX3_lineLength_31 ?_
          refine Z.locs (ih (ct + 1) (lend S.2.2 w a + 1) (by omega) (hI.next hTu (by omega)) (by omega) (by omega)) ⟨rfl, rfl, rfl, rfl, rfl, trivial⟩
  refine z_iconst cx dX3_lineLength_0 ?_
  refine z_istore_n cx dX3_lineLength_1 ?_
  refine z_iconst cx dX3_lineLength_2 ?_
  refine z_istore cx dX3_lineLength_3 ?_
  refine Z.locs (L5 _ (0) (0) (Nat.lt_succ_self _) (LnAt_0 _ _) (by omega) (by omega)) ⟨rfl, rfl, rfl, rfl, rfl, trivial⟩
set_option maxRecDepth 100000 in
set_option maxHeartbeats 4000000 in
theorem c_X3_fitsInLines {E : En} {G : Wd} {k : Nat} {w : Int} {S : Sb} (hk : k < 120) (hS : SubIs G k S) (hT : TxOk S.2.2) (hw : 0 ≤ w ∧ w ≤ 100) : Cti E yX3_fitsInLines cX3_fitsInLines 4 .boolean 2 49 [.ref (E.1 (38 + k)), .int (iN w)] G (fun z G' => G' = G ∧ (z = 1 ∧ ¬ wide w S.2.2 ∨ z = 0 ∧ wide w S.2.2)) := by
  have eL := hS.2.2.1
  have hTl := hT.1
  have hTu := hT.2.1
  have hll := lns_len w hTu
  refine Cti.mk [some (.ref (E.1 (38 + k))), some (.int (iN w)), none, none] (by decide) rfl (by intro v hv; simp only [List.mem_cons, List.not_mem_nil, or_false] at hv; rcases hv with rfl | rfl <;> rfl) (Nat.le_of_ble_eq_true rfl) ?_
  intro p l e s m args below meth c cx
  have L8 : ∀ (n : Nat) (j : Nat), (60 - j) < n → (j ≤ (lns S.2.2 w).length) → (∀ i, i < j → (lns S.2.2 w).getD i 0 ≤ w) → Z p l e (zr 2 49) s m args below meth c 4 0 0 E (Qi_ E below args s (fun z G' => G' = G ∧ (z = 1 ∧ ¬ wide w S.2.2 ∨ z = 0 ∧ wide w S.2.2))) G 8 [some (.ref (E.1 (38 + k))), some (.int (iN w)), some (.int (iN ((lns S.2.2 w).length : Int))), some (.int (iN (j : Int)))] [] := by
    intro n
    induction n with
    | zero =>
      intro j hmu
      exact absurd hmu (Nat.not_lt_zero _)
    | succ n ih =>
      intro j hmu hj hi
      refine z_iload_n cx dX3_fitsInLines_8 rfl ?_
      refine z_iload_n cx dX3_fitsInLines_9 rfl ?_
      refine z_icmp_ge cx (tgt := 31) dX3_fitsInLines_10 (fun h10 => ?_) (fun h10 => ?_)
      · skip
        refine z_iload_n cx dX3_fitsInLines_31 rfl ?_
        refine z_iconst cx dX3_fitsInLines_32 ?_
        refine z_icmp_gt cx (tgt := 40) dX3_fitsInLines_33 (fun h33 => ?_) (fun h33 => ?_)
        · skip
          refine z_iconst cx dX3_fitsInLines_40 ?_
          refine z_zret cx dX3_fitsInLines_41 ?_
          refine ⟨rfl, Or.inr ⟨rfl, fun hq => ?_⟩⟩
          have := hq.1
          omega
        · skip
          refine z_iconst cx dX3_fitsInLines_36 ?_
          refine z_goto cx (tgt := 41) dX3_fitsInLines_37 ?_
          refine z_zret cx dX3_fitsInLines_41 ?_
          refine ⟨rfl, Or.inl ⟨rfl, fun hq => hq ⟨by omega, fun i h => hi i (by omega)⟩⟩⟩
      · skip
        refine z_aload_n cx dX3_fitsInLines_13 rfl ?_
        refine z_iload_n cx dX3_fitsInLines_14 rfl ?_
        refine z_iload_n cx dX3_fitsInLines_15 rfl ?_
        refine z_vi cx (c_X3_lineLength hk hS hT hw (by omega)) rfl mv_X3_lineLength ml_X3_56 (by omega) (co_sub E _ (by omega)) rfl dX3_fitsInLines_16 (fun z16 G16 hz16 => ?_)
        obtain ⟨eG, rfl⟩ := hz16
        have eG := eG.symm
        subst eG
        rw [if_pos (by omega), Int.toNat_natCast]
        have hlb := lns_b w hTu (show j < _ by omega)
        refine z_iload_n cx dX3_fitsInLines_19 rfl ?_
        refine z_icmp_le cx (tgt := 25) dX3_fitsInLines_20 (fun h20 => ?_) (fun h20 => ?_)
        · skip
          refine z_iinc cx dX3_fitsInLines_25 rfl ?_
          refine z_goto cx (tgt := 8) dX3_fitsInLines_28 ?_
          refine Z.locs (ih (j + 1) (by omega) (by omega) (fun i h => by rcases Nat.lt_succ_iff_lt_or_eq.mp h with h | rfl; exact hi i h; exact h20)) ⟨rfl, rfl, rfl, rfl, trivial⟩
        · skip
          refine z_iconst cx dX3_fitsInLines_23 ?_
          refine z_zret cx dX3_fitsInLines_24 ?_
          refine ⟨rfl, Or.inr ⟨rfl, fun hq => ?_⟩⟩
          have := hq.2 j (by omega)
          omega
  refine z_aload_n cx dX3_fitsInLines_0 rfl ?_
  refine z_iload_n cx dX3_fitsInLines_1 rfl ?_
  refine z_vi cx (c_X3_lineCount hk hS hT hw) rfl mv_X3_lineCount ml_X3_53 (by omega) (co_sub E _ (by omega)) rfl dX3_fitsInLines_2 (fun z2 G2 hz2 => ?_)
  obtain ⟨eG, rfl⟩ := hz2
  have eG := eG.symm
  subst eG
  refine z_istore_n cx dX3_fitsInLines_5 ?_
  refine z_iconst cx dX3_fitsInLines_6 ?_
  refine z_istore_n cx dX3_fitsInLines_7 ?_
  refine Z.locs (L8 _ (0) (Nat.lt_succ_self _) (by omega) (fun i h => absurd h (Nat.not_lt_zero _))) ⟨rfl, rfl, rfl, rfl, trivial⟩
