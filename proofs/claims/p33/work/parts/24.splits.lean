set_option maxRecDepth 100000 in
set_option maxHeartbeats 4000000 in
theorem c_X0_splitRow {E : En} {G : Wd} {q : Nat} {F : Fm} {i b : Nat} (hq : q < 6) (hF : FilmIs G q F) (hO : FOk F) (hi : i < F.2.2.length) (hn20 : F.2.2.length < 20) (hb : 1 ≤ b ∧ b + 1 < (F.2.2.getD i dS).2.2.length) (hd : 2 ≤ ((F.2.2.getD i dS).2.1 - (F.2.2.getD i dS).1 - F.1 1)) : Ctv E yX0_splitRow cX0_splitRow 7 2 49 [.ref (E.1 (14 + q)), .int (iN (i : Int)), .int (iN (b : Int))] G (fun G' => FilmIs G' q (splF F i b) ∧ FrF q G G') := by
  obtain ⟨hR, hV, hcc, hcu, hn, hs⟩ := id hF
  obtain ⟨hOv, hOc, hOs⟩ := id hO
  have hl20 := hOs.1
  have hl12 := hOc.1
  obtain ⟨hv0, hv1, hv2, hv3, hv4, hv5⟩ := id hOv
  have w0 := hV 0 (by omega)
  have w1 := hV 1 (by omega)
  have w2 := hV 2 (by omega)
  have w3 := hV 3 (by omega)
  have w4 := hV 4 (by omega)
  have w5 := hV 5 (by omega)
  have hk := hR.1 (i) (by omega)
  have hs_ := hs (i) (by omega)
  have ho := hOs.2.1 (i) (by omega)
  have e5 := hs_.1
  have e6 := hs_.2.1
  have e7 := hs_.2.2.1
  have o1 := ho.1
  have o2 := ho.2.1
  have o3 := ho.2.2.1
  have o4 := ho.2.2.2.1
  have o5 := ho.2.2.2.2.1
  have hdb : 0 ≤ ((F.2.2.getD i dS).2.1 - (F.2.2.getD i dS).1 - F.1 1) * (b : Int) ∧ ((F.2.2.getD i dS).2.1 - (F.2.2.getD i dS).1 - F.1 1) * (b : Int) ≤ 200000 := by
    have q1 := Int.mul_le_mul (show ((F.2.2.getD i dS).2.1 - (F.2.2.getD i dS).1 - F.1 1) ≤ 5000 by omega) (show (b : Int) ≤ 40 by omega) (by omega) (by omega)
    have q2 := Int.mul_nonneg (show 0 ≤ ((F.2.2.getD i dS).2.1 - (F.2.2.getD i dS).1 - F.1 1) by omega) (show (0 : Int) ≤ (b : Int) by omega)
    omega
  have hdq : 0 ≤ ((F.2.2.getD i dS).2.1 - (F.2.2.getD i dS).1 - F.1 1) * (b : Int) / (((F.2.2.getD i dS).2.2.length : Int) - 1) := Int.ediv_nonneg hdb.1 (by omega)
  have hdq2 : ((F.2.2.getD i dS).2.1 - (F.2.2.getD i dS).1 - F.1 1) * (b : Int) / (((F.2.2.getD i dS).2.2.length : Int) - 1) ≤ ((F.2.2.getD i dS).2.1 - (F.2.2.getD i dS).1 - F.1 1) * (b : Int) := Int.ediv_le_self _ hdb.1
  refine Ctv.mk [some (.ref (E.1 (14 + q))), some (.int (iN (i : Int))), some (.int (iN (b : Int))), none, none, none, none] (by decide) rfl (by intro v hv; simp only [List.mem_cons, List.not_mem_nil, or_false] at hv; rcases hv with rfl | rfl | rfl <;> rfl) (Nat.le_of_ble_eq_true rfl) ?_
  intro p l e s m args below meth c cx
  have L49 : ∀ (G4 G1 : Wd), (RowsOpen G G4 q (i + 1) F.2.2.length) → (G1 5 (G4 4 q i).toNat 0 = (F.2.2.getD i dS).1) → (G1 6 (G4 4 q i).toNat 0 = (F.2.2.getD i dS).2.1) → (G1 7 (G4 4 q i).toNat 0 = (b : Int)) → (G1 7 (G4 4 q (i + 1)).toNat 0 = ((F.2.2.getD i dS).2.2.length : Int) - b - 1) → (∀ j, j < b → G1 8 (G4 4 q i).toNat j = (F.2.2.getD i dS).2.2.getD j 0) → (∀ j, j < (F.2.2.getD i dS).2.2.length - b - 1 → G1 8 (G4 4 q (i + 1)).toNat j = (F.2.2.getD i dS).2.2.getD (b + 1 + j) 0) → (∀ f a j, ¬ (5 ≤ f ∧ f ≤ 8 ∧ (a = (G4 4 q i).toNat ∨ a = (G4 4 q (i + 1)).toNat)) → G1 f a j = G4 f a j) → Z p l e (zr 2 49) s m args below meth c 7 0 0 E (Qv_ E below args s (fun G' => FilmIs G' q (splF F i b) ∧ FrF q G G')) G1 49 [some (.ref (E.1 (14 + q))), some (.int (iN (i : Int))), some (.int (iN (b : Int))), some (.ref (E.1 (38 + (G4 4 q i).toNat))), some (.ref (E.1 (38 + (G4 4 q (i + 1)).toNat))), none, none] [] := by
    intro G4 G1 hop a5 a6 a7 b7 a8 b8 gf
    have hR4 := hop.row hR (by omega) hn20
    have hk1 := hR4.1 i (by omega)
    have hk2 := hR4.1 (i + 1) (by omega)
    have hk12 : (G4 4 q i).toNat ≠ (G4 4 q (i + 1)).toNat := fun w => by have := hR4.2 i (i + 1) (by omega) (by omega) w; omega
    have g31 : G1 3 q 1 = F.1 1 := (gf 3 q 1 (by omega)).trans ((hop.2.2.2.2.2 3 q 1 (by omega)).trans w1)
    refine z_aload_n cx dX0_splitRow_49 rfl ?_
    refine z_vi cx (c_X3_frames (by omega)) rfl mv_X3_frames ml_X0_66 (by omega) (co_sub E _ (by omega)) rfl dX0_splitRow_50 (fun z50 G50 hz50 => ?_)
    obtain ⟨eG, rfl⟩ := hz50
    have eG := eG.symm
    subst eG
    refine z_aload_n cx dX0_splitRow_53 rfl ?_
    refine g_X0_4 cx (by omega) fl_X0_22 dX0_splitRow_54 ?_
    refine z_iconst cx dX0_splitRow_57 ?_
    refine z_iald cx 1 rfl (by omega) (co_vals E _ (by omega)) dX0_splitRow_58 ?_
    refine z_isub cx dX0_splitRow_59 ?_
    rw [a6, a5, g31]
    refine z_istore cx dX0_splitRow_60 ?_
    refine z_iload cx dX0_splitRow_62 rfl ?_
    refine z_aload_n cx dX0_splitRow_64 rfl ?_
    refine g_X3_2 cx (by omega) fl_X0_59 dX0_splitRow_65 ?_
    rw [a7]
    refine z_imul cx dX0_splitRow_68 ?_
    refine z_aload_n cx dX0_splitRow_69 rfl ?_
    refine g_X3_2 cx (by omega) fl_X0_59 dX0_splitRow_70 ?_
    refine z_aload cx dX0_splitRow_73 rfl ?_
    refine g_X3_2 cx (by omega) fl_X0_59 dX0_splitRow_75 ?_
    refine z_iadd cx dX0_splitRow_78 ?_
    rw [a7, b7]
    refine z_si cx (c_X0_quotient (x := ((F.2.2.getD i dS).2.1 - (F.2.2.getD i dS).1 - F.1 1) * (b : Int)) (y := (b : Int) + (((F.2.2.getD i dS).2.2.length : Int) - b - 1)) (by omega) (by omega)) rfl ms_X0_quotient ml_X0_70 dX0_splitRow_79 (fun z79 G79 hz79 => ?_)
    obtain ⟨eG, rfl⟩ := hz79
    have eG := eG.symm
    subst eG
    rw [show (b : Int) + (((F.2.2.getD i dS).2.2.length : Int) - b - 1) = ((F.2.2.getD i dS).2.2.length : Int) - 1 by omega]
    refine z_istore cx dX0_splitRow_82 ?_
    refine z_aload cx dX0_splitRow_84 rfl ?_
    refine z_aload_n cx dX0_splitRow_86 rfl ?_
    refine g_X3_1 cx (by omega) fl_X0_48 dX0_splitRow_87 ?_
    refine p_X3_1 cx (by omega) fl_X0_48 dX0_splitRow_90 ?_
    refine z_aload_n cx dX0_splitRow_93 rfl ?_
    refine z_aload_n cx dX0_splitRow_94 rfl ?_
    refine g_X3_0 cx (by omega) fl_X0_45 dX0_splitRow_95 ?_
    refine z_iconst cx dX0_splitRow_98 ?_
    refine z_iload cx dX0_splitRow_99 rfl ?_
    refine z_iload cx dX0_splitRow_101 rfl ?_
    refine z_iconst cx dX0_splitRow_103 ?_
    refine z_isub cx dX0_splitRow_104 ?_
    refine z_min cx ml_X0_74 dX0_splitRow_105 ?_
    refine z_max cx ml_X0_79 dX0_splitRow_108 ?_
    refine z_iadd cx dX0_splitRow_111 ?_
    refine p_X3_1 cx (by omega) fl_X0_48 dX0_splitRow_112 ?_
    refine z_aload cx dX0_splitRow_115 rfl ?_
    refine z_aload_n cx dX0_splitRow_117 rfl ?_
    refine g_X3_1 cx (by omega) fl_X0_48 dX0_splitRow_118 ?_
    refine z_aload_n cx dX0_splitRow_121 rfl ?_
    refine g_X0_4 cx (by omega) fl_X0_22 dX0_splitRow_122 ?_
    refine z_iconst cx dX0_splitRow_125 ?_
    refine z_iald cx 1 rfl (by omega) (co_vals E _ (by omega)) dX0_splitRow_126 ?_
    refine z_iadd cx dX0_splitRow_127 ?_
    refine p_X3_0 cx (by omega) fl_X0_45 dX0_splitRow_128 ?_
    refine z_vret cx dX0_splitRow_131 ?_
    refine split_film hop hF hi hn20 ⟨?_, ?_, ?_, fun j hj => ?_⟩ ⟨?_, ?_, ?_, fun j hj => ?_⟩ (fun f a j hn2 => ?_)
    · rw [gup_a _ _ _ _ _ _ hk12, gup_f _ _ _ _ _ _ _ (by decide), gup_f _ _ _ _ _ _ _ (by decide)]
      exact a5
    · rw [gup_f _ _ _ _ _ _ _ (by decide), gup_s, gup_f _ _ _ _ _ _ _ (by decide), a5]
    · rw [gup_f _ _ _ _ _ _ _ (by decide), gup_f _ _ _ _ _ _ _ (by decide), gup_f _ _ _ _ _ _ _ (by decide), a7]
      dsimp only
      rw [List.length_take, Nat.min_eq_left (by omega)]
    · rw [gup_f _ _ _ _ _ _ _ (by decide), gup_f _ _ _ _ _ _ _ (by decide), gup_f _ _ _ _ _ _ _ (by decide)]
      dsimp only at hj ⊢
      rw [List.length_take] at hj
      rw [takeL (by omega)]
      exact a8 j (by omega)
    · rw [gup_s, gup_s, gup_f _ _ _ _ _ _ _ (by decide), a5, gup_f _ _ _ _ _ _ _ (by decide), gup_f _ _ _ _ _ _ _ (by decide), g31]
    · rw [gup_f _ _ _ _ _ _ _ (by decide), gup_a _ _ _ _ _ _ (Ne.symm hk12), gup_s, a6]
    · rw [gup_f _ _ _ _ _ _ _ (by decide), gup_f _ _ _ _ _ _ _ (by decide), gup_f _ _ _ _ _ _ _ (by decide), b7]
      dsimp only
      rw [List.length_drop]
      omega
    · rw [gup_f _ _ _ _ _ _ _ (by decide), gup_f _ _ _ _ _ _ _ (by decide), gup_f _ _ _ _ _ _ _ (by decide)]
      dsimp only at hj ⊢
      rw [List.length_drop] at hj
      rw [dropL]
      exact b8 j (by omega)
    · rw [gup_eq, if_neg (by omega), gup_eq, if_neg (by omega), gup_eq, if_neg (by omega)]
      exact gf f a j hn2
  refine z_aload_n cx dX0_splitRow_0 rfl ?_
  refine z_iload_n cx dX0_splitRow_1 rfl ?_
  refine z_iconst cx dX0_splitRow_2 ?_
  refine z_iadd cx dX0_splitRow_3 ?_
  refine z_vv cx (c_X0_openRow (pp := i + 1) (nn := F.2.2.length) hq hR hn (by omega) hn20) rfl mv_X0_openRow ml_X0_51 (by omega) (co_film E _ (by omega)) rfl dX0_splitRow_4 (fun G4 hz4 => ?_)
  refine z_aload_n cx dX0_splitRow_7 rfl ?_
  refine g_X0_0 cx (by omega) fl_X0_11 dX0_splitRow_8 ?_
  refine z_iload_n cx dX0_splitRow_11 rfl ?_
  have hR4 := hz4.row hR (by omega) hn20
  have hk1 := hR4.1 i (by omega)
  have hk2 := hR4.1 (i + 1) (by omega)
  have hk12 : (G4 4 q i).toNat ≠ (G4 4 q (i + 1)).toNat := fun w => by have := hR4.2 i (i + 1) (by omega) (by omega) w; omega
  have s4 : SubIs G4 (G4 4 q i).toNat (F.2.2.getD i dS) := by
    rw [hz4.2.1 i (by omega)]
    exact hs_.of (fun f j h5 h8 => hz4.2.2.2.2.2 f _ j (by omega))
  have e74 := s4.2.2.1
  refine z_aldq cx (i) (by omega) (by omega) (co_rows E _ (by omega)) rfl dX0_splitRow_12 ?_
  refine z_astore_n cx dX0_splitRow_13 ?_
  refine z_aload_n cx dX0_splitRow_14 rfl ?_
  refine g_X0_0 cx (by omega) fl_X0_11 dX0_splitRow_15 ?_
  refine z_iload_n cx dX0_splitRow_18 rfl ?_
  refine z_iconst cx dX0_splitRow_19 ?_
  refine z_iadd cx dX0_splitRow_20 ?_
  refine z_aldq cx (i + 1) (by omega) (by omega) (co_rows E _ (by omega)) rfl dX0_splitRow_21 ?_
  refine z_astore cx dX0_splitRow_22 ?_
  refine z_aload cx dX0_splitRow_24 rfl ?_
  refine z_aload_n cx dX0_splitRow_26 rfl ?_
  refine g_X3_3 cx (by omega) fl_X0_55 dX0_splitRow_27 ?_
  refine z_iload_n cx dX0_splitRow_30 rfl ?_
  refine z_iconst cx dX0_splitRow_31 ?_
  refine z_iadd cx dX0_splitRow_32 ?_
  refine z_aload_n cx dX0_splitRow_33 rfl ?_
  refine g_X3_2 cx (by omega) fl_X0_59 dX0_splitRow_34 ?_
  rw [e74]
  refine z_iload_n cx dX0_splitRow_37 rfl ?_
  refine z_isub cx dX0_splitRow_38 ?_
  refine z_iconst cx dX0_splitRow_39 ?_
  refine z_isub cx dX0_splitRow_40 ?_
  refine z_vv cx (c_X3_takeText (k := (G4 4 q (i + 1)).toNat) (c0 := 158 + (G4 4 q i).toNat) (n0 := 40) (f0 := 8) (a0 := (G4 4 q i).toNat) (by omega) (by omega) (co_text E _ _) (by omega) (fun j hj => by
      have w1 := s4.2.2.2 (((b : Int) + 1).toNat + j) (by omega)
      have w2 := ho.2.2.2.ch (i := ((b : Int) + 1).toNat + j) (by omega)
      omega)) rfl mv_X3_takeText ml_X0_62 (by omega) (co_sub E _ (by omega)) rfl dX0_splitRow_41 (fun G41 hz41 => ?_)
  subst hz41
  refine z_aload_n cx dX0_splitRow_44 rfl ?_
  refine z_iload_n cx dX0_splitRow_45 rfl ?_
  refine p_X3_2 cx (by omega) fl_X0_59 dX0_splitRow_46 ?_
  refine Z.locs (L49 (G4) _ hz4 ?_ ?_ ?_ ?_ ?_ ?_ ?_) ⟨rfl, rfl, rfl, rfl, rfl, trivial⟩
  · rw [gup_f _ _ _ _ _ _ _ (by decide), gup_f _ _ _ _ _ _ _ (by decide), gcp_eq, if_neg (by omega)]
    exact s4.1
  · rw [gup_f _ _ _ _ _ _ _ (by decide), gup_f _ _ _ _ _ _ _ (by decide), gcp_eq, if_neg (by omega)]
    exact s4.2.1
  · rw [gup_s]
  · rw [gup_a _ _ _ _ _ _ (Ne.symm hk12), gup_s]
  · intro j hj
    rw [gup_f _ _ _ _ _ _ _ (by decide), gup_f _ _ _ _ _ _ _ (by decide), gcp_eq, if_neg (by omega)]
    exact s4.2.2.2 j (by omega)
  · intro j hj
    rw [gup_f _ _ _ _ _ _ _ (by decide), gup_f _ _ _ _ _ _ _ (by decide), gcp_eq, if_pos ⟨rfl, rfl, Nat.zero_le _, by omega⟩, show ((b : Int) + 1).toNat + (j - 0) = b + 1 + j by omega]
    exact s4.2.2.2 _ (by omega)
  · intro f a j hn2
    rw [gup_eq, if_neg (by omega), gup_eq, if_neg (by omega), gcp_eq, if_neg (by omega)]
set_option maxRecDepth 100000 in
set_option maxHeartbeats 4000000 in
theorem c_X0_joinRows {E : En} {G : Wd} {q : Nat} {F : Fm} {i : Nat} (hq : q < 6) (hF : FilmIs G q F) (hO : FOk F) (hi : i + 1 < F.2.2.length) (hb : (F.2.2.getD i dS).2.2.length + 1 + (F.2.2.getD (i + 1) dS).2.2.length ≤ 40) : Ctv E yX0_joinRows cX0_joinRows 4 1 26 [.ref (E.1 (14 + q)), .int (iN (i : Int))] G (fun G' => FilmIs G' q (joiF F i) ∧ FrF q G G') := by
  obtain ⟨hR, hV, hcc, hcu, hn, hs⟩ := id hF
  obtain ⟨hOv, hOc, hOs⟩ := id hO
  have hl20 := hOs.1
  have hl12 := hOc.1
  obtain ⟨hv0, hv1, hv2, hv3, hv4, hv5⟩ := id hOv
  have w0 := hV 0 (by omega)
  have w1 := hV 1 (by omega)
  have w2 := hV 2 (by omega)
  have w3 := hV 3 (by omega)
  have w4 := hV 4 (by omega)
  have w5 := hV 5 (by omega)
  have hk := hR.1 (i) (by omega)
  have hs_ := hs (i) (by omega)
  have ho := hOs.2.1 (i) (by omega)
  have e5 := hs_.1
  have e6 := hs_.2.1
  have e7 := hs_.2.2.1
  have o1 := ho.1
  have o2 := ho.2.1
  have o3 := ho.2.2.1
  have o4 := ho.2.2.2.1
  have o5 := ho.2.2.2.2.1
  have hkn := hR.1 (i + 1) (by omega)
  have hsn_ := hs (i + 1) (by omega)
  have hon := hOs.2.1 (i + 1) (by omega)
  have e5n := hsn_.1
  have e6n := hsn_.2.1
  have e7n := hsn_.2.2.1
  have o1n := hon.1
  have o2n := hon.2.1
  have o3n := hon.2.2.1
  have o4n := hon.2.2.2.1
  have o5n := hon.2.2.2.2.1
  have hkk : (G 4 q i).toNat ≠ (G 4 q (i + 1)).toNat := fun w => by have := hR.2 i (i + 1) (by omega) (by omega) w; omega
  refine Ctv.mk [some (.ref (E.1 (14 + q))), some (.int (iN (i : Int))), none, none] (by decide) rfl (by intro v hv; simp only [List.mem_cons, List.not_mem_nil, or_false] at hv; rcases hv with rfl | rfl <;> rfl) (Nat.le_of_ble_eq_true rfl) ?_
  intro p l e s m args below meth c cx
  have L72 : ∀ (G1 : Wd), (SubIs G1 (G 4 q i).toNat (joiS (F.2.2.getD i dS) (F.2.2.getD (i + 1) dS))) → (∀ f a j, ¬ (5 ≤ f ∧ f ≤ 8 ∧ a = (G 4 q i).toNat) → G1 f a j = G f a j) → Z p l e (zr 1 26) s m args below meth c 4 0 0 E (Qv_ E below args s (fun G' => FilmIs G' q (joiF F i) ∧ FrF q G G')) G1 72 [some (.ref (E.1 (14 + q))), some (.int (iN (i : Int))), none, none] [] := by
    intro G1 hJ gf
    have hset := film_set (S := joiS (F.2.2.getD i dS) (F.2.2.getD (i + 1) dS)) hF hl20 (by omega) hJ gf
    have hn1 : G1 0 q 0 = (F.2.2.length : Int) := (gf 0 q 0 (by omega)).trans hn
    refine z_aload_n cx dX0_joinRows_72 rfl ?_
    refine z_iload_n cx dX0_joinRows_73 rfl ?_
    refine z_iconst cx dX0_joinRows_74 ?_
    refine z_iadd cx dX0_joinRows_75 ?_
    skip
    refine z_vv cx (c_X0_closeRow (pp := i + 1) (nn := F.2.2.length) hq hset.1.1 hn1 (by omega) hl20) rfl mv_X0_closeRow ml_X0_82 (by omega) (co_film E _ (by omega)) rfl dX0_joinRows_76 (fun G76 hz76 => ?_)
    refine z_vret cx dX0_joinRows_79 ?_
    have hcl := RowsClose.film (F := (F.1, F.2.1, F.2.2.set i (joiS (F.2.2.getD i dS) (F.2.2.getD (i + 1) dS)))) (by dsimp only; rw [List.length_set]; exact hz76) hset.1 (by dsimp only; rw [List.length_set]; exact hi) (by dsimp only; rw [List.length_set]; exact hl20)
    exact ⟨hcl, hset.2.tr hz76.fr⟩
  refine z_aload_n cx dX0_joinRows_0 rfl ?_
  refine g_X0_0 cx (by omega) fl_X0_11 dX0_joinRows_1 ?_
  refine z_iload_n cx dX0_joinRows_4 rfl ?_
  refine z_aldq cx (i) (by omega) (by omega) (co_rows E _ (by omega)) rfl dX0_joinRows_5 ?_
  refine z_astore_n cx dX0_joinRows_6 ?_
  refine z_aload_n cx dX0_joinRows_7 rfl ?_
  refine g_X0_0 cx (by omega) fl_X0_11 dX0_joinRows_8 ?_
  refine z_iload_n cx dX0_joinRows_11 rfl ?_
  refine z_iconst cx dX0_joinRows_12 ?_
  refine z_iadd cx dX0_joinRows_13 ?_
  refine z_aldq cx (i + 1) (by omega) (by omega) (co_rows E _ (by omega)) rfl dX0_joinRows_14 ?_
  refine z_astore_n cx dX0_joinRows_15 ?_
  refine z_aload_n cx dX0_joinRows_16 rfl ?_
  refine g_X3_3 cx (by omega) fl_X0_55 dX0_joinRows_17 ?_
  refine z_aload_n cx dX0_joinRows_20 rfl ?_
  refine g_X3_2 cx (by omega) fl_X0_59 dX0_joinRows_21 ?_
  refine z_bipush cx dX0_joinRows_24 ?_
  refine z_cast cx ((F.2.2.getD i dS).2.2.length) (by omega) (by omega) rfl (fun G => co_text E G _) dX0_joinRows_26 ?_
  refine z_aload_n cx dX0_joinRows_27 rfl ?_
  refine g_X3_3 cx (by omega) fl_X0_55 dX0_joinRows_28 ?_
  refine z_iconst cx dX0_joinRows_31 ?_
  refine z_aload_n cx dX0_joinRows_32 rfl ?_
  refine g_X3_3 cx (by omega) fl_X0_55 dX0_joinRows_33 ?_
  refine z_aload_n cx dX0_joinRows_36 rfl ?_
  refine g_X3_2 cx (by omega) fl_X0_59 dX0_joinRows_37 ?_
  refine z_iconst cx dX0_joinRows_40 ?_
  refine z_iadd cx dX0_joinRows_41 ?_
  refine z_aload_n cx dX0_joinRows_42 rfl ?_
  refine g_X3_2 cx (by omega) fl_X0_59 dX0_joinRows_43 ?_
  rw [gup_f _ _ _ _ _ _ _ (show (7 : Nat) ≠ 8 by decide), e7n, gup_f _ _ _ _ _ _ _ (show (7 : Nat) ≠ 8 by decide), e7]
  refine z_copy cx (by omega) (by omega) rfl (co_text E _ _) (fun G => (co_text E G _)) rfl rfl (by 
      intro j hj
      rw [gup_a _ _ _ _ _ _ (Ne.symm hkk)]
      have w1 := hsn_.2.2.2 ((0 : Int).toNat + j) (by omega)
      have w2 := hon.2.2.2.ch (i := (0 : Int).toNat + j) (by omega)
      exact iN_fits_char (by omega)) ml_X0_28 dX0_joinRows_46 ?_
  refine z_aload_n cx dX0_joinRows_49 rfl ?_
  refine z_dup cx dX0_joinRows_50 ?_
  refine g_X3_2 cx (by omega) fl_X0_59 dX0_joinRows_51 ?_
  refine z_iconst cx dX0_joinRows_54 ?_
  refine z_aload_n cx dX0_joinRows_55 rfl ?_
  refine g_X3_2 cx (by omega) fl_X0_59 dX0_joinRows_56 ?_
  refine z_iadd cx dX0_joinRows_59 ?_
  refine z_iadd cx dX0_joinRows_60 ?_
  refine p_X3_2 cx (by omega) fl_X0_59 dX0_joinRows_61 ?_
  refine z_aload_n cx dX0_joinRows_64 rfl ?_
  refine z_aload_n cx dX0_joinRows_65 rfl ?_
  refine g_X3_1 cx (by omega) fl_X0_48 dX0_joinRows_66 ?_
  refine p_X3_1 cx (by omega) fl_X0_48 dX0_joinRows_69 ?_
  refine Z.locs (L72 _ ⟨?_, ?_, ?_, ?_⟩ ?_) ⟨rfl, rfl, trivial⟩
  · rw [gup_f _ _ _ _ _ _ _ (by decide), gup_f _ _ _ _ _ _ _ (by decide), gcp_eq, if_neg (by omega), gup_f _ _ _ _ _ _ _ (by decide)]
    exact e5
  · rw [gup_s, gup_f _ _ _ _ _ _ _ (by decide), gcp_eq, if_neg (by omega), gup_f _ _ _ _ _ _ _ (by decide)]
    exact e6n
  · rw [gup_f _ _ _ _ _ _ _ (by decide), gup_s, gcp_eq, if_neg (by omega), gup_f _ _ _ _ _ _ _ (by decide), gcp_eq, if_neg (by omega), gup_f _ _ _ _ _ _ _ (by decide), e7, e7n]
    unfold joiS
    dsimp only
    rw [List.length_append, List.length_cons]
    omega
  · intro j hj
    unfold joiS at hj ⊢
    dsimp only at hj ⊢
    simp only [List.length_append, List.length_cons] at hj
    rw [gup_f _ _ _ _ _ _ _ (by decide), gup_f _ _ _ _ _ _ _ (by decide)]
    rcases Nat.lt_trichotomy j (F.2.2.getD i dS).2.2.length with w | w | w
    · rw [gcp_eq, if_neg (by omega), gup_i _ _ _ _ _ (by omega), appL_l w]
      exact hs_.2.2.2 j w
    · rw [gcp_eq, if_neg (by omega), w, gup_s, appL_r (Nat.le_refl _), Nat.sub_self]
      rfl
    · rw [gcp_eq, if_pos ⟨rfl, rfl, by omega, by omega⟩, gup_a _ _ _ _ _ _ (Ne.symm hkk), appL_r (by omega), consL (by omega), show (0 : Int).toNat + (j - (((F.2.2.getD i dS).2.2.length : Int) + 1).toNat) = j - (F.2.2.getD i dS).2.2.length - 1 by omega]
      exact hsn_.2.2.2 _ (by omega)
  · intro f a j hn2
    rw [gup_eq, if_neg (by omega), gup_eq, if_neg (by omega), gcp_eq, if_neg (by omega), gup_eq, if_neg (by omega)]
set_option maxRecDepth 100000 in
set_option maxHeartbeats 4000000 in
theorem c_X0_copyTimesFrom {E : En} {G : Wd} {q r : Nat} {F F1 : Fm} (hq : q < 6) (hr : r < 6) (hne : r ≠ q) (hF : FilmIs G r F) (hO : FOk F) (hF1 : FilmIs G q F1) (hvv : F1.1 = F.1) (hc1 : F1.2.1 = F.2.1) (hln : F1.2.2.length = F.2.2.length) (htx : ∀ i, i < F.2.2.length → (F1.2.2.getD i dS).2.2 = (F.2.2.getD i dS).2.2) : Ctv E yX0_copyTimesFrom cX0_copyTimesFrom 3 0 0 [.ref (E.1 (14 + q)), .ref (E.1 (14 + r))] G (fun G' => FilmIs G' q F ∧ FrF q G G') := by
  obtain ⟨hRr, hV, hcc, hcu, hn, hs⟩ := id hF
  obtain ⟨hOv, hOc, hOs⟩ := id hO
  have hl20 := hOs.1
  have hl12 := hOc.1
  obtain ⟨hv0, hv1, hv2, hv3, hv4, hv5⟩ := id hOv
  have w0 := hV 0 (by omega)
  have w1 := hV 1 (by omega)
  have w2 := hV 2 (by omega)
  have w3 := hV 3 (by omega)
  have w4 := hV 4 (by omega)
  have w5 := hV 5 (by omega)
  refine Ctv.mk [some (.ref (E.1 (14 + q))), some (.ref (E.1 (14 + r))), none] (by decide) rfl (by intro v hv; simp only [List.mem_cons, List.not_mem_nil, or_false] at hv; rcases hv with rfl | rfl <;> rfl) (Nat.le_of_ble_eq_true rfl) ?_
  intro p l e s m args below meth c cx
  have L2 : ∀ (n : Nat) (j : Nat) (G1 : Wd), (60 - j) < n → (j ≤ F.2.2.length) → (FilmIs G1 q (F1.1, F1.2.1, (mixL F1.2.2 F.2.2 j))) → (FrF q G G1) → Z p l e (zr 0 0) s m args below meth c 3 0 0 E (Qv_ E below args s (fun G' => FilmIs G' q F ∧ FrF q G G')) G1 2 [some (.ref (E.1 (14 + q))), some (.ref (E.1 (14 + r))), some (.int (iN (j : Int)))] [] := by
    intro n
    induction n with
    | zero =>
      intro j G1 hmu
      exact absurd hmu (Nat.not_lt_zero _)
    | succ n ih =>
      intro j G1 hmu hj hF2 hfr
      have hFr := hF.fr hl20 hfr hne
      obtain ⟨hRr1, -, -, -, hnr1, hsr1⟩ := id hFr
      obtain ⟨hR1, -, -, -, hn1, hs1⟩ := id hF2
      dsimp only at hn1 hs1
      rw [mixL_len] at hn1
      have hml := mixL_len F1.2.2 F.2.2 j
      refine z_iload_n cx dX0_copyTimesFrom_2 rfl ?_
      refine z_aload_n cx dX0_copyTimesFrom_3 rfl ?_
      refine g_X0_1 cx (by omega) fl_X0_34 dX0_copyTimesFrom_4 ?_
      refine z_icmp_ge cx (tgt := 52) dX0_copyTimesFrom_7 (fun h7 => ?_) (fun h7 => ?_)
      · skip
        refine z_vret cx dX0_copyTimesFrom_52 ?_
        have hjl : j = F1.2.2.length := by omega
        subst hjl
        rw [mixL_end hln, hvv, hc1] at hF2
        exact ⟨hF2, hfr⟩
      · skip
        have hkq := hR1.1 j (by omega)
        have hkr := hRr1.1 j (by omega)
        have hsq := hs1 j (by omega)
        have hsr := hsr1 j (by omega)
        have hdk : (G1 4 q j).toNat ≠ (G1 4 r j).toNat := by omega
        have hmj : (mixL F1.2.2 F.2.2 j).getD j dS = F1.2.2.getD j dS := mixL_hi _ _ (Nat.le_refl _)
        rw [hmj] at hsq
        have htj := htx j (by omega)
        refine z_aload_n cx dX0_copyTimesFrom_10 rfl ?_
        refine g_X0_0 cx (by omega) fl_X0_11 dX0_copyTimesFrom_11 ?_
        refine z_iload_n cx dX0_copyTimesFrom_14 rfl ?_
        refine z_aldq cx _ rfl (by omega) (co_rows E _ (by omega)) rfl dX0_copyTimesFrom_15 ?_
        refine z_aload_n cx dX0_copyTimesFrom_16 rfl ?_
        refine g_X0_0 cx (by omega) fl_X0_11 dX0_copyTimesFrom_17 ?_
        refine z_iload_n cx dX0_copyTimesFrom_20 rfl ?_
        refine z_aldq cx _ rfl (by omega) (co_rows E _ (by omega)) rfl dX0_copyTimesFrom_21 ?_
        refine g_X3_0 cx (by omega) fl_X0_45 dX0_copyTimesFrom_22 ?_
        refine p_X3_0 cx (by omega) fl_X0_45 dX0_copyTimesFrom_25 ?_
        refine z_aload_n cx dX0_copyTimesFrom_28 rfl ?_
        refine g_X0_0 cx (by omega) fl_X0_11 dX0_copyTimesFrom_29 ?_
        refine z_iload_n cx dX0_copyTimesFrom_32 rfl ?_
        refine z_aldq cx _ rfl (by omega) (co_rows E _ (by omega)) rfl dX0_copyTimesFrom_33 ?_
        rw [gup_f _ _ _ _ _ _ _ (show (4 : Nat) ≠ 5 by decide)]
        refine z_aload_n cx dX0_copyTimesFrom_34 rfl ?_
        refine g_X0_0 cx (by omega) fl_X0_11 dX0_copyTimesFrom_35 ?_
        refine z_iload_n cx dX0_copyTimesFrom_38 rfl ?_
        refine z_aldq cx _ rfl (by omega) (co_rows E _ (by omega)) rfl dX0_copyTimesFrom_39 ?_
        rw [gup_f _ _ _ _ _ _ _ (show (4 : Nat) ≠ 5 by decide)]
        refine g_X3_1 cx (by omega) fl_X0_48 dX0_copyTimesFrom_40 ?_
        rw [gup_f _ _ _ _ _ _ _ (show (6 : Nat) ≠ 5 by decide)]
        refine p_X3_1 cx (by omega) fl_X0_48 dX0_copyTimesFrom_43 ?_
        refine z_iinc cx dX0_copyTimesFrom_46 rfl ?_
        refine z_goto cx (tgt := 2) dX0_copyTimesFrom_49 ?_
        have hset := film_set (F := (F1.1, F1.2.1, (mixL F1.2.2 F.2.2 j))) (i := j) (S := F.2.2.getD j dS) (G1 := gup (gup G1 5 (G1 4 q j).toNat 0 (G1 5 (G1 4 r j).toNat 0)) 6 (G1 4 q j).toNat 0 (G1 6 (G1 4 r j).toNat 0)) hF2 (by dsimp only; omega) (by dsimp only; omega) ⟨by rw [gup_f _ _ _ _ _ _ _ (by decide), gup_s]; exact hsr.1, by rw [gup_s]; exact hsr.2.1, by rw [gup_f _ _ _ _ _ _ _ (by decide), gup_f _ _ _ _ _ _ _ (by decide), ← htj]; exact hsq.2.2.1, fun j2 h2 => by rw [gup_f _ _ _ _ _ _ _ (by decide), gup_f _ _ _ _ _ _ _ (by decide), ← htj]; exact hsq.2.2.2 j2 (by rw [htj]; exact h2)⟩ (fun f a j2 hn2 => by rw [gup_eq, if_neg (by omega), gup_eq, if_neg (by omega)])
        refine Z.locs (ih (j + 1) _ (by omega) (by omega) hset.1 (hfr.tr hset.2)) ⟨rfl, rfl, rfl, trivial⟩
  refine z_iconst cx dX0_copyTimesFrom_0 ?_
  refine z_istore_n cx dX0_copyTimesFrom_1 ?_
  refine Z.locs (L2 _ (0) _ (Nat.lt_succ_self _) (by omega) hF1 FrF.rf) ⟨rfl, rfl, rfl, trivial⟩
set_option maxRecDepth 100000 in
set_option maxHeartbeats 4000000 in
theorem c_X1_record {E : En} {G : Wd} {la ct : Nat} {F : Fm} (hla : G 10 0 0 = la) (hla3 : la ≤ 3) (hct : G 9 0 0 = ct) (hct4 : ct ≤ 4) (hF : FilmIs G 0 F) (hO : FOk F) (hRw : ∀ q, q < 6 → RowOk G q) : Ctv E yX1_record cX1_record 2 4 92 [.ref (E.1 1), .ref (E.1 (14 + 0))] G (fun G' => G' 10 0 0 = ((if la < 3 then la + 1 else 0) : Nat) ∧ G' 9 0 0 = min ((ct : Int) + 1) 4 ∧ FilmIs G' (2 + (if la < 3 then la + 1 else 0)) F ∧ ∀ f a i, ¬ (f = 9 ∨ f = 10 ∨ inF (2 + (if la < 3 then la + 1 else 0)) f a) → G' f a i = G f a i) := by
  have hl20 := hO.2.2.1
  have hnl : (if la < 3 then la + 1 else 0) ≤ 3 := by split <;> omega
  refine Ctv.mk [some (.ref (E.1 1)), some (.ref (E.1 (14 + 0)))] (by decide) rfl (by intro v hv; simp only [List.mem_cons, List.not_mem_nil, or_false] at hv; rcases hv with rfl | rfl <;> rfl) (Nat.le_of_ble_eq_true rfl) ?_
  intro p l e s m args below meth c cx
  refine z_aload_n cx dX1_record_0 rfl ?_
  refine z_aload_n cx dX1_record_1 rfl ?_
  refine g_X1_2 cx fl_X1_18 dX1_record_2 ?_
  refine z_iconst cx dX1_record_5 ?_
  refine z_icmp_ge cx (tgt := 18) dX1_record_6 (fun h6 => ?_) (fun h6 => ?_)
  · skip
    refine z_iconst cx dX1_record_18 ?_
    first
    | rw [hla, show (la : Int) + 1 = (((if la < 3 then la + 1 else 0) : Nat) : Int) by rw [if_pos (by omega)]; simp]
    | rw [show (0 : Int) = (((if la < 3 then la + 1 else 0) : Nat) : Int) by rw [if_neg (by omega)]; simp]
    refine p_X1_2 cx fl_X1_18 dX1_record_19 ?_
    have hF2 : FilmIs (gup G 10 0 0 (((if la < 3 then la + 1 else 0) : Nat) : Int)) 0 F := ⟨hF.1, hF.2.1, hF.2.2.1, hF.2.2.2.1, hF.2.2.2.2.1, hF.2.2.2.2.2⟩
    refine z_aload_n cx dX1_record_22 rfl ?_
    refine g_X1_0 cx fl_X1_11 dX1_record_23 ?_
    refine z_aload_n cx dX1_record_26 rfl ?_
    refine g_X1_2 cx fl_X1_18 dX1_record_27 ?_
    rw [gup_s]
    refine z_state cx _ rfl dX1_record_30 ?_
    refine z_aload_n cx dX1_record_31 rfl ?_
    refine z_vv cx (c_X0_copyFrom (q := 2 + (if la < 3 then la + 1 else 0)) (r := 0) (by omega) (by omega) (by omega) hF2 hO (show RowOk _ _ from hRw _ (by omega))) rfl mv_X0_copyFrom ml_X1_22 (by omega) (co_film E _ (by omega)) rfl dX1_record_32 (fun G32 hz32 => ?_)
    refine z_aload_n cx dX1_record_35 rfl ?_
    refine z_aload_n cx dX1_record_36 rfl ?_
    refine g_X1_1 cx fl_X1_26 dX1_record_37 ?_
    refine z_iconst cx dX1_record_40 ?_
    refine z_iadd cx dX1_record_41 ?_
    refine z_iconst cx dX1_record_42 ?_
    have h9 := hz32.2 9 0 0 (by unfold inF; omega)
    rw [gup_f _ _ _ _ _ _ _ (by decide), hct] at h9
    refine z_min cx ml_X1_29 dX1_record_43 ?_
    refine p_X1_1 cx fl_X1_26 dX1_record_46 ?_
    refine z_vret cx dX1_record_49 ?_
    have hfr := hz32.2
    refine ⟨?_, ?_, ?_, fun f a i hn2 => ?_⟩
    · rw [gup_f _ _ _ _ _ _ _ (by decide), hfr 10 0 0 (by unfold inF; omega), gup_s]
    · rw [gup_s, hfr 9 0 0 (by unfold inF; omega), gup_f _ _ _ _ _ _ _ (by decide), hct]
    · exact ⟨hz32.1.1, hz32.1.2.1, hz32.1.2.2.1, hz32.1.2.2.2.1, hz32.1.2.2.2.2.1, hz32.1.2.2.2.2.2⟩
    · rw [gup_eq, if_neg (by omega), hfr f a i (fun w => hn2 (Or.inr (Or.inr w))), gup_eq, if_neg (by omega)]
  · skip
    refine z_aload_n cx dX1_record_9 rfl ?_
    refine g_X1_2 cx fl_X1_18 dX1_record_10 ?_
    refine z_iconst cx dX1_record_13 ?_
    refine z_iadd cx dX1_record_14 ?_
    refine z_goto cx (tgt := 19) dX1_record_15 ?_
    first
    | rw [hla, show (la : Int) + 1 = (((if la < 3 then la + 1 else 0) : Nat) : Int) by rw [if_pos (by omega)]; simp]
    | rw [show (0 : Int) = (((if la < 3 then la + 1 else 0) : Nat) : Int) by rw [if_neg (by omega)]; simp]
    refine p_X1_2 cx fl_X1_18 dX1_record_19 ?_
    have hF2 : FilmIs (gup G 10 0 0 (((if la < 3 then la + 1 else 0) : Nat) : Int)) 0 F := ⟨hF.1, hF.2.1, hF.2.2.1, hF.2.2.2.1, hF.2.2.2.2.1, hF.2.2.2.2.2⟩
    refine z_aload_n cx dX1_record_22 rfl ?_
    refine g_X1_0 cx fl_X1_11 dX1_record_23 ?_
    refine z_aload_n cx dX1_record_26 rfl ?_
    refine g_X1_2 cx fl_X1_18 dX1_record_27 ?_
    rw [gup_s]
    refine z_state cx _ rfl dX1_record_30 ?_
    refine z_aload_n cx dX1_record_31 rfl ?_
    refine z_vv cx (c_X0_copyFrom (q := 2 + (if la < 3 then la + 1 else 0)) (r := 0) (by omega) (by omega) (by omega) hF2 hO (show RowOk _ _ from hRw _ (by omega))) rfl mv_X0_copyFrom ml_X1_22 (by omega) (co_film E _ (by omega)) rfl dX1_record_32 (fun G32 hz32 => ?_)
    refine z_aload_n cx dX1_record_35 rfl ?_
    refine z_aload_n cx dX1_record_36 rfl ?_
    refine g_X1_1 cx fl_X1_26 dX1_record_37 ?_
    refine z_iconst cx dX1_record_40 ?_
    refine z_iadd cx dX1_record_41 ?_
    refine z_iconst cx dX1_record_42 ?_
    have h9 := hz32.2 9 0 0 (by unfold inF; omega)
    rw [gup_f _ _ _ _ _ _ _ (by decide), hct] at h9
    refine z_min cx ml_X1_29 dX1_record_43 ?_
    refine p_X1_1 cx fl_X1_26 dX1_record_46 ?_
    refine z_vret cx dX1_record_49 ?_
    have hfr := hz32.2
    refine ⟨?_, ?_, ?_, fun f a i hn2 => ?_⟩
    · rw [gup_f _ _ _ _ _ _ _ (by decide), hfr 10 0 0 (by unfold inF; omega), gup_s]
    · rw [gup_s, hfr 9 0 0 (by unfold inF; omega), gup_f _ _ _ _ _ _ _ (by decide), hct]
    · exact ⟨hz32.1.1, hz32.1.2.1, hz32.1.2.2.1, hz32.1.2.2.2.1, hz32.1.2.2.2.2.1, hz32.1.2.2.2.2.2⟩
    · rw [gup_eq, if_neg (by omega), hfr f a i (fun w => hn2 (Or.inr (Or.inr w))), gup_eq, if_neg (by omega)]
set_option maxRecDepth 100000 in
set_option maxHeartbeats 4000000 in
theorem c_X1_restore {E : En} {G : Wd} {la ct : Nat} {F : Fm} (hla : G 10 0 0 = la) (hla3 : la ≤ 3) (hct : G 9 0 0 = ct) (hct4 : 1 ≤ ct ∧ ct ≤ 4) (hF : FilmIs G (2 + la) F) (hO : FOk F) (hRw : ∀ q, q < 6 → RowOk G q) : Ctv E yX1_restore cX1_restore 2 4 92 [.ref (E.1 1), .ref (E.1 (14 + 0))] G (fun G' => G' 10 0 0 = ((if 0 < la then la - 1 else 3) : Nat) ∧ G' 9 0 0 = (ct : Int) - 1 ∧ FilmIs G' 0 F ∧ ∀ f a i, ¬ (f = 9 ∨ f = 10 ∨ inF 0 f a) → G' f a i = G f a i) := by
  have hl20 := hO.2.2.1
  refine Ctv.mk [some (.ref (E.1 1)), some (.ref (E.1 (14 + 0)))] (by decide) rfl (by intro v hv; simp only [List.mem_cons, List.not_mem_nil, or_false] at hv; rcases hv with rfl | rfl <;> rfl) (Nat.le_of_ble_eq_true rfl) ?_
  intro p l e s m args below meth c cx
  refine z_aload_n cx dX1_restore_0 rfl ?_
  refine z_aload_n cx dX1_restore_1 rfl ?_
  refine g_X1_0 cx fl_X1_11 dX1_restore_2 ?_
  refine z_aload_n cx dX1_restore_5 rfl ?_
  refine g_X1_2 cx fl_X1_18 dX1_restore_6 ?_
  rw [hla]
  refine z_state cx _ rfl dX1_restore_9 ?_
  refine z_vv cx (c_X0_copyFrom (q := 0) (r := 2 + la) (by omega) (by omega) (by omega) hF hO (hRw _ (by omega))) rfl mv_X0_copyFrom ml_X1_22 (by omega) (co_film E _ (by omega)) rfl dX1_restore_10 (fun G10 hz10 => ?_)
  have h10 := hz10.2 10 0 0 (by unfold inF; omega)
  have h9 := hz10.2 9 0 0 (by unfold inF; omega)
  rw [hla] at h10
  rw [hct] at h9
  refine z_aload_n cx dX1_restore_13 rfl ?_
  refine z_aload_n cx dX1_restore_14 rfl ?_
  refine g_X1_2 cx fl_X1_18 dX1_restore_15 ?_
  refine z_if_le cx (tgt := 30) dX1_restore_18 (fun h18 => ?_) (fun h18 => ?_)
  · skip
    refine z_iconst cx dX1_restore_30 ?_
    refine p_X1_2 cx fl_X1_18 dX1_restore_31 ?_
    refine z_aload_n cx dX1_restore_34 rfl ?_
    refine z_dup cx dX1_restore_35 ?_
    refine g_X1_1 cx fl_X1_26 dX1_restore_36 ?_
    refine z_iconst cx dX1_restore_39 ?_
    refine z_isub cx dX1_restore_40 ?_
    refine p_X1_1 cx fl_X1_26 dX1_restore_41 ?_
    refine z_vret cx dX1_restore_44 ?_
    refine ⟨?_, ?_, ?_, fun f a i hn2 => ?_⟩
    · rw [gup_f _ _ _ _ _ _ _ (by decide), gup_s]
      split <;> omega
    · rw [gup_s, gup_f _ _ _ _ _ _ _ (by decide), h9]
    · exact ⟨hz10.1.1, hz10.1.2.1, hz10.1.2.2.1, hz10.1.2.2.2.1, hz10.1.2.2.2.2.1, hz10.1.2.2.2.2.2⟩
    · rw [gup_eq, if_neg (by omega), gup_eq, if_neg (by omega), hz10.2 f a i (fun w => hn2 (Or.inr (Or.inr w)))]
  · skip
    refine z_aload_n cx dX1_restore_21 rfl ?_
    refine g_X1_2 cx fl_X1_18 dX1_restore_22 ?_
    refine z_iconst cx dX1_restore_25 ?_
    refine z_isub cx dX1_restore_26 ?_
    refine z_goto cx (tgt := 31) dX1_restore_27 ?_
    refine p_X1_2 cx fl_X1_18 dX1_restore_31 ?_
    refine z_aload_n cx dX1_restore_34 rfl ?_
    refine z_dup cx dX1_restore_35 ?_
    refine g_X1_1 cx fl_X1_26 dX1_restore_36 ?_
    refine z_iconst cx dX1_restore_39 ?_
    refine z_isub cx dX1_restore_40 ?_
    refine p_X1_1 cx fl_X1_26 dX1_restore_41 ?_
    refine z_vret cx dX1_restore_44 ?_
    refine ⟨?_, ?_, ?_, fun f a i hn2 => ?_⟩
    · rw [gup_f _ _ _ _ _ _ _ (by decide), gup_s]
      split <;> omega
    · rw [gup_s, gup_f _ _ _ _ _ _ _ (by decide), h9]
    · exact ⟨hz10.1.1, hz10.1.2.1, hz10.1.2.2.1, hz10.1.2.2.2.1, hz10.1.2.2.2.2.1, hz10.1.2.2.2.2.2⟩
    · rw [gup_eq, if_neg (by omega), gup_eq, if_neg (by omega), hz10.2 f a i (fun w => hn2 (Or.inr (Or.inr w)))]
