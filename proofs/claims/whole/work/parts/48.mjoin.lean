/-! ===== the model: split, join ===== -/
set_option maxRecDepth 100000 in
set_option maxHeartbeats 4000000 in
theorem c_X5_split {E : En} {G : Wd} {A : Ast} (hR : MRel G A) (hA : AOk A) {x : Int} (hx : -2147483648 ≤ x ∧ x < 2147483648) : Cti E yX5_split cX5_split 2 .int 5 121 [.ref (E.1 6), .int (iN (x))] G (fun z G' => z = (s_split A x).1 ∧ MRel G' (s_split A x).2 ∧ CFx G G') := by
  have hM := hR.1
  have hO := hA.1
  obtain ⟨m0, mV, m7, mC, mS⟩ := id hM
  obtain ⟨hOv, hOc, hOs⟩ := id hO
  have hl20 := hOs.1
  have hl12 := hOc.1
  obtain ⟨hv0, hv1, hv2, hv3, hv4, hv5⟩ := id hOv
  have v0 : G 20 0 1 = A.1.1 0 := mV 0 (by omega)
  have v1 : G 20 0 2 = A.1.1 1 := mV 1 (by omega)
  have v2 : G 20 0 3 = A.1.1 2 := mV 2 (by omega)
  have v3 : G 20 0 4 = A.1.1 3 := mV 3 (by omega)
  have v4 : G 20 0 5 = A.1.1 4 := mV 4 (by omega)
  have v5 : G 20 0 6 = A.1.1 5 := mV 5 (by omega)
  refine Cti.mk [some (.ref (E.1 6)), some (.int (iN (x)))] (by decide) rfl (by intro v hv; simp only [List.mem_cons, List.not_mem_nil, or_false] at hv; rcases hv with rfl | rfl <;> rfl) (Nat.le_of_ble_eq_true rfl) ?_
  intro p l e s m args below meth c cx
  refine z_aload_n cx dX5_split_0 rfl ?_
  refine z_iload_n cx dX5_split_1 rfl ?_
  refine z_vi cx (c_X5_isSubtitle (by omega) m0) rfl mv_X5_isSubtitle ml_X5_162 (by omega) (co_mod E _) rfl dX5_split_2 (fun z2 G2 hz2 => ?_)
  obtain ⟨eG, hz2⟩ := hz2
  have eG := eG.symm
  subst eG
  refine z_if_ne cx (tgt := 10) dX5_split_5 (fun h5 => ?_) (fun h5 => ?_)
  · skip
    obtain ⟨k, hxk⟩ : ∃ k : Nat, x = k := ⟨x.toNat, by omega⟩
    have hs_ := mS (k) (by omega)
    have ho := hOs.2.1 (k) (by omega)
    have t0 := hs_.1
    have t1 := hs_.2.1
    have t2 := hs_.2.2.1
    have t3 := hs_.2.2.2
    have o1 := ho.1
    have o2 := ho.2.1
    have o3 := ho.2.2.1
    have o4 := ho.2.2.2.1
    have o5 := ho.2.2.2.2.1
    have hbr : (bBl (A.1.2.2.getD k dS).2.2 = -6 ∨ 1 ≤ bBl (A.1.2.2.getD k dS).2.2) ∧ bBl (A.1.2.2.getD k dS).2.2 ≤ 41 := by
      rcases bBl_p ho.2.2.2 with w | ⟨j, w1, w2, w3, -⟩ <;> omega
    refine z_aload_n cx dX5_split_10 rfl ?_
    refine z_iload_n cx dX5_split_11 rfl ?_
    refine z_vi cx (c_X5_bestBlank hxk hs_ ho (by omega)) rfl mv_X5_bestBlank ml_X5_174 (by omega) (co_mod E _) rfl dX5_split_12 (fun z12 G12 hz12 => ?_)
    obtain ⟨eG, rfl⟩ := hz12
    have eG := eG.symm
    subst eG
    refine z_if_lt cx (tgt := 33) dX5_split_15 (fun h15 => ?_) (fun h15 => ?_)
    · skip
      refine z_bipush cx dX5_split_33 ?_
      refine z_iret cx dX5_split_35 ?_
      rw [show s_split A x = (-5, A) from by unfold s_split; rw [if_pos (by omega), hxk, Int.toNat_natCast, if_pos (by omega)]]
      exact ⟨rfl, hR, CFx.rf⟩
    · skip
      refine z_aload_n cx dX5_split_18 rfl ?_
      refine z_iload_n cx dX5_split_19 rfl ?_
      refine z_vi cx (c_X5_framesOf (20 + 43 * k) (by omega) (by omega)) rfl mv_X5_framesOf ml_X5_65 (by omega) (co_mod E _) rfl dX5_split_20 (fun z20 G20 hz20 => ?_)
      obtain ⟨eG, rfl⟩ := hz20
      have eG := eG.symm
      subst eG
      refine z_aload_n cx dX5_split_23 rfl ?_
      refine z_iconst cx dX5_split_24 ?_
      refine z_vi cx (c_X5_its 2 rfl (by omega)) rfl mv_X5_its ml_X5_47 (by omega) (co_mod E _) rfl dX5_split_25 (fun z25 G25 hz25 => ?_)
      obtain ⟨eG, rfl⟩ := hz25
      have eG := eG.symm
      subst eG
      refine z_iconst cx dX5_split_28 ?_
      refine z_iadd cx dX5_split_29 ?_
      refine z_icmp_ge cx (tgt := 36) dX5_split_30 (fun h30 => ?_) (fun h30 => ?_)
      · skip
        refine z_aload_n cx dX5_split_36 rfl ?_
        refine g_X5_0 cx fl_X5_7 dX5_split_37 ?_
        refine z_iconst cx dX5_split_40 ?_
        refine z_iald cx (0) (by omega) (by omega) (co_s E _) dX5_split_41 ?_
        refine z_bipush cx dX5_split_42 ?_
        refine z_icmp_ne cx (tgt := 50) dX5_split_44 (fun h44 => ?_) (fun h44 => ?_)
        · skip
          refine z_aload_n cx dX5_split_50 rfl ?_
          obtain ⟨b, hb1, hb2, hb3, hb4⟩ : ∃ j : Nat, 1 ≤ j ∧ j + 1 < (A.1.2.2.getD k dS).2.2.length ∧ bBl (A.1.2.2.getD k dS).2.2 = j ∧ (A.1.2.2.getD k dS).2.2.getD j 0 = 32 := by
            rcases bBl_p ho.2.2.2 with w | w
            · exfalso; omega
            · exact w
          refine z_vv cx (c_X5_begins) rfl mv_X5_begins ml_X5_147 (by omega) (co_mod E _) rfl dX5_split_51 (fun G51 hz51 => ?_)
          obtain ⟨hMid, hBc, hBs⟩ := begins_mid hR hA hz51
          have bM := hMid.1
          refine z_aload_n cx dX5_split_54 rfl ?_
          refine z_aload_n cx dX5_split_55 rfl ?_
          refine z_iload_n cx dX5_split_56 rfl ?_
          refine z_vi cx (c_X5_splits (b := b) bM hO hxk (by omega) (by omega) hb3 (by omega) (by omega)) rfl mv_X5_splits ml_X5_177 (by omega) (co_mod E _) rfl dX5_split_57 (fun z57 G57 hz57 => ?_)
          obtain ⟨hz57v, hz57⟩ := hz57
          subst hz57v
          refine z_vi cx (c_X5_records (F := splF A.1 k b) (hMid.fr hz57.2 hz57.1) hA) rfl mv_X5_records ml_X5_159 (by omega) (co_mod E _) rfl dX5_split_60 (fun z60 G60 hz60 => ?_)
          obtain ⟨rfl, hrmhz60, hrchz60⟩ := hz60
          refine z_iret cx dX5_split_63 ?_
          rw [show s_split A x = ((b : Int), act A (splF A.1 k b)) from by unfold s_split; rw [if_pos (by omega), hxk, Int.toNat_natCast, if_neg (by omega), if_neg (by omega), hb3, Int.toNat_natCast]]
          exact ⟨rfl, hrmhz60, hBc.tr (hz57.2.cfx.tr hrchz60)⟩
        · skip
          refine z_bipush cx dX5_split_47 ?_
          refine z_iret cx dX5_split_49 ?_
          rw [show s_split A x = (-4, A) from by unfold s_split; rw [if_pos (by omega), hxk, Int.toNat_natCast, if_neg (by omega), if_pos (by omega)]]
          exact ⟨rfl, hR, CFx.rf⟩
      · skip
        refine z_bipush cx dX5_split_33 ?_
        refine z_iret cx dX5_split_35 ?_
        rw [show s_split A x = (-5, A) from by unfold s_split; rw [if_pos (by omega), hxk, Int.toNat_natCast, if_pos (by omega)]]
        exact ⟨rfl, hR, CFx.rf⟩
  · skip
    refine z_iconst cx dX5_split_8 ?_
    refine z_iret cx dX5_split_9 ?_
    rw [show s_split A x = (-1, A) from by unfold s_split; rw [if_neg (by omega)]]
    exact ⟨rfl, hR, CFx.rf⟩
set_option maxRecDepth 100000 in
set_option maxHeartbeats 4000000 in
theorem c_X5_join {E : En} {G : Wd} {A : Ast} (hR : MRel G A) (hA : AOk A) {x : Int} (hx : -2147483648 ≤ x ∧ x < 2147483648) : Cti E yX5_join cX5_join 5 .int 3 68 [.ref (E.1 6), .int (iN (x))] G (fun z G' => z = (s_join A x).1 ∧ MRel G' (s_join A x).2 ∧ CFx G G') := by
  have hM := hR.1
  have hO := hA.1
  obtain ⟨m0, mV, m7, mC, mS⟩ := id hM
  obtain ⟨hOv, hOc, hOs⟩ := id hO
  have hl20 := hOs.1
  have hl12 := hOc.1
  obtain ⟨hv0, hv1, hv2, hv3, hv4, hv5⟩ := id hOv
  have v0 : G 20 0 1 = A.1.1 0 := mV 0 (by omega)
  have v1 : G 20 0 2 = A.1.1 1 := mV 1 (by omega)
  have v2 : G 20 0 3 = A.1.1 2 := mV 2 (by omega)
  have v3 : G 20 0 4 = A.1.1 3 := mV 3 (by omega)
  have v4 : G 20 0 5 = A.1.1 4 := mV 4 (by omega)
  have v5 : G 20 0 6 = A.1.1 5 := mV 5 (by omega)
  refine Cti.mk [some (.ref (E.1 6)), some (.int (iN (x))), none, none, none] (by decide) rfl (by intro v hv; simp only [List.mem_cons, List.not_mem_nil, or_false] at hv; rcases hv with rfl | rfl <;> rfl) (Nat.le_of_ble_eq_true rfl) ?_
  intro p l e s m args below meth c cx
  have L66 : ∀ (n : Nat) (j k : Nat) (GB G1 : Wd), (60 - j) < n → (x = (k : Int)) → (k + 1 < A.1.2.2.length) → (j ≤ (A.1.2.2.getD (k + 1) dS).2.2.length) → ((A.1.2.2.getD k dS).2.2.length + 1 + (A.1.2.2.getD (k + 1) dS).2.2.length ≤ 40) → (MMid GB A A.1) → (CFx G GB) → (∀ w, w < (A.1.2.2.getD k dS).2.2.length + 1 + j → G1 20 0 (20 + 43 * k + 3 + w) = (joiS (A.1.2.2.getD k dS) (A.1.2.2.getD (k + 1) dS)).2.2.getD w 0) → (∀ q, ¬ (20 + 43 * k + 3 ≤ q ∧ q < 20 + 43 * k + 43) → G1 20 0 q = GB 20 0 q) → (FrM GB G1) → Z p l e (zr 3 68) s m args below meth c 5 0 0 E (Qi_ E below args s (fun z G' => z = (s_join A x).1 ∧ MRel G' (s_join A x).2 ∧ CFx G G')) G1 66 [some (.ref (E.1 6)), some (.int (iN (x))), some (.int (iN (((A.1.2.2.getD k dS).2.2.length : Int)))), some (.int (iN (((A.1.2.2.getD (k + 1) dS).2.2.length : Int)))), some (.int (iN ((j : Int))))] [] := by
    intro n
    induction n with
    | zero =>
      intro j k GB G1 hmu
      exact absurd hmu (Nat.not_lt_zero _)
    | succ n ih =>
      intro j k GB G1 hmu hxk hk hj hlen hMid hBc a8 gk hf
      have hs_ := mS (k) (by omega)
      have ho := hOs.2.1 (k) (by omega)
      have t0 := hs_.1
      have t1 := hs_.2.1
      have t2 := hs_.2.2.1
      have t3 := hs_.2.2.2
      have o1 := ho.1
      have o2 := ho.2.1
      have o3 := ho.2.2.1
      have o4 := ho.2.2.2.1
      have o5 := ho.2.2.2.2.1
      have hsn_ := mS (k + 1) (by omega)
      have hon := hOs.2.1 (k + 1) (by omega)
      have t0n := hsn_.1
      have t1n := hsn_.2.1
      have t2n := hsn_.2.2.1
      have t3n := hsn_.2.2.2
      have o1n := hon.1
      have o2n := hon.2.1
      have o3n := hon.2.2.1
      have o4n := hon.2.2.2.1
      have o5n := hon.2.2.2.2.1
      have gS := hMid.1.2.2.2.2 k (by omega)
      have gN := hMid.1.2.2.2.2 (k + 1) hk
      refine z_iload cx dX5_join_66 rfl ?_
      refine z_iload_n cx dX5_join_68 rfl ?_
      refine z_icmp_ge cx (tgt := 100) dX5_join_69 (fun h69 => ?_) (fun h69 => ?_)
      · skip
        refine z_aload_n cx dX5_join_100 rfl ?_
        refine z_iload_n cx dX5_join_101 rfl ?_
        refine z_iconst cx dX5_join_102 ?_
        refine z_iload_n cx dX5_join_103 rfl ?_
        refine z_iconst cx dX5_join_104 ?_
        refine z_iadd cx dX5_join_105 ?_
        refine z_iload_n cx dX5_join_106 rfl ?_
        refine z_iadd cx dX5_join_107 ?_
        refine z_vv cx (c_X5_lays (20 + 43 * k + 2) (by omega) (by omega)) rfl mv_X5_lays ml_X5_51 (by omega) (co_mod E _) rfl dX5_join_108 (fun G108 hz108 => ?_)
        subst hz108
        refine z_aload_n cx dX5_join_111 rfl ?_
        refine z_iload_n cx dX5_join_112 rfl ?_
        refine z_iconst cx dX5_join_113 ?_
        refine z_aload_n cx dX5_join_114 rfl ?_
        refine z_iload_n cx dX5_join_115 rfl ?_
        refine z_iconst cx dX5_join_116 ?_
        refine z_iadd cx dX5_join_117 ?_
        refine z_iconst cx dX5_join_118 ?_
        refine z_vi cx (c_X5_of (20 + 43 * (k + 1) + 1) (by omega) (by omega)) rfl mv_X5_of ml_X5_43 (by omega) (co_mod E _) rfl dX5_join_119 (fun z119 G119 hz119 => ?_)
        obtain ⟨eG, rfl⟩ := hz119
        have eG := eG.symm
        subst eG
        rw [gup_i _ _ _ _ _ (by omega), gk _ (by omega), gN.2.1]
        refine z_vv cx (c_X5_lays (20 + 43 * k + 1) (by omega) (by omega)) rfl mv_X5_lays ml_X5_51 (by omega) (co_mod E _) rfl dX5_join_122 (fun G122 hz122 => ?_)
        subst hz122
        obtain ⟨GJ, hGJ⟩ : ∃ W : Wd, W = gup (gup G1 20 0 (20 + 43 * k + 2) (((A.1.2.2.getD k dS).2.2.length : Int) + 1 + ((A.1.2.2.getD (k + 1) dS).2.2.length : Int))) 20 0 (20 + 43 * k + 1) (A.1.2.2.getD (k + 1) dS).2.1 := ⟨_, rfl⟩
        rw [← hGJ]
        have hfJ : FrM GB GJ := by
          rw [hGJ]
          exact hf.up.up
        have hMJ : MFilm (GJ 20 0) (A.1.1, A.1.2.1, A.1.2.2.set k (joiS (A.1.2.2.getD k dS) (A.1.2.2.getD (k + 1) dS))) := by
          refine mfilm_setw hMid.1 hO.W (by omega) ⟨?_, ?_, ?_, fun w hw => ?_⟩ (fun q hq => ?_)
          · rw [hGJ, gup_i _ _ _ _ _ (by omega), gup_i _ _ _ _ _ (by omega), gk _ (by omega)]; exact gS.1
          · rw [hGJ, gup_s]; rfl
          · rw [hGJ, gup_i _ _ _ _ _ (by omega), gup_s]
            unfold joiS
            dsimp only
            rw [List.length_append, List.length_cons]
            omega
          · rw [hGJ, gup_i _ _ _ _ _ (by omega), gup_i _ _ _ _ _ (by omega)]
            refine a8 w ?_
            unfold joiS at hw
            dsimp only at hw
            rw [List.length_append, List.length_cons] at hw
            omega
          · rw [hGJ, gup_i _ _ _ _ _ (by omega), gup_i _ _ _ _ _ (by omega)]
            exact gk q (by omega)
        have hWJ : FW (A.1.1, A.1.2.1, A.1.2.2.set k (joiS (A.1.2.2.getD k dS) (A.1.2.2.getD (k + 1) dS))) := by
          refine ⟨hl12, fun i hi => ?_⟩
          dsimp only at hi ⊢
          rw [List.length_set] at hi
          by_cases q : i = k
          · subst q
            rw [setL_eq hi]
            unfold joiS
            dsimp only
            rw [List.length_append, List.length_cons]
            omega
          · rw [setL_ne q]
            exact hO.W.2 i hi
        have hlJ : (A.1.2.2.set k (joiS (A.1.2.2.getD k dS) (A.1.2.2.getD (k + 1) dS))).length = A.1.2.2.length := List.length_set
        refine z_aload_n cx dX5_join_125 rfl ?_
        refine z_iload_n cx dX5_join_126 rfl ?_
        refine z_iconst cx dX5_join_127 ?_
        refine z_iadd cx dX5_join_128 ?_
        refine z_vv cx (c_X5_closes (k + 1) A.1.2.2.length (by omega) (hMJ.1.trans (by rw [hlJ])) (by omega)) rfl mv_X5_closes ml_X5_165 (by omega) (co_mod E _) rfl dX5_join_129 (fun G129 hz129 => ?_)
        refine z_aload_n cx dX5_join_132 rfl ?_
        refine z_iload_n cx dX5_join_133 rfl ?_
        refine z_iconst cx dX5_join_134 ?_
        refine z_iadd cx dX5_join_135 ?_
        refine z_iload_n cx dX5_join_136 rfl ?_
        refine z_iadd cx dX5_join_137 ?_
        refine z_vi cx (c_X5_records (F := joiF A.1 k) (hMid.fr (hfJ.tr hz129.1) (MClose.filmw (F := (A.1.1, A.1.2.1, A.1.2.2.set k (joiS (A.1.2.2.getD k dS) (A.1.2.2.getD (k + 1) dS)))) (by dsimp only; rw [hlJ]; exact hz129) hMJ hWJ (by dsimp only; omega))) hA) rfl mv_X5_records ml_X5_159 (by omega) (co_mod E _) rfl dX5_join_138 (fun z138 G138 hz138 => ?_)
        obtain ⟨rfl, hrmhz138, hrchz138⟩ := hz138
        refine z_iret cx dX5_join_141 ?_
        rw [show s_join A x = (((A.1.2.2.getD k dS).2.2.length : Int) + 1 + ((A.1.2.2.getD (k + 1) dS).2.2.length : Int), act A (joiF A.1 k)) from by unfold s_join; rw [if_pos (by omega), hxk, Int.toNat_natCast, if_neg (by omega)]]
        exact ⟨rfl, hrmhz138, hBc.tr (hfJ.cfx.tr (hz129.1.cfx.tr hrchz138))⟩
      · skip
        refine z_aload_n cx dX5_join_72 rfl ?_
        refine z_iload_n cx dX5_join_73 rfl ?_
        refine z_iconst cx dX5_join_74 ?_
        refine z_iload_n cx dX5_join_75 rfl ?_
        refine z_iadd cx dX5_join_76 ?_
        refine z_iconst cx dX5_join_77 ?_
        refine z_iadd cx dX5_join_78 ?_
        refine z_iload cx dX5_join_79 rfl ?_
        refine z_iadd cx dX5_join_81 ?_
        refine z_aload_n cx dX5_join_82 rfl ?_
        refine z_iload_n cx dX5_join_83 rfl ?_
        refine z_iconst cx dX5_join_84 ?_
        refine z_iadd cx dX5_join_85 ?_
        refine z_iload cx dX5_join_86 rfl ?_
        refine z_vi cx (c_X5_letter (20 + 43 * (k + 1) + 3 + j) (by omega) (by omega)) rfl mv_X5_letter ml_X5_59 (by omega) (co_mod E _) rfl dX5_join_88 (fun z88 G88 hz88 => ?_)
        obtain ⟨eG, rfl⟩ := hz88
        have eG := eG.symm
        subst eG
        refine z_vv cx (c_X5_lays (20 + 43 * k + (3 + (A.1.2.2.getD k dS).2.2.length + 1 + j)) (by omega) (by omega)) rfl mv_X5_lays ml_X5_51 (by omega) (co_mod E _) rfl dX5_join_91 (fun G91 hz91 => ?_)
        subst hz91
        refine z_iinc cx dX5_join_94 rfl ?_
        refine z_goto cx (tgt := 66) dX5_join_97 ?_
        refine Z.locs (ih (j + 1) (k) (GB) _ (by omega) hxk hk (by omega) hlen hMid hBc ?_ (fun q hq => by rw [gup_i _ _ _ _ _ (by omega)]; exact gk q hq) hf.up) ⟨rfl, rfl, rfl, rfl, rfl, trivial⟩
        intro w hw
        by_cases q : w < (A.1.2.2.getD k dS).2.2.length + 1 + j
        · rw [gup_i _ _ _ _ _ (by omega)]
          exact a8 w q
        · have q2 : w = (A.1.2.2.getD k dS).2.2.length + 1 + j := by omega
          subst q2
          rw [show 20 + 43 * k + 3 + ((A.1.2.2.getD k dS).2.2.length + 1 + j) = 20 + 43 * k + (3 + (A.1.2.2.getD k dS).2.2.length + 1 + j) by omega, gup_s, gk _ (by omega), gN.2.2.2 j (by omega)]
          unfold joiS
          dsimp only
          rw [appL_r (by omega), consL (by omega)]
          congr 1
          omega
  refine z_aload_n cx dX5_join_0 rfl ?_
  refine z_iload_n cx dX5_join_1 rfl ?_
  refine z_vi cx (c_X5_isSubtitle (by omega) m0) rfl mv_X5_isSubtitle ml_X5_162 (by omega) (co_mod E _) rfl dX5_join_2 (fun z2 G2 hz2 => ?_)
  obtain ⟨eG, hz2⟩ := hz2
  have eG := eG.symm
  subst eG
  refine z_if_eq cx (tgt := 18) dX5_join_5 (fun h5 => ?_) (fun h5 => ?_)
  · skip
    refine z_iconst cx dX5_join_18 ?_
    refine z_iret cx dX5_join_19 ?_
    rw [show s_join A x = (-1, A) from by unfold s_join; rw [if_neg (by omega)]]
    exact ⟨rfl, hR, CFx.rf⟩
  · skip
    refine z_aload_n cx dX5_join_8 rfl ?_
    refine z_iload_n cx dX5_join_9 rfl ?_
    refine z_iconst cx dX5_join_10 ?_
    refine z_iadd cx dX5_join_11 ?_
    refine z_vi cx (c_X5_isSubtitle (by omega) m0) rfl mv_X5_isSubtitle ml_X5_162 (by omega) (co_mod E _) rfl dX5_join_12 (fun z12 G12 hz12 => ?_)
    obtain ⟨eG, hz12⟩ := hz12
    have eG := eG.symm
    subst eG
    refine z_if_ne cx (tgt := 20) dX5_join_15 (fun h15 => ?_) (fun h15 => ?_)
    · skip
      obtain ⟨k, hxk⟩ : ∃ k : Nat, x = k := ⟨x.toNat, by omega⟩
      have hs_ := mS (k) (by omega)
      have ho := hOs.2.1 (k) (by omega)
      have t0 := hs_.1
      have t1 := hs_.2.1
      have t2 := hs_.2.2.1
      have t3 := hs_.2.2.2
      have o1 := ho.1
      have o2 := ho.2.1
      have o3 := ho.2.2.1
      have o4 := ho.2.2.2.1
      have o5 := ho.2.2.2.2.1
      have hsn_ := mS (k + 1) (by omega)
      have hon := hOs.2.1 (k + 1) (by omega)
      have t0n := hsn_.1
      have t1n := hsn_.2.1
      have t2n := hsn_.2.2.1
      have t3n := hsn_.2.2.2
      have o1n := hon.1
      have o2n := hon.2.1
      have o3n := hon.2.2.1
      have o4n := hon.2.2.2.1
      have o5n := hon.2.2.2.2.1
      refine z_aload_n cx dX5_join_20 rfl ?_
      refine z_iload_n cx dX5_join_21 rfl ?_
      refine z_iconst cx dX5_join_22 ?_
      refine z_vi cx (c_X5_of (20 + 43 * k + 2) (by omega) (by omega)) rfl mv_X5_of ml_X5_43 (by omega) (co_mod E _) rfl dX5_join_23 (fun z23 G23 hz23 => ?_)
      obtain ⟨eG, rfl⟩ := hz23
      have eG := eG.symm
      subst eG
      rw [t2]
      refine z_istore_n cx dX5_join_26 ?_
      refine z_aload_n cx dX5_join_27 rfl ?_
      refine z_iload_n cx dX5_join_28 rfl ?_
      refine z_iconst cx dX5_join_29 ?_
      refine z_iadd cx dX5_join_30 ?_
      refine z_iconst cx dX5_join_31 ?_
      refine z_vi cx (c_X5_of (20 + 43 * (k + 1) + 2) (by omega) (by omega)) rfl mv_X5_of ml_X5_43 (by omega) (co_mod E _) rfl dX5_join_32 (fun z32 G32 hz32 => ?_)
      obtain ⟨eG, rfl⟩ := hz32
      have eG := eG.symm
      subst eG
      rw [t2n]
      refine z_istore_n cx dX5_join_35 ?_
      refine z_iload_n cx dX5_join_36 rfl ?_
      refine z_iconst cx dX5_join_37 ?_
      refine z_iadd cx dX5_join_38 ?_
      refine z_iload_n cx dX5_join_39 rfl ?_
      refine z_iadd cx dX5_join_40 ?_
      refine z_bipush cx dX5_join_41 ?_
      refine z_icmp_le cx (tgt := 49) dX5_join_43 (fun h43 => ?_) (fun h43 => ?_)
      · skip
        refine z_aload_n cx dX5_join_49 rfl ?_
        refine z_vv cx (c_X5_begins) rfl mv_X5_begins ml_X5_147 (by omega) (co_mod E _) rfl dX5_join_50 (fun G50 hz50 => ?_)
        obtain ⟨hMid, hBc, hBs⟩ := begins_mid hR hA hz50
        have bM := hMid.1
        refine z_aload_n cx dX5_join_53 rfl ?_
        refine z_iload_n cx dX5_join_54 rfl ?_
        refine z_iconst cx dX5_join_55 ?_
        refine z_iload_n cx dX5_join_56 rfl ?_
        refine z_iadd cx dX5_join_57 ?_
        refine z_bipush cx dX5_join_58 ?_
        refine z_vv cx (c_X5_lays (20 + 43 * k + (3 + (A.1.2.2.getD k dS).2.2.length)) (by omega) (by omega)) rfl mv_X5_lays ml_X5_51 (by omega) (co_mod E _) rfl dX5_join_60 (fun G60 hz60 => ?_)
        subst hz60
        refine z_iconst cx dX5_join_63 ?_
        refine z_istore cx dX5_join_64 ?_
        refine Z.locs (L66 _ (0) (k) _ _ (Nat.lt_succ_self _) hxk (by omega) (by omega) (by omega) hMid hBc ?_ (fun q hq => by rw [gup_i _ _ _ _ _ (by omega)]) FrM.rf.up) ⟨rfl, rfl, rfl, rfl, rfl, trivial⟩
        intro w hw
        unfold joiS
        dsimp only
        by_cases q : w < (A.1.2.2.getD k dS).2.2.length
        · rw [gup_i _ _ _ _ _ (by omega), appL_l q]
          exact (bM.2.2.2.2 k (by omega)).2.2.2 w q
        · have q2 : w = (A.1.2.2.getD k dS).2.2.length := by omega
          subst q2
          rw [show 20 + 43 * k + 3 + (A.1.2.2.getD k dS).2.2.length = 20 + 43 * k + (3 + (A.1.2.2.getD k dS).2.2.length) by omega, gup_s, appL_r (Nat.le_refl _), Nat.sub_self]
          rfl
      · skip
        refine z_bipush cx dX5_join_46 ?_
        refine z_iret cx dX5_join_48 ?_
        rw [show s_join A x = (-4, A) from by unfold s_join; rw [if_pos (by omega), hxk, Int.toNat_natCast, if_pos (by omega)]]
        exact ⟨rfl, hR, CFx.rf⟩
    · skip
      refine z_iconst cx dX5_join_18 ?_
      refine z_iret cx dX5_join_19 ?_
      rw [show s_join A x = (-1, A) from by unfold s_join; rw [if_neg (by omega)]]
      exact ⟨rfl, hR, CFx.rf⟩
