set_option maxRecDepth 100000 in
set_option maxHeartbeats 4000000 in
theorem c_X4_writeReport {E : En} {G : Wd} {a b d : Int} : Ctv E yX4_writeReport cX4_writeReport 4 0 0 [.ref (E.1 0), .int (iN a), .int (iN b), .int (iN d)] G (fun G' => G' = gup (gup (gup G 19 0 0 a) 19 0 1 b) 19 0 2 d) := by
  refine Ctv.mk [some (.ref (E.1 0)), some (.int (iN a)), some (.int (iN b)), some (.int (iN d))] (by decide) rfl (by intro v hv; simp only [List.mem_cons, List.not_mem_nil, or_false] at hv; rcases hv with rfl | rfl | rfl | rfl <;> rfl) (Nat.le_of_ble_eq_true rfl) ?_
  intro p l e s m args below meth c cx
  refine z_aload_n cx dX4_writeReport_0 rfl ?_
  refine g_X4_4 cx fl_X4_33 dX4_writeReport_1 ?_
  refine z_iconst cx dX4_writeReport_4 ?_
  refine z_iload_n cx dX4_writeReport_5 rfl ?_
  refine z_iast cx (0) (by omega) (by omega) rfl (fun G => co_rep E G) dX4_writeReport_6 ?_
  refine z_aload_n cx dX4_writeReport_7 rfl ?_
  refine g_X4_4 cx fl_X4_33 dX4_writeReport_8 ?_
  refine z_iconst cx dX4_writeReport_11 ?_
  refine z_iload_n cx dX4_writeReport_12 rfl ?_
  refine z_iast cx (1) (by omega) (by omega) rfl (fun G => co_rep E G) dX4_writeReport_13 ?_
  refine z_aload_n cx dX4_writeReport_14 rfl ?_
  refine g_X4_4 cx fl_X4_33 dX4_writeReport_15 ?_
  refine z_iconst cx dX4_writeReport_18 ?_
  refine z_iload_n cx dX4_writeReport_19 rfl ?_
  refine z_iast cx (2) (by omega) (by omega) rfl (fun G => co_rep E G) dX4_writeReport_20 ?_
  refine z_vret cx dX4_writeReport_21 ?_
  exact rfl
set_option maxRecDepth 100000 in
set_option maxHeartbeats 4000000 in
theorem c_X4_load {E : En} {G : Wd} {A : Ast} (hC : CRel G A) (hA : AOk A) : Cti E yX4_load cX4_load 5 .int 5 113 [.ref (E.1 0)] G (fun z G' => z = (s_load A).1 ∧ CRel G' (s_load A).2 ∧ MFx G G') := by
  obtain ⟨hF, hRw, ⟨la, hla3, hla, hct, hH⟩, hSc, hr0, hr1, hr2⟩ := id hC
  obtain ⟨hO, hh4, hhO, hScO, hRp⟩ := id hA
  obtain ⟨hR, hV, hcc, hcu, hn, hs⟩ := id hF
  obtain ⟨hOv, hOc, hOs⟩ := id hO
  have hl20 := hOs.1
  have hl12 := hOc.1
  obtain ⟨hv0, hv1, hv2, hv3, hv4, hv5⟩ := id hOv
  have w0 := hV 0 (by omega)
  have w1 := hV 1 (by omega)
  have w2 := hV 2 (by omega)
  have w3 := hV 3 (by omega)
  have w4 := hV 4 (by omega)
  have w5 := hV 5 (by omega)
  have hh := And.intro (recH_ok hA).1 (fun k hk => ((recH_ok hA).2 k hk).2.2.1)
  have hs80 := hScO.1
  refine Cti.mk [some (.ref (E.1 0)), none, none, none, none] (by decide) rfl (by intro v hv; simp only [List.mem_cons, List.not_mem_nil, or_false] at hv; subst hv; rfl) (Nat.le_of_ble_eq_true rfl) ?_
  intro p l e s m args below meth c cx
  have L47 : ∀ (n : Nat) (k pos : Nat) (F1 : Fm) (G1 : Wd), (100 - k) < n → (k ≤ pos ∧ pos ≤ A.2.2.1.length) → (G1 13 0 0 = pos) → (CRel G1 (F1, recH A.2.1 A.1, A.2.2.1, (-6, -6, -6))) → (MFx G G1) → (FOk F1) → (fltF A.2.2.1 (81 - k) pos = -6) → (ldF A.2.2.1 (81 - k) pos k F1 = ldF A.2.2.1 81 0 0 A.1) → (faultS A.2.2.1 = -6) → Z p l e (zr 5 113) s m args below meth c 5 0 0 E (Qi_ E below args s (fun z G' => z = (s_load A).1 ∧ CRel G' (s_load A).2 ∧ MFx G G')) G1 47 [some (.ref (E.1 0)), some (.int (iN (k : Int))), some (.int (iN (k : Int))), none, none] [] := by
    intro n
    induction n with
    | zero =>
      intro k pos F1 G1 hmu
      exact absurd hmu (Nat.not_lt_zero _)
    | succ n ih =>
      intro k pos F1 G1 hmu hk h13 hC1 hM1 hO1 hfl hld hfau
      have hF1 := hC1.1
      have hSc1 := hC1.2.2.2.1
      dsimp only at hF1 hSc1
      have hok := ent_ok hScO hk.2
      have hA1 : AOk (F1, recH A.2.1 A.1, A.2.2.1, (-6, -6, -6)) := ⟨hO1, (recH_ok hA).1, (recH_ok hA).2, hScO, by unfold RpOk; dsimp only; omega⟩
      rw [show 81 - k = (81 - (k + 1)) + 1 by omega, fltF_s] at hfl
      rw [show 81 - k = (81 - (k + 1)) + 1 by omega, ldF_s] at hld
      have he1 : (ent A.2.2.1 pos).1 = 1 := by
        rcases hok.1 with w | w
        · rw [if_pos w] at hfl
          omega
        · exact w
      rw [if_neg (by omega)] at hfl
      obtain ⟨ha0, ha1, ha2, ha3, ha4, ha5, ha6⟩ := hok.2.2.2 he1
      have ha7 := hok.2.2.1
      refine z_iload_n cx dX4_load_47 rfl ?_
      refine z_bipush cx dX4_load_48 ?_
      refine z_icmp_ge cx (tgt := 203) dX4_load_50 (fun h50 => ?_) (fun h50 => ?_)
      · skip
        exfalso; omega
      · skip
        refine z_aload_n cx dX4_load_53 rfl ?_
        refine g_X4_3 cx fl_X4_29 dX4_load_54 ?_
        refine z_vi cx (c_X2_readEntry (pos := pos) (sc := A.2.2.1) hSc1 hScO hk.2 h13) rfl mv_X2_readEntry ml_X4_60 (by omega) (co_scr E _) rfl dX4_load_57 (fun z57 G57 hz57 => ?_)
        obtain ⟨hz57a, hz57b, hz57c⟩ := hz57
        obtain ⟨z57v, -, h14, h15, h16, h17, h18⟩ : z57 = 1 ∧ _ := by
          rcases hz57a with w | ⟨-, w⟩
          · exact w
          · exfalso; omega
        subst z57v
        obtain ⟨hC57, hM57⟩ := scr_rel hC1 hA1 hz57c
        refine z_if_eq cx (tgt := 203) dX4_load_60 (fun h60 => ?_) (fun h60 => ?_)
        · skip
          exfalso; omega
        · skip
          refine z_aload_n cx dX4_load_63 rfl ?_
          refine g_X4_0 cx fl_X4_10 dX4_load_64 ?_
          refine z_aload_n cx dX4_load_67 rfl ?_
          refine g_X4_3 cx fl_X4_29 dX4_load_68 ?_
          refine g_X2_4 cx fl_X4_64 dX4_load_71 ?_
          rw [h15]
          refine z_aload_n cx dX4_load_74 rfl ?_
          refine g_X4_3 cx fl_X4_29 dX4_load_75 ?_
          refine g_X2_5 cx fl_X4_67 dX4_load_78 ?_
          rw [h16]
          refine z_vi cx (c_X0_reasonAgainst (q := 0) (F := F1) (a := (ent A.2.2.1 pos).2.2.1) (b := (ent A.2.2.1 pos).2.2.2.1) (by omega) hC57.1 hO1 (by omega) (by omega)) rfl mv_X0_reasonAgainst ml_X4_70 (by omega) (co_film E _ (by omega)) rfl dX4_load_81 (fun z81 G81 hz81 => ?_)
          obtain ⟨eG, rfl⟩ := hz81
          have eG := eG.symm
          subst eG
          have hrb := rsn_b F1 (ent A.2.2.1 pos).2.2.1 (ent A.2.2.1 pos).2.2.2.1
          refine z_istore_n cx dX4_load_84 ?_
          refine z_iload_n cx dX4_load_85 rfl ?_
          refine z_if_eq cx (tgt := 105) dX4_load_86 (fun h86 => ?_) (fun h86 => ?_)
          · skip
            have hr0 : rsn F1 (ent A.2.2.1 pos).2.2.1 (ent A.2.2.1 pos).2.2.2.1 = 0 := by omega
            obtain ⟨hr1, hn20, -⟩ := rsn_0 hr0
            refine z_aload_n cx dX4_load_105 rfl ?_
            refine g_X4_0 cx fl_X4_10 dX4_load_106 ?_
            refine g_X0_0 cx (by omega) fl_X4_77 dX4_load_109 ?_
            refine z_aload_n cx dX4_load_112 rfl ?_
            refine g_X4_0 cx fl_X4_10 dX4_load_113 ?_
            refine z_aload_n cx dX4_load_116 rfl ?_
            refine g_X4_3 cx fl_X4_29 dX4_load_117 ?_
            refine g_X2_4 cx fl_X4_64 dX4_load_120 ?_
            rw [h15]
            refine z_vi cx (c_X0_openRowAt (q := 0) (F := F1) (x := (ent A.2.2.1 pos).2.2.1) (by omega) hC57.1 hO1 (by omega) hn20) rfl mv_X0_openRowAt ml_X4_81 (by omega) (co_film E _ (by omega)) rfl dX4_load_123 (fun z123 G123 hz123 => ?_)
            obtain ⟨hz123v, hz123⟩ := hz123
            subst hz123v
            obtain ⟨-, hip⟩ := ipos_cnt hO1.2.2 (ent A.2.2.1 pos).2.2.1
            have hipl := hip.1
            have hR123 := hz123.row hC57.1.1 hipl hn20
            have hkr := hR123.1 (ipos F1.2.2 (ent A.2.2.1 pos).2.2.1) (by omega)
            have hsame : ∀ f i, 11 ≤ f → G123 f 0 i = G57 f 0 i := fun f i w => hz123.2.2.2.2.2 f 0 i (by omega)
            have h15b := (hsame 15 0 (by omega)).trans h15
            have h16b := (hsame 16 0 (by omega)).trans h16
            have h17b := (hsame 17 0 (by omega)).trans h17
            have h18b := (hsame 18 0 (by omega)).trans h18
            have h13b := (hsame 13 0 (by omega)).trans hz57b
            have hSc57 := hC57.2.2.2.1
            dsimp only at hSc57
            refine z_aldq cx (ipos F1.2.2 (ent A.2.2.1 pos).2.2.1) (by omega) (by omega) (co_rows E _ (by omega)) rfl dX4_load_126 ?_
            refine z_astore cx dX4_load_127 ?_
            refine z_aload cx dX4_load_129 rfl ?_
            refine z_aload_n cx dX4_load_131 rfl ?_
            refine g_X4_3 cx fl_X4_29 dX4_load_132 ?_
            refine g_X2_4 cx fl_X4_64 dX4_load_135 ?_
            rw [h15b]
            refine p_X3_0 cx (by omega) fl_X4_85 dX4_load_138 ?_
            refine z_aload cx dX4_load_141 rfl ?_
            refine z_aload_n cx dX4_load_143 rfl ?_
            refine g_X4_3 cx fl_X4_29 dX4_load_144 ?_
            refine g_X2_5 cx fl_X4_67 dX4_load_147 ?_
            rw [gup_f _ _ _ _ _ _ _ (show (16 : Nat) ≠ 5 by decide), h16b]
            refine p_X3_1 cx (by omega) fl_X4_88 dX4_load_150 ?_
            refine z_aload cx dX4_load_153 rfl ?_
            refine z_aload_n cx dX4_load_155 rfl ?_
            refine g_X4_3 cx fl_X4_29 dX4_load_156 ?_
            refine g_X2_0 cx fl_X4_41 dX4_load_159 ?_
            refine z_aload_n cx dX4_load_162 rfl ?_
            refine g_X4_3 cx fl_X4_29 dX4_load_163 ?_
            refine g_X2_6 cx fl_X4_89 dX4_load_166 ?_
            rw [gup_f _ _ _ _ _ _ _ (show (17 : Nat) ≠ 6 by decide), gup_f _ _ _ _ _ _ _ (show (17 : Nat) ≠ 5 by decide), h17b]
            refine z_aload_n cx dX4_load_169 rfl ?_
            refine g_X4_3 cx fl_X4_29 dX4_load_170 ?_
            refine g_X2_7 cx fl_X4_92 dX4_load_173 ?_
            rw [gup_f _ _ _ _ _ _ _ (show (18 : Nat) ≠ 6 by decide), gup_f _ _ _ _ _ _ _ (show (18 : Nat) ≠ 5 by decide), h18b]
            have hchs : ∀ i, i < (((ent A.2.2.1 pos).2.1 : Int) - ((ent A.2.2.1 pos).2.2.2.2 : Int)).toNat → 0 ≤ gup (gup G123 5 (G123 4 0 (ipos F1.2.2 (ent A.2.2.1 pos).2.2.1)).toNat 0 (ent A.2.2.1 pos).2.2.1) 6 (G123 4 0 (ipos F1.2.2 (ent A.2.2.1 pos).2.2.1)).toNat 0 (ent A.2.2.1 pos).2.2.2.1 11 0 (((ent A.2.2.1 pos).2.2.2.2 : Int).toNat + i) ∧ gup (gup G123 5 (G123 4 0 (ipos F1.2.2 (ent A.2.2.1 pos).2.2.1)).toNat 0 (ent A.2.2.1 pos).2.2.1) 6 (G123 4 0 (ipos F1.2.2 (ent A.2.2.1 pos).2.2.1)).toNat 0 (ent A.2.2.1 pos).2.2.2.1 11 0 (((ent A.2.2.1 pos).2.2.2.2 : Int).toNat + i) < 65536 := by
              intro i hi
              rw [gup_f _ _ _ _ _ _ _ (by decide), gup_f _ _ _ _ _ _ _ (by decide), hsame 11 _ (by omega), hSc57.2 _ (by omega)]
              have w := hScO.2 (((ent A.2.2.1 pos).2.2.2.2 : Int).toNat + i) (by omega)
              omega
            refine z_vv cx (c_X3_takeText (k := (G123 4 0 (ipos F1.2.2 (ent A.2.2.1 pos).2.2.1)).toNat) (c0 := 4) (n0 := 80) (f0 := 11) (a0 := 0) (fr := ((ent A.2.2.1 pos).2.2.2.2 : Int)) (sz := ((ent A.2.2.1 pos).2.1 : Int) - ((ent A.2.2.1 pos).2.2.2.2 : Int)) (by omega) (by omega) (co_chars E _) (by omega) hchs) rfl mv_X3_takeText ml_X4_95 (by omega) (co_sub E _ (by omega)) rfl dX4_load_176 (fun G176 hz176 => ?_)
            have hS176 : SubIs G176 (G123 4 0 (ipos F1.2.2 (ent A.2.2.1 pos).2.2.1)).toNat (entS A.2.2.1 pos) := by
              subst hz176
              refine ⟨?_, ?_, ?_, fun i hi => ?_⟩
              · rw [gup_f _ _ _ _ _ _ _ (by decide), gcp_eq, if_neg (by omega), gup_f _ _ _ _ _ _ _ (by decide), gup_s]
                rfl
              · rw [gup_f _ _ _ _ _ _ _ (by decide), gcp_eq, if_neg (by omega), gup_s]
                rfl
              · rw [gup_s]
                unfold entS
                dsimp only
                rw [List.length_take, List.length_drop]
                omega
              · unfold entS at hi ⊢
                dsimp only at hi ⊢
                rw [List.length_take, List.length_drop] at hi
                rw [gup_f _ _ _ _ _ _ _ (by decide), gcp_eq, if_pos ⟨rfl, rfl, Nat.zero_le _, by omega⟩, gup_f _ _ _ _ _ _ _ (by decide), gup_f _ _ _ _ _ _ _ (by decide), hsame 11 _ (by omega), hSc57.2 _ (by omega), takeL (by omega), dropL]
                rfl
            have hk176 : ∀ f a i, ¬ (5 ≤ f ∧ f ≤ 8 ∧ a = (G123 4 0 (ipos F1.2.2 (ent A.2.2.1 pos).2.2.1)).toNat) → G176 f a i = G123 f a i := by
              subst hz176
              intro f a i w
              rw [gup_eq, if_neg (by omega), gcp_eq, if_neg (by omega), gup_eq, if_neg (by omega), gup_eq, if_neg (by omega)]
            have hfilm := hz123.film hC57.1 hipl hn20 hS176 hk176
            have hC176' := film_rel (F := addF F1 (entS A.2.2.1 pos)) hC57 hh hfilm.1 hfilm.2
            obtain ⟨hC176, hM176⟩ := hC176'
            have hSb : SbOk (entS A.2.2.1 pos) := ⟨by unfold entS; dsimp only; omega, by unfold entS; dsimp only; omega, by unfold entS; dsimp only; omega, ha6⟩
            have hO2 : FOk (addF F1 (entS A.2.2.1 pos)) := addF_ok hO1 hSb hr0
            have h13176 : G176 13 0 0 = ((ent A.2.2.1 pos).2.1 : Int) := (hk176 13 0 0 (by omega)).trans h13b
            have hA2 : AOk (addF F1 (entS A.2.2.1 pos), recH A.2.1 A.1, A.2.2.1, (-6, -6, -6)) := ⟨hO2, (recH_ok hA).1, (recH_ok hA).2, hScO, by unfold RpOk; dsimp only; omega⟩
            refine z_iinc cx dX4_load_179 rfl ?_
            refine z_aload_n cx dX4_load_182 rfl ?_
            refine g_X4_3 cx fl_X4_29 dX4_load_183 ?_
            refine z_bipush cx dX4_load_186 ?_
            refine z_vi cx (c_X2_take (i := (ent A.2.2.1 pos).2.1) (x := 124) (sc := A.2.2.1) hC176.2.2.2.1 hScO (by omega) h13176 (by omega)) rfl mv_X2_take ml_X4_99 (by omega) (co_scr E _) rfl dX4_load_188 (fun z188 G188 hz188 => ?_)
            refine z_if_ne cx (tgt := 197) dX4_load_191 (fun h191 => ?_) (fun h191 => ?_)
            · skip
              obtain ⟨hat, hG188⟩ : at_ A.2.2.1 (ent A.2.2.1 pos).2.1 124 ∧ _ := by
                rcases hz188 with ⟨_, w1, w2⟩ | ⟨w, _⟩
                · exact ⟨w1, w2⟩
                · exact absurd w h191
              obtain ⟨hC188, hM188⟩ := scr_rel hC176 hA2 (G' := G188) (fun f a i w => by
                rw [hG188]
                try dsimp only
                rw [gup_f _ _ _ _ _ _ _ (by omega)])
              refine z_iinc cx dX4_load_197 rfl ?_
              refine z_goto cx (tgt := 47) dX4_load_200 ?_
              refine Z.locs (ih (k + 1) ((ent A.2.2.1 pos).2.1 + 1) (addF F1 (entS A.2.2.1 pos)) _ (by omega) ⟨by omega, hat.1⟩ (by rw [hG188, gup_s]; rfl) hC188 (hM1.tr (hM57.tr (hM176.tr hM188))) hO2 (by rw [← hfl, if_pos hat]) (by rw [← hld, if_neg (not_not_intro hr0), if_pos hat]) hfau) ⟨rfl, rfl, rfl, trivial⟩
            · skip
              obtain ⟨hat, hG188⟩ : ¬ at_ A.2.2.1 (ent A.2.2.1 pos).2.1 124 ∧ G188 = G176 := by
                rcases hz188 with ⟨w, _⟩ | ⟨_, w1, w2⟩
                · exfalso; omega
                · exact ⟨w1, w2⟩
              refine z_goto cx (tgt := 203) dX4_load_194 ?_
              refine z_iload_n cx dX4_load_203 rfl ?_
              refine z_iret cx dX4_load_204 ?_
              unfold s_load
              rw [if_neg (not_not_intro hfau), ← hld]
              first
              | (rw [if_pos h86]
                 exact ⟨rfl, hC99, hM1.tr (hM57.tr hM99)⟩)
              | (rw [if_neg (not_not_intro hr0), if_neg hat]
                 subst hG188
                 exact ⟨rfl, hC176, hM1.tr (hM57.tr hM176)⟩)
          · skip
            refine z_aload_n cx dX4_load_89 rfl ?_
            refine z_iload_n cx dX4_load_90 rfl ?_
            refine z_iload_n cx dX4_load_91 rfl ?_
            refine z_aload_n cx dX4_load_92 rfl ?_
            refine g_X4_3 cx fl_X4_29 dX4_load_93 ?_
            refine g_X2_3 cx fl_X4_74 dX4_load_96 ?_
            rw [h14]
            refine z_vv cx (c_X4_writeReport) rfl mv_X4_writeReport ml_X4_53 (by omega) (co_main E _) rfl dX4_load_99 (fun G99 hz99 => ?_)
            subst hz99
            obtain ⟨hC99, hM99⟩ := rep_rel (a := (k : Int)) (b := rsn F1 (ent A.2.2.1 pos).2.2.1 (ent A.2.2.1 pos).2.2.2.1) (c := (pos : Int)) hC57 hA1
            refine z_goto cx (tgt := 203) dX4_load_102 ?_
            refine z_iload_n cx dX4_load_203 rfl ?_
            refine z_iret cx dX4_load_204 ?_
            unfold s_load
            rw [if_neg (not_not_intro hfau), ← hld]
            first
            | (rw [if_pos h86]
               exact ⟨rfl, hC99, hM1.tr (hM57.tr hM99)⟩)
            | (rw [if_neg (not_not_intro hr0), if_neg hat]
               subst hG188
               exact ⟨rfl, hC176, hM1.tr (hM57.tr hM176)⟩)
  refine z_aload_n cx dX4_load_0 rfl ?_
  refine g_X4_3 cx fl_X4_29 dX4_load_1 ?_
  refine z_vi cx (c_X2_findFault (sc := A.2.2.1) hSc hScO) rfl mv_X2_findFault ml_X4_45 (by omega) (co_scr E _) rfl dX4_load_4 (fun z4 G4 hz4 => ?_)
  obtain ⟨hz4v, hz4f⟩ := hz4
  subst hz4v
  obtain ⟨hC4, hM4⟩ := scr_rel hC hA hz4f
  obtain ⟨hF4, hRw4, ⟨la4, hla34, hla4, hct4, -⟩, -⟩ := id hC4
  have hfb : -6 ≤ faultS A.2.2.1 ∧ faultS A.2.2.1 ≤ 80 := faultS_b hScO
  refine z_bipush cx dX4_load_7 ?_
  refine z_icmp_eq cx (tgt := 15) dX4_load_9 (fun h9 => ?_) (fun h9 => ?_)
  · skip
    refine z_aload_n cx dX4_load_15 rfl ?_
    refine g_X4_2 cx fl_X4_22 dX4_load_16 ?_
    refine z_aload_n cx dX4_load_19 rfl ?_
    refine g_X4_0 cx fl_X4_10 dX4_load_20 ?_
    refine z_vv cx (c_X1_record hla4 hla34 hct4 hh4 hF4 hO hRw4) rfl mv_X1_record ml_X4_49 (by omega) (co_hist E _) rfl dX4_load_23 (fun G23 hz23 => ?_)
    obtain ⟨hC23, hM23⟩ := rec_rel hC4 hA hla34 hla4 hz23
    refine z_aload_n cx dX4_load_26 rfl ?_
    refine z_bipush cx dX4_load_27 ?_
    refine z_bipush cx dX4_load_29 ?_
    refine z_bipush cx dX4_load_31 ?_
    refine z_vv cx (c_X4_writeReport) rfl mv_X4_writeReport ml_X4_53 (by omega) (co_main E _) rfl dX4_load_33 (fun G33 hz33 => ?_)
    subst hz33
    obtain ⟨hC33, hM33⟩ := rep_rel (a := -6) (b := -6) (c := -6) hC23 (A := (A.1, recH A.2.1 A.1, A.2.2)) ⟨hO, (recH_ok hA).1, (recH_ok hA).2, hScO, hRp⟩
    have hA33 : AOk (A.1, recH A.2.1 A.1, A.2.2.1, (-6, -6, -6)) := ⟨hO, (recH_ok hA).1, (recH_ok hA).2, hScO, by unfold RpOk; dsimp only; omega⟩
    refine z_aload_n cx dX4_load_36 rfl ?_
    refine g_X4_3 cx fl_X4_29 dX4_load_37 ?_
    refine z_vv cx (c_X2_rewind) rfl mv_X2_rewind ml_X4_57 (by omega) (co_scr E _) rfl dX4_load_40 (fun G40 hz40 => ?_)
    obtain ⟨hC40, hM40a⟩ := scr_rel hC33 hA33 (G' := gup (gup (gup (gup G23 19 0 0 (-6)) 19 0 1 (-6)) 19 0 2 (-6)) 13 0 0 0) (fun f a i w => by rw [gup_f _ _ _ _ _ _ _ (by omega)])
    have hM40 := hM4.tr (hM23.tr (hM33.tr hM40a))
    have hfau : faultS A.2.2.1 = -6 := by omega
    refine z_iconst cx dX4_load_43 ?_
    refine z_istore_n cx dX4_load_44 ?_
    refine z_iconst cx dX4_load_45 ?_
    refine z_istore_n cx dX4_load_46 ?_
    refine Z.locs (L47 _ (0) (0) (A.1) _ (Nat.lt_succ_self _) (by omega) (by rw [hz40, gup_s]; rfl) (hz40 ▸ hC40) (hz40 ▸ hM40) hO hfau rfl hfau) ⟨rfl, rfl, rfl, trivial⟩
  · skip
    refine z_bipush cx dX4_load_12 ?_
    refine z_iret cx dX4_load_14 ?_
    rw [show s_load A = (-3, A) from by unfold s_load; rw [if_pos h9]]
    exact ⟨rfl, hC4, hM4⟩
set_option maxRecDepth 100000 in
set_option maxHeartbeats 4000000 in
theorem c_X4_subtitles {E : En} {G : Wd} {A : Ast} (hC : CRel G A) (hA : AOk A) : Cti E yX4_subtitles cX4_subtitles 1 .int 0 0 [.ref (E.1 0)] G (fun z G' => z = (A.1.2.2.length : Int) ∧ CRel G' A ∧ MFx G G') := by
  obtain ⟨hF, hRw, ⟨la, hla3, hla, hct, hH⟩, hSc, hr0, hr1, hr2⟩ := id hC
  obtain ⟨hO, hh4, hhO, hScO, hRp⟩ := id hA
  obtain ⟨hR, hV, hcc, hcu, hn, hs⟩ := id hF
  obtain ⟨hOv, hOc, hOs⟩ := id hO
  have hl20 := hOs.1
  have hl12 := hOc.1
  obtain ⟨hv0, hv1, hv2, hv3, hv4, hv5⟩ := id hOv
  have w0 := hV 0 (by omega)
  have w1 := hV 1 (by omega)
  have w2 := hV 2 (by omega)
  have w3 := hV 3 (by omega)
  have w4 := hV 4 (by omega)
  have w5 := hV 5 (by omega)
  have hh := And.intro (recH_ok hA).1 (fun k hk => ((recH_ok hA).2 k hk).2.2.1)
  refine Cti.mk [some (.ref (E.1 0))] (by decide) rfl (by intro v hv; simp only [List.mem_cons, List.not_mem_nil, or_false] at hv; subst hv; rfl) (Nat.le_of_ble_eq_true rfl) ?_
  intro p l e s m args below meth c cx
  refine z_aload_n cx dX4_subtitles_0 rfl ?_
  refine g_X4_0 cx fl_X4_10 dX4_subtitles_1 ?_
  refine g_X0_1 cx (by omega) fl_X4_117 dX4_subtitles_4 ?_
  refine z_iret cx dX4_subtitles_7 ?_
  refine ⟨?_, hC, MFx.rf⟩
  exact hn
set_option maxRecDepth 100000 in
set_option maxHeartbeats 4000000 in
theorem c_X4_cuts {E : En} {G : Wd} {A : Ast} (hC : CRel G A) (hA : AOk A) : Cti E yX4_cuts cX4_cuts 1 .int 0 0 [.ref (E.1 0)] G (fun z G' => z = (A.1.2.1.length : Int) ∧ CRel G' A ∧ MFx G G') := by
  obtain ⟨hF, hRw, ⟨la, hla3, hla, hct, hH⟩, hSc, hr0, hr1, hr2⟩ := id hC
  obtain ⟨hO, hh4, hhO, hScO, hRp⟩ := id hA
  obtain ⟨hR, hV, hcc, hcu, hn, hs⟩ := id hF
  obtain ⟨hOv, hOc, hOs⟩ := id hO
  have hl20 := hOs.1
  have hl12 := hOc.1
  obtain ⟨hv0, hv1, hv2, hv3, hv4, hv5⟩ := id hOv
  have w0 := hV 0 (by omega)
  have w1 := hV 1 (by omega)
  have w2 := hV 2 (by omega)
  have w3 := hV 3 (by omega)
  have w4 := hV 4 (by omega)
  have w5 := hV 5 (by omega)
  have hh := And.intro (recH_ok hA).1 (fun k hk => ((recH_ok hA).2 k hk).2.2.1)
  refine Cti.mk [some (.ref (E.1 0))] (by decide) rfl (by intro v hv; simp only [List.mem_cons, List.not_mem_nil, or_false] at hv; subst hv; rfl) (Nat.le_of_ble_eq_true rfl) ?_
  intro p l e s m args below meth c cx
  refine z_aload_n cx dX4_cuts_0 rfl ?_
  refine g_X4_0 cx fl_X4_10 dX4_cuts_1 ?_
  refine g_X0_3 cx (by omega) fl_X4_147 dX4_cuts_4 ?_
  refine z_iret cx dX4_cuts_7 ?_
  refine ⟨?_, hC, MFx.rf⟩
  exact hcc
set_option maxRecDepth 100000 in
set_option maxHeartbeats 4000000 in
theorem c_X4_shown {E : En} {G : Wd} {A : Ast} (hC : CRel G A) (hA : AOk A) : Cti E yX4_shown cX4_shown 1 .int 2 42 [.ref (E.1 0)] G (fun z G' => z = frS A.1 ∧ CRel G' A ∧ MFx G G') := by
  obtain ⟨hF, hRw, ⟨la, hla3, hla, hct, hH⟩, hSc, hr0, hr1, hr2⟩ := id hC
  obtain ⟨hO, hh4, hhO, hScO, hRp⟩ := id hA
  obtain ⟨hR, hV, hcc, hcu, hn, hs⟩ := id hF
  obtain ⟨hOv, hOc, hOs⟩ := id hO
  have hl20 := hOs.1
  have hl12 := hOc.1
  obtain ⟨hv0, hv1, hv2, hv3, hv4, hv5⟩ := id hOv
  have w0 := hV 0 (by omega)
  have w1 := hV 1 (by omega)
  have w2 := hV 2 (by omega)
  have w3 := hV 3 (by omega)
  have w4 := hV 4 (by omega)
  have w5 := hV 5 (by omega)
  have hh := And.intro (recH_ok hA).1 (fun k hk => ((recH_ok hA).2 k hk).2.2.1)
  refine Cti.mk [some (.ref (E.1 0))] (by decide) rfl (by intro v hv; simp only [List.mem_cons, List.not_mem_nil, or_false] at hv; subst hv; rfl) (Nat.le_of_ble_eq_true rfl) ?_
  intro p l e s m args below meth c cx
  refine z_aload_n cx dX4_shown_0 rfl ?_
  refine g_X4_0 cx fl_X4_10 dX4_shown_1 ?_
  refine z_vi cx (c_X0_framesOfAll (q := 0) (F := A.1) (by omega) hF hO) rfl mv_X0_framesOfAll ml_X4_189 (by omega) (co_film E _ (by omega)) rfl dX4_shown_4 (fun z4 G4 hz4 => ?_)
  obtain ⟨eG, rfl⟩ := hz4
  have eG := eG.symm
  subst eG
  refine z_iret cx dX4_shown_7 ?_
  refine ⟨?_, hC, MFx.rf⟩
  rfl
set_option maxRecDepth 100000 in
set_option maxHeartbeats 4000000 in
theorem c_X4_subtitle {E : En} {G : Wd} {A : Ast} (hC : CRel G A) (hA : AOk A) {x y : Int} (hx : -2147483648 ≤ x ∧ x < 2147483648) (hy : -2147483648 ≤ y ∧ y < 2147483648) : Cti E yX4_subtitle cX4_subtitle 4 .int 4 95 [.ref (E.1 0), .int (iN x), .int (iN y)] G (fun z G' => z = r_subtitle A x y ∧ CRel G' A ∧ MFx G G') := by
  obtain ⟨hF, hRw, ⟨la, hla3, hla, hct, hH⟩, hSc, hr0, hr1, hr2⟩ := id hC
  obtain ⟨hO, hh4, hhO, hScO, hRp⟩ := id hA
  obtain ⟨hR, hV, hcc, hcu, hn, hs⟩ := id hF
  obtain ⟨hOv, hOc, hOs⟩ := id hO
  have hl20 := hOs.1
  have hl12 := hOc.1
  obtain ⟨hv0, hv1, hv2, hv3, hv4, hv5⟩ := id hOv
  have w0 := hV 0 (by omega)
  have w1 := hV 1 (by omega)
  have w2 := hV 2 (by omega)
  have w3 := hV 3 (by omega)
  have w4 := hV 4 (by omega)
  have w5 := hV 5 (by omega)
  have hh := And.intro (recH_ok hA).1 (fun k hk => ((recH_ok hA).2 k hk).2.2.1)
  refine Cti.mk [some (.ref (E.1 0)), some (.int (iN x)), some (.int (iN y)), none] (by decide) rfl (by intro v hv; simp only [List.mem_cons, List.not_mem_nil, or_false] at hv; rcases hv with rfl | rfl | rfl <;> rfl) (Nat.le_of_ble_eq_true rfl) ?_
  intro p l e s m args below meth c cx
  refine z_aload_n cx dX4_subtitle_0 rfl ?_
  refine g_X4_0 cx fl_X4_10 dX4_subtitle_1 ?_
  refine z_iload_n cx dX4_subtitle_4 rfl ?_
  refine z_vi cx (c_X0_has (q := 0) (F := A.1) (by omega) hF hO hx) rfl mv_X0_has ml_X4_109 (by omega) (co_film E _ (by omega)) rfl dX4_subtitle_5 (fun z5 G5 hz5 => ?_)
  obtain ⟨eG, hz5⟩ := hz5
  have eG := eG.symm
  subst eG
  refine z_if_ne cx (tgt := 13) dX4_subtitle_8 (fun h8 => ?_) (fun h8 => ?_)
  · skip
    obtain ⟨k, rfl⟩ : ∃ k : Nat, x = k := ⟨x.toNat, by omega⟩
    have hk := hR.1 (k) (by omega)
    have hs_ := hs (k) (by omega)
    have ho := hOs.2.1 (k) (by omega)
    have e5 := hs_.1
    have e6 := hs_.2.1
    have e7 := hs_.2.2.1
    have o1 := ho.1
    have o2 := ho.2.1
    have o3 := ho.2.2.1
    have o4 := ho.2.2.2.1
    have o5 := ho.2.2.2.2.1
    refine z_aload_n cx dX4_subtitle_13 rfl ?_
    refine g_X4_0 cx fl_X4_10 dX4_subtitle_14 ?_
    refine g_X0_0 cx (by omega) fl_X4_77 dX4_subtitle_17 ?_
    refine z_iload_n cx dX4_subtitle_20 rfl ?_
    refine z_aldq cx (k) (by omega) (by omega) (co_rows E _ (by omega)) rfl dX4_subtitle_21 ?_
    refine z_astore_n cx dX4_subtitle_22 ?_
    refine z_iload_n cx dX4_subtitle_23 rfl ?_
    rcases (show y = 0 ∨ y = 1 ∨ y = 2 ∨ y = 3 ∨ y = 4 ∨ y = 5 ∨ y = 6 ∨ (y < 0 ∨ 6 < y) by omega) with rfl | rfl | rfl | rfl | rfl | rfl | rfl | hsw
    · skip
      refine z_tblIn cx (tgt := 68) (off := 44) dX4_subtitle_24 rfl (by decide) ?_
      refine z_aload_n cx dX4_subtitle_68 rfl ?_
      refine g_X3_0 cx (by omega) fl_X4_85 dX4_subtitle_69 ?_
      refine z_iret cx dX4_subtitle_72 ?_
      refine ⟨?_, hC, MFx.rf⟩
      unfold r_subtitle
      rw [if_pos (by omega), Int.toNat_natCast]
      rw [if_pos rfl]
      exact e5
    · skip
      refine z_tblIn cx (tgt := 73) (off := 49) dX4_subtitle_24 rfl (by decide) ?_
      refine z_aload_n cx dX4_subtitle_73 rfl ?_
      refine g_X3_1 cx (by omega) fl_X4_88 dX4_subtitle_74 ?_
      refine z_iret cx dX4_subtitle_77 ?_
      refine ⟨?_, hC, MFx.rf⟩
      unfold r_subtitle
      rw [if_pos (by omega), Int.toNat_natCast]
      rw [if_neg (by decide), if_pos rfl]
      exact e6
    · skip
      refine z_tblIn cx (tgt := 78) (off := 54) dX4_subtitle_24 rfl (by decide) ?_
      refine z_aload_n cx dX4_subtitle_78 rfl ?_
      refine g_X3_2 cx (by omega) fl_X4_137 dX4_subtitle_79 ?_
      refine z_iret cx dX4_subtitle_82 ?_
      refine ⟨?_, hC, MFx.rf⟩
      unfold r_subtitle
      rw [if_pos (by omega), Int.toNat_natCast]
      rw [if_neg (by decide), if_neg (by decide), if_pos rfl]
      exact e7
    · skip
      refine z_tblIn cx (tgt := 83) (off := 59) dX4_subtitle_24 rfl (by decide) ?_
      refine z_aload_n cx dX4_subtitle_83 rfl ?_
      refine g_X4_0 cx fl_X4_10 dX4_subtitle_84 ?_
      refine z_aload_n cx dX4_subtitle_87 rfl ?_
      refine z_vi cx (c_X0_framesNeededBy (q := 0) (F := A.1) (S := (A.1.2.2.getD k dS)) (by omega) hF.C hO.1 hO.2.1 (by omega) hs_ ho) rfl mv_X0_framesNeededBy ml_X4_162 (by omega) (co_film E _ (by omega)) rfl dX4_subtitle_88 (fun z88 G88 hz88 => ?_)
      obtain ⟨eG, rfl⟩ := hz88
      have eG := eG.symm
      subst eG
      refine z_iret cx dX4_subtitle_91 ?_
      refine ⟨?_, hC, MFx.rf⟩
      unfold r_subtitle
      rw [if_pos (by omega), Int.toNat_natCast]
      rw [if_neg (by decide), if_neg (by decide), if_neg (by decide), if_pos rfl]
    · skip
      refine z_tblIn cx (tgt := 92) (off := 68) dX4_subtitle_24 rfl (by decide) ?_
      refine z_aload_n cx dX4_subtitle_92 rfl ?_
      refine g_X4_0 cx fl_X4_10 dX4_subtitle_93 ?_
      refine z_iload_n cx dX4_subtitle_96 rfl ?_
      refine z_vi cx (c_X0_faultsOf (q := 0) (F := A.1) (i := k) (by omega) hF hO (by omega)) rfl mv_X0_faultsOf ml_X4_166 (by omega) (co_film E _ (by omega)) rfl dX4_subtitle_97 (fun z97 G97 hz97 => ?_)
      obtain ⟨eG, rfl⟩ := hz97
      have eG := eG.symm
      subst eG
      refine z_iret cx dX4_subtitle_100 ?_
      refine ⟨?_, hC, MFx.rf⟩
      unfold r_subtitle
      rw [if_pos (by omega), Int.toNat_natCast]
      rw [if_neg (by decide), if_neg (by decide), if_neg (by decide), if_neg (by decide), if_pos rfl]
    · skip
      refine z_tblIn cx (tgt := 101) (off := 77) dX4_subtitle_24 rfl (by decide) ?_
      refine z_aload_n cx dX4_subtitle_101 rfl ?_
      refine z_aload_n cx dX4_subtitle_102 rfl ?_
      refine g_X4_0 cx fl_X4_10 dX4_subtitle_103 ?_
      refine g_X0_4 cx (by omega) fl_X4_130 dX4_subtitle_106 ?_
      refine z_iconst cx dX4_subtitle_109 ?_
      refine z_iald cx 4 rfl (by omega) (co_vals E _ (by omega)) dX4_subtitle_110 ?_
      rw [w4]
      refine z_vi cx (c_X3_lineCount (S := (A.1.2.2.getD k dS)) (w := A.1.1 4) (by omega) hs_ ho.2.2.2 (by omega)) rfl mv_X3_lineCount ml_X4_169 (by omega) (co_sub E _ (by omega)) rfl dX4_subtitle_111 (fun z111 G111 hz111 => ?_)
      obtain ⟨eG, rfl⟩ := hz111
      have eG := eG.symm
      subst eG
      refine z_iret cx dX4_subtitle_114 ?_
      refine ⟨?_, hC, MFx.rf⟩
      unfold r_subtitle
      rw [if_pos (by omega), Int.toNat_natCast]
      rw [if_neg (by decide), if_neg (by decide), if_neg (by decide), if_neg (by decide), if_neg (by decide), if_pos rfl]
    · skip
      refine z_tblIn cx (tgt := 115) (off := 91) dX4_subtitle_24 rfl (by decide) ?_
      refine z_aload_n cx dX4_subtitle_115 rfl ?_
      refine z_vi cx (c_X3_bestBlank (S := (A.1.2.2.getD k dS)) (by omega) hs_ ho.2.2.2) rfl mv_X3_bestBlank ml_X4_124 (by omega) (co_sub E _ (by omega)) rfl dX4_subtitle_116 (fun z116 G116 hz116 => ?_)
      obtain ⟨eG, rfl⟩ := hz116
      have eG := eG.symm
      subst eG
      refine z_iret cx dX4_subtitle_119 ?_
      refine ⟨?_, hC, MFx.rf⟩
      unfold r_subtitle
      rw [if_pos (by omega), Int.toNat_natCast]
      rw [if_neg (by decide), if_neg (by decide), if_neg (by decide), if_neg (by decide), if_neg (by decide), if_neg (by decide), if_pos rfl]
    · skip
      refine z_tblOut cx (tgt := 120) dX4_subtitle_24 (by decide) ?_
      refine z_bipush cx dX4_subtitle_120 ?_
      refine z_iret cx dX4_subtitle_122 ?_
      refine ⟨?_, hC, MFx.rf⟩
      unfold r_subtitle
      rw [if_pos (by omega), Int.toNat_natCast]
      rw [if_neg (by omega), if_neg (by omega), if_neg (by omega), if_neg (by omega), if_neg (by omega), if_neg (by omega), if_neg (by omega)]
  · skip
    refine z_iconst cx dX4_subtitle_11 ?_
    refine z_iret cx dX4_subtitle_12 ?_
    refine ⟨?_, hC, MFx.rf⟩
    unfold r_subtitle
    rw [if_neg (by omega)]
set_option maxRecDepth 100000 in
set_option maxHeartbeats 4000000 in
theorem c_X4_character {E : En} {G : Wd} {A : Ast} (hC : CRel G A) (hA : AOk A) {x y : Int} (hx : -2147483648 ≤ x ∧ x < 2147483648) (hy : -2147483648 ≤ y ∧ y < 2147483648) : Cti E yX4_character cX4_character 4 .int 1 21 [.ref (E.1 0), .int (iN x), .int (iN y)] G (fun z G' => z = r_character A x y ∧ CRel G' A ∧ MFx G G') := by
  obtain ⟨hF, hRw, ⟨la, hla3, hla, hct, hH⟩, hSc, hr0, hr1, hr2⟩ := id hC
  obtain ⟨hO, hh4, hhO, hScO, hRp⟩ := id hA
  obtain ⟨hR, hV, hcc, hcu, hn, hs⟩ := id hF
  obtain ⟨hOv, hOc, hOs⟩ := id hO
  have hl20 := hOs.1
  have hl12 := hOc.1
  obtain ⟨hv0, hv1, hv2, hv3, hv4, hv5⟩ := id hOv
  have w0 := hV 0 (by omega)
  have w1 := hV 1 (by omega)
  have w2 := hV 2 (by omega)
  have w3 := hV 3 (by omega)
  have w4 := hV 4 (by omega)
  have w5 := hV 5 (by omega)
  have hh := And.intro (recH_ok hA).1 (fun k hk => ((recH_ok hA).2 k hk).2.2.1)
  refine Cti.mk [some (.ref (E.1 0)), some (.int (iN x)), some (.int (iN y)), none] (by decide) rfl (by intro v hv; simp only [List.mem_cons, List.not_mem_nil, or_false] at hv; rcases hv with rfl | rfl | rfl <;> rfl) (Nat.le_of_ble_eq_true rfl) ?_
  intro p l e s m args below meth c cx
  refine z_aload_n cx dX4_character_0 rfl ?_
  refine g_X4_0 cx fl_X4_10 dX4_character_1 ?_
  refine z_iload_n cx dX4_character_4 rfl ?_
  refine z_vi cx (c_X0_has (q := 0) (F := A.1) (by omega) hF hO hx) rfl mv_X0_has ml_X4_109 (by omega) (co_film E _ (by omega)) rfl dX4_character_5 (fun z5 G5 hz5 => ?_)
  obtain ⟨eG, hz5⟩ := hz5
  have eG := eG.symm
  subst eG
  refine z_if_ne cx (tgt := 13) dX4_character_8 (fun h8 => ?_) (fun h8 => ?_)
  · skip
    refine z_iload_n cx dX4_character_13 rfl ?_
    refine z_if_ge cx (tgt := 20) dX4_character_14 (fun h14 => ?_) (fun h14 => ?_)
    · skip
      obtain ⟨k, rfl⟩ : ∃ k : Nat, x = k := ⟨x.toNat, by omega⟩
      have hk := hR.1 (k) (by omega)
      have hs_ := hs (k) (by omega)
      have ho := hOs.2.1 (k) (by omega)
      have e5 := hs_.1
      have e6 := hs_.2.1
      have e7 := hs_.2.2.1
      have o1 := ho.1
      have o2 := ho.2.1
      have o3 := ho.2.2.1
      have o4 := ho.2.2.2.1
      have o5 := ho.2.2.2.2.1
      refine z_aload_n cx dX4_character_20 rfl ?_
      refine g_X4_0 cx fl_X4_10 dX4_character_21 ?_
      refine g_X0_0 cx (by omega) fl_X4_77 dX4_character_24 ?_
      refine z_iload_n cx dX4_character_27 rfl ?_
      refine z_aldq cx (k) (by omega) (by omega) (co_rows E _ (by omega)) rfl dX4_character_28 ?_
      refine z_astore_n cx dX4_character_29 ?_
      refine z_iload_n cx dX4_character_30 rfl ?_
      refine z_aload_n cx dX4_character_31 rfl ?_
      refine g_X3_2 cx (by omega) fl_X4_137 dX4_character_32 ?_
      refine z_icmp_ge cx (tgt := 47) dX4_character_35 (fun h35 => ?_) (fun h35 => ?_)
      · skip
        refine z_bipush cx dX4_character_47 ?_
        refine z_iret cx dX4_character_49 ?_
        refine ⟨?_, hC, MFx.rf⟩
        unfold r_character
        rw [if_pos (by omega), if_neg (by omega), Int.toNat_natCast, if_neg (by omega)]
      · skip
        obtain ⟨j, rfl⟩ : ∃ j : Nat, y = j := ⟨y.toNat, by omega⟩
        have e8 := hs_.2.2.2 j (by omega)
        refine z_aload_n cx dX4_character_38 rfl ?_
        refine g_X3_3 cx (by omega) fl_X4_172 dX4_character_39 ?_
        refine z_iload_n cx dX4_character_42 rfl ?_
        refine z_cald cx (j) (by omega) (by omega) (co_text E _ _) dX4_character_43 ?_
        refine z_goto cx (tgt := 49) dX4_character_44 ?_
        refine z_iret cx dX4_character_49 ?_
        refine ⟨?_, hC, MFx.rf⟩
        unfold r_character
        rw [if_pos (by omega), if_neg (by omega), Int.toNat_natCast, if_pos (by omega), Int.toNat_natCast]
        exact e8
    · skip
      refine z_bipush cx dX4_character_17 ?_
      refine z_iret cx dX4_character_19 ?_
      refine ⟨?_, hC, MFx.rf⟩
      unfold r_character
      rw [if_pos (by omega), if_pos (by omega)]
  · skip
    refine z_iconst cx dX4_character_11 ?_
    refine z_iret cx dX4_character_12 ?_
    refine ⟨?_, hC, MFx.rf⟩
    unfold r_character
    rw [if_neg (by omega)]
set_option maxRecDepth 100000 in
set_option maxHeartbeats 4000000 in
theorem c_X4_line {E : En} {G : Wd} {A : Ast} (hC : CRel G A) (hA : AOk A) {x y : Int} (hx : -2147483648 ≤ x ∧ x < 2147483648) (hy : -2147483648 ≤ y ∧ y < 2147483648) : Cti E yX4_line cX4_line 3 .int 2 49 [.ref (E.1 0), .int (iN x), .int (iN y)] G (fun z G' => z = r_line A x y ∧ CRel G' A ∧ MFx G G') := by
  obtain ⟨hF, hRw, ⟨la, hla3, hla, hct, hH⟩, hSc, hr0, hr1, hr2⟩ := id hC
  obtain ⟨hO, hh4, hhO, hScO, hRp⟩ := id hA
  obtain ⟨hR, hV, hcc, hcu, hn, hs⟩ := id hF
  obtain ⟨hOv, hOc, hOs⟩ := id hO
  have hl20 := hOs.1
  have hl12 := hOc.1
  obtain ⟨hv0, hv1, hv2, hv3, hv4, hv5⟩ := id hOv
  have w0 := hV 0 (by omega)
  have w1 := hV 1 (by omega)
  have w2 := hV 2 (by omega)
  have w3 := hV 3 (by omega)
  have w4 := hV 4 (by omega)
  have w5 := hV 5 (by omega)
  have hh := And.intro (recH_ok hA).1 (fun k hk => ((recH_ok hA).2 k hk).2.2.1)
  refine Cti.mk [some (.ref (E.1 0)), some (.int (iN x)), some (.int (iN y))] (by decide) rfl (by intro v hv; simp only [List.mem_cons, List.not_mem_nil, or_false] at hv; rcases hv with rfl | rfl | rfl <;> rfl) (Nat.le_of_ble_eq_true rfl) ?_
  intro p l e s m args below meth c cx
  refine z_aload_n cx dX4_line_0 rfl ?_
  refine g_X4_0 cx fl_X4_10 dX4_line_1 ?_
  refine z_iload_n cx dX4_line_4 rfl ?_
  refine z_vi cx (c_X0_has (q := 0) (F := A.1) (by omega) hF hO hx) rfl mv_X0_has ml_X4_109 (by omega) (co_film E _ (by omega)) rfl dX4_line_5 (fun z5 G5 hz5 => ?_)
  obtain ⟨eG, hz5⟩ := hz5
  have eG := eG.symm
  subst eG
  refine z_if_ne cx (tgt := 13) dX4_line_8 (fun h8 => ?_) (fun h8 => ?_)
  · skip
    refine z_iload_n cx dX4_line_13 rfl ?_
    refine z_if_ge cx (tgt := 20) dX4_line_14 (fun h14 => ?_) (fun h14 => ?_)
    · skip
      obtain ⟨k, rfl⟩ : ∃ k : Nat, x = k := ⟨x.toNat, by omega⟩
      have hk := hR.1 (k) (by omega)
      have hs_ := hs (k) (by omega)
      have ho := hOs.2.1 (k) (by omega)
      have e5 := hs_.1
      have e6 := hs_.2.1
      have e7 := hs_.2.2.1
      have o1 := ho.1
      have o2 := ho.2.1
      have o3 := ho.2.2.1
      have o4 := ho.2.2.2.1
      have o5 := ho.2.2.2.2.1
      refine z_aload_n cx dX4_line_20 rfl ?_
      refine g_X4_0 cx fl_X4_10 dX4_line_21 ?_
      refine g_X0_0 cx (by omega) fl_X4_77 dX4_line_24 ?_
      refine z_iload_n cx dX4_line_27 rfl ?_
      refine z_aldq cx (k) (by omega) (by omega) (co_rows E _ (by omega)) rfl dX4_line_28 ?_
      refine z_iload_n cx dX4_line_29 rfl ?_
      refine z_aload_n cx dX4_line_30 rfl ?_
      refine g_X4_0 cx fl_X4_10 dX4_line_31 ?_
      refine g_X0_4 cx (by omega) fl_X4_130 dX4_line_34 ?_
      refine z_iconst cx dX4_line_37 ?_
      refine z_iald cx 4 rfl (by omega) (co_vals E _ (by omega)) dX4_line_38 ?_
      rw [w4]
      refine z_vi cx (c_X3_lineLength (S := (A.1.2.2.getD k dS)) (w := A.1.1 4) (by omega) hs_ ho.2.2.2 (by omega) (by omega)) rfl mv_X3_lineLength ml_X4_175 (by omega) (co_sub E _ (by omega)) rfl dX4_line_39 (fun z39 G39 hz39 => ?_)
      obtain ⟨eG, rfl⟩ := hz39
      have eG := eG.symm
      subst eG
      refine z_iret cx dX4_line_42 ?_
      refine ⟨?_, hC, MFx.rf⟩
      have hr : r_line A (k : Int) y = (if y < ((lns (A.1.2.2.getD k dS).2.2 (A.1.1 4)).length : Int) then (lns (A.1.2.2.getD k dS).2.2 (A.1.1 4)).getD y.toNat 0 else -6) := by
        unfold r_line
        rw [if_pos (by omega), if_neg (by omega), Int.toNat_natCast]
      rw [hr]
    · skip
      refine z_bipush cx dX4_line_17 ?_
      refine z_iret cx dX4_line_19 ?_
      refine ⟨?_, hC, MFx.rf⟩
      unfold r_line
      rw [if_pos (by omega), if_pos (by omega)]
  · skip
    refine z_iconst cx dX4_line_11 ?_
    refine z_iret cx dX4_line_12 ?_
    refine ⟨?_, hC, MFx.rf⟩
    unfold r_line
    rw [if_neg (by omega)]
set_option maxRecDepth 100000 in
set_option maxHeartbeats 4000000 in
theorem c_X4_at {E : En} {G : Wd} {A : Ast} (hC : CRel G A) (hA : AOk A) {x : Int} (hx : -2147483648 ≤ x ∧ x < 2147483648) : Cti E yX4_at cX4_at 3 .int 0 0 [.ref (E.1 0), .int (iN x)] G (fun z G' => z = r_at A x ∧ CRel G' A ∧ MFx G G') := by
  obtain ⟨hF, hRw, ⟨la, hla3, hla, hct, hH⟩, hSc, hr0, hr1, hr2⟩ := id hC
  obtain ⟨hO, hh4, hhO, hScO, hRp⟩ := id hA
  obtain ⟨hR, hV, hcc, hcu, hn, hs⟩ := id hF
  obtain ⟨hOv, hOc, hOs⟩ := id hO
  have hl20 := hOs.1
  have hl12 := hOc.1
  obtain ⟨hv0, hv1, hv2, hv3, hv4, hv5⟩ := id hOv
  have w0 := hV 0 (by omega)
  have w1 := hV 1 (by omega)
  have w2 := hV 2 (by omega)
  have w3 := hV 3 (by omega)
  have w4 := hV 4 (by omega)
  have w5 := hV 5 (by omega)
  have hh := And.intro (recH_ok hA).1 (fun k hk => ((recH_ok hA).2 k hk).2.2.1)
  refine Cti.mk [some (.ref (E.1 0)), some (.int (iN x)), none] (by decide) rfl (by intro v hv; simp only [List.mem_cons, List.not_mem_nil, or_false] at hv; rcases hv with rfl | rfl <;> rfl) (Nat.le_of_ble_eq_true rfl) ?_
  intro p l e s m args below meth c cx
  have L16 : ∀ (n : Nat) (j : Nat), (60 - j) < n → (j ≤ A.1.2.2.length) → (0 ≤ x ∧ x ≤ 4999) → (∀ i, i < j → ¬ ((A.1.2.2.getD i dS).1 ≤ x ∧ x < (A.1.2.2.getD i dS).2.1)) → Z p l e (zr 0 0) s m args below meth c 3 0 0 E (Qi_ E below args s (fun z G' => z = r_at A x ∧ CRel G' A ∧ MFx G G')) G 16 [some (.ref (E.1 0)), some (.int (iN x)), some (.int (iN (j : Int)))] [] := by
    intro n
    induction n with
    | zero =>
      intro j hmu
      exact absurd hmu (Nat.not_lt_zero _)
    | succ n ih =>
      intro j hmu hj hxb hi2
      refine z_iload_n cx dX4_at_16 rfl ?_
      refine z_aload_n cx dX4_at_17 rfl ?_
      refine g_X4_0 cx fl_X4_10 dX4_at_18 ?_
      refine g_X0_1 cx (by omega) fl_X4_117 dX4_at_21 ?_
      refine z_icmp_ge cx (tgt := 67) dX4_at_24 (fun h24 => ?_) (fun h24 => ?_)
      · skip
        refine z_bipush cx dX4_at_67 ?_
        refine z_iret cx dX4_at_69 ?_
        refine ⟨?_, hC, MFx.rf⟩
        unfold r_at
        rw [if_pos hxb, atF_of hO (Or.inl ⟨rfl, fun i h => hi2 i (by omega)⟩)]
      · skip
        have hk := hR.1 (j) (by omega)
        have hs_ := hs (j) (by omega)
        have ho := hOs.2.1 (j) (by omega)
        have e5 := hs_.1
        have e6 := hs_.2.1
        have e7 := hs_.2.2.1
        have o1 := ho.1
        have o2 := ho.2.1
        have o3 := ho.2.2.1
        have o4 := ho.2.2.2.1
        have o5 := ho.2.2.2.2.1
        refine z_aload_n cx dX4_at_27 rfl ?_
        refine g_X4_0 cx fl_X4_10 dX4_at_28 ?_
        refine g_X0_0 cx (by omega) fl_X4_77 dX4_at_31 ?_
        refine z_iload_n cx dX4_at_34 rfl ?_
        refine z_aldq cx _ rfl (by omega) (co_rows E _ (by omega)) rfl dX4_at_35 ?_
        refine g_X3_0 cx (by omega) fl_X4_85 dX4_at_36 ?_
        refine z_iload_n cx dX4_at_39 rfl ?_
        refine z_icmp_gt cx (tgt := 61) dX4_at_40 (fun h40 => ?_) (fun h40 => ?_)
        · skip
          refine z_iinc cx dX4_at_61 rfl ?_
          refine z_goto cx (tgt := 16) dX4_at_64 ?_
          refine Z.locs (ih (j + 1) (by omega) (by omega) hxb (fun i h => by rcases Nat.lt_succ_iff_lt_or_eq.mp h with h | rfl; exact hi2 i h; omega)) ⟨rfl, rfl, rfl, trivial⟩
        · skip
          refine z_iload_n cx dX4_at_43 rfl ?_
          refine z_aload_n cx dX4_at_44 rfl ?_
          refine g_X4_0 cx fl_X4_10 dX4_at_45 ?_
          refine g_X0_0 cx (by omega) fl_X4_77 dX4_at_48 ?_
          refine z_iload_n cx dX4_at_51 rfl ?_
          refine z_aldq cx _ rfl (by omega) (co_rows E _ (by omega)) rfl dX4_at_52 ?_
          refine g_X3_1 cx (by omega) fl_X4_88 dX4_at_53 ?_
          refine z_icmp_ge cx (tgt := 61) dX4_at_56 (fun h56 => ?_) (fun h56 => ?_)
          · skip
            refine z_iinc cx dX4_at_61 rfl ?_
            refine z_goto cx (tgt := 16) dX4_at_64 ?_
            refine Z.locs (ih (j + 1) (by omega) (by omega) hxb (fun i h => by rcases Nat.lt_succ_iff_lt_or_eq.mp h with h | rfl; exact hi2 i h; omega)) ⟨rfl, rfl, rfl, trivial⟩
          · skip
            refine z_iload_n cx dX4_at_59 rfl ?_
            refine z_iret cx dX4_at_60 ?_
            refine ⟨?_, hC, MFx.rf⟩
            unfold r_at
            rw [if_pos hxb, atF_of hO (Or.inr ⟨j, rfl, by omega, by omega, by omega⟩)]
  refine z_iload_n cx dX4_at_0 rfl ?_
  refine z_if_lt cx (tgt := 11) dX4_at_1 (fun h1 => ?_) (fun h1 => ?_)
  · skip
    refine z_bipush cx dX4_at_11 ?_
    refine z_iret cx dX4_at_13 ?_
    refine ⟨?_, hC, MFx.rf⟩
    unfold r_at
    rw [if_neg (by omega)]
  · skip
    refine z_iload_n cx dX4_at_4 rfl ?_
    refine z_sipush cx dX4_at_5 ?_
    refine z_icmp_lt cx (tgt := 14) dX4_at_8 (fun h8 => ?_) (fun h8 => ?_)
    · skip
      refine z_iconst cx dX4_at_14 ?_
      refine z_istore_n cx dX4_at_15 ?_
      refine Z.locs (L16 _ (0) (Nat.lt_succ_self _) (by omega) (by omega) (fun i h => absurd h (Nat.not_lt_zero _))) ⟨rfl, rfl, rfl, trivial⟩
    · skip
      refine z_bipush cx dX4_at_11 ?_
      refine z_iret cx dX4_at_13 ?_
      refine ⟨?_, hC, MFx.rf⟩
      unfold r_at
      rw [if_neg (by omega)]
set_option maxRecDepth 100000 in
set_option maxHeartbeats 4000000 in
theorem c_X4_cutAt {E : En} {G : Wd} {A : Ast} (hC : CRel G A) (hA : AOk A) {x : Int} (hx : -2147483648 ≤ x ∧ x < 2147483648) : Cti E yX4_cutAt cX4_cutAt 2 .int 0 0 [.ref (E.1 0), .int (iN x)] G (fun z G' => z = r_cutAt A x ∧ CRel G' A ∧ MFx G G') := by
  obtain ⟨hF, hRw, ⟨la, hla3, hla, hct, hH⟩, hSc, hr0, hr1, hr2⟩ := id hC
  obtain ⟨hO, hh4, hhO, hScO, hRp⟩ := id hA
  obtain ⟨hR, hV, hcc, hcu, hn, hs⟩ := id hF
  obtain ⟨hOv, hOc, hOs⟩ := id hO
  have hl20 := hOs.1
  have hl12 := hOc.1
  obtain ⟨hv0, hv1, hv2, hv3, hv4, hv5⟩ := id hOv
  have w0 := hV 0 (by omega)
  have w1 := hV 1 (by omega)
  have w2 := hV 2 (by omega)
  have w3 := hV 3 (by omega)
  have w4 := hV 4 (by omega)
  have w5 := hV 5 (by omega)
  have hh := And.intro (recH_ok hA).1 (fun k hk => ((recH_ok hA).2 k hk).2.2.1)
  refine Cti.mk [some (.ref (E.1 0)), some (.int (iN x))] (by decide) rfl (by intro v hv; simp only [List.mem_cons, List.not_mem_nil, or_false] at hv; rcases hv with rfl | rfl <;> rfl) (Nat.le_of_ble_eq_true rfl) ?_
  intro p l e s m args below meth c cx
  refine z_iload_n cx dX4_cutAt_0 rfl ?_
  refine z_if_ge cx (tgt := 7) dX4_cutAt_1 (fun h1 => ?_) (fun h1 => ?_)
  · skip
    refine z_iload_n cx dX4_cutAt_7 rfl ?_
    refine z_aload_n cx dX4_cutAt_8 rfl ?_
    refine g_X4_0 cx fl_X4_10 dX4_cutAt_9 ?_
    refine g_X0_3 cx (by omega) fl_X4_147 dX4_cutAt_12 ?_
    refine z_icmp_ge cx (tgt := 30) dX4_cutAt_15 (fun h15 => ?_) (fun h15 => ?_)
    · skip
      refine z_bipush cx dX4_cutAt_30 ?_
      refine z_iret cx dX4_cutAt_32 ?_
      refine ⟨?_, hC, MFx.rf⟩
      unfold r_cutAt
      rw [if_neg (by omega), if_neg (by omega)]
    · skip
      obtain ⟨k, rfl⟩ : ∃ k : Nat, x = k := ⟨x.toNat, by omega⟩
      have ec := hcu k (by omega)
      refine z_aload_n cx dX4_cutAt_18 rfl ?_
      refine g_X4_0 cx fl_X4_10 dX4_cutAt_19 ?_
      refine g_X0_2 cx (by omega) fl_X4_178 dX4_cutAt_22 ?_
      refine z_iload_n cx dX4_cutAt_25 rfl ?_
      refine z_iald cx (k) (by omega) (by omega) (co_cuts E _ (by omega)) dX4_cutAt_26 ?_
      refine z_goto cx (tgt := 32) dX4_cutAt_27 ?_
      refine z_iret cx dX4_cutAt_32 ?_
      refine ⟨?_, hC, MFx.rf⟩
      unfold r_cutAt
      rw [if_neg (by omega), if_pos (by omega), Int.toNat_natCast]
      exact ec
  · skip
    refine z_bipush cx dX4_cutAt_4 ?_
    refine z_iret cx dX4_cutAt_6 ?_
    refine ⟨?_, hC, MFx.rf⟩
    unfold r_cutAt
    rw [if_pos (by omega)]
set_option maxRecDepth 100000 in
set_option maxHeartbeats 4000000 in
theorem c_X4_setting {E : En} {G : Wd} {A : Ast} (hC : CRel G A) (hA : AOk A) {x : Int} (hx : -2147483648 ≤ x ∧ x < 2147483648) : Cti E yX4_setting cX4_setting 2 .int 0 0 [.ref (E.1 0), .int (iN x)] G (fun z G' => z = r_setting A x ∧ CRel G' A ∧ MFx G G') := by
  obtain ⟨hF, hRw, ⟨la, hla3, hla, hct, hH⟩, hSc, hr0, hr1, hr2⟩ := id hC
  obtain ⟨hO, hh4, hhO, hScO, hRp⟩ := id hA
  obtain ⟨hR, hV, hcc, hcu, hn, hs⟩ := id hF
  obtain ⟨hOv, hOc, hOs⟩ := id hO
  have hl20 := hOs.1
  have hl12 := hOc.1
  obtain ⟨hv0, hv1, hv2, hv3, hv4, hv5⟩ := id hOv
  have w0 := hV 0 (by omega)
  have w1 := hV 1 (by omega)
  have w2 := hV 2 (by omega)
  have w3 := hV 3 (by omega)
  have w4 := hV 4 (by omega)
  have w5 := hV 5 (by omega)
  have hh := And.intro (recH_ok hA).1 (fun k hk => ((recH_ok hA).2 k hk).2.2.1)
  refine Cti.mk [some (.ref (E.1 0)), some (.int (iN x))] (by decide) rfl (by intro v hv; simp only [List.mem_cons, List.not_mem_nil, or_false] at hv; rcases hv with rfl | rfl <;> rfl) (Nat.le_of_ble_eq_true rfl) ?_
  intro p l e s m args below meth c cx
  refine z_iload_n cx dX4_setting_0 rfl ?_
  refine z_if_lt cx (tgt := 10) dX4_setting_1 (fun h1 => ?_) (fun h1 => ?_)
  · skip
    refine z_iconst cx dX4_setting_10 ?_
    refine z_iret cx dX4_setting_11 ?_
    refine ⟨?_, hC, MFx.rf⟩
    unfold r_setting
    rw [if_neg (by omega)]
  · skip
    refine z_iload_n cx dX4_setting_4 rfl ?_
    refine z_bipush cx dX4_setting_5 ?_
    refine z_icmp_lt cx (tgt := 12) dX4_setting_7 (fun h7 => ?_) (fun h7 => ?_)
    · skip
      obtain ⟨k, rfl⟩ : ∃ k : Nat, x = k := ⟨x.toNat, by omega⟩
      refine z_aload_n cx dX4_setting_12 rfl ?_
      refine g_X4_0 cx fl_X4_10 dX4_setting_13 ?_
      refine g_X0_4 cx (by omega) fl_X4_130 dX4_setting_16 ?_
      refine z_iload_n cx dX4_setting_19 rfl ?_
      refine z_iald cx (k) (by omega) (by omega) (co_vals E _ (by omega)) dX4_setting_20 ?_
      refine z_iret cx dX4_setting_21 ?_
      refine ⟨?_, hC, MFx.rf⟩
      unfold r_setting
      rw [if_pos (by omega), Int.toNat_natCast]
      exact hV k (by omega)
    · skip
      refine z_iconst cx dX4_setting_10 ?_
      refine z_iret cx dX4_setting_11 ?_
      refine ⟨?_, hC, MFx.rf⟩
      unfold r_setting
      rw [if_neg (by omega)]
set_option maxRecDepth 100000 in
set_option maxHeartbeats 4000000 in
theorem c_J6_bitCount_0f7a4 {E : En} {G : Wd} {n0 : Nat} (hn0 : n0 < 33) : Cti E yJ6_bitCount_0f7a4 cJ6_bitCount_0f7a4 1 .int 0 0 [.int (iN (n0 : Int))] G (fun z G' => G' = G ∧ z = (bcn n0 : Int)) := by
  refine Cti.mk [some (.int (iN (n0 : Int)))] (by decide) rfl (by intro v hv; simp only [List.mem_cons, List.not_mem_nil, or_false] at hv; subst hv; rfl) (Nat.le_of_ble_eq_true rfl) ?_
  intro p l e s m args below meth c cx
  refine z_iload_n cx dJ6_bitCount_0f7a4_0 rfl ?_
  refine z_iload_n cx dJ6_bitCount_0f7a4_1 rfl ?_
  refine z_iconst cx dJ6_bitCount_0f7a4_2 ?_
  refine z_ushr32 cx dJ6_bitCount_0f7a4_3 ?_
  refine z_ldcw cx ct_J6_265 dJ6_bitCount_0f7a4_4 ?_
  refine z_and32 cx dJ6_bitCount_0f7a4_7 ?_
  refine z_sub32 cx dJ6_bitCount_0f7a4_8 ?_
  refine z_istore_n cx dJ6_bitCount_0f7a4_9 ?_
  refine z_iload_n cx dJ6_bitCount_0f7a4_10 rfl ?_
  refine z_ldcw cx ct_J6_266 dJ6_bitCount_0f7a4_11 ?_
  refine z_and32 cx dJ6_bitCount_0f7a4_14 ?_
  refine z_iload_n cx dJ6_bitCount_0f7a4_15 rfl ?_
  refine z_iconst cx dJ6_bitCount_0f7a4_16 ?_
  refine z_ushr32 cx dJ6_bitCount_0f7a4_17 ?_
  refine z_ldcw cx ct_J6_266 dJ6_bitCount_0f7a4_18 ?_
  refine z_and32 cx dJ6_bitCount_0f7a4_21 ?_
  refine z_add32 cx dJ6_bitCount_0f7a4_22 ?_
  refine z_istore_n cx dJ6_bitCount_0f7a4_23 ?_
  refine z_iload_n cx dJ6_bitCount_0f7a4_24 rfl ?_
  refine z_iload_n cx dJ6_bitCount_0f7a4_25 rfl ?_
  refine z_iconst cx dJ6_bitCount_0f7a4_26 ?_
  refine z_ushr32 cx dJ6_bitCount_0f7a4_27 ?_
  refine z_add32 cx dJ6_bitCount_0f7a4_28 ?_
  refine z_ldcw cx ct_J6_267 dJ6_bitCount_0f7a4_29 ?_
  refine z_and32 cx dJ6_bitCount_0f7a4_32 ?_
  refine z_istore_n cx dJ6_bitCount_0f7a4_33 ?_
  refine z_iload_n cx dJ6_bitCount_0f7a4_34 rfl ?_
  refine z_iload_n cx dJ6_bitCount_0f7a4_35 rfl ?_
  refine z_bipush cx dJ6_bitCount_0f7a4_36 ?_
  refine z_ushr32 cx dJ6_bitCount_0f7a4_38 ?_
  refine z_add32 cx dJ6_bitCount_0f7a4_39 ?_
  refine z_istore_n cx dJ6_bitCount_0f7a4_40 ?_
  refine z_iload_n cx dJ6_bitCount_0f7a4_41 rfl ?_
  refine z_iload_n cx dJ6_bitCount_0f7a4_42 rfl ?_
  refine z_bipush cx dJ6_bitCount_0f7a4_43 ?_
  refine z_ushr32 cx dJ6_bitCount_0f7a4_45 ?_
  refine z_add32 cx dJ6_bitCount_0f7a4_46 ?_
  refine z_istore_n cx dJ6_bitCount_0f7a4_47 ?_
  refine z_iload_n cx dJ6_bitCount_0f7a4_48 rfl ?_
  refine z_bipush cx dJ6_bitCount_0f7a4_49 ?_
  refine z_and32 cx dJ6_bitCount_0f7a4_51 ?_
  have hb := bcw_n n0 hn0
  unfold bcw at hb
  dsimp only at hb
  rw [hb]
  refine z_iret cx dJ6_bitCount_0f7a4_52 ?_
  exact ⟨rfl, rfl⟩
set_option maxRecDepth 100000 in
set_option maxHeartbeats 4000000 in
theorem c_X4_faulty {E : En} {G : Wd} {A : Ast} (hC : CRel G A) (hA : AOk A) {x : Int} (hx : -2147483648 ≤ x ∧ x < 2147483648) : Cti E yX4_faulty cX4_faulty 2 .int 5 118 [.ref (E.1 0), .int (iN x)] G (fun z G' => z = r_faulty A x ∧ CRel G' A ∧ MFx G G') := by
  obtain ⟨hF, hRw, ⟨la, hla3, hla, hct, hH⟩, hSc, hr0, hr1, hr2⟩ := id hC
  obtain ⟨hO, hh4, hhO, hScO, hRp⟩ := id hA
  obtain ⟨hR, hV, hcc, hcu, hn, hs⟩ := id hF
  obtain ⟨hOv, hOc, hOs⟩ := id hO
  have hl20 := hOs.1
  have hl12 := hOc.1
  obtain ⟨hv0, hv1, hv2, hv3, hv4, hv5⟩ := id hOv
  have w0 := hV 0 (by omega)
  have w1 := hV 1 (by omega)
  have w2 := hV 2 (by omega)
  have w3 := hV 3 (by omega)
  have w4 := hV 4 (by omega)
  have w5 := hV 5 (by omega)
  have hh := And.intro (recH_ok hA).1 (fun k hk => ((recH_ok hA).2 k hk).2.2.1)
  refine Cti.mk [some (.ref (E.1 0)), some (.int (iN x))] (by decide) rfl (by intro v hv; simp only [List.mem_cons, List.not_mem_nil, or_false] at hv; rcases hv with rfl | rfl <;> rfl) (Nat.le_of_ble_eq_true rfl) ?_
  intro p l e s m args below meth c cx
  refine z_iload_n cx dX4_faulty_0 rfl ?_
  refine z_if_lt cx (tgt := 18) dX4_faulty_1 (fun h1 => ?_) (fun h1 => ?_)
  · skip
    refine z_bipush cx dX4_faulty_18 ?_
    refine z_iret cx dX4_faulty_20 ?_
    refine ⟨?_, hC, MFx.rf⟩
    unfold r_faulty
    first
    | (rw [if_neg (by omega), if_neg (by omega)]; done)
    | (have hb1 := hbc.1
       have hno : ¬ (k = 0 ∨ k = 1 ∨ k = 2 ∨ k = 4 ∨ k = 8 ∨ k = 16 ∨ k = 32) := fun w => by have := hb1.mpr w; omega
       rw [if_neg (by omega), if_neg (by omega)])
  · skip
    refine z_iload_n cx dX4_faulty_4 rfl ?_
    refine z_bipush cx dX4_faulty_5 ?_
    refine z_icmp_gt cx (tgt := 18) dX4_faulty_7 (fun h7 => ?_) (fun h7 => ?_)
    · skip
      refine z_bipush cx dX4_faulty_18 ?_
      refine z_iret cx dX4_faulty_20 ?_
      refine ⟨?_, hC, MFx.rf⟩
      unfold r_faulty
      first
      | (rw [if_neg (by omega), if_neg (by omega)]; done)
      | (have hb1 := hbc.1
         have hno : ¬ (k = 0 ∨ k = 1 ∨ k = 2 ∨ k = 4 ∨ k = 8 ∨ k = 16 ∨ k = 32) := fun w => by have := hb1.mpr w; omega
         rw [if_neg (by omega), if_neg (by omega)])
    · skip
      obtain ⟨k, rfl⟩ : ∃ k : Nat, x = k := ⟨x.toNat, by omega⟩
      have hbc := bcn_p k (by omega)
      refine z_iload_n cx dX4_faulty_10 rfl ?_
      refine z_si cx (c_J6_bitCount_0f7a4 (n0 := k) (by omega)) rfl ms_J6_bitCount_0f7a4 ml_X4_181 dX4_faulty_11 (fun z11 G11 hz11 => ?_)
      obtain ⟨eG, rfl⟩ := hz11
      have eG := eG.symm
      subst eG
      refine z_iconst cx dX4_faulty_14 ?_
      refine z_icmp_le cx (tgt := 21) dX4_faulty_15 (fun h15 => ?_) (fun h15 => ?_)
      · skip
        refine z_aload_n cx dX4_faulty_21 rfl ?_
        refine g_X4_0 cx fl_X4_10 dX4_faulty_22 ?_
        refine z_iload_n cx dX4_faulty_25 rfl ?_
        refine z_if_ne cx (tgt := 34) dX4_faulty_26 (fun h26 => ?_) (fun h26 => ?_)
        · skip
          refine z_iload_n cx dX4_faulty_34 rfl ?_
          refine z_vi cx (c_X0_countFaulty (q := 0) (F := A.1) (by omega) hF hO (by omega)) rfl mv_X0_countFaulty ml_X4_186 (by omega) (co_film E _ (by omega)) rfl dX4_faulty_35 (fun z35 G35 hz35 => ?_)
          obtain ⟨eG, rfl⟩ := hz35
          have eG := eG.symm
          subst eG
          refine z_iret cx dX4_faulty_38 ?_
          refine ⟨?_, hC, MFx.rf⟩
          have hyes : k = 0 ∨ k = 1 ∨ k = 2 ∨ k = 4 ∨ k = 8 ∨ k = 16 ∨ k = 32 := hbc.1.mp (by omega)
          unfold r_faulty
          first
          | rw [if_pos (by omega)]
          | rw [if_neg (by omega), if_pos (by omega)]
        · skip
          refine z_bipush cx dX4_faulty_29 ?_
          refine z_goto cx (tgt := 35) dX4_faulty_31 ?_
          refine z_vi cx (c_X0_countFaulty (q := 0) (F := A.1) (by omega) hF hO (by omega)) rfl mv_X0_countFaulty ml_X4_186 (by omega) (co_film E _ (by omega)) rfl dX4_faulty_35 (fun z35 G35 hz35 => ?_)
          obtain ⟨eG, rfl⟩ := hz35
          have eG := eG.symm
          subst eG
          refine z_iret cx dX4_faulty_38 ?_
          refine ⟨?_, hC, MFx.rf⟩
          have hyes : k = 0 ∨ k = 1 ∨ k = 2 ∨ k = 4 ∨ k = 8 ∨ k = 16 ∨ k = 32 := hbc.1.mp (by omega)
          unfold r_faulty
          first
          | rw [if_pos (by omega)]
          | rw [if_neg (by omega), if_pos (by omega)]
      · skip
        refine z_bipush cx dX4_faulty_18 ?_
        refine z_iret cx dX4_faulty_20 ?_
        refine ⟨?_, hC, MFx.rf⟩
        unfold r_faulty
        first
        | (rw [if_neg (by omega), if_neg (by omega)]; done)
        | (have hb1 := hbc.1
           have hno : ¬ (k = 0 ∨ k = 1 ∨ k = 2 ∨ k = 4 ∨ k = 8 ∨ k = 16 ∨ k = 32) := fun w => by have := hb1.mpr w; omega
           rw [if_neg (by omega), if_neg (by omega)])
set_option maxRecDepth 100000 in
set_option maxHeartbeats 4000000 in
theorem c_X4_unread {E : En} {G : Wd} {A : Ast} (hC : CRel G A) (hA : AOk A) {x : Int} (hx : -2147483648 ≤ x ∧ x < 2147483648) : Cti E yX4_unread cX4_unread 2 .int 3 64 [.ref (E.1 0), .int (iN x)] G (fun z G' => z = r_unread A x ∧ CRel G' A ∧ MFx G G') := by
  obtain ⟨hF, hRw, ⟨la, hla3, hla, hct, hH⟩, hSc, hr0, hr1, hr2⟩ := id hC
  obtain ⟨hO, hh4, hhO, hScO, hRp⟩ := id hA
  obtain ⟨hR, hV, hcc, hcu, hn, hs⟩ := id hF
  obtain ⟨hOv, hOc, hOs⟩ := id hO
  have hl20 := hOs.1
  have hl12 := hOc.1
  obtain ⟨hv0, hv1, hv2, hv3, hv4, hv5⟩ := id hOv
  have w0 := hV 0 (by omega)
  have w1 := hV 1 (by omega)
  have w2 := hV 2 (by omega)
  have w3 := hV 3 (by omega)
  have w4 := hV 4 (by omega)
  have w5 := hV 5 (by omega)
  have hh := And.intro (recH_ok hA).1 (fun k hk => ((recH_ok hA).2 k hk).2.2.1)
  refine Cti.mk [some (.ref (E.1 0)), some (.int (iN x))] (by decide) rfl (by intro v hv; simp only [List.mem_cons, List.not_mem_nil, or_false] at hv; rcases hv with rfl | rfl <;> rfl) (Nat.le_of_ble_eq_true rfl) ?_
  intro p l e s m args below meth c cx
  refine z_iload_n cx dX4_unread_0 rfl ?_
  refine z_iconst cx dX4_unread_1 ?_
  refine z_icmp_lt cx (tgt := 11) dX4_unread_2 (fun h2 => ?_) (fun h2 => ?_)
  · skip
    refine z_bipush cx dX4_unread_11 ?_
    refine z_iret cx dX4_unread_13 ?_
    refine ⟨?_, hC, MFx.rf⟩
    unfold r_unread
    rw [if_neg (by omega)]
  · skip
    refine z_iload_n cx dX4_unread_5 rfl ?_
    refine z_bipush cx dX4_unread_6 ?_
    refine z_icmp_le cx (tgt := 14) dX4_unread_8 (fun h8 => ?_) (fun h8 => ?_)
    · skip
      refine z_aload_n cx dX4_unread_14 rfl ?_
      refine g_X4_0 cx fl_X4_10 dX4_unread_15 ?_
      refine z_iload_n cx dX4_unread_18 rfl ?_
      refine z_vi cx (c_X0_countTooFastFor (q := 0) (F := A.1) (by omega) hF hO (by omega)) rfl mv_X0_countTooFastFor ml_X4_196 (by omega) (co_film E _ (by omega)) rfl dX4_unread_19 (fun z19 G19 hz19 => ?_)
      obtain ⟨eG, rfl⟩ := hz19
      have eG := eG.symm
      subst eG
      refine z_iret cx dX4_unread_22 ?_
      refine ⟨?_, hC, MFx.rf⟩
      unfold r_unread
      rw [if_pos (by omega)]
      rfl
    · skip
      refine z_bipush cx dX4_unread_11 ?_
      refine z_iret cx dX4_unread_13 ?_
      refine ⟨?_, hC, MFx.rf⟩
      unfold r_unread
      rw [if_neg (by omega)]
set_option maxRecDepth 100000 in
set_option maxHeartbeats 4000000 in
theorem c_X4_leastPace {E : En} {G : Wd} {A : Ast} (hC : CRel G A) (hA : AOk A) : Cti E yX4_leastPace cX4_leastPace 2 .int 3 64 [.ref (E.1 0)] G (fun z G' => z = lpF A.1 ∧ CRel G' A ∧ MFx G G') := by
  obtain ⟨hF, hRw, ⟨la, hla3, hla, hct, hH⟩, hSc, hr0, hr1, hr2⟩ := id hC
  obtain ⟨hO, hh4, hhO, hScO, hRp⟩ := id hA
  obtain ⟨hR, hV, hcc, hcu, hn, hs⟩ := id hF
  obtain ⟨hOv, hOc, hOs⟩ := id hO
  have hl20 := hOs.1
  have hl12 := hOc.1
  obtain ⟨hv0, hv1, hv2, hv3, hv4, hv5⟩ := id hOv
  have w0 := hV 0 (by omega)
  have w1 := hV 1 (by omega)
  have w2 := hV 2 (by omega)
  have w3 := hV 3 (by omega)
  have w4 := hV 4 (by omega)
  have w5 := hV 5 (by omega)
  have hh := And.intro (recH_ok hA).1 (fun k hk => ((recH_ok hA).2 k hk).2.2.1)
  refine Cti.mk [some (.ref (E.1 0)), none] (by decide) rfl (by intro v hv; simp only [List.mem_cons, List.not_mem_nil, or_false] at hv; subst hv; rfl) (Nat.le_of_ble_eq_true rfl) ?_
  intro p l e s m args below meth c cx
  have L2 : ∀ (n : Nat) (j : Nat), (100 - j) < n → (1 ≤ j ∧ j ≤ 61) → (∀ p : Int, 1 ≤ p → p < j → unr A.1 p ≠ 0) → Z p l e (zr 3 64) s m args below meth c 2 0 0 E (Qi_ E below args s (fun z G' => z = lpF A.1 ∧ CRel G' A ∧ MFx G G')) G 2 [some (.ref (E.1 0)), some (.int (iN (j : Int)))] [] := by
    intro n
    induction n with
    | zero =>
      intro j hmu
      exact absurd hmu (Nat.not_lt_zero _)
    | succ n ih =>
      intro j hmu hj hi2
      refine z_iload_n cx dX4_leastPace_2 rfl ?_
      refine z_bipush cx dX4_leastPace_3 ?_
      refine z_icmp_gt cx (tgt := 27) dX4_leastPace_5 (fun h5 => ?_) (fun h5 => ?_)
      · skip
        refine z_bipush cx dX4_leastPace_27 ?_
        refine z_iret cx dX4_leastPace_29 ?_
        refine ⟨?_, hC, MFx.rf⟩
        exact (lpF_of (Or.inl ⟨rfl, fun p h h2 => hi2 p h (by omega)⟩)).symm
      · skip
        refine z_aload_n cx dX4_leastPace_8 rfl ?_
        refine g_X4_0 cx fl_X4_10 dX4_leastPace_9 ?_
        refine z_iload_n cx dX4_leastPace_12 rfl ?_
        refine z_vi cx (c_X0_countTooFastFor (q := 0) (F := A.1) (x := (j : Int)) (by omega) hF hO (by omega)) rfl mv_X0_countTooFastFor ml_X4_196 (by omega) (co_film E _ (by omega)) rfl dX4_leastPace_13 (fun z13 G13 hz13 => ?_)
        obtain ⟨eG, rfl⟩ := hz13
        have eG := eG.symm
        subst eG
        have hub := unr_b A.1 (j : Int)
        unfold unr at hub
        refine z_if_ne cx (tgt := 21) dX4_leastPace_16 (fun h16 => ?_) (fun h16 => ?_)
        · skip
          refine z_iinc cx dX4_leastPace_21 rfl ?_
          refine z_goto cx (tgt := 2) dX4_leastPace_24 ?_
          refine Z.locs (ih (j + 1) (by omega) (by omega) (fun p h h2 => by by_cases w : p = j; subst w; exact h16; exact hi2 p h (by omega))) ⟨rfl, rfl, trivial⟩
        · skip
          refine z_iload_n cx dX4_leastPace_19 rfl ?_
          refine z_iret cx dX4_leastPace_20 ?_
          refine ⟨?_, hC, MFx.rf⟩
          exact (lpF_of (Or.inr ⟨by omega, by omega, h16, hi2⟩)).symm
  refine z_iconst cx dX4_leastPace_0 ?_
  refine z_istore_n cx dX4_leastPace_1 ?_
  refine Z.locs (L2 _ (1) (Nat.lt_succ_self _) (by omega) (fun p h h2 => by omega)) ⟨rfl, rfl, trivial⟩
set_option maxRecDepth 100000 in
set_option maxHeartbeats 4000000 in
theorem c_X4_ifSeated {E : En} {G : Wd} {A : Ast} (hC : CRel G A) (hA : AOk A) {x : Int} (hx : -2147483648 ≤ x ∧ x < 2147483648) : Cti E yX4_ifSeated cX4_ifSeated 3 .int 5 118 [.ref (E.1 0), .int (iN x)] G (fun z G' => z = r_ifSeated A x ∧ CRel G' A ∧ MFx G G') := by
  obtain ⟨hF, hRw, ⟨la, hla3, hla, hct, hH⟩, hSc, hr0, hr1, hr2⟩ := id hC
  obtain ⟨hO, hh4, hhO, hScO, hRp⟩ := id hA
  obtain ⟨hR, hV, hcc, hcu, hn, hs⟩ := id hF
  obtain ⟨hOv, hOc, hOs⟩ := id hO
  have hl20 := hOs.1
  have hl12 := hOc.1
  obtain ⟨hv0, hv1, hv2, hv3, hv4, hv5⟩ := id hOv
  have w0 := hV 0 (by omega)
  have w1 := hV 1 (by omega)
  have w2 := hV 2 (by omega)
  have w3 := hV 3 (by omega)
  have w4 := hV 4 (by omega)
  have w5 := hV 5 (by omega)
  have hh := And.intro (recH_ok hA).1 (fun k hk => ((recH_ok hA).2 k hk).2.2.1)
  have hR1 := hRw 1 (by omega)
  refine Cti.mk [some (.ref (E.1 0)), some (.int (iN x)), none] (by decide) rfl (by intro v hv; simp only [List.mem_cons, List.not_mem_nil, or_false] at hv; rcases hv with rfl | rfl <;> rfl) (Nat.le_of_ble_eq_true rfl) ?_
  intro p l e s m args below meth c cx
  refine z_iload_n cx dX4_ifSeated_0 rfl ?_
  refine z_if_lt cx (tgt := 9) dX4_ifSeated_1 (fun h1 => ?_) (fun h1 => ?_)
  · skip
    refine z_bipush cx dX4_ifSeated_9 ?_
    refine z_iret cx dX4_ifSeated_11 ?_
    refine ⟨?_, hC, MFx.rf⟩
    unfold r_ifSeated
    rw [if_neg (by omega)]
  · skip
    refine z_iload_n cx dX4_ifSeated_4 rfl ?_
    refine z_iconst cx dX4_ifSeated_5 ?_
    refine z_icmp_le cx (tgt := 12) dX4_ifSeated_6 (fun h6 => ?_) (fun h6 => ?_)
    · skip
      refine z_aload_n cx dX4_ifSeated_12 rfl ?_
      refine g_X4_1 cx fl_X4_16 dX4_ifSeated_13 ?_
      refine z_aload_n cx dX4_ifSeated_16 rfl ?_
      refine g_X4_0 cx fl_X4_10 dX4_ifSeated_17 ?_
      refine z_vv cx (c_X0_copyFrom (q := 1) (r := 0) (F := A.1) (by omega) (by omega) (by omega) hF hO hR1) rfl mv_X0_copyFrom ml_X4_199 (by omega) (co_film E _ (by omega)) rfl dX4_ifSeated_20 (fun G20 hz20 => ?_)
      refine z_aload_n cx dX4_ifSeated_23 rfl ?_
      refine g_X4_1 cx fl_X4_16 dX4_ifSeated_24 ?_
      refine z_aload_n cx dX4_ifSeated_27 rfl ?_
      refine g_X4_1 cx fl_X4_16 dX4_ifSeated_28 ?_
      refine g_X0_4 cx (by omega) fl_X4_130 dX4_ifSeated_31 ?_
      refine z_iconst cx dX4_ifSeated_34 ?_
      refine z_iald cx 1 rfl (by omega) (co_vals E _ (by omega)) dX4_ifSeated_35 ?_
      rw [hz20.1.2.1 1 (by omega)]
      refine z_vi cx (c_X0_seatAll (q := 1) (F := A.1) (x := A.1.1 1) (by omega) hz20.1 hO (by omega)) rfl mv_X0_seatAll ml_X4_141 (by omega) (co_film E _ (by omega)) rfl dX4_ifSeated_36 (fun z36 G36 hz36 => ?_)
      have hOs2 := seatF_ok (g := A.1.1 1) hO (by omega)
      have hsl : (seatF A.1 (A.1.1 1)).2.2.length = A.1.2.2.length := seatN_len _ _ _
      have hsc := cnt_b (fun i => (seatN A.1 (A.1.1 1) A.1.2.2.length).getD i dS ≠ A.1.2.2.getD i dS) A.1.2.2.length
      obtain ⟨hC36, hM36⟩ := trial_rel hC hA hz36.2.1.1 (hz20.2.tr hz36.2.2)
      refine z_istore_n cx dX4_ifSeated_39 ?_
      refine z_iload_n cx dX4_ifSeated_40 rfl ?_
      refine z_if_ne cx (tgt := 46) dX4_ifSeated_41 (fun h41 => ?_) (fun h41 => ?_)
      · skip
        refine z_iload_n cx dX4_ifSeated_46 rfl ?_
        refine z_iconst cx dX4_ifSeated_47 ?_
        refine z_icmp_ne cx (tgt := 63) dX4_ifSeated_48 (fun h48 => ?_) (fun h48 => ?_)
        · skip
          refine z_aload_n cx dX4_ifSeated_63 rfl ?_
          refine g_X4_1 cx fl_X4_16 dX4_ifSeated_64 ?_
          refine z_vi cx (c_X0_framesOfAll (q := 1) (F := seatF A.1 (A.1.1 1)) (by omega) hz36.2.1 hOs2) rfl mv_X0_framesOfAll ml_X4_189 (by omega) (co_film E _ (by omega)) rfl dX4_ifSeated_67 (fun z67 G67 hz67 => ?_)
          obtain ⟨eG, rfl⟩ := hz67
          have eG := eG.symm
          subst eG
          refine z_iret cx dX4_ifSeated_70 ?_
          refine ⟨?_, hC36, hM36⟩
          unfold r_ifSeated
          rw [if_pos (by omega), if_neg (by omega), if_neg (by omega)]
          rfl
        · skip
          refine z_aload_n cx dX4_ifSeated_51 rfl ?_
          refine g_X4_1 cx fl_X4_16 dX4_ifSeated_52 ?_
          refine z_bipush cx dX4_ifSeated_55 ?_
          refine z_vi cx (c_X0_countFaulty (q := 1) (F := seatF A.1 (A.1.1 1)) (x := 63) (by omega) hz36.2.1 hOs2 (by omega)) rfl mv_X0_countFaulty ml_X4_186 (by omega) (co_film E _ (by omega)) rfl dX4_ifSeated_57 (fun z57 G57 hz57 => ?_)
          obtain ⟨eG, rfl⟩ := hz57
          have eG := eG.symm
          subst eG
          refine z_goto cx (tgt := 70) dX4_ifSeated_60 ?_
          refine z_iret cx dX4_ifSeated_70 ?_
          refine ⟨?_, hC36, hM36⟩
          unfold r_ifSeated
          rw [if_pos (by omega), if_neg (by omega), if_pos (by omega), hsl]
      · skip
        refine z_iload_n cx dX4_ifSeated_44 rfl ?_
        refine z_iret cx dX4_ifSeated_45 ?_
        refine ⟨?_, hC36, hM36⟩
        unfold r_ifSeated
        rw [if_pos (by omega), if_pos (by omega)]
        exact hz36.1
    · skip
      refine z_bipush cx dX4_ifSeated_9 ?_
      refine z_iret cx dX4_ifSeated_11 ?_
      refine ⟨?_, hC, MFx.rf⟩
      unfold r_ifSeated
      rw [if_neg (by omega)]
set_option maxRecDepth 100000 in
set_option maxHeartbeats 4000000 in
theorem c_X4_bestGap {E : En} {G : Wd} {A : Ast} (hC : CRel G A) (hA : AOk A) : Cti E yX4_bestGap cX4_bestGap 5 .int 4 96 [.ref (E.1 0)] G (fun z G' => z = (bgS A.1 21).1 ∧ CRel G' A ∧ MFx G G') := by
  obtain ⟨hF, hRw, ⟨la, hla3, hla, hct, hH⟩, hSc, hr0, hr1, hr2⟩ := id hC
  obtain ⟨hO, hh4, hhO, hScO, hRp⟩ := id hA
  obtain ⟨hR, hV, hcc, hcu, hn, hs⟩ := id hF
  obtain ⟨hOv, hOc, hOs⟩ := id hO
  have hl20 := hOs.1
  have hl12 := hOc.1
  obtain ⟨hv0, hv1, hv2, hv3, hv4, hv5⟩ := id hOv
  have w0 := hV 0 (by omega)
  have w1 := hV 1 (by omega)
  have w2 := hV 2 (by omega)
  have w3 := hV 3 (by omega)
  have w4 := hV 4 (by omega)
  have w5 := hV 5 (by omega)
  have hh := And.intro (recH_ok hA).1 (fun k hk => ((recH_ok hA).2 k hk).2.2.1)
  have hR1 := hRw 1 (by omega)
  refine Cti.mk [some (.ref (E.1 0)), none, none, none, none] (by decide) rfl (by intro v hv; simp only [List.mem_cons, List.not_mem_nil, or_false] at hv; subst hv; rfl) (Nat.le_of_ble_eq_true rfl) ?_
  intro p l e s m args below meth c cx
  have L26 : ∀ (n : Nat) (g : Nat) (bb ff : Int) (F1 : Fm) (G1 : Wd), (100 - g) < n → (g ≤ 21) → (bgS A.1 g = (bb, ff)) → (0 ≤ bb ∧ bb ≤ 20 ∧ 0 ≤ ff ∧ ff ≤ 21) → (CRel G1 A) → (MFx G G1) → (FilmIs G1 1 F1) → (F1.1 = A.1.1) → (F1.2.1 = A.1.2.1) → (F1.2.2.length = A.1.2.2.length) → (∀ i, i < A.1.2.2.length → (F1.2.2.getD i dS).2.2 = (A.1.2.2.getD i dS).2.2) → Z p l e (zr 4 96) s m args below meth c 5 0 0 E (Qi_ E below args s (fun z G' => z = (bgS A.1 21).1 ∧ CRel G' A ∧ MFx G G')) G1 26 [some (.ref (E.1 0)), some (.int (iN bb)), some (.int (iN ff)), some (.int (iN (g : Int))), none] [] := by
    intro n
    induction n with
    | zero =>
      intro g bb ff F1 G1 hmu
      exact absurd hmu (Nat.not_lt_zero _)
    | succ n ih =>
      intro g bb ff F1 G1 hmu hg hbg hbb hC1 hM1 hFt hvv hc1 hln htx
      refine z_iload_n cx dX4_bestGap_26 rfl ?_
      refine z_gets cx 1 (Or.inr ⟨rfl, rfl⟩) fl_X4_159 dX4_bestGap_27 ?_
      refine z_iconst cx dX4_bestGap_30 ?_
      refine z_thig cx (1) (by omega) dX4_bestGap_31 ?_
      rw [show higT 1 = 20 from rfl]
      refine z_icmp_gt cx (tgt := 90) dX4_bestGap_32 (fun h32 => ?_) (fun h32 => ?_)
      · skip
        refine z_iload_n cx dX4_bestGap_90 rfl ?_
        refine z_iret cx dX4_bestGap_91 ?_
        have hg21 : g = 21 := by omega
        subst hg21
        rw [hbg]
        exact ⟨rfl, hC1, hM1⟩
      · skip
        refine z_aload_n cx dX4_bestGap_35 rfl ?_
        refine g_X4_1 cx fl_X4_16 dX4_bestGap_36 ?_
        refine z_aload_n cx dX4_bestGap_39 rfl ?_
        refine g_X4_0 cx fl_X4_10 dX4_bestGap_40 ?_
        refine z_vv cx (c_X0_copyTimesFrom (q := 1) (r := 0) (F := A.1) (F1 := F1) (by omega) (by omega) (by omega) hC1.1 hO hFt hvv hc1 hln htx) rfl mv_X0_copyTimesFrom ml_X4_202 (by omega) (co_film E _ (by omega)) rfl dX4_bestGap_43 (fun G43 hz43 => ?_)
        refine z_aload_n cx dX4_bestGap_46 rfl ?_
        refine g_X4_1 cx fl_X4_16 dX4_bestGap_47 ?_
        refine z_iload_n cx dX4_bestGap_50 rfl ?_
        refine z_vi cx (c_X0_seatAll (q := 1) (F := A.1) (x := (g : Int)) (by omega) hz43.1 hO (by omega)) rfl mv_X0_seatAll ml_X4_141 (by omega) (co_film E _ (by omega)) rfl dX4_bestGap_51 (fun z51 G51 hz51 => ?_)
        have hOs2 := seatF_ok (g := (g : Int)) hO (by omega)
        have hsl : (seatF A.1 (g : Int)).2.2.length = A.1.2.2.length := seatN_len _ _ _
        obtain ⟨hC51, hM51a⟩ := trial_rel hC1 hA hz51.2.1.1 (hz43.2.tr hz51.2.2)
        have hM51 := hM1.tr hM51a
        have hz51c := cnt_b (fun i => (seatN A.1 (g : Int) A.1.2.2.length).getD i dS ≠ A.1.2.2.getD i dS) A.1.2.2.length
        refine z_pop cx dX4_bestGap_54 ?_
        refine z_aload_n cx dX4_bestGap_55 rfl ?_
        refine g_X4_1 cx fl_X4_16 dX4_bestGap_56 ?_
        refine z_aload_n cx dX4_bestGap_59 rfl ?_
        refine g_X4_1 cx fl_X4_16 dX4_bestGap_60 ?_
        refine g_X0_4 cx (by omega) fl_X4_130 dX4_bestGap_63 ?_
        refine z_iconst cx dX4_bestGap_66 ?_
        refine z_iald cx 0 rfl (by omega) (co_vals E _ (by omega)) dX4_bestGap_67 ?_
        rw [hz51.2.1.2.1 0 (by omega)]
        show Z _ _ _ _ _ _ _ _ _ _ _ _ _ _ _ _ _ _ (.int (iN (A.1.1 0)) :: _)
        refine z_vi cx (c_X0_countTooFastFor (q := 1) (F := seatF A.1 (g : Int)) (x := A.1.1 0) (by omega) hz51.2.1 hOs2 (by omega)) rfl mv_X0_countTooFastFor ml_X4_196 (by omega) (co_film E _ (by omega)) rfl dX4_bestGap_68 (fun z68 G68 hz68 => ?_)
        obtain ⟨eG, rfl⟩ := hz68
        have eG := eG.symm
        subst eG
        have hub := unr_b (seatF A.1 (g : Int)) (A.1.1 0)
        unfold unr at hub
        refine z_istore cx dX4_bestGap_71 ?_
        refine z_iload cx dX4_bestGap_73 rfl ?_
        refine z_iload_n cx dX4_bestGap_75 rfl ?_
        refine z_icmp_ge cx (tgt := 84) dX4_bestGap_76 (fun h76 => ?_) (fun h76 => ?_)
        · skip
          refine z_iinc cx dX4_bestGap_84 rfl ?_
          refine z_goto cx (tgt := 26) dX4_bestGap_87 ?_
          refine Z.locs (ih (g + 1) _ _ (seatF A.1 (g : Int)) _ (by omega) (by omega) ?_ (by omega) hC51 hM51 hz51.2.1 rfl rfl hsl (fun i h => seatF_tx A.1 _ i)) ⟨rfl, rfl, rfl, rfl, trivial⟩
          show @ite _ (unr (seatF A.1 (g : Int)) (A.1.1 0) < (bgS A.1 g).2) (Classical.propDecidable _) _ _ = _
          rw [hbg]
          unfold unr
          first
          | (rw [if_pos (show _ < _ from h76)]; done)
          | (rw [if_neg (show ¬ _ < _ from by dsimp only; omega)]; done)
        · skip
          refine z_iload cx dX4_bestGap_79 rfl ?_
          refine z_istore_n cx dX4_bestGap_81 ?_
          refine z_iload_n cx dX4_bestGap_82 rfl ?_
          refine z_istore_n cx dX4_bestGap_83 ?_
          refine z_iinc cx dX4_bestGap_84 rfl ?_
          refine z_goto cx (tgt := 26) dX4_bestGap_87 ?_
          refine Z.locs (ih (g + 1) _ _ (seatF A.1 (g : Int)) _ (by omega) (by omega) ?_ (by omega) hC51 hM51 hz51.2.1 rfl rfl hsl (fun i h => seatF_tx A.1 _ i)) ⟨rfl, rfl, rfl, rfl, trivial⟩
          show @ite _ (unr (seatF A.1 (g : Int)) (A.1.1 0) < (bgS A.1 g).2) (Classical.propDecidable _) _ _ = _
          rw [hbg]
          unfold unr
          first
          | (rw [if_pos (show _ < _ from h76)]; done)
          | (rw [if_neg (show ¬ _ < _ from by dsimp only; omega)]; done)
  refine z_aload_n cx dX4_bestGap_0 rfl ?_
  refine g_X4_1 cx fl_X4_16 dX4_bestGap_1 ?_
  refine z_aload_n cx dX4_bestGap_4 rfl ?_
  refine g_X4_0 cx fl_X4_10 dX4_bestGap_5 ?_
  refine z_vv cx (c_X0_copyFrom (q := 1) (r := 0) (F := A.1) (by omega) (by omega) (by omega) hF hO hR1) rfl mv_X0_copyFrom ml_X4_199 (by omega) (co_film E _ (by omega)) rfl dX4_bestGap_8 (fun G8 hz8 => ?_)
  obtain ⟨hC8, hM8⟩ := trial_rel hC hA hz8.1.1 hz8.2
  refine z_gets cx 0 (Or.inl ⟨rfl, rfl⟩) fl_X4_156 dX4_bestGap_11 ?_
  refine z_iconst cx dX4_bestGap_14 ?_
  refine z_tlow cx (1) (by omega) dX4_bestGap_15 ?_
  rw [show lowT 1 = 0 from rfl]
  refine z_istore_n cx dX4_bestGap_16 ?_
  refine z_bipush cx dX4_bestGap_17 ?_
  refine z_istore_n cx dX4_bestGap_19 ?_
  refine z_gets cx 0 (Or.inl ⟨rfl, rfl⟩) fl_X4_156 dX4_bestGap_20 ?_
  refine z_iconst cx dX4_bestGap_23 ?_
  refine z_tlow cx (1) (by omega) dX4_bestGap_24 ?_
  rw [show lowT 1 = 0 from rfl]
  refine z_istore_n cx dX4_bestGap_25 ?_
  refine Z.locs (L26 _ (0) (0) (21) (A.1) _ (Nat.lt_succ_self _) (by omega) rfl (by omega) hC8 hM8 hz8.1 rfl rfl rfl (fun i h => rfl)) ⟨rfl, rfl, rfl, rfl, trivial⟩
set_option maxRecDepth 100000 in
set_option maxHeartbeats 4000000 in
theorem c_X4_meanSpeed {E : En} {G : Wd} {A : Ast} (hC : CRel G A) (hA : AOk A) : Ctf E yX4_meanSpeed cX4_meanSpeed 2 2 42 [.ref (E.1 0)] G (fun z G' => z = meanV A.1 ∧ CRel G' A ∧ MFx G G') := by
  obtain ⟨hF, hRw, ⟨la, hla3, hla, hct, hH⟩, hSc, hr0, hr1, hr2⟩ := id hC
  obtain ⟨hO, hh4, hhO, hScO, hRp⟩ := id hA
  obtain ⟨hR, hV, hcc, hcu, hn, hs⟩ := id hF
  obtain ⟨hOv, hOc, hOs⟩ := id hO
  have hl20 := hOs.1
  have hl12 := hOc.1
  obtain ⟨hv0, hv1, hv2, hv3, hv4, hv5⟩ := id hOv
  have w0 := hV 0 (by omega)
  have w1 := hV 1 (by omega)
  have w2 := hV 2 (by omega)
  have w3 := hV 3 (by omega)
  have w4 := hV 4 (by omega)
  have w5 := hV 5 (by omega)
  have hh := And.intro (recH_ok hA).1 (fun k hk => ((recH_ok hA).2 k hk).2.2.1)
  obtain ⟨hmv1, hmv2, hmv3, hmv4⟩ := meanV_ok hO
  have hfr0 : A.1.2.2.length = 0 → frS A.1 = 0 := fun w => by unfold frS; rw [w]; rfl
  refine Ctf.mk [some (.ref (E.1 0)), none] (by decide) rfl (by intro v hv; simp only [List.mem_cons, List.not_mem_nil, or_false] at hv; subst hv; rfl) (Nat.le_of_ble_eq_true rfl) ?_
  intro p l e s m args below meth c cx
  refine z_aload_n cx dX4_meanSpeed_0 rfl ?_
  refine g_X4_0 cx fl_X4_10 dX4_meanSpeed_1 ?_
  refine z_vi cx (c_X0_framesOfAll (q := 0) (F := A.1) (by omega) hF hO) rfl mv_X0_framesOfAll ml_X4_189 (by omega) (co_film E _ (by omega)) rfl dX4_meanSpeed_4 (fun z4 G4 hz4 => ?_)
  obtain ⟨eG, rfl⟩ := hz4
  have eG := eG.symm
  subst eG
  have hfe : sumN (fun i => (A.1.2.2.getD i dS).2.1 - (A.1.2.2.getD i dS).1) A.1.2.2.length = frS A.1 := rfl
  rw [hfe]
  refine z_istore_n cx dX4_meanSpeed_7 ?_
  refine z_iload_n cx dX4_meanSpeed_8 rfl ?_
  refine z_iconst cx dX4_meanSpeed_9 ?_
  refine z_icmp_ge cx (tgt := 15) dX4_meanSpeed_10 (fun h10 => ?_) (fun h10 => ?_)
  · skip
    refine z_aload_n cx dX4_meanSpeed_15 rfl ?_
    refine g_X4_0 cx fl_X4_10 dX4_meanSpeed_16 ?_
    refine z_vi cx (c_X0_lengthOfAll (q := 0) (F := A.1) (by omega) hF hO) rfl mv_X0_lengthOfAll ml_X4_192 (by omega) (co_film E _ (by omega)) rfl dX4_meanSpeed_19 (fun z19 G19 hz19 => ?_)
    obtain ⟨eG, rfl⟩ := hz19
    have eG := eG.symm
    subst eG
    have hle : sumN (fun i => ((A.1.2.2.getD i dS).2.2.length : Int)) A.1.2.2.length = lnS A.1 := rfl
    rw [hle]
    refine z_i2f cx dX4_meanSpeed_22 ?_
    refine z_ldcf cx ct_X4_195 dX4_meanSpeed_23 ?_
    refine z_fmul cx dX4_meanSpeed_25 ?_
    refine z_iload_n cx dX4_meanSpeed_26 rfl ?_
    refine z_i2f cx dX4_meanSpeed_27 ?_
    refine z_fdiv cx (by omega) dX4_meanSpeed_28 ?_
    refine z_fret cx dX4_meanSpeed_29 ?_
    refine ⟨?_, hC, MFx.rf⟩
    unfold meanV
    rw [if_neg (by omega)]
  · skip
    refine z_fconst0 cx dX4_meanSpeed_13 ?_
    refine z_fret cx dX4_meanSpeed_14 ?_
    refine ⟨?_, hC, MFx.rf⟩
    unfold meanV
    rw [if_pos (by omega)]
