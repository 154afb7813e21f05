/-! ===== loads ===== -/
/-- what an action may do: leave the film, or keep it in the history -/
def Nx (A B : Ast) : Prop := B.1 = A.1 ∨ B.2.1 = recH A.2.1 A.1
def LdN (A B : Ast) (sc : List Int) : Prop := (faultS sc ≠ -6 → B.1 = A.1) ∧ (faultS sc = -6 → B.2.1 = recH A.2.1 A.1)
theorem ld_post {A : Ast} {n : Int} {sc : List Int} (hA : AOk A) (hT : TyS n sc) : ∃ (B : Ast) (told ix rs fm : Int), s_load (sA A sc) = (told, B) ∧ B.2.2 = (sc, ix, rs, fm) ∧ AOk B ∧ LdN A B sc ∧ (-6 ≤ faultS sc ∧ faultS sc ≤ 80) ∧ ((-6 ≤ ix ∧ ix ≤ 100) ∧ (-6 ≤ rs ∧ rs ≤ 100) ∧ -6 ≤ fm ∧ fm ≤ 100) ∧
    ((faultS sc ≠ -6 ∧ told = -3 ∧ 0 ≤ faultS sc ∧ faultS sc ≤ (sc.length : Int)) ∨ (faultS sc = -6 ∧ (0 ≤ told ∧ told ≤ n) ∧ (B.1.2.2.length : Int) = (A.1.2.2.length : Int) + told ∧ frS A.1 + told ≤ frS B.1 ∧ ((told = n ∧ ix = -6 ∧ rs = -6 ∧ fm = -6) ∨ (told < n ∧ ix = told ∧ (1 ≤ rs ∧ rs ≤ 3) ∧ 6 * told ≤ fm ∧ fm < (sc.length : Int))))) := by
  have hs : ScOk sc := hT.1.ok (Nat.le_refl _)
  have hA2 : AOk (sA A sc) := hT.1.aok hA (Nat.le_refl _)
  have hB := ok_load hA2
  have hfb := faultS_b hs
  by_cases h : faultS sc = -6
  · have e : s_load (sA A sc) = ((ldF sc 81 0 0 A.1).2.1, ((ldF sc 81 0 0 A.1).1, recH A.2.1 A.1, sc, (ldF sc 81 0 0 A.1).2.2)) := by
      unfold s_load
      rw [if_neg (show ¬ faultS (sA A sc).2.2.1 ≠ -6 from not_not_intro h)]
      rfl
    rw [e] at hB
    have hq := ld_sum hA hT h
    exact ⟨_, _, _, _, _, e, rfl, hB, ⟨fun w => absurd h w, fun _ => rfl⟩, hfb, hB.2.2.2.2, Or.inr ⟨h, hq⟩⟩
  · have e : s_load (sA A sc) = (-3, sA A sc) := by
      unfold s_load
      rw [if_pos (show faultS (sA A sc).2.2.1 ≠ -6 from h)]
    rw [e] at hB
    refine ⟨_, _, _, _, _, e, rfl, hB, ⟨fun _ => rfl, fun w => absurd w h⟩, hfb, hB.2.2.2.2, Or.inl ⟨h, rfl, ?_⟩⟩
    rcases fl_le hs 81 0 (Nat.zero_le _) with q | q
    · exact absurd q h
    · exact q
theorem why_0 (B : Ast) : s_why B 0 = (B.2.2.2.1, B) := by
  unfold s_why
  rw [if_pos (by decide), if_pos rfl]
theorem why_1 (B : Ast) : s_why B 1 = (B.2.2.2.2.1, B) := by
  unfold s_why
  rw [if_pos (by decide), if_neg (by decide), if_pos rfl]
theorem why_2 (B : Ast) : s_why B 2 = (B.2.2.2.2.2, B) := by
  unfold s_why
  rw [if_pos (by decide), if_neg (by decide), if_neg (by decide)]
set_option maxRecDepth 100000 in
set_option maxHeartbeats 4000000 in
theorem c_L_loads {E : En} {G : Wd} {A : Ast} (hC : CRel G A) (hA : AOk A) {x : Int} : Cti E yL_loads cL_loads 15 .boolean 6 142 [.ref (E.1 0), .int (iN x)] G (fun z G' => z = 1 ∧ ∃ B, CRel G' B ∧ AOk B ∧ Nx A B) := by
  have hsl := hA.1.2.2.1
  have hfr0 := frS_b hA.1
  refine Cti.mk [some (.ref (E.1 0)), some (.int (iN x)), none, none, none, none, none, none, none, none, none, none, none, none, none] (by decide) rfl (by intro v hv; simp only [List.mem_cons, List.not_mem_nil, or_false] at hv; rcases hv with rfl | rfl <;> rfl) (Nat.le_of_ble_eq_true rfl) ?_
  intro p l e s m args below meth c cx
  refine z_iload_n cx dL_loads_0 rfl ?_
  refine z_iconst cx dL_loads_1 ?_
  refine z_si cx (c_L_low (by omega)) rfl ms_L_low ml_L_58 dL_loads_2 (fun z2 G2 hz2 => ?_)
  obtain ⟨hq2, hl2, hu2, hG⟩ := hz2
  subst hG
  refine z_istore_n cx dL_loads_5 ?_
  refine z_aload_n cx dL_loads_6 rfl ?_
  refine z_sl cx (c_L_look hC hA) rfl ms_L_look ml_L_83 dL_loads_7 (fun z7 G7 hz7 => ?_)
  obtain ⟨hq, hC⟩ := hz7
  subst hq
  refine z_lstore_n cx dL_loads_10 ?_
  refine z_aload_n cx dL_loads_11 rfl ?_
  refine z_iload_n cx dL_loads_12 rfl ?_
  refine z_si cx (c_L_types (x := x) hC hA) rfl ms_L_types ml_L_87 dL_loads_13 (fun z13 G13 hz13 => ?_)
  obtain ⟨hq, sc, hT, hC⟩ := hz13
  subst hq
  have hA2 : AOk (sA A sc) := hT.1.aok hA (Nat.le_refl _)
  have h80 := hT.1.2
  rw [← hq2] at hT
  refine z_istore cx dL_loads_16 ?_
  refine z_aload_n cx dL_loads_18 rfl ?_
  refine z_vi cx (c_X4_subtitles hC hA2) rfl mv_X4_subtitles ml_L_26 (by omega) (co_main E _) rfl dL_loads_19 (fun z19 G19 hz19 => ?_)
  obtain ⟨hq, hC, -⟩ := hz19
  have hq : z19 = (A.1.2.2.length : Int) := hq
  subst hq
  refine z_istore cx dL_loads_22 ?_
  refine z_aload_n cx dL_loads_24 rfl ?_
  refine z_vi cx (c_X4_shown hC hA2) rfl mv_X4_shown ml_L_51 (by omega) (co_main E _) rfl dL_loads_25 (fun z25 G25 hz25 => ?_)
  obtain ⟨hq, hC, -⟩ := hz25
  have hq : z25 = frS A.1 := hq
  subst hq
  refine z_istore cx dL_loads_28 ?_
  refine z_aload_n cx dL_loads_30 rfl ?_
  refine z_vi cx (c_X4_fault hC hA2) rfl mv_X4_fault ml_L_90 (by omega) (co_main E _) rfl dL_loads_31 (fun z31 G31 hz31 => ?_)
  obtain ⟨hq, hC, -⟩ := hz31
  have hq : z31 = faultS sc := hq
  subst hq
  have hC : CRel G31 (sA A sc) := hC
  refine z_istore cx dL_loads_34 ?_
  refine z_aload_n cx dL_loads_36 rfl ?_
  refine z_vi cx (c_X4_load hC hA2) rfl mv_X4_load ml_L_93 (by omega) (co_main E _) rfl dL_loads_37 (fun z37 G37 hz37 => ?_)
  obtain ⟨hq, hC, -⟩ := hz37
  obtain ⟨B, told, ix, rs, fm, hs0, hw, hB, hN, hfb, hrp, hL⟩ := ld_post hA hT
  rw [hs0] at hq hC
  dsimp only at hq hC
  subst hq
  have hw0 : B.2.2.2.1 = ix := by rw [hw]
  have hw1 : B.2.2.2.2.1 = rs := by rw [hw]
  have hw2 : B.2.2.2.2.2 = fm := by rw [hw]
  have hw3 : B.2.2.1 = sc := by rw [hw]
  have hbl := hB.1.2.2.1
  have hfr1 := frS_b hB.1
  refine z_istore cx dL_loads_40 ?_
  refine z_aload_n cx dL_loads_42 rfl ?_
  refine z_iconst cx dL_loads_43 ?_
  refine z_vi cx (c_X4_why hC hB (by omega)) rfl mv_X4_why ml_L_96 (by omega) (co_main E _) rfl dL_loads_44 (fun z44 G44 hz44 => ?_)
  obtain ⟨hq, hC, -⟩ := hz44
  rw [why_0] at hq hC
  dsimp only at hq hC
  have hq := hq.trans hw0
  subst hq
  refine z_istore cx dL_loads_47 ?_
  refine z_aload_n cx dL_loads_49 rfl ?_
  refine z_iconst cx dL_loads_50 ?_
  refine z_vi cx (c_X4_why hC hB (by omega)) rfl mv_X4_why ml_L_96 (by omega) (co_main E _) rfl dL_loads_51 (fun z51 G51 hz51 => ?_)
  obtain ⟨hq, hC, -⟩ := hz51
  rw [why_1] at hq hC
  dsimp only at hq hC
  have hq := hq.trans hw1
  subst hq
  refine z_istore cx dL_loads_54 ?_
  refine z_aload_n cx dL_loads_56 rfl ?_
  refine z_iconst cx dL_loads_57 ?_
  refine z_vi cx (c_X4_why hC hB (by omega)) rfl mv_X4_why ml_L_96 (by omega) (co_main E _) rfl dL_loads_58 (fun z58 G58 hz58 => ?_)
  obtain ⟨hq, hC, -⟩ := hz58
  rw [why_2] at hq hC
  dsimp only at hq hC
  have hq := hq.trans hw2
  subst hq
  refine z_istore cx dL_loads_61 ?_
  refine z_aload_n cx dL_loads_63 rfl ?_
  refine z_vi cx (c_X4_clearScript hC hB) rfl mv_X4_clearScript ml_L_76 (by omega) (co_main E _) rfl dL_loads_64 (fun z64 G64 hz64 => ?_)
  obtain ⟨hq, hC, -⟩ := hz64
  have hq : z64 = (B.2.2.1.length : Int) := hq
  rw [hw3] at hq
  subst hq
  have hC : CRel G64 (sA B []) := hC
  have hB2 : AOk (sA B []) := ok_clear hB
  refine z_istore cx dL_loads_67 ?_
  refine z_iload cx dL_loads_69 rfl ?_
  refine z_if_eq cx (tgt := 105) dL_loads_71 (fun h71 => ?_) (fun h71 => ?_)
  · skip
    exfalso; omega
  · skip
    refine z_iload cx dL_loads_74 rfl ?_
    refine z_bipush cx dL_loads_76 ?_
    refine z_icmp_ne cx (tgt := 85) dL_loads_78 (fun h78 => ?_) (fun h78 => ?_)
    · skip
      refine z_iconst cx dL_loads_85 ?_
      refine z_iload cx dL_loads_86 rfl ?_
      refine z_bipush cx dL_loads_88 ?_
      refine z_icmp_eq cx (tgt := 97) dL_loads_90 (fun h90 => ?_) (fun h90 => ?_)
      · skip
        refine z_iconst cx dL_loads_97 ?_
        refine z_icmp_ne cx (tgt := 105) dL_loads_98 (fun h98 => ?_) (fun h98 => ?_)
        · skip
          exfalso; omega
        · skip
          refine z_iconst cx dL_loads_101 ?_
          refine z_goto cx (tgt := 106) dL_loads_102 ?_
          refine z_istore cx dL_loads_106 ?_
          refine z_iload cx dL_loads_108 rfl ?_
          refine z_bipush cx dL_loads_110 ?_
          refine z_icmp_eq cx (tgt := 147) dL_loads_112 (fun h112 => ?_) (fun h112 => ?_)
          · skip
            refine z_iload cx dL_loads_147 rfl ?_
            refine z_if_eq cx (tgt := 257) dL_loads_149 (fun h149 => ?_) (fun h149 => ?_)
            · skip
              exfalso; omega
            · skip
              refine z_iload cx dL_loads_152 rfl ?_
              refine z_if_lt cx (tgt := 257) dL_loads_154 (fun h154 => ?_) (fun h154 => ?_)
              · skip
                exfalso; omega
              · skip
                refine z_iload cx dL_loads_157 rfl ?_
                refine z_iload_n cx dL_loads_159 rfl ?_
                refine z_icmp_gt cx (tgt := 257) dL_loads_160 (fun h160 => ?_) (fun h160 => ?_)
                · skip
                  exfalso; omega
                · skip
                  refine z_aload_n cx dL_loads_163 rfl ?_
                  refine z_vi cx (c_X4_subtitles hC hB2) rfl mv_X4_subtitles ml_L_26 (by omega) (co_main E _) rfl dL_loads_164 (fun z164 G164 hz164 => ?_)
                  obtain ⟨hq, hC, -⟩ := hz164
                  have hq : z164 = (B.1.2.2.length : Int) := hq
                  subst hq
                  refine z_iload cx dL_loads_167 rfl ?_
                  refine z_iload cx dL_loads_169 rfl ?_
                  refine z_iadd cx dL_loads_171 ?_
                  refine z_icmp_ne cx (tgt := 257) dL_loads_172 (fun h172 => ?_) (fun h172 => ?_)
                  · skip
                    exfalso; omega
                  · skip
                    refine z_aload_n cx dL_loads_175 rfl ?_
                    refine z_vi cx (c_X4_shown hC hB2) rfl mv_X4_shown ml_L_51 (by omega) (co_main E _) rfl dL_loads_176 (fun z176 G176 hz176 => ?_)
                    obtain ⟨hq, hC, -⟩ := hz176
                    have hq : z176 = frS B.1 := hq
                    subst hq
                    refine z_iload cx dL_loads_179 rfl ?_
                    refine z_iload cx dL_loads_181 rfl ?_
                    refine z_iadd cx dL_loads_183 ?_
                    refine z_icmp_lt cx (tgt := 257) dL_loads_184 (fun h184 => ?_) (fun h184 => ?_)
                    · skip
                      exfalso; omega
                    · skip
                      refine z_iload cx dL_loads_187 rfl ?_
                      refine z_iload_n cx dL_loads_189 rfl ?_
                      refine z_icmp_ne cx (tgt := 217) dL_loads_190 (fun h190 => ?_) (fun h190 => ?_)
                      · skip
                        refine z_iload cx dL_loads_217 rfl ?_
                        refine z_iload cx dL_loads_219 rfl ?_
                        refine z_icmp_ne cx (tgt := 257) dL_loads_221 (fun h221 => ?_) (fun h221 => ?_)
                        · skip
                          exfalso; omega
                        · skip
                          refine z_iload cx dL_loads_224 rfl ?_
                          refine z_iconst cx dL_loads_226 ?_
                          refine z_icmp_lt cx (tgt := 257) dL_loads_227 (fun h227 => ?_) (fun h227 => ?_)
                          · skip
                            exfalso; omega
                          · skip
                            refine z_iload cx dL_loads_230 rfl ?_
                            refine z_iconst cx dL_loads_232 ?_
                            refine z_icmp_gt cx (tgt := 257) dL_loads_233 (fun h233 => ?_) (fun h233 => ?_)
                            · skip
                              exfalso; omega
                            · skip
                              refine z_iload cx dL_loads_236 rfl ?_
                              refine z_bipush cx dL_loads_238 ?_
                              refine z_iload cx dL_loads_240 rfl ?_
                              refine z_imul cx dL_loads_242 ?_
                              refine z_icmp_lt cx (tgt := 257) dL_loads_243 (fun h243 => ?_) (fun h243 => ?_)
                              · skip
                                exfalso; omega
                              · skip
                                refine z_iload cx dL_loads_246 rfl ?_
                                refine z_iload cx dL_loads_248 rfl ?_
                                refine z_icmp_ge cx (tgt := 257) dL_loads_250 (fun h250 => ?_) (fun h250 => ?_)
                                · skip
                                  exfalso; omega
                                · skip
                                  refine z_iconst cx dL_loads_253 ?_
                                  refine z_goto cx (tgt := 258) dL_loads_254 ?_
                                  refine z_zret cx dL_loads_258 ?_
                                  exact ⟨by omega, _, hC, hB2, Or.inr (hN.2 (by omega))⟩
                      · skip
                        refine z_iload cx dL_loads_193 rfl ?_
                        refine z_bipush cx dL_loads_195 ?_
                        refine z_icmp_ne cx (tgt := 257) dL_loads_197 (fun h197 => ?_) (fun h197 => ?_)
                        · skip
                          exfalso; omega
                        · skip
                          refine z_iload cx dL_loads_200 rfl ?_
                          refine z_bipush cx dL_loads_202 ?_
                          refine z_icmp_ne cx (tgt := 257) dL_loads_204 (fun h204 => ?_) (fun h204 => ?_)
                          · skip
                            exfalso; omega
                          · skip
                            refine z_iload cx dL_loads_207 rfl ?_
                            refine z_bipush cx dL_loads_209 ?_
                            refine z_icmp_ne cx (tgt := 257) dL_loads_211 (fun h211 => ?_) (fun h211 => ?_)
                            · skip
                              exfalso; omega
                            · skip
                              refine z_goto cx (tgt := 253) dL_loads_214 ?_
                              refine z_iconst cx dL_loads_253 ?_
                              refine z_goto cx (tgt := 258) dL_loads_254 ?_
                              refine z_zret cx dL_loads_258 ?_
                              exact ⟨by omega, _, hC, hB2, Or.inr (hN.2 (by omega))⟩
          · skip
            refine z_iload cx dL_loads_115 rfl ?_
            refine z_if_eq cx (tgt := 145) dL_loads_117 (fun h117 => ?_) (fun h117 => ?_)
            · skip
              exfalso; omega
            · skip
              refine z_iload cx dL_loads_120 rfl ?_
              refine z_if_lt cx (tgt := 145) dL_loads_122 (fun h122 => ?_) (fun h122 => ?_)
              · skip
                exfalso; omega
              · skip
                refine z_iload cx dL_loads_125 rfl ?_
                refine z_iload cx dL_loads_127 rfl ?_
                refine z_icmp_gt cx (tgt := 145) dL_loads_129 (fun h129 => ?_) (fun h129 => ?_)
                · skip
                  exfalso; omega
                · skip
                  refine z_aload_n cx dL_loads_132 rfl ?_
                  refine z_sl cx (c_L_look hC hB2) rfl ms_L_look ml_L_83 dL_loads_133 (fun z133 G133 hz133 => ?_)
                  obtain ⟨hq, hC⟩ := hz133
                  have hq : z133 = dgF B.1 := hq
                  rw [hN.1 (by omega)] at hq
                  subst hq
                  refine z_lload_n cx dL_loads_136 rfl ?_
                  refine z_lcmp cx dL_loads_137 (fun z137 hc137 => ?_)
                  have hz0 : z137 = 0 := by
                    rcases hc137 with ⟨w, -⟩ | ⟨-, w⟩
                    · exact w
                    · exact absurd rfl w
                  clear hc137
                  refine z_if_ne cx (tgt := 145) dL_loads_138 (fun h138 => ?_) (fun h138 => ?_)
                  · skip
                    exfalso; omega
                  · skip
                    refine z_iconst cx dL_loads_141 ?_
                    refine z_goto cx (tgt := 146) dL_loads_142 ?_
                    refine z_zret cx dL_loads_146 ?_
                    exact ⟨by omega, _, hC, hB2, Or.inl (hN.1 (by omega))⟩
      · skip
        refine z_iconst cx dL_loads_93 ?_
        refine z_goto cx (tgt := 98) dL_loads_94 ?_
        refine z_icmp_ne cx (tgt := 105) dL_loads_98 (fun h98 => ?_) (fun h98 => ?_)
        · skip
          exfalso; omega
        · skip
          refine z_iconst cx dL_loads_101 ?_
          refine z_goto cx (tgt := 106) dL_loads_102 ?_
          refine z_istore cx dL_loads_106 ?_
          refine z_iload cx dL_loads_108 rfl ?_
          refine z_bipush cx dL_loads_110 ?_
          refine z_icmp_eq cx (tgt := 147) dL_loads_112 (fun h112 => ?_) (fun h112 => ?_)
          · skip
            refine z_iload cx dL_loads_147 rfl ?_
            refine z_if_eq cx (tgt := 257) dL_loads_149 (fun h149 => ?_) (fun h149 => ?_)
            · skip
              exfalso; omega
            · skip
              refine z_iload cx dL_loads_152 rfl ?_
              refine z_if_lt cx (tgt := 257) dL_loads_154 (fun h154 => ?_) (fun h154 => ?_)
              · skip
                exfalso; omega
              · skip
                refine z_iload cx dL_loads_157 rfl ?_
                refine z_iload_n cx dL_loads_159 rfl ?_
                refine z_icmp_gt cx (tgt := 257) dL_loads_160 (fun h160 => ?_) (fun h160 => ?_)
                · skip
                  exfalso; omega
                · skip
                  refine z_aload_n cx dL_loads_163 rfl ?_
                  refine z_vi cx (c_X4_subtitles hC hB2) rfl mv_X4_subtitles ml_L_26 (by omega) (co_main E _) rfl dL_loads_164 (fun z164 G164 hz164 => ?_)
                  obtain ⟨hq, hC, -⟩ := hz164
                  have hq : z164 = (B.1.2.2.length : Int) := hq
                  subst hq
                  refine z_iload cx dL_loads_167 rfl ?_
                  refine z_iload cx dL_loads_169 rfl ?_
                  refine z_iadd cx dL_loads_171 ?_
                  refine z_icmp_ne cx (tgt := 257) dL_loads_172 (fun h172 => ?_) (fun h172 => ?_)
                  · skip
                    exfalso; omega
                  · skip
                    refine z_aload_n cx dL_loads_175 rfl ?_
                    refine z_vi cx (c_X4_shown hC hB2) rfl mv_X4_shown ml_L_51 (by omega) (co_main E _) rfl dL_loads_176 (fun z176 G176 hz176 => ?_)
                    obtain ⟨hq, hC, -⟩ := hz176
                    have hq : z176 = frS B.1 := hq
                    subst hq
                    refine z_iload cx dL_loads_179 rfl ?_
                    refine z_iload cx dL_loads_181 rfl ?_
                    refine z_iadd cx dL_loads_183 ?_
                    refine z_icmp_lt cx (tgt := 257) dL_loads_184 (fun h184 => ?_) (fun h184 => ?_)
                    · skip
                      exfalso; omega
                    · skip
                      refine z_iload cx dL_loads_187 rfl ?_
                      refine z_iload_n cx dL_loads_189 rfl ?_
                      refine z_icmp_ne cx (tgt := 217) dL_loads_190 (fun h190 => ?_) (fun h190 => ?_)
                      · skip
                        refine z_iload cx dL_loads_217 rfl ?_
                        refine z_iload cx dL_loads_219 rfl ?_
                        refine z_icmp_ne cx (tgt := 257) dL_loads_221 (fun h221 => ?_) (fun h221 => ?_)
                        · skip
                          exfalso; omega
                        · skip
                          refine z_iload cx dL_loads_224 rfl ?_
                          refine z_iconst cx dL_loads_226 ?_
                          refine z_icmp_lt cx (tgt := 257) dL_loads_227 (fun h227 => ?_) (fun h227 => ?_)
                          · skip
                            exfalso; omega
                          · skip
                            refine z_iload cx dL_loads_230 rfl ?_
                            refine z_iconst cx dL_loads_232 ?_
                            refine z_icmp_gt cx (tgt := 257) dL_loads_233 (fun h233 => ?_) (fun h233 => ?_)
                            · skip
                              exfalso; omega
                            · skip
                              refine z_iload cx dL_loads_236 rfl ?_
                              refine z_bipush cx dL_loads_238 ?_
                              refine z_iload cx dL_loads_240 rfl ?_
                              refine z_imul cx dL_loads_242 ?_
                              refine z_icmp_lt cx (tgt := 257) dL_loads_243 (fun h243 => ?_) (fun h243 => ?_)
                              · skip
                                exfalso; omega
                              · skip
                                refine z_iload cx dL_loads_246 rfl ?_
                                refine z_iload cx dL_loads_248 rfl ?_
                                refine z_icmp_ge cx (tgt := 257) dL_loads_250 (fun h250 => ?_) (fun h250 => ?_)
                                · skip
                                  exfalso; omega
                                · skip
                                  refine z_iconst cx dL_loads_253 ?_
                                  refine z_goto cx (tgt := 258) dL_loads_254 ?_
                                  refine z_zret cx dL_loads_258 ?_
                                  exact ⟨by omega, _, hC, hB2, Or.inr (hN.2 (by omega))⟩
                      · skip
                        refine z_iload cx dL_loads_193 rfl ?_
                        refine z_bipush cx dL_loads_195 ?_
                        refine z_icmp_ne cx (tgt := 257) dL_loads_197 (fun h197 => ?_) (fun h197 => ?_)
                        · skip
                          exfalso; omega
                        · skip
                          refine z_iload cx dL_loads_200 rfl ?_
                          refine z_bipush cx dL_loads_202 ?_
                          refine z_icmp_ne cx (tgt := 257) dL_loads_204 (fun h204 => ?_) (fun h204 => ?_)
                          · skip
                            exfalso; omega
                          · skip
                            refine z_iload cx dL_loads_207 rfl ?_
                            refine z_bipush cx dL_loads_209 ?_
                            refine z_icmp_ne cx (tgt := 257) dL_loads_211 (fun h211 => ?_) (fun h211 => ?_)
                            · skip
                              exfalso; omega
                            · skip
                              refine z_goto cx (tgt := 253) dL_loads_214 ?_
                              refine z_iconst cx dL_loads_253 ?_
                              refine z_goto cx (tgt := 258) dL_loads_254 ?_
                              refine z_zret cx dL_loads_258 ?_
                              exact ⟨by omega, _, hC, hB2, Or.inr (hN.2 (by omega))⟩
          · skip
            refine z_iload cx dL_loads_115 rfl ?_
            refine z_if_eq cx (tgt := 145) dL_loads_117 (fun h117 => ?_) (fun h117 => ?_)
            · skip
              exfalso; omega
            · skip
              refine z_iload cx dL_loads_120 rfl ?_
              refine z_if_lt cx (tgt := 145) dL_loads_122 (fun h122 => ?_) (fun h122 => ?_)
              · skip
                exfalso; omega
              · skip
                refine z_iload cx dL_loads_125 rfl ?_
                refine z_iload cx dL_loads_127 rfl ?_
                refine z_icmp_gt cx (tgt := 145) dL_loads_129 (fun h129 => ?_) (fun h129 => ?_)
                · skip
                  exfalso; omega
                · skip
                  refine z_aload_n cx dL_loads_132 rfl ?_
                  refine z_sl cx (c_L_look hC hB2) rfl ms_L_look ml_L_83 dL_loads_133 (fun z133 G133 hz133 => ?_)
                  obtain ⟨hq, hC⟩ := hz133
                  have hq : z133 = dgF B.1 := hq
                  rw [hN.1 (by omega)] at hq
                  subst hq
                  refine z_lload_n cx dL_loads_136 rfl ?_
                  refine z_lcmp cx dL_loads_137 (fun z137 hc137 => ?_)
                  have hz0 : z137 = 0 := by
                    rcases hc137 with ⟨w, -⟩ | ⟨-, w⟩
                    · exact w
                    · exact absurd rfl w
                  clear hc137
                  refine z_if_ne cx (tgt := 145) dL_loads_138 (fun h138 => ?_) (fun h138 => ?_)
                  · skip
                    exfalso; omega
                  · skip
                    refine z_iconst cx dL_loads_141 ?_
                    refine z_goto cx (tgt := 146) dL_loads_142 ?_
                    refine z_zret cx dL_loads_146 ?_
                    exact ⟨by omega, _, hC, hB2, Or.inl (hN.1 (by omega))⟩
    · skip
      refine z_iconst cx dL_loads_81 ?_
      refine z_goto cx (tgt := 86) dL_loads_82 ?_
      refine z_iload cx dL_loads_86 rfl ?_
      refine z_bipush cx dL_loads_88 ?_
      refine z_icmp_eq cx (tgt := 97) dL_loads_90 (fun h90 => ?_) (fun h90 => ?_)
      · skip
        refine z_iconst cx dL_loads_97 ?_
        refine z_icmp_ne cx (tgt := 105) dL_loads_98 (fun h98 => ?_) (fun h98 => ?_)
        · skip
          exfalso; omega
        · skip
          refine z_iconst cx dL_loads_101 ?_
          refine z_goto cx (tgt := 106) dL_loads_102 ?_
          refine z_istore cx dL_loads_106 ?_
          refine z_iload cx dL_loads_108 rfl ?_
          refine z_bipush cx dL_loads_110 ?_
          refine z_icmp_eq cx (tgt := 147) dL_loads_112 (fun h112 => ?_) (fun h112 => ?_)
          · skip
            refine z_iload cx dL_loads_147 rfl ?_
            refine z_if_eq cx (tgt := 257) dL_loads_149 (fun h149 => ?_) (fun h149 => ?_)
            · skip
              exfalso; omega
            · skip
              refine z_iload cx dL_loads_152 rfl ?_
              refine z_if_lt cx (tgt := 257) dL_loads_154 (fun h154 => ?_) (fun h154 => ?_)
              · skip
                exfalso; omega
              · skip
                refine z_iload cx dL_loads_157 rfl ?_
                refine z_iload_n cx dL_loads_159 rfl ?_
                refine z_icmp_gt cx (tgt := 257) dL_loads_160 (fun h160 => ?_) (fun h160 => ?_)
                · skip
                  exfalso; omega
                · skip
                  refine z_aload_n cx dL_loads_163 rfl ?_
                  refine z_vi cx (c_X4_subtitles hC hB2) rfl mv_X4_subtitles ml_L_26 (by omega) (co_main E _) rfl dL_loads_164 (fun z164 G164 hz164 => ?_)
                  obtain ⟨hq, hC, -⟩ := hz164
                  have hq : z164 = (B.1.2.2.length : Int) := hq
                  subst hq
                  refine z_iload cx dL_loads_167 rfl ?_
                  refine z_iload cx dL_loads_169 rfl ?_
                  refine z_iadd cx dL_loads_171 ?_
                  refine z_icmp_ne cx (tgt := 257) dL_loads_172 (fun h172 => ?_) (fun h172 => ?_)
                  · skip
                    exfalso; omega
                  · skip
                    refine z_aload_n cx dL_loads_175 rfl ?_
                    refine z_vi cx (c_X4_shown hC hB2) rfl mv_X4_shown ml_L_51 (by omega) (co_main E _) rfl dL_loads_176 (fun z176 G176 hz176 => ?_)
                    obtain ⟨hq, hC, -⟩ := hz176
                    have hq : z176 = frS B.1 := hq
                    subst hq
                    refine z_iload cx dL_loads_179 rfl ?_
                    refine z_iload cx dL_loads_181 rfl ?_
                    refine z_iadd cx dL_loads_183 ?_
                    refine z_icmp_lt cx (tgt := 257) dL_loads_184 (fun h184 => ?_) (fun h184 => ?_)
                    · skip
                      exfalso; omega
                    · skip
                      refine z_iload cx dL_loads_187 rfl ?_
                      refine z_iload_n cx dL_loads_189 rfl ?_
                      refine z_icmp_ne cx (tgt := 217) dL_loads_190 (fun h190 => ?_) (fun h190 => ?_)
                      · skip
                        refine z_iload cx dL_loads_217 rfl ?_
                        refine z_iload cx dL_loads_219 rfl ?_
                        refine z_icmp_ne cx (tgt := 257) dL_loads_221 (fun h221 => ?_) (fun h221 => ?_)
                        · skip
                          exfalso; omega
                        · skip
                          refine z_iload cx dL_loads_224 rfl ?_
                          refine z_iconst cx dL_loads_226 ?_
                          refine z_icmp_lt cx (tgt := 257) dL_loads_227 (fun h227 => ?_) (fun h227 => ?_)
                          · skip
                            exfalso; omega
                          · skip
                            refine z_iload cx dL_loads_230 rfl ?_
                            refine z_iconst cx dL_loads_232 ?_
                            refine z_icmp_gt cx (tgt := 257) dL_loads_233 (fun h233 => ?_) (fun h233 => ?_)
                            · skip
                              exfalso; omega
                            · skip
                              refine z_iload cx dL_loads_236 rfl ?_
                              refine z_bipush cx dL_loads_238 ?_
                              refine z_iload cx dL_loads_240 rfl ?_
                              refine z_imul cx dL_loads_242 ?_
                              refine z_icmp_lt cx (tgt := 257) dL_loads_243 (fun h243 => ?_) (fun h243 => ?_)
                              · skip
                                exfalso; omega
                              · skip
                                refine z_iload cx dL_loads_246 rfl ?_
                                refine z_iload cx dL_loads_248 rfl ?_
                                refine z_icmp_ge cx (tgt := 257) dL_loads_250 (fun h250 => ?_) (fun h250 => ?_)
                                · skip
                                  exfalso; omega
                                · skip
                                  refine z_iconst cx dL_loads_253 ?_
                                  refine z_goto cx (tgt := 258) dL_loads_254 ?_
                                  refine z_zret cx dL_loads_258 ?_
                                  exact ⟨by omega, _, hC, hB2, Or.inr (hN.2 (by omega))⟩
                      · skip
                        refine z_iload cx dL_loads_193 rfl ?_
                        refine z_bipush cx dL_loads_195 ?_
                        refine z_icmp_ne cx (tgt := 257) dL_loads_197 (fun h197 => ?_) (fun h197 => ?_)
                        · skip
                          exfalso; omega
                        · skip
                          refine z_iload cx dL_loads_200 rfl ?_
                          refine z_bipush cx dL_loads_202 ?_
                          refine z_icmp_ne cx (tgt := 257) dL_loads_204 (fun h204 => ?_) (fun h204 => ?_)
                          · skip
                            exfalso; omega
                          · skip
                            refine z_iload cx dL_loads_207 rfl ?_
                            refine z_bipush cx dL_loads_209 ?_
                            refine z_icmp_ne cx (tgt := 257) dL_loads_211 (fun h211 => ?_) (fun h211 => ?_)
                            · skip
                              exfalso; omega
                            · skip
                              refine z_goto cx (tgt := 253) dL_loads_214 ?_
                              refine z_iconst cx dL_loads_253 ?_
                              refine z_goto cx (tgt := 258) dL_loads_254 ?_
                              refine z_zret cx dL_loads_258 ?_
                              exact ⟨by omega, _, hC, hB2, Or.inr (hN.2 (by omega))⟩
          · skip
            refine z_iload cx dL_loads_115 rfl ?_
            refine z_if_eq cx (tgt := 145) dL_loads_117 (fun h117 => ?_) (fun h117 => ?_)
            · skip
              exfalso; omega
            · skip
              refine z_iload cx dL_loads_120 rfl ?_
              refine z_if_lt cx (tgt := 145) dL_loads_122 (fun h122 => ?_) (fun h122 => ?_)
              · skip
                exfalso; omega
              · skip
                refine z_iload cx dL_loads_125 rfl ?_
                refine z_iload cx dL_loads_127 rfl ?_
                refine z_icmp_gt cx (tgt := 145) dL_loads_129 (fun h129 => ?_) (fun h129 => ?_)
                · skip
                  exfalso; omega
                · skip
                  refine z_aload_n cx dL_loads_132 rfl ?_
                  refine z_sl cx (c_L_look hC hB2) rfl ms_L_look ml_L_83 dL_loads_133 (fun z133 G133 hz133 => ?_)
                  obtain ⟨hq, hC⟩ := hz133
                  have hq : z133 = dgF B.1 := hq
                  rw [hN.1 (by omega)] at hq
                  subst hq
                  refine z_lload_n cx dL_loads_136 rfl ?_
                  refine z_lcmp cx dL_loads_137 (fun z137 hc137 => ?_)
                  have hz0 : z137 = 0 := by
                    rcases hc137 with ⟨w, -⟩ | ⟨-, w⟩
                    · exact w
                    · exact absurd rfl w
                  clear hc137
                  refine z_if_ne cx (tgt := 145) dL_loads_138 (fun h138 => ?_) (fun h138 => ?_)
                  · skip
                    exfalso; omega
                  · skip
                    refine z_iconst cx dL_loads_141 ?_
                    refine z_goto cx (tgt := 146) dL_loads_142 ?_
                    refine z_zret cx dL_loads_146 ?_
                    exact ⟨by omega, _, hC, hB2, Or.inl (hN.1 (by omega))⟩
      · skip
        refine z_iconst cx dL_loads_93 ?_
        refine z_goto cx (tgt := 98) dL_loads_94 ?_
        refine z_icmp_ne cx (tgt := 105) dL_loads_98 (fun h98 => ?_) (fun h98 => ?_)
        · skip
          exfalso; omega
        · skip
          refine z_iconst cx dL_loads_101 ?_
          refine z_goto cx (tgt := 106) dL_loads_102 ?_
          refine z_istore cx dL_loads_106 ?_
          refine z_iload cx dL_loads_108 rfl ?_
          refine z_bipush cx dL_loads_110 ?_
          refine z_icmp_eq cx (tgt := 147) dL_loads_112 (fun h112 => ?_) (fun h112 => ?_)
          · skip
            refine z_iload cx dL_loads_147 rfl ?_
            refine z_if_eq cx (tgt := 257) dL_loads_149 (fun h149 => ?_) (fun h149 => ?_)
            · skip
              exfalso; omega
            · skip
              refine z_iload cx dL_loads_152 rfl ?_
              refine z_if_lt cx (tgt := 257) dL_loads_154 (fun h154 => ?_) (fun h154 => ?_)
              · skip
                exfalso; omega
              · skip
                refine z_iload cx dL_loads_157 rfl ?_
                refine z_iload_n cx dL_loads_159 rfl ?_
                refine z_icmp_gt cx (tgt := 257) dL_loads_160 (fun h160 => ?_) (fun h160 => ?_)
                · skip
                  exfalso; omega
                · skip
                  refine z_aload_n cx dL_loads_163 rfl ?_
                  refine z_vi cx (c_X4_subtitles hC hB2) rfl mv_X4_subtitles ml_L_26 (by omega) (co_main E _) rfl dL_loads_164 (fun z164 G164 hz164 => ?_)
                  obtain ⟨hq, hC, -⟩ := hz164
                  have hq : z164 = (B.1.2.2.length : Int) := hq
                  subst hq
                  refine z_iload cx dL_loads_167 rfl ?_
                  refine z_iload cx dL_loads_169 rfl ?_
                  refine z_iadd cx dL_loads_171 ?_
                  refine z_icmp_ne cx (tgt := 257) dL_loads_172 (fun h172 => ?_) (fun h172 => ?_)
                  · skip
                    exfalso; omega
                  · skip
                    refine z_aload_n cx dL_loads_175 rfl ?_
                    refine z_vi cx (c_X4_shown hC hB2) rfl mv_X4_shown ml_L_51 (by omega) (co_main E _) rfl dL_loads_176 (fun z176 G176 hz176 => ?_)
                    obtain ⟨hq, hC, -⟩ := hz176
                    have hq : z176 = frS B.1 := hq
                    subst hq
                    refine z_iload cx dL_loads_179 rfl ?_
                    refine z_iload cx dL_loads_181 rfl ?_
                    refine z_iadd cx dL_loads_183 ?_
                    refine z_icmp_lt cx (tgt := 257) dL_loads_184 (fun h184 => ?_) (fun h184 => ?_)
                    · skip
                      exfalso; omega
                    · skip
                      refine z_iload cx dL_loads_187 rfl ?_
                      refine z_iload_n cx dL_loads_189 rfl ?_
                      refine z_icmp_ne cx (tgt := 217) dL_loads_190 (fun h190 => ?_) (fun h190 => ?_)
                      · skip
                        refine z_iload cx dL_loads_217 rfl ?_
                        refine z_iload cx dL_loads_219 rfl ?_
                        refine z_icmp_ne cx (tgt := 257) dL_loads_221 (fun h221 => ?_) (fun h221 => ?_)
                        · skip
                          exfalso; omega
                        · skip
                          refine z_iload cx dL_loads_224 rfl ?_
                          refine z_iconst cx dL_loads_226 ?_
                          refine z_icmp_lt cx (tgt := 257) dL_loads_227 (fun h227 => ?_) (fun h227 => ?_)
                          · skip
                            exfalso; omega
                          · skip
                            refine z_iload cx dL_loads_230 rfl ?_
                            refine z_iconst cx dL_loads_232 ?_
                            refine z_icmp_gt cx (tgt := 257) dL_loads_233 (fun h233 => ?_) (fun h233 => ?_)
                            · skip
                              exfalso; omega
                            · skip
                              refine z_iload cx dL_loads_236 rfl ?_
                              refine z_bipush cx dL_loads_238 ?_
                              refine z_iload cx dL_loads_240 rfl ?_
                              refine z_imul cx dL_loads_242 ?_
                              refine z_icmp_lt cx (tgt := 257) dL_loads_243 (fun h243 => ?_) (fun h243 => ?_)
                              · skip
                                exfalso; omega
                              · skip
                                refine z_iload cx dL_loads_246 rfl ?_
                                refine z_iload cx dL_loads_248 rfl ?_
                                refine z_icmp_ge cx (tgt := 257) dL_loads_250 (fun h250 => ?_) (fun h250 => ?_)
                                · skip
                                  exfalso; omega
                                · skip
                                  refine z_iconst cx dL_loads_253 ?_
                                  refine z_goto cx (tgt := 258) dL_loads_254 ?_
                                  refine z_zret cx dL_loads_258 ?_
                                  exact ⟨by omega, _, hC, hB2, Or.inr (hN.2 (by omega))⟩
                      · skip
                        refine z_iload cx dL_loads_193 rfl ?_
                        refine z_bipush cx dL_loads_195 ?_
                        refine z_icmp_ne cx (tgt := 257) dL_loads_197 (fun h197 => ?_) (fun h197 => ?_)
                        · skip
                          exfalso; omega
                        · skip
                          refine z_iload cx dL_loads_200 rfl ?_
                          refine z_bipush cx dL_loads_202 ?_
                          refine z_icmp_ne cx (tgt := 257) dL_loads_204 (fun h204 => ?_) (fun h204 => ?_)
                          · skip
                            exfalso; omega
                          · skip
                            refine z_iload cx dL_loads_207 rfl ?_
                            refine z_bipush cx dL_loads_209 ?_
                            refine z_icmp_ne cx (tgt := 257) dL_loads_211 (fun h211 => ?_) (fun h211 => ?_)
                            · skip
                              exfalso; omega
                            · skip
                              refine z_goto cx (tgt := 253) dL_loads_214 ?_
                              refine z_iconst cx dL_loads_253 ?_
                              refine z_goto cx (tgt := 258) dL_loads_254 ?_
                              refine z_zret cx dL_loads_258 ?_
                              exact ⟨by omega, _, hC, hB2, Or.inr (hN.2 (by omega))⟩
          · skip
            refine z_iload cx dL_loads_115 rfl ?_
            refine z_if_eq cx (tgt := 145) dL_loads_117 (fun h117 => ?_) (fun h117 => ?_)
            · skip
              exfalso; omega
            · skip
              refine z_iload cx dL_loads_120 rfl ?_
              refine z_if_lt cx (tgt := 145) dL_loads_122 (fun h122 => ?_) (fun h122 => ?_)
              · skip
                exfalso; omega
              · skip
                refine z_iload cx dL_loads_125 rfl ?_
                refine z_iload cx dL_loads_127 rfl ?_
                refine z_icmp_gt cx (tgt := 145) dL_loads_129 (fun h129 => ?_) (fun h129 => ?_)
                · skip
                  exfalso; omega
                · skip
                  refine z_aload_n cx dL_loads_132 rfl ?_
                  refine z_sl cx (c_L_look hC hB2) rfl ms_L_look ml_L_83 dL_loads_133 (fun z133 G133 hz133 => ?_)
                  obtain ⟨hq, hC⟩ := hz133
                  have hq : z133 = dgF B.1 := hq
                  rw [hN.1 (by omega)] at hq
                  subst hq
                  refine z_lload_n cx dL_loads_136 rfl ?_
                  refine z_lcmp cx dL_loads_137 (fun z137 hc137 => ?_)
                  have hz0 : z137 = 0 := by
                    rcases hc137 with ⟨w, -⟩ | ⟨-, w⟩
                    · exact w
                    · exact absurd rfl w
                  clear hc137
                  refine z_if_ne cx (tgt := 145) dL_loads_138 (fun h138 => ?_) (fun h138 => ?_)
                  · skip
                    exfalso; omega
                  · skip
                    refine z_iconst cx dL_loads_141 ?_
                    refine z_goto cx (tgt := 146) dL_loads_142 ?_
                    refine z_zret cx dL_loads_146 ?_
                    exact ⟨by omega, _, hC, hB2, Or.inl (hN.1 (by omega))⟩
