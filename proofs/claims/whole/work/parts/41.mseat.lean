/-! ===== the model: seating ===== -/
set_option maxRecDepth 100000 in
set_option maxHeartbeats 4000000 in
theorem c_X5_limitOf {E : En} {G : Wd} {x : Int} {i : Nat} (hx : x = (i : Int)) {nn : Nat} (hn : G 20 0 0 = (nn : Int)) (hi : i < nn ∧ nn ≤ 20) : Cti E yX5_limitOf cX5_limitOf 2 .int 1 22 [.ref (E.1 6), .int (iN (x))] G (fun z G' => G' = G ∧ z = if i + 1 < nn then G 20 0 (20 + 43 * (i + 1)) - G 20 0 2 else 5000) := by
  refine Cti.mk [some (.ref (E.1 6)), some (.int (iN (x)))] (by decide) rfl (by intro v hv; simp only [List.mem_cons, List.not_mem_nil, or_false] at hv; rcases hv with rfl | rfl <;> rfl) (Nat.le_of_ble_eq_true rfl) ?_
  intro p l e s m args below meth c cx
  refine z_iload_n cx dX5_limitOf_0 rfl ?_
  refine z_iconst cx dX5_limitOf_1 ?_
  refine z_iadd cx dX5_limitOf_2 ?_
  refine z_aload_n cx dX5_limitOf_3 rfl ?_
  refine g_X5_0 cx fl_X5_7 dX5_limitOf_4 ?_
  refine z_iconst cx dX5_limitOf_7 ?_
  refine z_iald cx (0) (by omega) (by omega) (co_s E _) dX5_limitOf_8 ?_
  refine z_icmp_ge cx (tgt := 29) dX5_limitOf_9 (fun h9 => ?_) (fun h9 => ?_)
  · skip
    refine z_sipush cx dX5_limitOf_29 ?_
    refine z_iret cx dX5_limitOf_32 ?_
    refine ⟨rfl, ?_⟩
    first | (rw [if_pos (by omega)]; done) | (rw [if_neg (by omega)]; done)
  · skip
    refine z_aload_n cx dX5_limitOf_12 rfl ?_
    refine z_iload_n cx dX5_limitOf_13 rfl ?_
    refine z_iconst cx dX5_limitOf_14 ?_
    refine z_iadd cx dX5_limitOf_15 ?_
    refine z_iconst cx dX5_limitOf_16 ?_
    refine z_vi cx (c_X5_of (20 + 43 * (i + 1)) (by omega) (by omega)) rfl mv_X5_of ml_X5_43 (by omega) (co_mod E _) rfl dX5_limitOf_17 (fun z17 G17 hz17 => ?_)
    obtain ⟨eG, rfl⟩ := hz17
    have eG := eG.symm
    subst eG
    refine z_aload_n cx dX5_limitOf_20 rfl ?_
    refine z_iconst cx dX5_limitOf_21 ?_
    refine z_vi cx (c_X5_its 2 rfl (by omega)) rfl mv_X5_its ml_X5_47 (by omega) (co_mod E _) rfl dX5_limitOf_22 (fun z22 G22 hz22 => ?_)
    obtain ⟨eG, rfl⟩ := hz22
    have eG := eG.symm
    subst eG
    refine z_isub cx dX5_limitOf_25 ?_
    refine z_goto cx (tgt := 32) dX5_limitOf_26 ?_
    refine z_iret cx dX5_limitOf_32 ?_
    refine ⟨rfl, ?_⟩
    first | (rw [if_pos (by omega)]; done) | (rw [if_neg (by omega)]; done)
set_option maxRecDepth 100000 in
set_option maxHeartbeats 4000000 in
theorem c_X5_seats {E : En} {G : Wd} {F : Fm} {L : List Sb} {x : Int} {i : Nat} (hx : x = (i : Int)) (hM : MFilm (G 20 0) (F.1, F.2.1, L)) (hOv : VlOk F.1) (hOc : CuOk F.2.1) (hL : SsOk L) (hi : i < L.length) : Ctv E yX5_seats cX5_seats 6 2 45 [.ref (E.1 6), .int (iN (x))] G (fun G' => MFilm (G' 20 0) (F.1, F.2.1, seatL F (F.1 1) L i) ∧ FrM G G') := by
  obtain ⟨m0, mV, m7, mC, mS⟩ := id hM
  dsimp only at m0 mV m7 mC mS
  have hl20 := hL.1
  obtain ⟨hv0, hv1, hv2, hv3, hv4, hv5⟩ := id hOv
  have v0 : G 20 0 1 = F.1 0 := mV 0 (by omega)
  have v1 : G 20 0 2 = F.1 1 := mV 1 (by omega)
  have v2 : G 20 0 3 = F.1 2 := mV 2 (by omega)
  have v5 : G 20 0 6 = F.1 5 := mV 5 (by omega)
  have hs_ := mS i hi
  have ho := hL.2.1 i hi
  have t0 := hs_.1
  have t1 := hs_.2.1
  have t2 := hs_.2.2.1
  have t3 := hs_.2.2.2
  have o1 := ho.1
  have o2 := ho.2.1
  have o3 := ho.2.2.1
  have o5 := ho.2.2.2.2.1
  obtain ⟨lb, hlb⟩ : ∃ q : Int, q = (if 0 < i then (L.getD (i - 1) dS).2.1 + F.1 1 else 0) := ⟨_, rfl⟩
  obtain ⟨ub, hub⟩ : ∃ q : Int, q = (if i + 1 < L.length then (L.getD (i + 1) dS).1 - F.1 1 else 5000) := ⟨_, rfl⟩
  have hse : seatL F (F.1 1) L i = L.set i (seat1 F (L.getD i dS) lb ub) := by rw [hlb, hub]; rfl
  have hprev : 0 < i → G 20 0 (20 + 43 * (i - 1) + 1) = (L.getD (i - 1) dS).2.1 ∧ 0 ≤ (L.getD (i - 1) dS).2.1 ∧ (L.getD (i - 1) dS).2.1 ≤ 5000 := fun h => by
    have q1 := (mS (i - 1) (by omega)).2.1
    have q2 := hL.2.1 (i - 1) (by omega)
    have q3 := q2.1
    have q4 := q2.2.1
    have q5 := q2.2.2.1
    exact ⟨q1, by omega, q5⟩
  have hlb2 : (0 < i ∧ lb = (L.getD (i - 1) dS).2.1 + F.1 1) ∨ (i = 0 ∧ lb = 0) := by
    rw [hlb]
    split
    · exact Or.inl ⟨‹_›, rfl⟩
    · exact Or.inr ⟨by omega, rfl⟩
  have hlbb : 0 ≤ lb ∧ lb ≤ 5020 := by
    rcases hlb2 with ⟨q, q2⟩ | ⟨-, q2⟩
    · have := hprev q; omega
    · omega
  have hub2 : ub = (if i + 1 < L.length then G 20 0 (20 + 43 * (i + 1)) - G 20 0 2 else 5000) := by
    rw [hub]
    by_cases q : i + 1 < L.length
    · rw [if_pos q, if_pos q, v1, (mS (i + 1) q).1]
    · rw [if_neg q, if_neg q]
  have hubb : -20 ≤ ub ∧ ub ≤ 5000 := by
    rw [hub]
    by_cases q : i + 1 < L.length
    · rw [if_pos q]
      have q1 := hL.2.1 (i + 1) q
      have q2 := q1.1
      have q3 := q1.2.1
      have q4 := q1.2.2.1
      omega
    · rw [if_neg q]; omega
  have hnb := need_b hOv ho.2.2.2
  have hb1 := st_e1_b (F := F) (S := (L.getD i dS)) (hi := ub)
  have hb2 := st_s1_b (F := F) (S := (L.getD i dS)) (lo := lb) (hi := ub)
  have hcb := ncut_b hOc (st_e1 F (L.getD i dS) ub)
  refine Ctv.mk [some (.ref (E.1 6)), some (.int (iN (x))), none, none, none, none] (by decide) rfl (by intro v hv; simp only [List.mem_cons, List.not_mem_nil, or_false] at hv; rcases hv with rfl | rfl <;> rfl) (Nat.le_of_ble_eq_true rfl) ?_
  intro p l e s m args below meth c cx
  have L164 : ∀ (G1 : Wd), (G1 20 0 (20 + 43 * i) = (st_s1 F (L.getD i dS) lb ub)) → (G1 20 0 (20 + 43 * i + 1) = (st_e1 F (L.getD i dS) ub)) → (∀ j, j ≠ 20 + 43 * i → j ≠ 20 + 43 * i + 1 → G1 20 0 j = G 20 0 j) → (FrM G G1) → Z p l e (zr 2 45) s m args below meth c 6 0 0 E (Qv_ E below args s (fun G' => MFilm (G' 20 0) (F.1, F.2.1, seatL F (F.1 1) L i) ∧ FrM G G')) G1 164 [some (.ref (E.1 6)), some (.int (iN (x))), some (.int (iN (need F (L.getD i dS)))), some (.int (iN (ub))), none, none] [] := by
    intro G1 g0 g1 gk gf
    have n7 : G1 20 0 7 = (F.2.1.length : Int) := (gk 7 (by omega) (by omega)).trans m7
    have nC : ∀ j, j < F.2.1.length → G1 20 0 (8 + j) = F.2.1.getD j 0 := fun j hj => (gk _ (by have := hOc.1; omega) (by have := hOc.1; omega)).trans (mC j hj)
    have n5 : G1 20 0 6 = F.1 5 := (gk 6 (by omega) (by omega)).trans v5
    have L218 : ∀ (zz : Int), (zz = 1 ∧ ((ncut F.2.1 (st_e1 F (L.getD i dS) ub)) ≠ -6 ∧ (ncut F.2.1 (st_e1 F (L.getD i dS) ub)) ≠ (st_e1 F (L.getD i dS) ub) ∧ (((ncut F.2.1 (st_e1 F (L.getD i dS) ub)) - (st_e1 F (L.getD i dS) ub)).natAbs : Int) ≤ F.1 5) ∨ zz = 0 ∧ ¬ ((ncut F.2.1 (st_e1 F (L.getD i dS) ub)) ≠ -6 ∧ (ncut F.2.1 (st_e1 F (L.getD i dS) ub)) ≠ (st_e1 F (L.getD i dS) ub) ∧ (((ncut F.2.1 (st_e1 F (L.getD i dS) ub)) - (st_e1 F (L.getD i dS) ub)).natAbs : Int) ≤ F.1 5)) → Z p l e (zr 2 45) s m args below meth c 6 0 0 E (Qv_ E below args s (fun G' => MFilm (G' 20 0) (F.1, F.2.1, seatL F (F.1 1) L i) ∧ FrM G G')) G1 218 [some (.ref (E.1 6)), some (.int (iN (x))), some (.int (iN (need F (L.getD i dS)))), some (.int (iN (ub))), some (.int (iN ((ncut F.2.1 (st_e1 F (L.getD i dS) ub))))), none] [.int (iN (zz))] := by
      intro zz hz
      have he2 : (zz = 1 ∧ (ncut F.2.1 (st_e1 F (L.getD i dS) ub)) ≤ ub ∧ (ncut F.2.1 (st_e1 F (L.getD i dS) ub)) - (st_s1 F (L.getD i dS) lb ub) ≥ need F (L.getD i dS) ∧ (st_e2 F (L.getD i dS) lb ub) = (ncut F.2.1 (st_e1 F (L.getD i dS) ub))) ∨ (¬ (zz = 1 ∧ (ncut F.2.1 (st_e1 F (L.getD i dS) ub)) ≤ ub ∧ (ncut F.2.1 (st_e1 F (L.getD i dS) ub)) - (st_s1 F (L.getD i dS) lb ub) ≥ need F (L.getD i dS)) ∧ (st_e2 F (L.getD i dS) lb ub) = (st_e1 F (L.getD i dS) ub)) := by
        by_cases q : (ncut F.2.1 (st_e1 F (L.getD i dS) ub)) ≠ -6 ∧ (((ncut F.2.1 (st_e1 F (L.getD i dS) ub)) - (st_e1 F (L.getD i dS) ub)).natAbs : Int) ≤ F.1 5 ∧ (ncut F.2.1 (st_e1 F (L.getD i dS) ub)) ≤ ub ∧ need F (L.getD i dS) ≤ (ncut F.2.1 (st_e1 F (L.getD i dS) ub)) - (st_s1 F (L.getD i dS) lb ub)
        · have q3 := st_e2_t (lo := lb) q.1 q.2.1 q.2.2.1 q.2.2.2
          by_cases q2 : (ncut F.2.1 (st_e1 F (L.getD i dS) ub)) = (st_e1 F (L.getD i dS) ub)
          · exact Or.inr ⟨by omega, by omega⟩
          · exact Or.inl ⟨by omega, by omega, by omega, q3⟩
        · have q3 := st_e2_f (F := F) (S := (L.getD i dS)) (lo := lb) (hi := ub) (by omega)
          exact Or.inr ⟨by omega, q3⟩
      refine z_istore cx dX5_seats_218 ?_
      refine z_iload cx dX5_seats_220 rfl ?_
      refine z_if_eq cx (tgt := 252) dX5_seats_222 (fun h222 => ?_) (fun h222 => ?_)
      · skip
        refine z_vret cx dX5_seats_252 ?_
        rw [hse]
        have hfin : ∀ G2 : Wd, FrM G G2 → G2 20 0 (20 + 43 * i) = (st_s1 F (L.getD i dS) lb ub) → G2 20 0 (20 + 43 * i + 1) = (st_e2 F (L.getD i dS) lb ub) → (∀ j, j ≠ 20 + 43 * i → j ≠ 20 + 43 * i + 1 → G2 20 0 j = G 20 0 j) → MFilm (G2 20 0) (F.1, F.2.1, L.set i (seat1 F (L.getD i dS) lb ub)) ∧ FrM G G2 := fun G2 q1 q2 q3 q4 =>
          ⟨mfilm_set (F := (F.1, F.2.1, L)) hM ⟨hOv, hOc, hL⟩ hi ⟨q2, q3, (q4 _ (by omega) (by omega)).trans t2, fun j hj => (q4 _ (by omega) (by omega)).trans (t3 j hj)⟩ (fun j hj => q4 j (by omega) (by omega)), q1⟩
        first
        | exact hfin _ gf g0 (by omega) gk
        | exact hfin _ gf.up (by rw [gup_i _ _ _ _ _ (by omega)]; exact g0) (by rw [gup_s]; omega) (fun j q1 q2 => by rw [gup_i _ _ _ _ _ (by omega)]; exact gk j q1 q2)
      · skip
        refine z_iload cx dX5_seats_225 rfl ?_
        refine z_iload_n cx dX5_seats_227 rfl ?_
        refine z_icmp_gt cx (tgt := 252) dX5_seats_228 (fun h228 => ?_) (fun h228 => ?_)
        · skip
          refine z_vret cx dX5_seats_252 ?_
          rw [hse]
          have hfin : ∀ G2 : Wd, FrM G G2 → G2 20 0 (20 + 43 * i) = (st_s1 F (L.getD i dS) lb ub) → G2 20 0 (20 + 43 * i + 1) = (st_e2 F (L.getD i dS) lb ub) → (∀ j, j ≠ 20 + 43 * i → j ≠ 20 + 43 * i + 1 → G2 20 0 j = G 20 0 j) → MFilm (G2 20 0) (F.1, F.2.1, L.set i (seat1 F (L.getD i dS) lb ub)) ∧ FrM G G2 := fun G2 q1 q2 q3 q4 =>
            ⟨mfilm_set (F := (F.1, F.2.1, L)) hM ⟨hOv, hOc, hL⟩ hi ⟨q2, q3, (q4 _ (by omega) (by omega)).trans t2, fun j hj => (q4 _ (by omega) (by omega)).trans (t3 j hj)⟩ (fun j hj => q4 j (by omega) (by omega)), q1⟩
          first
          | exact hfin _ gf g0 (by omega) gk
          | exact hfin _ gf.up (by rw [gup_i _ _ _ _ _ (by omega)]; exact g0) (by rw [gup_s]; omega) (fun j q1 q2 => by rw [gup_i _ _ _ _ _ (by omega)]; exact gk j q1 q2)
        · skip
          refine z_iload cx dX5_seats_231 rfl ?_
          refine z_aload_n cx dX5_seats_233 rfl ?_
          refine z_iload_n cx dX5_seats_234 rfl ?_
          refine z_iconst cx dX5_seats_235 ?_
          refine z_vi cx (c_X5_of (20 + 43 * i) (by omega) (by omega)) rfl mv_X5_of ml_X5_43 (by omega) (co_mod E _) rfl dX5_seats_236 (fun z236 G236 hz236 => ?_)
          obtain ⟨eG, rfl⟩ := hz236
          have eG := eG.symm
          subst eG
          refine z_isub cx dX5_seats_239 ?_
          refine z_iload_n cx dX5_seats_240 rfl ?_
          refine z_icmp_lt cx (tgt := 252) dX5_seats_241 (fun h241 => ?_) (fun h241 => ?_)
          · skip
            refine z_vret cx dX5_seats_252 ?_
            rw [hse]
            have hfin : ∀ G2 : Wd, FrM G G2 → G2 20 0 (20 + 43 * i) = (st_s1 F (L.getD i dS) lb ub) → G2 20 0 (20 + 43 * i + 1) = (st_e2 F (L.getD i dS) lb ub) → (∀ j, j ≠ 20 + 43 * i → j ≠ 20 + 43 * i + 1 → G2 20 0 j = G 20 0 j) → MFilm (G2 20 0) (F.1, F.2.1, L.set i (seat1 F (L.getD i dS) lb ub)) ∧ FrM G G2 := fun G2 q1 q2 q3 q4 =>
              ⟨mfilm_set (F := (F.1, F.2.1, L)) hM ⟨hOv, hOc, hL⟩ hi ⟨q2, q3, (q4 _ (by omega) (by omega)).trans t2, fun j hj => (q4 _ (by omega) (by omega)).trans (t3 j hj)⟩ (fun j hj => q4 j (by omega) (by omega)), q1⟩
            first
            | exact hfin _ gf g0 (by omega) gk
            | exact hfin _ gf.up (by rw [gup_i _ _ _ _ _ (by omega)]; exact g0) (by rw [gup_s]; omega) (fun j q1 q2 => by rw [gup_i _ _ _ _ _ (by omega)]; exact gk j q1 q2)
          · skip
            refine z_aload_n cx dX5_seats_244 rfl ?_
            refine z_iload_n cx dX5_seats_245 rfl ?_
            refine z_iconst cx dX5_seats_246 ?_
            refine z_iload cx dX5_seats_247 rfl ?_
            refine z_vv cx (c_X5_lays (20 + 43 * i + 1) (by omega) (by omega)) rfl mv_X5_lays ml_X5_51 (by omega) (co_mod E _) rfl dX5_seats_249 (fun G249 hz249 => ?_)
            subst hz249
            refine z_vret cx dX5_seats_252 ?_
            rw [hse]
            have hfin : ∀ G2 : Wd, FrM G G2 → G2 20 0 (20 + 43 * i) = (st_s1 F (L.getD i dS) lb ub) → G2 20 0 (20 + 43 * i + 1) = (st_e2 F (L.getD i dS) lb ub) → (∀ j, j ≠ 20 + 43 * i → j ≠ 20 + 43 * i + 1 → G2 20 0 j = G 20 0 j) → MFilm (G2 20 0) (F.1, F.2.1, L.set i (seat1 F (L.getD i dS) lb ub)) ∧ FrM G G2 := fun G2 q1 q2 q3 q4 =>
              ⟨mfilm_set (F := (F.1, F.2.1, L)) hM ⟨hOv, hOc, hL⟩ hi ⟨q2, q3, (q4 _ (by omega) (by omega)).trans t2, fun j hj => (q4 _ (by omega) (by omega)).trans (t3 j hj)⟩ (fun j hj => q4 j (by omega) (by omega)), q1⟩
            first
            | exact hfin _ gf g0 (by omega) gk
            | exact hfin _ gf.up (by rw [gup_i _ _ _ _ _ (by omega)]; exact g0) (by rw [gup_s]; omega) (fun j q1 q2 => by rw [gup_i _ _ _ _ _ (by omega)]; exact gk j q1 q2)
    refine z_aload_n cx dX5_seats_164 rfl ?_
    refine z_aload_n cx dX5_seats_165 rfl ?_
    refine z_iload_n cx dX5_seats_166 rfl ?_
    refine z_iconst cx dX5_seats_167 ?_
    refine z_vi cx (c_X5_of (20 + 43 * i + 1) (by omega) (by omega)) rfl mv_X5_of ml_X5_43 (by omega) (co_mod E _) rfl dX5_seats_168 (fun z168 G168 hz168 => ?_)
    obtain ⟨eG, rfl⟩ := hz168
    have eG := eG.symm
    subst eG
    rw [g1]
    refine z_vi cx (c_X5_nearestCut (C := F.2.1) n7 nC hOc (by omega)) rfl mv_X5_nearestCut ml_X5_91 (by omega) (co_mod E _) rfl dX5_seats_171 (fun z171 G171 hz171 => ?_)
    obtain ⟨eG, rfl⟩ := hz171
    have eG := eG.symm
    subst eG
    refine z_istore cx dX5_seats_174 ?_
    refine z_iload cx dX5_seats_176 rfl ?_
    refine z_bipush cx dX5_seats_178 ?_
    refine z_icmp_eq cx (tgt := 217) dX5_seats_180 (fun h180 => ?_) (fun h180 => ?_)
    · skip
      refine z_iconst cx dX5_seats_217 ?_
      refine Z.locs (L218 _ ?_) ⟨rfl, rfl, rfl, rfl, rfl, trivial⟩
      first
      | exact Or.inl ⟨rfl, by omega, by omega, by omega⟩
      | exact Or.inr ⟨rfl, by omega⟩
    · skip
      refine z_iload cx dX5_seats_183 rfl ?_
      refine z_aload_n cx dX5_seats_185 rfl ?_
      refine z_iload_n cx dX5_seats_186 rfl ?_
      refine z_iconst cx dX5_seats_187 ?_
      refine z_vi cx (c_X5_of (20 + 43 * i + 1) (by omega) (by omega)) rfl mv_X5_of ml_X5_43 (by omega) (co_mod E _) rfl dX5_seats_188 (fun z188 G188 hz188 => ?_)
      obtain ⟨eG, rfl⟩ := hz188
      have eG := eG.symm
      subst eG
      refine z_icmp_eq cx (tgt := 217) dX5_seats_191 (fun h191 => ?_) (fun h191 => ?_)
      · skip
        refine z_iconst cx dX5_seats_217 ?_
        refine Z.locs (L218 _ ?_) ⟨rfl, rfl, rfl, rfl, rfl, trivial⟩
        first
        | exact Or.inl ⟨rfl, by omega, by omega, by omega⟩
        | exact Or.inr ⟨rfl, by omega⟩
      · skip
        refine z_iload cx dX5_seats_194 rfl ?_
        refine z_aload_n cx dX5_seats_196 rfl ?_
        refine z_iload_n cx dX5_seats_197 rfl ?_
        refine z_iconst cx dX5_seats_198 ?_
        refine z_vi cx (c_X5_of (20 + 43 * i + 1) (by omega) (by omega)) rfl mv_X5_of ml_X5_43 (by omega) (co_mod E _) rfl dX5_seats_199 (fun z199 G199 hz199 => ?_)
        obtain ⟨eG, rfl⟩ := hz199
        have eG := eG.symm
        subst eG
        refine z_si cx (c_X5_far (by omega)) rfl ms_X5_far ml_X5_82 dX5_seats_202 (fun z202 G202 hz202 => ?_)
        obtain ⟨eG, rfl⟩ := hz202
        have eG := eG.symm
        subst eG
        refine z_aload_n cx dX5_seats_205 rfl ?_
        refine z_iconst cx dX5_seats_206 ?_
        refine z_vi cx (c_X5_its 6 rfl (by omega)) rfl mv_X5_its ml_X5_47 (by omega) (co_mod E _) rfl dX5_seats_207 (fun z207 G207 hz207 => ?_)
        obtain ⟨eG, rfl⟩ := hz207
        have eG := eG.symm
        subst eG
        refine z_icmp_gt cx (tgt := 217) dX5_seats_210 (fun h210 => ?_) (fun h210 => ?_)
        · skip
          refine z_iconst cx dX5_seats_217 ?_
          refine Z.locs (L218 _ ?_) ⟨rfl, rfl, rfl, rfl, rfl, trivial⟩
          first
          | exact Or.inl ⟨rfl, by omega, by omega, by omega⟩
          | exact Or.inr ⟨rfl, by omega⟩
        · skip
          refine z_iconst cx dX5_seats_213 ?_
          refine z_goto cx (tgt := 218) dX5_seats_214 ?_
          refine Z.locs (L218 _ ?_) ⟨rfl, rfl, rfl, rfl, rfl, trivial⟩
          first
          | exact Or.inl ⟨rfl, by omega, by omega, by omega⟩
          | exact Or.inr ⟨rfl, by omega⟩
  have L75 : ∀ (G1 : Wd), (G1 20 0 (20 + 43 * i) = (L.getD i dS).1) → (G1 20 0 (20 + 43 * i + 1) = (st_e1 F (L.getD i dS) ub)) → (∀ j, j ≠ 20 + 43 * i → j ≠ 20 + 43 * i + 1 → G1 20 0 j = G 20 0 j) → (FrM G G1) → Z p l e (zr 2 45) s m args below meth c 6 0 0 E (Qv_ E below args s (fun G' => MFilm (G' 20 0) (F.1, F.2.1, seatL F (F.1 1) L i) ∧ FrM G G')) G1 75 [some (.ref (E.1 6)), some (.int (iN (x))), some (.int (iN (need F (L.getD i dS)))), some (.int (iN (ub))), none, none] [] := by
    intro G1 g0 g1 gk gf
    refine z_aload_n cx dX5_seats_75 rfl ?_
    refine z_iload_n cx dX5_seats_76 rfl ?_
    refine z_vi cx (c_X5_framesOf (20 + 43 * i) (by omega) (by omega)) rfl mv_X5_framesOf ml_X5_65 (by omega) (co_mod E _) rfl dX5_seats_77 (fun z77 G77 hz77 => ?_)
    obtain ⟨eG, rfl⟩ := hz77
    have eG := eG.symm
    subst eG
    refine z_iload_n cx dX5_seats_80 rfl ?_
    refine z_icmp_ge cx (tgt := 164) dX5_seats_81 (fun h81 => ?_) (fun h81 => ?_)
    · skip
      refine Z.locs (L164 _ ?_ ?_ ?_ ?_) ⟨rfl, rfl, rfl, rfl, trivial⟩
      · first | (rw [gup_s, st_s1_t (by omega)]; omega) | (rw [st_s1_f (by omega)]; exact g0)
      · first | (rw [gup_i _ _ _ _ _ (by omega)]; exact g1) | exact g1
      · first | exact (fun j q1 q2 => by rw [gup_i _ _ _ _ _ (by omega)]; exact gk j q1 q2) | exact gk
      · first | exact gf.up | exact gf
    · skip
      refine z_iload_n cx dX5_seats_84 rfl ?_
      refine z_if_ne cx (tgt := 92) dX5_seats_85 (fun h85 => ?_) (fun h85 => ?_)
      · skip
        refine z_aload_n cx dX5_seats_92 rfl ?_
        refine z_iload_n cx dX5_seats_93 rfl ?_
        refine z_iconst cx dX5_seats_94 ?_
        refine z_isub cx dX5_seats_95 ?_
        refine z_iconst cx dX5_seats_96 ?_
        have hpv := hprev (by omega)
        have gpv := gk (20 + 43 * (i - 1) + 1) (by omega) (by omega)
        have gv1 := gk 2 (by omega) (by omega)
        refine z_vi cx (c_X5_of (20 + 43 * (i - 1) + 1) (by omega) (by omega)) rfl mv_X5_of ml_X5_43 (by omega) (co_mod E _) rfl dX5_seats_97 (fun z97 G97 hz97 => ?_)
        obtain ⟨eG, rfl⟩ := hz97
        have eG := eG.symm
        subst eG
        refine z_aload_n cx dX5_seats_100 rfl ?_
        refine z_iconst cx dX5_seats_101 ?_
        refine z_vi cx (c_X5_its 2 rfl (by omega)) rfl mv_X5_its ml_X5_47 (by omega) (co_mod E _) rfl dX5_seats_102 (fun z102 G102 hz102 => ?_)
        obtain ⟨eG, rfl⟩ := hz102
        have eG := eG.symm
        subst eG
        refine z_iadd cx dX5_seats_105 ?_
        refine z_istore cx dX5_seats_106 ?_
        refine z_aload_n cx dX5_seats_108 rfl ?_
        refine z_iload_n cx dX5_seats_109 rfl ?_
        refine z_iconst cx dX5_seats_110 ?_
        refine z_vi cx (c_X5_of (20 + 43 * i + 1) (by omega) (by omega)) rfl mv_X5_of ml_X5_43 (by omega) (co_mod E _) rfl dX5_seats_111 (fun z111 G111 hz111 => ?_)
        obtain ⟨eG, rfl⟩ := hz111
        have eG := eG.symm
        subst eG
        refine z_iload_n cx dX5_seats_114 rfl ?_
        refine z_isub cx dX5_seats_115 ?_
        refine z_iload cx dX5_seats_116 rfl ?_
        refine z_icmp_le cx (tgt := 132) dX5_seats_118 (fun h118 => ?_) (fun h118 => ?_)
        · skip
          refine z_iload cx dX5_seats_132 rfl ?_
          refine z_istore cx dX5_seats_134 ?_
          refine z_aload_n cx dX5_seats_136 rfl ?_
          refine z_iload_n cx dX5_seats_137 rfl ?_
          refine z_iconst cx dX5_seats_138 ?_
          refine z_iload cx dX5_seats_139 rfl ?_
          refine z_aload_n cx dX5_seats_141 rfl ?_
          refine z_iload_n cx dX5_seats_142 rfl ?_
          refine z_iconst cx dX5_seats_143 ?_
          refine z_vi cx (c_X5_of (20 + 43 * i) (by omega) (by omega)) rfl mv_X5_of ml_X5_43 (by omega) (co_mod E _) rfl dX5_seats_144 (fun z144 G144 hz144 => ?_)
          obtain ⟨eG, rfl⟩ := hz144
          have eG := eG.symm
          subst eG
          refine z_icmp_ge cx (tgt := 155) dX5_seats_147 (fun h147 => ?_) (fun h147 => ?_)
          · skip
            refine z_aload_n cx dX5_seats_155 rfl ?_
            refine z_iload_n cx dX5_seats_156 rfl ?_
            refine z_iconst cx dX5_seats_157 ?_
            refine z_vi cx (c_X5_of (20 + 43 * i) (by omega) (by omega)) rfl mv_X5_of ml_X5_43 (by omega) (co_mod E _) rfl dX5_seats_158 (fun z158 G158 hz158 => ?_)
            obtain ⟨eG, rfl⟩ := hz158
            have eG := eG.symm
            subst eG
            refine z_vv cx (c_X5_lays (20 + 43 * i) (by omega) (by omega)) rfl mv_X5_lays ml_X5_51 (by omega) (co_mod E _) rfl dX5_seats_161 (fun G161 hz161 => ?_)
            subst hz161
            refine Z.locs (L164 _ ?_ ?_ ?_ ?_) ⟨rfl, rfl, rfl, rfl, trivial⟩
            · first | (rw [gup_s, st_s1_t (by omega)]; omega) | (rw [st_s1_f (by omega)]; exact g0)
            · first | (rw [gup_i _ _ _ _ _ (by omega)]; exact g1) | exact g1
            · first | exact (fun j q1 q2 => by rw [gup_i _ _ _ _ _ (by omega)]; exact gk j q1 q2) | exact gk
            · first | exact gf.up | exact gf
          · skip
            refine z_iload cx dX5_seats_150 rfl ?_
            refine z_goto cx (tgt := 161) dX5_seats_152 ?_
            refine z_vv cx (c_X5_lays (20 + 43 * i) (by omega) (by omega)) rfl mv_X5_lays ml_X5_51 (by omega) (co_mod E _) rfl dX5_seats_161 (fun G161 hz161 => ?_)
            subst hz161
            refine Z.locs (L164 _ ?_ ?_ ?_ ?_) ⟨rfl, rfl, rfl, rfl, trivial⟩
            · first | (rw [gup_s, st_s1_t (by omega)]; omega) | (rw [st_s1_f (by omega)]; exact g0)
            · first | (rw [gup_i _ _ _ _ _ (by omega)]; exact g1) | exact g1
            · first | exact (fun j q1 q2 => by rw [gup_i _ _ _ _ _ (by omega)]; exact gk j q1 q2) | exact gk
            · first | exact gf.up | exact gf
        · skip
          refine z_aload_n cx dX5_seats_121 rfl ?_
          refine z_iload_n cx dX5_seats_122 rfl ?_
          refine z_iconst cx dX5_seats_123 ?_
          refine z_vi cx (c_X5_of (20 + 43 * i + 1) (by omega) (by omega)) rfl mv_X5_of ml_X5_43 (by omega) (co_mod E _) rfl dX5_seats_124 (fun z124 G124 hz124 => ?_)
          obtain ⟨eG, rfl⟩ := hz124
          have eG := eG.symm
          subst eG
          refine z_iload_n cx dX5_seats_127 rfl ?_
          refine z_isub cx dX5_seats_128 ?_
          refine z_goto cx (tgt := 134) dX5_seats_129 ?_
          refine z_istore cx dX5_seats_134 ?_
          refine z_aload_n cx dX5_seats_136 rfl ?_
          refine z_iload_n cx dX5_seats_137 rfl ?_
          refine z_iconst cx dX5_seats_138 ?_
          refine z_iload cx dX5_seats_139 rfl ?_
          refine z_aload_n cx dX5_seats_141 rfl ?_
          refine z_iload_n cx dX5_seats_142 rfl ?_
          refine z_iconst cx dX5_seats_143 ?_
          refine z_vi cx (c_X5_of (20 + 43 * i) (by omega) (by omega)) rfl mv_X5_of ml_X5_43 (by omega) (co_mod E _) rfl dX5_seats_144 (fun z144 G144 hz144 => ?_)
          obtain ⟨eG, rfl⟩ := hz144
          have eG := eG.symm
          subst eG
          refine z_icmp_ge cx (tgt := 155) dX5_seats_147 (fun h147 => ?_) (fun h147 => ?_)
          · skip
            refine z_aload_n cx dX5_seats_155 rfl ?_
            refine z_iload_n cx dX5_seats_156 rfl ?_
            refine z_iconst cx dX5_seats_157 ?_
            refine z_vi cx (c_X5_of (20 + 43 * i) (by omega) (by omega)) rfl mv_X5_of ml_X5_43 (by omega) (co_mod E _) rfl dX5_seats_158 (fun z158 G158 hz158 => ?_)
            obtain ⟨eG, rfl⟩ := hz158
            have eG := eG.symm
            subst eG
            refine z_vv cx (c_X5_lays (20 + 43 * i) (by omega) (by omega)) rfl mv_X5_lays ml_X5_51 (by omega) (co_mod E _) rfl dX5_seats_161 (fun G161 hz161 => ?_)
            subst hz161
            refine Z.locs (L164 _ ?_ ?_ ?_ ?_) ⟨rfl, rfl, rfl, rfl, trivial⟩
            · first | (rw [gup_s, st_s1_t (by omega)]; omega) | (rw [st_s1_f (by omega)]; exact g0)
            · first | (rw [gup_i _ _ _ _ _ (by omega)]; exact g1) | exact g1
            · first | exact (fun j q1 q2 => by rw [gup_i _ _ _ _ _ (by omega)]; exact gk j q1 q2) | exact gk
            · first | exact gf.up | exact gf
          · skip
            refine z_iload cx dX5_seats_150 rfl ?_
            refine z_goto cx (tgt := 161) dX5_seats_152 ?_
            refine z_vv cx (c_X5_lays (20 + 43 * i) (by omega) (by omega)) rfl mv_X5_lays ml_X5_51 (by omega) (co_mod E _) rfl dX5_seats_161 (fun G161 hz161 => ?_)
            subst hz161
            refine Z.locs (L164 _ ?_ ?_ ?_ ?_) ⟨rfl, rfl, rfl, rfl, trivial⟩
            · first | (rw [gup_s, st_s1_t (by omega)]; omega) | (rw [st_s1_f (by omega)]; exact g0)
            · first | (rw [gup_i _ _ _ _ _ (by omega)]; exact g1) | exact g1
            · first | exact (fun j q1 q2 => by rw [gup_i _ _ _ _ _ (by omega)]; exact gk j q1 q2) | exact gk
            · first | exact gf.up | exact gf
      · skip
        refine z_iconst cx dX5_seats_88 ?_
        refine z_goto cx (tgt := 106) dX5_seats_89 ?_
        refine z_istore cx dX5_seats_106 ?_
        refine z_aload_n cx dX5_seats_108 rfl ?_
        refine z_iload_n cx dX5_seats_109 rfl ?_
        refine z_iconst cx dX5_seats_110 ?_
        refine z_vi cx (c_X5_of (20 + 43 * i + 1) (by omega) (by omega)) rfl mv_X5_of ml_X5_43 (by omega) (co_mod E _) rfl dX5_seats_111 (fun z111 G111 hz111 => ?_)
        obtain ⟨eG, rfl⟩ := hz111
        have eG := eG.symm
        subst eG
        refine z_iload_n cx dX5_seats_114 rfl ?_
        refine z_isub cx dX5_seats_115 ?_
        refine z_iload cx dX5_seats_116 rfl ?_
        refine z_icmp_le cx (tgt := 132) dX5_seats_118 (fun h118 => ?_) (fun h118 => ?_)
        · skip
          refine z_iload cx dX5_seats_132 rfl ?_
          refine z_istore cx dX5_seats_134 ?_
          refine z_aload_n cx dX5_seats_136 rfl ?_
          refine z_iload_n cx dX5_seats_137 rfl ?_
          refine z_iconst cx dX5_seats_138 ?_
          refine z_iload cx dX5_seats_139 rfl ?_
          refine z_aload_n cx dX5_seats_141 rfl ?_
          refine z_iload_n cx dX5_seats_142 rfl ?_
          refine z_iconst cx dX5_seats_143 ?_
          refine z_vi cx (c_X5_of (20 + 43 * i) (by omega) (by omega)) rfl mv_X5_of ml_X5_43 (by omega) (co_mod E _) rfl dX5_seats_144 (fun z144 G144 hz144 => ?_)
          obtain ⟨eG, rfl⟩ := hz144
          have eG := eG.symm
          subst eG
          refine z_icmp_ge cx (tgt := 155) dX5_seats_147 (fun h147 => ?_) (fun h147 => ?_)
          · skip
            refine z_aload_n cx dX5_seats_155 rfl ?_
            refine z_iload_n cx dX5_seats_156 rfl ?_
            refine z_iconst cx dX5_seats_157 ?_
            refine z_vi cx (c_X5_of (20 + 43 * i) (by omega) (by omega)) rfl mv_X5_of ml_X5_43 (by omega) (co_mod E _) rfl dX5_seats_158 (fun z158 G158 hz158 => ?_)
            obtain ⟨eG, rfl⟩ := hz158
            have eG := eG.symm
            subst eG
            refine z_vv cx (c_X5_lays (20 + 43 * i) (by omega) (by omega)) rfl mv_X5_lays ml_X5_51 (by omega) (co_mod E _) rfl dX5_seats_161 (fun G161 hz161 => ?_)
            subst hz161
            refine Z.locs (L164 _ ?_ ?_ ?_ ?_) ⟨rfl, rfl, rfl, rfl, trivial⟩
            · first | (rw [gup_s, st_s1_t (by omega)]; omega) | (rw [st_s1_f (by omega)]; exact g0)
            · first | (rw [gup_i _ _ _ _ _ (by omega)]; exact g1) | exact g1
            · first | exact (fun j q1 q2 => by rw [gup_i _ _ _ _ _ (by omega)]; exact gk j q1 q2) | exact gk
            · first | exact gf.up | exact gf
          · skip
            refine z_iload cx dX5_seats_150 rfl ?_
            refine z_goto cx (tgt := 161) dX5_seats_152 ?_
            refine z_vv cx (c_X5_lays (20 + 43 * i) (by omega) (by omega)) rfl mv_X5_lays ml_X5_51 (by omega) (co_mod E _) rfl dX5_seats_161 (fun G161 hz161 => ?_)
            subst hz161
            refine Z.locs (L164 _ ?_ ?_ ?_ ?_) ⟨rfl, rfl, rfl, rfl, trivial⟩
            · first | (rw [gup_s, st_s1_t (by omega)]; omega) | (rw [st_s1_f (by omega)]; exact g0)
            · first | (rw [gup_i _ _ _ _ _ (by omega)]; exact g1) | exact g1
            · first | exact (fun j q1 q2 => by rw [gup_i _ _ _ _ _ (by omega)]; exact gk j q1 q2) | exact gk
            · first | exact gf.up | exact gf
        · skip
          refine z_aload_n cx dX5_seats_121 rfl ?_
          refine z_iload_n cx dX5_seats_122 rfl ?_
          refine z_iconst cx dX5_seats_123 ?_
          refine z_vi cx (c_X5_of (20 + 43 * i + 1) (by omega) (by omega)) rfl mv_X5_of ml_X5_43 (by omega) (co_mod E _) rfl dX5_seats_124 (fun z124 G124 hz124 => ?_)
          obtain ⟨eG, rfl⟩ := hz124
          have eG := eG.symm
          subst eG
          refine z_iload_n cx dX5_seats_127 rfl ?_
          refine z_isub cx dX5_seats_128 ?_
          refine z_goto cx (tgt := 134) dX5_seats_129 ?_
          refine z_istore cx dX5_seats_134 ?_
          refine z_aload_n cx dX5_seats_136 rfl ?_
          refine z_iload_n cx dX5_seats_137 rfl ?_
          refine z_iconst cx dX5_seats_138 ?_
          refine z_iload cx dX5_seats_139 rfl ?_
          refine z_aload_n cx dX5_seats_141 rfl ?_
          refine z_iload_n cx dX5_seats_142 rfl ?_
          refine z_iconst cx dX5_seats_143 ?_
          refine z_vi cx (c_X5_of (20 + 43 * i) (by omega) (by omega)) rfl mv_X5_of ml_X5_43 (by omega) (co_mod E _) rfl dX5_seats_144 (fun z144 G144 hz144 => ?_)
          obtain ⟨eG, rfl⟩ := hz144
          have eG := eG.symm
          subst eG
          refine z_icmp_ge cx (tgt := 155) dX5_seats_147 (fun h147 => ?_) (fun h147 => ?_)
          · skip
            refine z_aload_n cx dX5_seats_155 rfl ?_
            refine z_iload_n cx dX5_seats_156 rfl ?_
            refine z_iconst cx dX5_seats_157 ?_
            refine z_vi cx (c_X5_of (20 + 43 * i) (by omega) (by omega)) rfl mv_X5_of ml_X5_43 (by omega) (co_mod E _) rfl dX5_seats_158 (fun z158 G158 hz158 => ?_)
            obtain ⟨eG, rfl⟩ := hz158
            have eG := eG.symm
            subst eG
            refine z_vv cx (c_X5_lays (20 + 43 * i) (by omega) (by omega)) rfl mv_X5_lays ml_X5_51 (by omega) (co_mod E _) rfl dX5_seats_161 (fun G161 hz161 => ?_)
            subst hz161
            refine Z.locs (L164 _ ?_ ?_ ?_ ?_) ⟨rfl, rfl, rfl, rfl, trivial⟩
            · first | (rw [gup_s, st_s1_t (by omega)]; omega) | (rw [st_s1_f (by omega)]; exact g0)
            · first | (rw [gup_i _ _ _ _ _ (by omega)]; exact g1) | exact g1
            · first | exact (fun j q1 q2 => by rw [gup_i _ _ _ _ _ (by omega)]; exact gk j q1 q2) | exact gk
            · first | exact gf.up | exact gf
          · skip
            refine z_iload cx dX5_seats_150 rfl ?_
            refine z_goto cx (tgt := 161) dX5_seats_152 ?_
            refine z_vv cx (c_X5_lays (20 + 43 * i) (by omega) (by omega)) rfl mv_X5_lays ml_X5_51 (by omega) (co_mod E _) rfl dX5_seats_161 (fun G161 hz161 => ?_)
            subst hz161
            refine Z.locs (L164 _ ?_ ?_ ?_ ?_) ⟨rfl, rfl, rfl, rfl, trivial⟩
            · first | (rw [gup_s, st_s1_t (by omega)]; omega) | (rw [st_s1_f (by omega)]; exact g0)
            · first | (rw [gup_i _ _ _ _ _ (by omega)]; exact g1) | exact g1
            · first | exact (fun j q1 q2 => by rw [gup_i _ _ _ _ _ (by omega)]; exact gk j q1 q2) | exact gk
            · first | exact gf.up | exact gf
  refine z_aload_n cx dX5_seats_0 rfl ?_
  refine z_iload_n cx dX5_seats_1 rfl ?_
  refine z_vi cx (c_X5_needs (F := F) hx hs_ ho (by omega) hOv v0 v2) rfl mv_X5_needs ml_X5_85 (by omega) (co_mod E _) rfl dX5_seats_2 (fun z2 G2 hz2 => ?_)
  obtain ⟨eG, rfl⟩ := hz2
  have eG := eG.symm
  subst eG
  refine z_istore_n cx dX5_seats_5 ?_
  refine z_aload_n cx dX5_seats_6 rfl ?_
  refine z_iload_n cx dX5_seats_7 rfl ?_
  refine z_vi cx (c_X5_limitOf hx m0 (by omega)) rfl mv_X5_limitOf ml_X5_88 (by omega) (co_mod E _) rfl dX5_seats_8 (fun z8 G8 hz8 => ?_)
  obtain ⟨eG, rfl⟩ := hz8
  have eG := eG.symm
  subst eG
  rw [← hub2]
  refine z_istore_n cx dX5_seats_11 ?_
  refine z_aload_n cx dX5_seats_12 rfl ?_
  refine z_iload_n cx dX5_seats_13 rfl ?_
  refine z_vi cx (c_X5_framesOf (20 + 43 * i) (by omega) (by omega)) rfl mv_X5_framesOf ml_X5_65 (by omega) (co_mod E _) rfl dX5_seats_14 (fun z14 G14 hz14 => ?_)
  obtain ⟨eG, rfl⟩ := hz14
  have eG := eG.symm
  subst eG
  refine z_iload_n cx dX5_seats_17 rfl ?_
  refine z_icmp_ge cx (tgt := 75) dX5_seats_18 (fun h18 => ?_) (fun h18 => ?_)
  · skip
    refine Z.locs (L75 _ ?_ ?_ ?_ ?_) ⟨rfl, rfl, rfl, rfl, trivial⟩
    · first | exact t0 | (rw [gup_i _ _ _ _ _ (by omega)]; exact t0)
    · first | (rw [gup_s, st_e1_t (by omega)]; omega) | (rw [st_e1_f (by omega)]; exact t1)
    · first | exact (fun _ _ _ => rfl) | exact (fun j q1 q2 => by rw [gup_i _ _ _ _ _ (by omega)])
    · first | exact FrM.rf | exact FrM.rf.up
  · skip
    refine z_aload_n cx dX5_seats_21 rfl ?_
    refine z_iload_n cx dX5_seats_22 rfl ?_
    refine z_iconst cx dX5_seats_23 ?_
    refine z_vi cx (c_X5_of (20 + 43 * i) (by omega) (by omega)) rfl mv_X5_of ml_X5_43 (by omega) (co_mod E _) rfl dX5_seats_24 (fun z24 G24 hz24 => ?_)
    obtain ⟨eG, rfl⟩ := hz24
    have eG := eG.symm
    subst eG
    refine z_iload_n cx dX5_seats_27 rfl ?_
    refine z_iadd cx dX5_seats_28 ?_
    refine z_iload_n cx dX5_seats_29 rfl ?_
    refine z_icmp_ge cx (tgt := 44) dX5_seats_30 (fun h30 => ?_) (fun h30 => ?_)
    · skip
      refine z_iload_n cx dX5_seats_44 rfl ?_
      refine z_istore cx dX5_seats_45 ?_
      refine z_aload_n cx dX5_seats_47 rfl ?_
      refine z_iload_n cx dX5_seats_48 rfl ?_
      refine z_iconst cx dX5_seats_49 ?_
      refine z_iload cx dX5_seats_50 rfl ?_
      refine z_aload_n cx dX5_seats_52 rfl ?_
      refine z_iload_n cx dX5_seats_53 rfl ?_
      refine z_iconst cx dX5_seats_54 ?_
      refine z_vi cx (c_X5_of (20 + 43 * i + 1) (by omega) (by omega)) rfl mv_X5_of ml_X5_43 (by omega) (co_mod E _) rfl dX5_seats_55 (fun z55 G55 hz55 => ?_)
      obtain ⟨eG, rfl⟩ := hz55
      have eG := eG.symm
      subst eG
      refine z_icmp_le cx (tgt := 66) dX5_seats_58 (fun h58 => ?_) (fun h58 => ?_)
      · skip
        refine z_aload_n cx dX5_seats_66 rfl ?_
        refine z_iload_n cx dX5_seats_67 rfl ?_
        refine z_iconst cx dX5_seats_68 ?_
        refine z_vi cx (c_X5_of (20 + 43 * i + 1) (by omega) (by omega)) rfl mv_X5_of ml_X5_43 (by omega) (co_mod E _) rfl dX5_seats_69 (fun z69 G69 hz69 => ?_)
        obtain ⟨eG, rfl⟩ := hz69
        have eG := eG.symm
        subst eG
        refine z_vv cx (c_X5_lays (20 + 43 * i + 1) (by omega) (by omega)) rfl mv_X5_lays ml_X5_51 (by omega) (co_mod E _) rfl dX5_seats_72 (fun G72 hz72 => ?_)
        subst hz72
        refine Z.locs (L75 _ ?_ ?_ ?_ ?_) ⟨rfl, rfl, rfl, rfl, trivial⟩
        · first | exact t0 | (rw [gup_i _ _ _ _ _ (by omega)]; exact t0)
        · first | (rw [gup_s, st_e1_t (by omega)]; omega) | (rw [st_e1_f (by omega)]; exact t1)
        · first | exact (fun _ _ _ => rfl) | exact (fun j q1 q2 => by rw [gup_i _ _ _ _ _ (by omega)])
        · first | exact FrM.rf | exact FrM.rf.up
      · skip
        refine z_iload cx dX5_seats_61 rfl ?_
        refine z_goto cx (tgt := 72) dX5_seats_63 ?_
        refine z_vv cx (c_X5_lays (20 + 43 * i + 1) (by omega) (by omega)) rfl mv_X5_lays ml_X5_51 (by omega) (co_mod E _) rfl dX5_seats_72 (fun G72 hz72 => ?_)
        subst hz72
        refine Z.locs (L75 _ ?_ ?_ ?_ ?_) ⟨rfl, rfl, rfl, rfl, trivial⟩
        · first | exact t0 | (rw [gup_i _ _ _ _ _ (by omega)]; exact t0)
        · first | (rw [gup_s, st_e1_t (by omega)]; omega) | (rw [st_e1_f (by omega)]; exact t1)
        · first | exact (fun _ _ _ => rfl) | exact (fun j q1 q2 => by rw [gup_i _ _ _ _ _ (by omega)])
        · first | exact FrM.rf | exact FrM.rf.up
    · skip
      refine z_aload_n cx dX5_seats_33 rfl ?_
      refine z_iload_n cx dX5_seats_34 rfl ?_
      refine z_iconst cx dX5_seats_35 ?_
      refine z_vi cx (c_X5_of (20 + 43 * i) (by omega) (by omega)) rfl mv_X5_of ml_X5_43 (by omega) (co_mod E _) rfl dX5_seats_36 (fun z36 G36 hz36 => ?_)
      obtain ⟨eG, rfl⟩ := hz36
      have eG := eG.symm
      subst eG
      refine z_iload_n cx dX5_seats_39 rfl ?_
      refine z_iadd cx dX5_seats_40 ?_
      refine z_goto cx (tgt := 45) dX5_seats_41 ?_
      refine z_istore cx dX5_seats_45 ?_
      refine z_aload_n cx dX5_seats_47 rfl ?_
      refine z_iload_n cx dX5_seats_48 rfl ?_
      refine z_iconst cx dX5_seats_49 ?_
      refine z_iload cx dX5_seats_50 rfl ?_
      refine z_aload_n cx dX5_seats_52 rfl ?_
      refine z_iload_n cx dX5_seats_53 rfl ?_
      refine z_iconst cx dX5_seats_54 ?_
      refine z_vi cx (c_X5_of (20 + 43 * i + 1) (by omega) (by omega)) rfl mv_X5_of ml_X5_43 (by omega) (co_mod E _) rfl dX5_seats_55 (fun z55 G55 hz55 => ?_)
      obtain ⟨eG, rfl⟩ := hz55
      have eG := eG.symm
      subst eG
      refine z_icmp_le cx (tgt := 66) dX5_seats_58 (fun h58 => ?_) (fun h58 => ?_)
      · skip
        refine z_aload_n cx dX5_seats_66 rfl ?_
        refine z_iload_n cx dX5_seats_67 rfl ?_
        refine z_iconst cx dX5_seats_68 ?_
        refine z_vi cx (c_X5_of (20 + 43 * i + 1) (by omega) (by omega)) rfl mv_X5_of ml_X5_43 (by omega) (co_mod E _) rfl dX5_seats_69 (fun z69 G69 hz69 => ?_)
        obtain ⟨eG, rfl⟩ := hz69
        have eG := eG.symm
        subst eG
        refine z_vv cx (c_X5_lays (20 + 43 * i + 1) (by omega) (by omega)) rfl mv_X5_lays ml_X5_51 (by omega) (co_mod E _) rfl dX5_seats_72 (fun G72 hz72 => ?_)
        subst hz72
        refine Z.locs (L75 _ ?_ ?_ ?_ ?_) ⟨rfl, rfl, rfl, rfl, trivial⟩
        · first | exact t0 | (rw [gup_i _ _ _ _ _ (by omega)]; exact t0)
        · first | (rw [gup_s, st_e1_t (by omega)]; omega) | (rw [st_e1_f (by omega)]; exact t1)
        · first | exact (fun _ _ _ => rfl) | exact (fun j q1 q2 => by rw [gup_i _ _ _ _ _ (by omega)])
        · first | exact FrM.rf | exact FrM.rf.up
      · skip
        refine z_iload cx dX5_seats_61 rfl ?_
        refine z_goto cx (tgt := 72) dX5_seats_63 ?_
        refine z_vv cx (c_X5_lays (20 + 43 * i + 1) (by omega) (by omega)) rfl mv_X5_lays ml_X5_51 (by omega) (co_mod E _) rfl dX5_seats_72 (fun G72 hz72 => ?_)
        subst hz72
        refine Z.locs (L75 _ ?_ ?_ ?_ ?_) ⟨rfl, rfl, rfl, rfl, trivial⟩
        · first | exact t0 | (rw [gup_i _ _ _ _ _ (by omega)]; exact t0)
        · first | (rw [gup_s, st_e1_t (by omega)]; omega) | (rw [st_e1_f (by omega)]; exact t1)
        · first | exact (fun _ _ _ => rfl) | exact (fun j q1 q2 => by rw [gup_i _ _ _ _ _ (by omega)])
        · first | exact FrM.rf | exact FrM.rf.up
set_option maxRecDepth 100000 in
set_option maxHeartbeats 4000000 in
theorem c_X5_seatsAll {E : En} {G : Wd} {F : Fm} (hM : MFilm (G 20 0) F) (hO : FOk F) : Cti E yX5_seatsAll cX5_seatsAll 5 .int 3 70 [.ref (E.1 6)] G (fun z G' => z = seatC F (F.1 1) ∧ MFilm (G' 20 0) (seatF F (F.1 1)) ∧ FrM G G') := by
  obtain ⟨m0, mV, m7, mC, mS⟩ := id hM
  obtain ⟨hOv, hOc, hOs⟩ := id hO
  have hl20 := hOs.1
  have hl12 := hOc.1
  obtain ⟨hv0, hv1, hv2, hv3, hv4, hv5⟩ := id hOv
  have v0 : G 20 0 1 = F.1 0 := mV 0 (by omega)
  have v1 : G 20 0 2 = F.1 1 := mV 1 (by omega)
  have v2 : G 20 0 3 = F.1 2 := mV 2 (by omega)
  have v3 : G 20 0 4 = F.1 3 := mV 3 (by omega)
  have v4 : G 20 0 5 = F.1 4 := mV 4 (by omega)
  have v5 : G 20 0 6 = F.1 5 := mV 5 (by omega)
  refine Cti.mk [some (.ref (E.1 6)), none, none, none, none] (by decide) rfl (by intro v hv; simp only [List.mem_cons, List.not_mem_nil, or_false] at hv; subst hv; rfl) (Nat.le_of_ble_eq_true rfl) ?_
  intro p l e s m args below meth c cx
  have L4 : ∀ (n : Nat) (j : Nat) (G1 : Wd), (60 - j) < n → (j ≤ F.2.2.length) → (MFilm (G1 20 0) (F.1, F.2.1, seatN F (F.1 1) j)) → (FrM G G1) → Z p l e (zr 3 70) s m args below meth c 5 0 0 E (Qi_ E below args s (fun z G' => z = seatC F (F.1 1) ∧ MFilm (G' 20 0) (seatF F (F.1 1)) ∧ FrM G G')) G1 4 [some (.ref (E.1 6)), some (.int (iN (cnt (fun i => (seatN F (F.1 1) F.2.2.length).getD i dS ≠ F.2.2.getD i dS) j))), some (.int (iN ((j : Int)))), none, none] [] := by
    intro n
    induction n with
    | zero =>
      intro j G1 hmu
      exact absurd hmu (Nat.not_lt_zero _)
    | succ n ih =>
      intro j G1 hmu hj hM1 hf
      have m01 : G1 20 0 0 = (F.2.2.length : Int) := by have q := hM1.1; dsimp only at q; rw [seatN_len] at q; exact q
      refine z_iload_n cx dX5_seatsAll_4 rfl ?_
      refine z_aload_n cx dX5_seatsAll_5 rfl ?_
      refine g_X5_0 cx fl_X5_7 dX5_seatsAll_6 ?_
      refine z_iconst cx dX5_seatsAll_9 ?_
      refine z_iald cx (0) (by omega) (by omega) (co_s E _) dX5_seatsAll_10 ?_
      refine z_icmp_ge cx (tgt := 69) dX5_seatsAll_11 (fun h11 => ?_) (fun h11 => ?_)
      · skip
        refine z_iload_n cx dX5_seatsAll_69 rfl ?_
        refine z_iret cx dX5_seatsAll_70 ?_
        have hjl : j = F.2.2.length := by omega
        subst hjl
        exact ⟨rfl, hM1, hf⟩
      · skip
        have hcb := cnt_b (fun i => (seatN F (F.1 1) F.2.2.length).getD i dS ≠ F.2.2.getD i dS) j
        have hL1 := seatN_ok (g := F.1 1) hO (by omega) j hj
        have hlen1 := seatN_len F (F.1 1) j
        have hs1 := hM1.2.2.2.2 j (by dsimp only; omega)
        dsimp only at hs1
        rw [seatN_hi F (F.1 1) (Nat.le_refl j)] at hs1
        have t0 := hs1.1
        have t1 := hs1.2.1
        have ho := hOs.2.1 j (by omega)
        have o1 := ho.1
        have o2 := ho.2.1
        have o3 := ho.2.2.1
        refine z_aload_n cx dX5_seatsAll_14 rfl ?_
        refine z_iload_n cx dX5_seatsAll_15 rfl ?_
        refine z_iconst cx dX5_seatsAll_16 ?_
        refine z_vi cx (c_X5_of (20 + 43 * j) (by omega) (by omega)) rfl mv_X5_of ml_X5_43 (by omega) (co_mod E _) rfl dX5_seatsAll_17 (fun z17 G17 hz17 => ?_)
        obtain ⟨eG, rfl⟩ := hz17
        have eG := eG.symm
        subst eG
        refine z_istore_n cx dX5_seatsAll_20 ?_
        refine z_aload_n cx dX5_seatsAll_21 rfl ?_
        refine z_iload_n cx dX5_seatsAll_22 rfl ?_
        refine z_iconst cx dX5_seatsAll_23 ?_
        refine z_vi cx (c_X5_of (20 + 43 * j + 1) (by omega) (by omega)) rfl mv_X5_of ml_X5_43 (by omega) (co_mod E _) rfl dX5_seatsAll_24 (fun z24 G24 hz24 => ?_)
        obtain ⟨eG, rfl⟩ := hz24
        have eG := eG.symm
        subst eG
        rw [t0, t1]
        refine z_istore cx dX5_seatsAll_27 ?_
        refine z_aload_n cx dX5_seatsAll_29 rfl ?_
        refine z_iload_n cx dX5_seatsAll_30 rfl ?_
        refine z_vv cx (c_X5_seats (F := F) rfl hM1 hOv hOc hL1 (by omega)) rfl mv_X5_seats ml_X5_94 (by omega) (co_mod E _) rfl dX5_seatsAll_31 (fun G31 hz31 => ?_)
        have hs2 := hz31.1.2.2.2.2 j (by dsimp only; rw [seatL_len]; omega)
        dsimp only at hs2
        have hsn : (seatL F (F.1 1) (seatN F (F.1 1) j) j).getD j dS = (seatN F (F.1 1) F.2.2.length).getD j dS := (seatN_lo F (F.1 1) (by omega)).symm
        rw [hsn] at hs2
        have ho2 := (seatN_ok (g := F.1 1) hO (by omega) F.2.2.length (Nat.le_refl _)).2.1 j (by rw [seatN_len]; omega)
        have p1 := ho2.1
        have p2 := ho2.2.1
        have p3 := ho2.2.2.1
        have u0 := hs2.1
        have u1 := hs2.2.1
        have htx : ((seatN F (F.1 1) F.2.2.length).getD j dS).2.2 = (F.2.2.getD j dS).2.2 := seatF_tx F (F.1 1) j
        have hiff : (seatN F (F.1 1) F.2.2.length).getD j dS ≠ F.2.2.getD j dS ↔ (((seatN F (F.1 1) F.2.2.length).getD j dS).1 ≠ (F.2.2.getD j dS).1 ∨ ((seatN F (F.1 1) F.2.2.length).getD j dS).2.1 ≠ (F.2.2.getD j dS).2.1) := by
          refine ⟨fun q => ?_, fun q w => ?_⟩
          · by_cases q1 : ((seatN F (F.1 1) F.2.2.length).getD j dS).1 = (F.2.2.getD j dS).1
            · refine Or.inr fun q2 => q ?_
              exact Prod.ext q1 (Prod.ext q2 htx)
            · exact Or.inl q1
          · rw [w] at q
            omega
        refine z_iload_n cx dX5_seatsAll_34 rfl ?_
        refine z_iload_n cx dX5_seatsAll_35 rfl ?_
        refine z_aload_n cx dX5_seatsAll_36 rfl ?_
        refine z_iload_n cx dX5_seatsAll_37 rfl ?_
        refine z_iconst cx dX5_seatsAll_38 ?_
        refine z_vi cx (c_X5_of (20 + 43 * j) (by omega) (by omega)) rfl mv_X5_of ml_X5_43 (by omega) (co_mod E _) rfl dX5_seatsAll_39 (fun z39 G39 hz39 => ?_)
        obtain ⟨eG, rfl⟩ := hz39
        have eG := eG.symm
        subst eG
        rw [u0]
        refine z_icmp_ne cx (tgt := 56) dX5_seatsAll_42 (fun h42 => ?_) (fun h42 => ?_)
        · skip
          refine z_iconst cx dX5_seatsAll_56 ?_
          refine z_goto cx (tgt := 61) dX5_seatsAll_57 ?_
          refine z_iadd cx dX5_seatsAll_61 ?_
          first
          | (have hst : cnt (fun i => (seatN F (F.1 1) F.2.2.length).getD i dS ≠ F.2.2.getD i dS) (j + 1) = cnt (fun i => (seatN F (F.1 1) F.2.2.length).getD i dS ≠ F.2.2.getD i dS) j + 1 := cnt_t (p := (fun i => (seatN F (F.1 1) F.2.2.length).getD i dS ≠ F.2.2.getD i dS)) (n := j) (hiff.mpr (by omega))
             rw [← hst])
          | (have hst : cnt (fun i => (seatN F (F.1 1) F.2.2.length).getD i dS ≠ F.2.2.getD i dS) (j + 1) = cnt (fun i => (seatN F (F.1 1) F.2.2.length).getD i dS ≠ F.2.2.getD i dS) j + 0 := (cnt_f (p := (fun i => (seatN F (F.1 1) F.2.2.length).getD i dS ≠ F.2.2.getD i dS)) (n := j) (fun w => absurd (hiff.mp w) (by omega))).trans (Int.add_zero _).symm
             rw [← hst])
          refine z_istore_n cx dX5_seatsAll_62 ?_
          refine z_iinc cx dX5_seatsAll_63 rfl ?_
          refine z_goto cx (tgt := 4) dX5_seatsAll_66 ?_
          refine Z.locs (ih (j + 1) _ (by omega) (by omega) hz31.1 (hf.tr hz31.2)) ⟨rfl, rfl, rfl, trivial⟩
        · skip
          refine z_iload cx dX5_seatsAll_45 rfl ?_
          refine z_aload_n cx dX5_seatsAll_47 rfl ?_
          refine z_iload_n cx dX5_seatsAll_48 rfl ?_
          refine z_iconst cx dX5_seatsAll_49 ?_
          refine z_vi cx (c_X5_of (20 + 43 * j + 1) (by omega) (by omega)) rfl mv_X5_of ml_X5_43 (by omega) (co_mod E _) rfl dX5_seatsAll_50 (fun z50 G50 hz50 => ?_)
          obtain ⟨eG, rfl⟩ := hz50
          have eG := eG.symm
          subst eG
          rw [u1]
          refine z_icmp_eq cx (tgt := 60) dX5_seatsAll_53 (fun h53 => ?_) (fun h53 => ?_)
          · skip
            refine z_iconst cx dX5_seatsAll_60 ?_
            refine z_iadd cx dX5_seatsAll_61 ?_
            first
            | (have hst : cnt (fun i => (seatN F (F.1 1) F.2.2.length).getD i dS ≠ F.2.2.getD i dS) (j + 1) = cnt (fun i => (seatN F (F.1 1) F.2.2.length).getD i dS ≠ F.2.2.getD i dS) j + 1 := cnt_t (p := (fun i => (seatN F (F.1 1) F.2.2.length).getD i dS ≠ F.2.2.getD i dS)) (n := j) (hiff.mpr (by omega))
               rw [← hst])
            | (have hst : cnt (fun i => (seatN F (F.1 1) F.2.2.length).getD i dS ≠ F.2.2.getD i dS) (j + 1) = cnt (fun i => (seatN F (F.1 1) F.2.2.length).getD i dS ≠ F.2.2.getD i dS) j + 0 := (cnt_f (p := (fun i => (seatN F (F.1 1) F.2.2.length).getD i dS ≠ F.2.2.getD i dS)) (n := j) (fun w => absurd (hiff.mp w) (by omega))).trans (Int.add_zero _).symm
               rw [← hst])
            refine z_istore_n cx dX5_seatsAll_62 ?_
            refine z_iinc cx dX5_seatsAll_63 rfl ?_
            refine z_goto cx (tgt := 4) dX5_seatsAll_66 ?_
            refine Z.locs (ih (j + 1) _ (by omega) (by omega) hz31.1 (hf.tr hz31.2)) ⟨rfl, rfl, rfl, trivial⟩
          · skip
            refine z_iconst cx dX5_seatsAll_56 ?_
            refine z_goto cx (tgt := 61) dX5_seatsAll_57 ?_
            refine z_iadd cx dX5_seatsAll_61 ?_
            first
            | (have hst : cnt (fun i => (seatN F (F.1 1) F.2.2.length).getD i dS ≠ F.2.2.getD i dS) (j + 1) = cnt (fun i => (seatN F (F.1 1) F.2.2.length).getD i dS ≠ F.2.2.getD i dS) j + 1 := cnt_t (p := (fun i => (seatN F (F.1 1) F.2.2.length).getD i dS ≠ F.2.2.getD i dS)) (n := j) (hiff.mpr (by omega))
               rw [← hst])
            | (have hst : cnt (fun i => (seatN F (F.1 1) F.2.2.length).getD i dS ≠ F.2.2.getD i dS) (j + 1) = cnt (fun i => (seatN F (F.1 1) F.2.2.length).getD i dS ≠ F.2.2.getD i dS) j + 0 := (cnt_f (p := (fun i => (seatN F (F.1 1) F.2.2.length).getD i dS ≠ F.2.2.getD i dS)) (n := j) (fun w => absurd (hiff.mp w) (by omega))).trans (Int.add_zero _).symm
               rw [← hst])
            refine z_istore_n cx dX5_seatsAll_62 ?_
            refine z_iinc cx dX5_seatsAll_63 rfl ?_
            refine z_goto cx (tgt := 4) dX5_seatsAll_66 ?_
            refine Z.locs (ih (j + 1) _ (by omega) (by omega) hz31.1 (hf.tr hz31.2)) ⟨rfl, rfl, rfl, trivial⟩
  refine z_iconst cx dX5_seatsAll_0 ?_
  refine z_istore_n cx dX5_seatsAll_1 ?_
  refine z_iconst cx dX5_seatsAll_2 ?_
  refine z_istore_n cx dX5_seatsAll_3 ?_
  refine Z.locs (L4 _ (0) _ (Nat.lt_succ_self _) (by omega) hM FrM.rf) ⟨rfl, rfl, rfl, trivial⟩
