/-! ===== the model: uncut, split ===== -/
set_option maxRecDepth 100000 in
set_option maxHeartbeats 4000000 in
theorem c_X5_uncut {E : En} {G : Wd} {A : Ast} (hR : MRel G A) (hA : AOk A) {x : Int} (hx : -2147483648 ≤ x ∧ x < 2147483648) : Cti E yX5_uncut cX5_uncut 4 .int 2 46 [.ref (E.1 6), .int (iN (x))] G (fun z G' => z = (s_uncut A x).1 ∧ MRel G' (s_uncut A x).2 ∧ CFx G G') := by
  have hM := hR.1
  have hO := hA.1
  obtain ⟨m0, mV, m7, mC, mS⟩ := id hM
  obtain ⟨hOv, hOc, hOs⟩ := id hO
  have hl20 := hOs.1
  have hl12 := hOc.1
  obtain ⟨hv0, hv1, hv2, hv3, hv4, hv5⟩ := id hOv
  have v0 : G 20 0 1 = A.1.1 0 := mV 0 (by omega)
  have v1 : G 20 0 2 = A.1.1 1 := mV 1 (by omega)
  have v2 : G 20 0 3 = A.1.1 2 := mV 2 (by omega)
  have v3 : G 20 0 4 = A.1.1 3 := mV 3 (by omega)
  have v4 : G 20 0 5 = A.1.1 4 := mV 4 (by omega)
  have v5 : G 20 0 6 = A.1.1 5 := mV 5 (by omega)
  refine Cti.mk [some (.ref (E.1 6)), some (.int (iN (x))), none, none] (by decide) rfl (by intro v hv; simp only [List.mem_cons, List.not_mem_nil, or_false] at hv; rcases hv with rfl | rfl <;> rfl) (Nat.le_of_ble_eq_true rfl) ?_
  intro p l e s m args below meth c cx
  have L29 : ∀ (n : Nat) (k pl : Nat) (GB G1 : Wd), (60 - k) < n → (pl ≤ k ∧ k ≤ 12) → (pl < A.1.2.1.length) → (A.1.2.1.getD pl 0 = x) → (MMid GB A A.1) → (CFx G GB) → (G1 20 0 7 = (A.1.2.1.length : Int) - 1) → (∀ j, j ≠ 7 → (j < 8 + pl ∨ 8 + k ≤ j) → G1 20 0 j = GB 20 0 j) → (∀ j, pl ≤ j → j < k → j < A.1.2.1.length - 1 → G1 20 0 (8 + j) = GB 20 0 (8 + j + 1)) → (FrM GB G1) → Z p l e (zr 2 46) s m args below meth c 4 0 0 E (Qi_ E below args s (fun z G' => z = (s_uncut A x).1 ∧ MRel G' (s_uncut A x).2 ∧ CFx G G')) G1 29 [some (.ref (E.1 6)), some (.int (iN (x))), some (.int (iN ((pl : Int)))), some (.int (iN ((k : Int))))] [] := by
    intro n
    induction n with
    | zero =>
      intro k pl GB G1 hmu
      exact absurd hmu (Nat.not_lt_zero _)
    | succ n ih =>
      intro k pl GB G1 hmu hk hpl hpx hMid hBc h7 hk1 hk2 hf
      refine z_iload_n cx dX5_uncut_29 rfl ?_
      refine z_bipush cx dX5_uncut_30 ?_
      refine z_icmp_ge cx (tgt := 76) dX5_uncut_32 (fun h32 => ?_) (fun h32 => ?_)
      · skip
        refine z_aload_n cx dX5_uncut_76 rfl ?_
        refine z_aload_n cx dX5_uncut_77 rfl ?_
        refine g_X5_0 cx fl_X5_7 dX5_uncut_78 ?_
        refine z_bipush cx dX5_uncut_81 ?_
        refine z_iald cx (7) (by omega) (by omega) (co_s E _) dX5_uncut_83 ?_
        rw [h7]
        refine z_vi cx (c_X5_records (F := (A.1.1, A.1.2.1.eraseIdx pl, A.1.2.2)) (hMid.fr hf (mcutD hMid.1 hO.W hpl h7 (fun j h1 h2 => hk1 j h1 (by omega)) (fun j h1 h2 => hk2 j h1 (by omega) h2))) hA) rfl mv_X5_records ml_X5_159 (by omega) (co_mod E _) rfl dX5_uncut_84 (fun z84 G84 hz84 => ?_)
        obtain ⟨rfl, hrmhz84, hrchz84⟩ := hz84
        refine z_iret cx dX5_uncut_87 ?_
        rw [show s_uncut A x = ((A.1.2.1.length : Int) - 1, act A (A.1.1, A.1.2.1.eraseIdx pl, A.1.2.2)) from by unfold s_uncut; rw [if_pos ⟨pl, hpl, hpx⟩, cidx_of hOc hpl hpx]]
        exact ⟨rfl, hrmhz84, hBc.tr (hf.cfx.tr hrchz84)⟩
      · skip
        refine z_aload_n cx dX5_uncut_35 rfl ?_
        refine g_X5_0 cx fl_X5_7 dX5_uncut_36 ?_
        refine z_bipush cx dX5_uncut_39 ?_
        refine z_iload_n cx dX5_uncut_41 rfl ?_
        refine z_iadd cx dX5_uncut_42 ?_
        refine z_iload_n cx dX5_uncut_43 rfl ?_
        refine z_aload_n cx dX5_uncut_44 rfl ?_
        refine g_X5_0 cx fl_X5_7 dX5_uncut_45 ?_
        refine z_bipush cx dX5_uncut_48 ?_
        refine z_iald cx (7) (by omega) (by omega) (co_s E _) dX5_uncut_50 ?_
        refine z_icmp_ge cx (tgt := 68) dX5_uncut_51 (fun h51 => ?_) (fun h51 => ?_)
        · skip
          refine z_iconst cx dX5_uncut_68 ?_
          refine z_iast cx (8 + k) (by omega) (by omega) rfl (fun G => co_s E G) dX5_uncut_69 ?_
          refine z_iinc cx dX5_uncut_70 rfl ?_
          refine z_goto cx (tgt := 29) dX5_uncut_73 ?_
          refine Z.locs (ih (k + 1) (pl) (GB) _ (by omega) (by omega) hpl hpx hMid hBc (by rw [gup_i _ _ _ _ _ (by omega)]; exact h7) (fun j h1 h2 => by rw [gup_i _ _ _ _ _ (by omega)]; exact hk1 j h1 (by omega)) ?_ hf.up) ⟨rfl, rfl, rfl, rfl, trivial⟩
          intro j h1 h2 h3
          by_cases w : j = k
          · subst w
            first
            | (exfalso; omega)
            | (rw [gup_s]; exact hk1 _ (by omega) (by omega))
          · rw [gup_i _ _ _ _ _ (by omega)]
            exact hk2 j h1 (by omega) h3
        · skip
          refine z_aload_n cx dX5_uncut_54 rfl ?_
          refine g_X5_0 cx fl_X5_7 dX5_uncut_55 ?_
          refine z_bipush cx dX5_uncut_58 ?_
          refine z_iload_n cx dX5_uncut_60 rfl ?_
          refine z_iadd cx dX5_uncut_61 ?_
          refine z_iconst cx dX5_uncut_62 ?_
          refine z_iadd cx dX5_uncut_63 ?_
          refine z_iald cx (8 + k + 1) (by omega) (by omega) (co_s E _) dX5_uncut_64 ?_
          refine z_goto cx (tgt := 69) dX5_uncut_65 ?_
          refine z_iast cx (8 + k) (by omega) (by omega) rfl (fun G => co_s E G) dX5_uncut_69 ?_
          refine z_iinc cx dX5_uncut_70 rfl ?_
          refine z_goto cx (tgt := 29) dX5_uncut_73 ?_
          refine Z.locs (ih (k + 1) (pl) (GB) _ (by omega) (by omega) hpl hpx hMid hBc (by rw [gup_i _ _ _ _ _ (by omega)]; exact h7) (fun j h1 h2 => by rw [gup_i _ _ _ _ _ (by omega)]; exact hk1 j h1 (by omega)) ?_ hf.up) ⟨rfl, rfl, rfl, rfl, trivial⟩
          intro j h1 h2 h3
          by_cases w : j = k
          · subst w
            first
            | (exfalso; omega)
            | (rw [gup_s]; exact hk1 _ (by omega) (by omega))
          · rw [gup_i _ _ _ _ _ (by omega)]
            exact hk2 j h1 (by omega) h3
  refine z_aload_n cx dX5_uncut_0 rfl ?_
  refine z_iload_n cx dX5_uncut_1 rfl ?_
  refine z_vi cx (c_X5_placeOfCut (C := A.1.2.1) m7 mC hOc (by omega)) rfl mv_X5_placeOfCut ml_X5_183 (by omega) (co_mod E _) rfl dX5_uncut_2 (fun z2 G2 hz2 => ?_)
  obtain ⟨eG, hz2⟩ := hz2
  have eG := eG.symm
  subst eG
  refine z_istore_n cx dX5_uncut_5 ?_
  have hz2b : -1 ≤ z2 ∧ z2 < 100 := by
    rcases hz2 with ⟨w, -⟩ | ⟨i, w, w2, -⟩ <;> omega
  refine z_iload_n cx dX5_uncut_6 rfl ?_
  refine z_if_ge cx (tgt := 12) dX5_uncut_7 (fun h7 => ?_) (fun h7 => ?_)
  · skip
    obtain ⟨pl, hzp, hpl, hpx⟩ : ∃ i : Nat, z2 = i ∧ i < A.1.2.1.length ∧ A.1.2.1.getD i 0 = x := by
      rcases hz2 with ⟨w, -⟩ | w
      · exfalso; omega
      · exact w
    clear hz2
    subst hzp
    refine z_aload_n cx dX5_uncut_12 rfl ?_
    refine z_vv cx (c_X5_begins) rfl mv_X5_begins ml_X5_147 (by omega) (co_mod E _) rfl dX5_uncut_13 (fun G13 hz13 => ?_)
    obtain ⟨hMid, hBc, hBs⟩ := begins_mid hR hA hz13
    have bM := hMid.1
    refine z_aload_n cx dX5_uncut_16 rfl ?_
    refine g_X5_0 cx fl_X5_7 dX5_uncut_17 ?_
    refine z_bipush cx dX5_uncut_20 ?_
    refine z_dup2 cx dX5_uncut_22 ?_
    refine z_iald cx (7) (by omega) (by omega) (co_s E _) dX5_uncut_23 ?_
    refine z_iconst cx dX5_uncut_24 ?_
    refine z_isub cx dX5_uncut_25 ?_
    refine z_iast cx (7) (by omega) (by omega) rfl (fun G => co_s E G) dX5_uncut_26 ?_
    refine z_iload_n cx dX5_uncut_27 rfl ?_
    refine z_istore_n cx dX5_uncut_28 ?_
    refine Z.locs (L29 _ (pl) (pl) _ _ (Nat.lt_succ_self _) (by omega) hpl hpx hMid hBc (by rw [gup_s, hBs 20 7 (by decide), m7]) (fun j h1 _ => by rw [gup_i _ _ _ _ _ h1]) (fun j h1 h2 => by omega) FrM.rf.up) ⟨rfl, rfl, rfl, rfl, trivial⟩
  · skip
    have hnone : ¬ hasC A.1.2.1 x := by
      rintro ⟨i, w1, w2⟩
      rcases hz2 with ⟨-, w⟩ | ⟨i2, w, -⟩
      · exact w i w1 w2
      · omega
    refine z_iconst cx dX5_uncut_10 ?_
    refine z_iret cx dX5_uncut_11 ?_
    rw [show s_uncut A x = (-1, A) from by unfold s_uncut; rw [if_neg hnone]]
    exact ⟨rfl, hR, CFx.rf⟩
theorem gup4 {G : Wd} {a b c d : Nat} {u v w x : Int} {j : Nat} (h1 : j ≠ a) (h2 : j ≠ b) (h3 : j ≠ c) (h4 : j ≠ d) : gup (gup (gup (gup G 20 0 a u) 20 0 b v) 20 0 c w) 20 0 d x 20 0 j = G 20 0 j := by
  rw [gup_i _ _ _ _ _ h4, gup_i _ _ _ _ _ h3, gup_i _ _ _ _ _ h2, gup_i _ _ _ _ _ h1]
set_option maxRecDepth 100000 in
set_option maxHeartbeats 4000000 in
theorem c_X5_splits {E : En} {G : Wd} {F : Fm} {b : Nat} (hM : MFilm (G 20 0) F) (hO : FOk F) {x : Int} {i : Nat} (hx : x = (i : Int)) (hi : i < F.2.2.length) (hn20 : F.2.2.length < 20) (hb : bBl (F.2.2.getD i dS).2.2 = (b : Int)) (hb1 : 1 ≤ b ∧ b + 1 < (F.2.2.getD i dS).2.2.length) (hd : 2 ≤ ((F.2.2.getD i dS).2.1 - (F.2.2.getD i dS).1 - F.1 1)) : Cti E yX5_splits cX5_splits 8 .int 4 94 [.ref (E.1 6), .int (iN (x))] G (fun z G' => z = (b : Int) ∧ MFilm (G' 20 0) (splF F i b) ∧ FrM G G') := by
  obtain ⟨m0, mV, m7, mC, mS⟩ := id hM
  obtain ⟨hOv, hOc, hOs⟩ := id hO
  have hl20 := hOs.1
  have hl12 := hOc.1
  obtain ⟨hv0, hv1, hv2, hv3, hv4, hv5⟩ := id hOv
  have v0 : G 20 0 1 = F.1 0 := mV 0 (by omega)
  have v1 : G 20 0 2 = F.1 1 := mV 1 (by omega)
  have v2 : G 20 0 3 = F.1 2 := mV 2 (by omega)
  have v3 : G 20 0 4 = F.1 3 := mV 3 (by omega)
  have v4 : G 20 0 5 = F.1 4 := mV 4 (by omega)
  have v5 : G 20 0 6 = F.1 5 := mV 5 (by omega)
  have hs_ := mS (i) (by omega)
  have ho := hOs.2.1 (i) (by omega)
  have t0 := hs_.1
  have t1 := hs_.2.1
  have t2 := hs_.2.2.1
  have t3 := hs_.2.2.2
  have o1 := ho.1
  have o2 := ho.2.1
  have o3 := ho.2.2.1
  have o4 := ho.2.2.2.1
  have o5 := ho.2.2.2.2.1
  have hdb : 0 ≤ ((F.2.2.getD i dS).2.1 - (F.2.2.getD i dS).1 - F.1 1) * (b : Int) ∧ ((F.2.2.getD i dS).2.1 - (F.2.2.getD i dS).1 - F.1 1) * (b : Int) ≤ 200000 := by
    have q1 := Int.mul_le_mul (show ((F.2.2.getD i dS).2.1 - (F.2.2.getD i dS).1 - F.1 1) ≤ 5000 by omega) (show (b : Int) ≤ 40 by omega) (by omega) (by omega)
    have q2 := Int.mul_nonneg (show 0 ≤ ((F.2.2.getD i dS).2.1 - (F.2.2.getD i dS).1 - F.1 1) by omega) (show (0 : Int) ≤ (b : Int) by omega)
    omega
  have hdq : 0 ≤ ((F.2.2.getD i dS).2.1 - (F.2.2.getD i dS).1 - F.1 1) * (b : Int) / (((F.2.2.getD i dS).2.2.length : Int) - 1) := Int.ediv_nonneg hdb.1 (by omega)
  have hdq2 : ((F.2.2.getD i dS).2.1 - (F.2.2.getD i dS).1 - F.1 1) * (b : Int) / (((F.2.2.getD i dS).2.2.length : Int) - 1) ≤ ((F.2.2.getD i dS).2.1 - (F.2.2.getD i dS).1 - F.1 1) * (b : Int) := Int.ediv_le_self _ hdb.1
  obtain ⟨qq, hqq⟩ : ∃ q : Int, q = ((F.2.2.getD i dS).2.1 - (F.2.2.getD i dS).1 - F.1 1) * (b : Int) / (((F.2.2.getD i dS).2.2.length : Int) - 1) := ⟨_, rfl⟩
  rw [← hqq] at hdq hdq2
  obtain ⟨ow, how⟩ : ∃ q : Int, q = max 1 (min (((F.2.2.getD i dS).2.1 - (F.2.2.getD i dS).1 - F.1 1) * (b : Int) / (((F.2.2.getD i dS).2.2.length : Int) - 1)) (((F.2.2.getD i dS).2.1 - (F.2.2.getD i dS).1 - F.1 1) - 1)) := ⟨_, rfl⟩
  have how2 : ow = max 1 (min qq (((F.2.2.getD i dS).2.1 - (F.2.2.getD i dS).1 - F.1 1) - 1)) := by rw [how, hqq]
  refine Cti.mk [some (.ref (E.1 6)), some (.int (iN (x))), none, none, none, none, none, none] (by decide) rfl (by intro v hv; simp only [List.mem_cons, List.not_mem_nil, or_false] at hv; rcases hv with rfl | rfl <;> rfl) (Nat.le_of_ble_eq_true rfl) ?_
  intro p l e s m args below meth c cx
  have L142 : ∀ (n : Nat) (k : Nat) (G4 G1 : Wd), (60 - k) < n → (b ≤ k ∧ k ≤ (F.2.2.getD i dS).2.2.length) → (MOpen G G4 (i + 1) F.2.2.length) → (G1 20 0 (20 + 43 * i) = (F.2.2.getD i dS).1) → (G1 20 0 (20 + 43 * i + 1) = (F.2.2.getD i dS).1 + ow) → (G1 20 0 (20 + 43 * (i + 1)) = (F.2.2.getD i dS).1 + ow + F.1 1) → (G1 20 0 (20 + 43 * (i + 1) + 1) = (F.2.2.getD i dS).2.1) → (G1 20 0 (20 + 43 * (i + 1) + 2) = ((F.2.2.getD i dS).2.2.length : Int) - b - 1) → (∀ j, j < (F.2.2.getD i dS).2.2.length → (j < b ∨ k ≤ j) → G1 20 0 (20 + 43 * i + 3 + j) = (F.2.2.getD i dS).2.2.getD j 0) → (∀ j, b + 1 + j < k → G1 20 0 (20 + 43 * (i + 1) + 3 + j) = (F.2.2.getD i dS).2.2.getD (b + 1 + j) 0) → (∀ j, ¬ (20 + 43 * i ≤ j ∧ j < 20 + 43 * i + 86) → G1 20 0 j = G4 20 0 j) → (FrM G G1) → Z p l e (zr 4 94) s m args below meth c 8 0 0 E (Qi_ E below args s (fun z G' => z = (b : Int) ∧ MFilm (G' 20 0) (splF F i b) ∧ FrM G G')) G1 142 [some (.ref (E.1 6)), some (.int (iN (x))), some (.int (iN ((b : Int)))), some (.int (iN (((F.2.2.getD i dS).2.2.length : Int)))), none, none, none, some (.int (iN ((k : Int))))] [] := by
    intro n
    induction n with
    | zero =>
      intro k G4 G1 hmu
      exact absurd hmu (Nat.not_lt_zero _)
    | succ n ih =>
      intro k G4 G1 hmu hk hop a0 a1 b0 b1 b2 a8 b8 gf hf
      refine z_iload cx dX5_splits_142 rfl ?_
      refine z_iload_n cx dX5_splits_144 rfl ?_
      refine z_icmp_ge cx (tgt := 192) dX5_splits_145 (fun h145 => ?_) (fun h145 => ?_)
      · skip
        refine z_aload_n cx dX5_splits_192 rfl ?_
        refine z_iload_n cx dX5_splits_193 rfl ?_
        refine z_iconst cx dX5_splits_194 ?_
        refine z_iload_n cx dX5_splits_195 rfl ?_
        refine z_vv cx (c_X5_lays (20 + 43 * i + 2) (by omega) (by omega)) rfl mv_X5_lays ml_X5_51 (by omega) (co_mod E _) rfl dX5_splits_196 (fun G196 hz196 => ?_)
        subst hz196
        refine z_iload_n cx dX5_splits_199 rfl ?_
        refine z_iret cx dX5_splits_200 ?_
        refine ⟨rfl, ?_, hf.up⟩
        unfold splF
        rw [← how]
        refine msplit hop hM hO.W hi ⟨?_, ?_, ?_, fun j hj => ?_⟩ ⟨?_, ?_, ?_, fun j hj => ?_⟩ (fun j hj => ?_)
        · rw [gup_i _ _ _ _ _ (by omega)]; exact a0
        · rw [gup_i _ _ _ _ _ (by omega)]; exact a1
        · rw [gup_s]
          dsimp only
          rw [List.length_take]
          omega
        · dsimp only at hj ⊢
          rw [List.length_take] at hj
          rw [gup_i _ _ _ _ _ (by omega), takeL (by omega)]
          exact a8 j (by omega) (by omega)
        · rw [gup_i _ _ _ _ _ (by omega)]; exact b0
        · rw [gup_i _ _ _ _ _ (by omega)]; exact b1
        · rw [gup_i _ _ _ _ _ (by omega), b2]
          dsimp only
          rw [List.length_drop]
          omega
        · dsimp only at hj ⊢
          rw [List.length_drop] at hj
          rw [gup_i _ _ _ _ _ (by omega), dropL]
          exact b8 j (by omega)
        · rw [gup_i _ _ _ _ _ (by omega)]
          exact gf j hj
      · skip
        have e8 := a8 k (by omega) (by omega)
        refine z_iload cx dX5_splits_148 rfl ?_
        refine z_iload_n cx dX5_splits_150 rfl ?_
        refine z_icmp_le cx (tgt := 176) dX5_splits_151 (fun h151 => ?_) (fun h151 => ?_)
        · skip
          refine z_aload_n cx dX5_splits_176 rfl ?_
          refine z_iload_n cx dX5_splits_177 rfl ?_
          refine z_iconst cx dX5_splits_178 ?_
          refine z_iload cx dX5_splits_179 rfl ?_
          refine z_iadd cx dX5_splits_181 ?_
          refine z_iconst cx dX5_splits_182 ?_
          refine z_vv cx (c_X5_lays (20 + 43 * i + 3 + k) (by omega) (by omega)) rfl mv_X5_lays ml_X5_51 (by omega) (co_mod E _) rfl dX5_splits_183 (fun G183 hz183 => ?_)
          subst hz183
          refine z_iinc cx dX5_splits_186 rfl ?_
          refine z_goto cx (tgt := 142) dX5_splits_189 ?_
          refine Z.locs (ih (k + 1) (G4) _ (by omega) (by omega) hop (by (first | (rw [gup_i _ _ _ _ _ (by omega), gup_i _ _ _ _ _ (by omega)]) | (rw [gup_i _ _ _ _ _ (by omega)])); exact a0) (by (first | (rw [gup_i _ _ _ _ _ (by omega), gup_i _ _ _ _ _ (by omega)]) | (rw [gup_i _ _ _ _ _ (by omega)])); exact a1) (by (first | (rw [gup_i _ _ _ _ _ (by omega), gup_i _ _ _ _ _ (by omega)]) | (rw [gup_i _ _ _ _ _ (by omega)])); exact b0) (by (first | (rw [gup_i _ _ _ _ _ (by omega), gup_i _ _ _ _ _ (by omega)]) | (rw [gup_i _ _ _ _ _ (by omega)])); exact b1) (by (first | (rw [gup_i _ _ _ _ _ (by omega), gup_i _ _ _ _ _ (by omega)]) | (rw [gup_i _ _ _ _ _ (by omega)])); exact b2) (fun j h1 h2 => by (first | (rw [gup_i _ _ _ _ _ (by omega), gup_i _ _ _ _ _ (by omega)]) | (rw [gup_i _ _ _ _ _ (by omega)])); exact a8 j h1 (by omega)) ?_ (fun j h1 => by (first | (rw [gup_i _ _ _ _ _ (by omega), gup_i _ _ _ _ _ (by omega)]) | (rw [gup_i _ _ _ _ _ (by omega)])); exact gf j h1) (by first | exact hf.up.up | exact hf.up)) ⟨rfl, rfl, rfl, rfl, rfl, trivial⟩
          intro j h1
          by_cases w : b + 1 + j = k
          · first
            | (exfalso; omega)
            | (rw [gup_i _ _ _ _ _ (by omega), show 20 + 43 * (i + 1) + 3 + j = 20 + 43 * (i + 1) + 3 + (k - b - 1) by omega, gup_s, w]; exact e8)
          · first
            | (rw [gup_i _ _ _ _ _ (by omega), gup_i _ _ _ _ _ (by omega)]; exact b8 j (by omega))
            | (rw [gup_i _ _ _ _ _ (by omega)]; exact b8 j (by omega))
        · skip
          refine z_aload_n cx dX5_splits_154 rfl ?_
          refine z_iload_n cx dX5_splits_155 rfl ?_
          refine z_iconst cx dX5_splits_156 ?_
          refine z_iadd cx dX5_splits_157 ?_
          refine z_iconst cx dX5_splits_158 ?_
          refine z_iload cx dX5_splits_159 rfl ?_
          refine z_iadd cx dX5_splits_161 ?_
          refine z_iload_n cx dX5_splits_162 rfl ?_
          refine z_isub cx dX5_splits_163 ?_
          refine z_iconst cx dX5_splits_164 ?_
          refine z_isub cx dX5_splits_165 ?_
          refine z_aload_n cx dX5_splits_166 rfl ?_
          refine z_iload_n cx dX5_splits_167 rfl ?_
          refine z_iload cx dX5_splits_168 rfl ?_
          refine z_vi cx (c_X5_letter (20 + 43 * i + 3 + k) (by omega) (by omega)) rfl mv_X5_letter ml_X5_59 (by omega) (co_mod E _) rfl dX5_splits_170 (fun z170 G170 hz170 => ?_)
          obtain ⟨eG, rfl⟩ := hz170
          have eG := eG.symm
          subst eG
          refine z_vv cx (c_X5_lays (20 + 43 * (i + 1) + 3 + (k - b - 1)) (by omega) (by omega)) rfl mv_X5_lays ml_X5_51 (by omega) (co_mod E _) rfl dX5_splits_173 (fun G173 hz173 => ?_)
          subst hz173
          refine z_aload_n cx dX5_splits_176 rfl ?_
          refine z_iload_n cx dX5_splits_177 rfl ?_
          refine z_iconst cx dX5_splits_178 ?_
          refine z_iload cx dX5_splits_179 rfl ?_
          refine z_iadd cx dX5_splits_181 ?_
          refine z_iconst cx dX5_splits_182 ?_
          refine z_vv cx (c_X5_lays (20 + 43 * i + 3 + k) (by omega) (by omega)) rfl mv_X5_lays ml_X5_51 (by omega) (co_mod E _) rfl dX5_splits_183 (fun G183 hz183 => ?_)
          subst hz183
          refine z_iinc cx dX5_splits_186 rfl ?_
          refine z_goto cx (tgt := 142) dX5_splits_189 ?_
          refine Z.locs (ih (k + 1) (G4) _ (by omega) (by omega) hop (by (first | (rw [gup_i _ _ _ _ _ (by omega), gup_i _ _ _ _ _ (by omega)]) | (rw [gup_i _ _ _ _ _ (by omega)])); exact a0) (by (first | (rw [gup_i _ _ _ _ _ (by omega), gup_i _ _ _ _ _ (by omega)]) | (rw [gup_i _ _ _ _ _ (by omega)])); exact a1) (by (first | (rw [gup_i _ _ _ _ _ (by omega), gup_i _ _ _ _ _ (by omega)]) | (rw [gup_i _ _ _ _ _ (by omega)])); exact b0) (by (first | (rw [gup_i _ _ _ _ _ (by omega), gup_i _ _ _ _ _ (by omega)]) | (rw [gup_i _ _ _ _ _ (by omega)])); exact b1) (by (first | (rw [gup_i _ _ _ _ _ (by omega), gup_i _ _ _ _ _ (by omega)]) | (rw [gup_i _ _ _ _ _ (by omega)])); exact b2) (fun j h1 h2 => by (first | (rw [gup_i _ _ _ _ _ (by omega), gup_i _ _ _ _ _ (by omega)]) | (rw [gup_i _ _ _ _ _ (by omega)])); exact a8 j h1 (by omega)) ?_ (fun j h1 => by (first | (rw [gup_i _ _ _ _ _ (by omega), gup_i _ _ _ _ _ (by omega)]) | (rw [gup_i _ _ _ _ _ (by omega)])); exact gf j h1) (by first | exact hf.up.up | exact hf.up)) ⟨rfl, rfl, rfl, rfl, rfl, trivial⟩
          intro j h1
          by_cases w : b + 1 + j = k
          · first
            | (exfalso; omega)
            | (rw [gup_i _ _ _ _ _ (by omega), show 20 + 43 * (i + 1) + 3 + j = 20 + 43 * (i + 1) + 3 + (k - b - 1) by omega, gup_s, w]; exact e8)
          · first
            | (rw [gup_i _ _ _ _ _ (by omega), gup_i _ _ _ _ _ (by omega)]; exact b8 j (by omega))
            | (rw [gup_i _ _ _ _ _ (by omega)]; exact b8 j (by omega))
  have L64 : ∀ (oo : Int), (oo = ow) → Z p l e (zr 4 94) s m args below meth c 8 0 0 E (Qi_ E below args s (fun z G' => z = (b : Int) ∧ MFilm (G' 20 0) (splF F i b) ∧ FrM G G')) G 64 [some (.ref (E.1 6)), some (.int (iN (x))), some (.int (iN ((b : Int)))), some (.int (iN (((F.2.2.getD i dS).2.2.length : Int)))), some (.int (iN (((F.2.2.getD i dS).2.1 - (F.2.2.getD i dS).1 - F.1 1)))), none, none, none] [.int (iN (oo))] := by
    intro oo hoo
    refine z_istore cx dX5_splits_64 ?_
    rw [hoo]
    refine z_aload_n cx dX5_splits_66 rfl ?_
    refine z_iload_n cx dX5_splits_67 rfl ?_
    refine z_iconst cx dX5_splits_68 ?_
    refine z_vi cx (c_X5_of (20 + 43 * i + 1) (by omega) (by omega)) rfl mv_X5_of ml_X5_43 (by omega) (co_mod E _) rfl dX5_splits_69 (fun z69 G69 hz69 => ?_)
    obtain ⟨eG, rfl⟩ := hz69
    have eG := eG.symm
    subst eG
    rw [t1]
    refine z_istore cx dX5_splits_72 ?_
    refine z_aload_n cx dX5_splits_74 rfl ?_
    refine z_iload_n cx dX5_splits_75 rfl ?_
    refine z_iconst cx dX5_splits_76 ?_
    refine z_iadd cx dX5_splits_77 ?_
    refine z_vv cx (c_X5_opens (i + 1) F.2.2.length (by omega) m0 (by omega)) rfl mv_X5_opens ml_X5_144 (by omega) (co_mod E _) rfl dX5_splits_78 (fun G78 hz78 => ?_)
    have hrow : ∀ w, w < 43 → G78 20 0 (20 + 43 * i + w) = G 20 0 (20 + 43 * i + w) := fun w hw => by rw [hz78.2.2 _ (by omega) (by omega), if_neg (by omega)]
    have u0 : G78 20 0 (20 + 43 * i) = (F.2.2.getD i dS).1 := (hrow 0 (by omega)).trans t0
    have u3 : ∀ j, j < (F.2.2.getD i dS).2.2.length → G78 20 0 (20 + 43 * i + 3 + j) = (F.2.2.getD i dS).2.2.getD j 0 := fun j hj => by
      have q := hrow (3 + j) (by omega)
      rw [← Nat.add_assoc] at q
      exact q.trans (t3 j hj)
    have u2 : G78 20 0 2 = F.1 1 := by
      rw [hz78.2.2 _ (by omega) (by omega), if_neg (by omega)]
      exact v1
    refine z_aload_n cx dX5_splits_81 rfl ?_
    refine z_iload_n cx dX5_splits_82 rfl ?_
    refine z_iconst cx dX5_splits_83 ?_
    refine z_aload_n cx dX5_splits_84 rfl ?_
    refine z_iload_n cx dX5_splits_85 rfl ?_
    refine z_iconst cx dX5_splits_86 ?_
    refine z_vi cx (c_X5_of (20 + 43 * i) (by omega) (by omega)) rfl mv_X5_of ml_X5_43 (by omega) (co_mod E _) rfl dX5_splits_87 (fun z87 G87 hz87 => ?_)
    obtain ⟨eG, rfl⟩ := hz87
    have eG := eG.symm
    subst eG
    refine z_iload cx dX5_splits_90 rfl ?_
    rw [u0]
    refine z_iadd cx dX5_splits_92 ?_
    refine z_vv cx (c_X5_lays (20 + 43 * i + 1) (by omega) (by omega)) rfl mv_X5_lays ml_X5_51 (by omega) (co_mod E _) rfl dX5_splits_93 (fun G93 hz93 => ?_)
    subst hz93
    refine z_aload_n cx dX5_splits_96 rfl ?_
    refine z_iload_n cx dX5_splits_97 rfl ?_
    refine z_iconst cx dX5_splits_98 ?_
    refine z_iadd cx dX5_splits_99 ?_
    refine z_iconst cx dX5_splits_100 ?_
    refine z_aload_n cx dX5_splits_101 rfl ?_
    refine z_iload_n cx dX5_splits_102 rfl ?_
    refine z_iconst cx dX5_splits_103 ?_
    refine z_vi cx (c_X5_of (20 + 43 * i + 1) (by omega) (by omega)) rfl mv_X5_of ml_X5_43 (by omega) (co_mod E _) rfl dX5_splits_104 (fun z104 G104 hz104 => ?_)
    obtain ⟨eG, rfl⟩ := hz104
    have eG := eG.symm
    subst eG
    refine z_aload_n cx dX5_splits_107 rfl ?_
    refine z_iconst cx dX5_splits_108 ?_
    refine z_vi cx (c_X5_its 2 rfl (by omega)) rfl mv_X5_its ml_X5_47 (by omega) (co_mod E _) rfl dX5_splits_109 (fun z109 G109 hz109 => ?_)
    obtain ⟨eG, rfl⟩ := hz109
    have eG := eG.symm
    subst eG
    rw [gup_s, gup_i _ _ _ _ _ (by omega), u2]
    refine z_iadd cx dX5_splits_112 ?_
    refine z_vv cx (c_X5_lays (20 + 43 * (i + 1)) (by omega) (by omega)) rfl mv_X5_lays ml_X5_51 (by omega) (co_mod E _) rfl dX5_splits_113 (fun G113 hz113 => ?_)
    subst hz113
    refine z_aload_n cx dX5_splits_116 rfl ?_
    refine z_iload_n cx dX5_splits_117 rfl ?_
    refine z_iconst cx dX5_splits_118 ?_
    refine z_iadd cx dX5_splits_119 ?_
    refine z_iconst cx dX5_splits_120 ?_
    refine z_iload cx dX5_splits_121 rfl ?_
    refine z_vv cx (c_X5_lays (20 + 43 * (i + 1) + 1) (by omega) (by omega)) rfl mv_X5_lays ml_X5_51 (by omega) (co_mod E _) rfl dX5_splits_123 (fun G123 hz123 => ?_)
    subst hz123
    refine z_aload_n cx dX5_splits_126 rfl ?_
    refine z_iload_n cx dX5_splits_127 rfl ?_
    refine z_iconst cx dX5_splits_128 ?_
    refine z_iadd cx dX5_splits_129 ?_
    refine z_iconst cx dX5_splits_130 ?_
    refine z_iload_n cx dX5_splits_131 rfl ?_
    refine z_iload_n cx dX5_splits_132 rfl ?_
    refine z_isub cx dX5_splits_133 ?_
    refine z_iconst cx dX5_splits_134 ?_
    refine z_isub cx dX5_splits_135 ?_
    refine z_vv cx (c_X5_lays (20 + 43 * (i + 1) + 2) (by omega) (by omega)) rfl mv_X5_lays ml_X5_51 (by omega) (co_mod E _) rfl dX5_splits_136 (fun G136 hz136 => ?_)
    subst hz136
    refine z_iload_n cx dX5_splits_139 rfl ?_
    refine z_istore cx dX5_splits_140 ?_
    refine Z.locs (L142 _ (b) _ _ (Nat.lt_succ_self _) (by omega) hz78 ?_ ?_ ?_ ?_ ?_ ?_ ?_ ?_ hz78.1.up.up.up.up) ⟨rfl, rfl, rfl, rfl, rfl, trivial⟩
    · rw [gup4 (by omega) (by omega) (by omega) (by omega)]; exact u0
    · rw [gup_i _ _ _ _ _ (by omega), gup_i _ _ _ _ _ (by omega), gup_i _ _ _ _ _ (by omega), gup_s]
    · rw [gup_i _ _ _ _ _ (by omega), gup_i _ _ _ _ _ (by omega), gup_s]
    · rw [gup_i _ _ _ _ _ (by omega), gup_s]
    · rw [gup_s]
    · intro j h1 h2
      rw [gup4 (by omega) (by omega) (by omega) (by omega)]
      exact u3 j h1
    · intro j h1
      omega
    · intro j h1
      rw [gup4 (by omega) (by omega) (by omega) (by omega)]
  refine z_aload_n cx dX5_splits_0 rfl ?_
  refine z_iload_n cx dX5_splits_1 rfl ?_
  refine z_vi cx (c_X5_bestBlank hx hs_ ho (by omega)) rfl mv_X5_bestBlank ml_X5_174 (by omega) (co_mod E _) rfl dX5_splits_2 (fun z2 G2 hz2 => ?_)
  obtain ⟨eG, rfl⟩ := hz2
  have eG := eG.symm
  subst eG
  rw [hb]
  refine z_istore_n cx dX5_splits_5 ?_
  refine z_aload_n cx dX5_splits_6 rfl ?_
  refine z_iload_n cx dX5_splits_7 rfl ?_
  refine z_iconst cx dX5_splits_8 ?_
  refine z_vi cx (c_X5_of (20 + 43 * i + 2) (by omega) (by omega)) rfl mv_X5_of ml_X5_43 (by omega) (co_mod E _) rfl dX5_splits_9 (fun z9 G9 hz9 => ?_)
  obtain ⟨eG, rfl⟩ := hz9
  have eG := eG.symm
  subst eG
  rw [t2]
  refine z_istore_n cx dX5_splits_12 ?_
  refine z_aload_n cx dX5_splits_13 rfl ?_
  refine z_iload_n cx dX5_splits_14 rfl ?_
  refine z_vi cx (c_X5_framesOf (20 + 43 * i) (by omega) (by omega)) rfl mv_X5_framesOf ml_X5_65 (by omega) (co_mod E _) rfl dX5_splits_15 (fun z15 G15 hz15 => ?_)
  obtain ⟨eG, rfl⟩ := hz15
  have eG := eG.symm
  subst eG
  refine z_aload_n cx dX5_splits_18 rfl ?_
  refine z_iconst cx dX5_splits_19 ?_
  refine z_vi cx (c_X5_its 2 rfl (by omega)) rfl mv_X5_its ml_X5_47 (by omega) (co_mod E _) rfl dX5_splits_20 (fun z20 G20 hz20 => ?_)
  obtain ⟨eG, rfl⟩ := hz20
  have eG := eG.symm
  subst eG
  rw [t1, t0, v1]
  refine z_isub cx dX5_splits_23 ?_
  refine z_istore cx dX5_splits_24 ?_
  refine z_iload cx dX5_splits_26 rfl ?_
  refine z_iload_n cx dX5_splits_28 rfl ?_
  refine z_imul cx dX5_splits_29 ?_
  refine z_iload_n cx dX5_splits_30 rfl ?_
  refine z_iconst cx dX5_splits_31 ?_
  refine z_isub cx dX5_splits_32 ?_
  refine z_idiv cx dX5_splits_33 ?_
  rw [← hqq]
  refine z_istore cx dX5_splits_34 ?_
  refine z_iload cx dX5_splits_36 rfl ?_
  refine z_iconst cx dX5_splits_38 ?_
  refine z_icmp_ge cx (tgt := 46) dX5_splits_39 (fun h39 => ?_) (fun h39 => ?_)
  · skip
    refine z_iload cx dX5_splits_46 rfl ?_
    refine z_iload cx dX5_splits_48 rfl ?_
    refine z_iconst cx dX5_splits_50 ?_
    refine z_isub cx dX5_splits_51 ?_
    refine z_icmp_le cx (tgt := 62) dX5_splits_52 (fun h52 => ?_) (fun h52 => ?_)
    · skip
      refine z_iload cx dX5_splits_62 rfl ?_
      refine Z.locs (L64 _ (by omega)) ⟨rfl, rfl, rfl, rfl, rfl, trivial⟩
    · skip
      refine z_iload cx dX5_splits_55 rfl ?_
      refine z_iconst cx dX5_splits_57 ?_
      refine z_isub cx dX5_splits_58 ?_
      refine z_goto cx (tgt := 64) dX5_splits_59 ?_
      refine Z.locs (L64 _ (by omega)) ⟨rfl, rfl, rfl, rfl, rfl, trivial⟩
  · skip
    refine z_iconst cx dX5_splits_42 ?_
    refine z_goto cx (tgt := 64) dX5_splits_43 ?_
    refine Z.locs (L64 _ (by omega)) ⟨rfl, rfl, rfl, rfl, rfl, trivial⟩
