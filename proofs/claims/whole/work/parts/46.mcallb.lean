/-! ===== the model: calls, more ===== -/
set_option maxRecDepth 100000 in
set_option maxHeartbeats 4000000 in
theorem c_X5_setEnd {E : En} {G : Wd} {A : Ast} (hR : MRel G A) (hA : AOk A) {x y : Int} (hx : -2147483648 ≤ x ∧ x < 2147483648) (hy : -2147483648 ≤ y ∧ y < 2147483648) : Cti E yX5_setEnd cX5_setEnd 5 .int 2 46 [.ref (E.1 6), .int (iN (x)), .int (iN (y))] G (fun z G' => z = (s_setEnd A x y).1 ∧ MRel G' (s_setEnd A x y).2 ∧ CFx G G') := by
  have hM := hR.1
  have hO := hA.1
  obtain ⟨m0, mV, m7, mC, mS⟩ := id hM
  obtain ⟨hOv, hOc, hOs⟩ := id hO
  have hl20 := hOs.1
  have hl12 := hOc.1
  obtain ⟨hv0, hv1, hv2, hv3, hv4, hv5⟩ := id hOv
  have v0 : G 20 0 1 = A.1.1 0 := mV 0 (by omega)
  have v1 : G 20 0 2 = A.1.1 1 := mV 1 (by omega)
  have v2 : G 20 0 3 = A.1.1 2 := mV 2 (by omega)
  have v3 : G 20 0 4 = A.1.1 3 := mV 3 (by omega)
  have v4 : G 20 0 5 = A.1.1 4 := mV 4 (by omega)
  have v5 : G 20 0 6 = A.1.1 5 := mV 5 (by omega)
  refine Cti.mk [some (.ref (E.1 6)), some (.int (iN (x))), some (.int (iN (y))), none, none] (by decide) rfl (by intro v hv; simp only [List.mem_cons, List.not_mem_nil, or_false] at hv; rcases hv with rfl | rfl | rfl <;> rfl) (Nat.le_of_ble_eq_true rfl) ?_
  intro p l e s m args below meth c cx
  have L50 : ∀ (k : Nat) (mx : Int), (x = (k : Int)) → (k < A.1.2.2.length) → (0 ≤ y ∧ y ≤ 5000) → (mx = (if k + 1 < A.1.2.2.length then (A.1.2.2.getD (k + 1) dS).1 else 5000)) → Z p l e (zr 2 46) s m args below meth c 5 0 0 E (Qi_ E below args s (fun z G' => z = (s_setEnd A x y).1 ∧ MRel G' (s_setEnd A x y).2 ∧ CFx G G')) G 50 [some (.ref (E.1 6)), some (.int (iN (x))), some (.int (iN (y))), none, none] [.int (iN (mx))] := by
    intro k mx hxk hk hyy hmx
    have hs_ := mS (k) (by omega)
    have ho := hOs.2.1 (k) (by omega)
    have t0 := hs_.1
    have t1 := hs_.2.1
    have t2 := hs_.2.2.1
    have t3 := hs_.2.2.2
    have o1 := ho.1
    have o2 := ho.2.1
    have o3 := ho.2.2.1
    have o4 := ho.2.2.2.1
    have o5 := ho.2.2.2.2.1
    have hmxb : 0 ≤ mx ∧ mx ≤ 5000 := by
      rw [hmx]
      by_cases q : k + 1 < A.1.2.2.length
      · rw [if_pos q]
        have q1 := hOs.2.1 (k + 1) q
        have q2 := q1.1
        have q3 := q1.2.1
        have q4 := q1.2.2.1
        omega
      · rw [if_neg q]; omega
    have hspec : s_setEnd A x y = if y ≤ (A.1.2.2.getD k dS).1 ∨ mx < y then (-5, A) else ((A.1.2.2.getD k dS).2.1, act A (A.1.1, A.1.2.1, A.1.2.2.set k ((A.1.2.2.getD k dS).1, y, (A.1.2.2.getD k dS).2.2))) := by
      unfold s_setEnd
      rw [if_pos (by omega), if_pos (by omega), hxk, Int.toNat_natCast, hmx]
    refine z_istore_n cx dX5_setEnd_50 ?_
    refine z_iload_n cx dX5_setEnd_51 rfl ?_
    refine z_aload_n cx dX5_setEnd_52 rfl ?_
    refine z_iload_n cx dX5_setEnd_53 rfl ?_
    refine z_iconst cx dX5_setEnd_54 ?_
    refine z_vi cx (c_X5_of (20 + 43 * k) (by omega) (by omega)) rfl mv_X5_of ml_X5_43 (by omega) (co_mod E _) rfl dX5_setEnd_55 (fun z55 G55 hz55 => ?_)
    obtain ⟨eG, rfl⟩ := hz55
    have eG := eG.symm
    subst eG
    refine z_icmp_le cx (tgt := 66) dX5_setEnd_58 (fun h58 => ?_) (fun h58 => ?_)
    · skip
      refine z_bipush cx dX5_setEnd_66 ?_
      refine z_iret cx dX5_setEnd_68 ?_
      rw [hspec, if_pos (by omega)]
      exact ⟨rfl, hR, CFx.rf⟩
    · skip
      refine z_iload_n cx dX5_setEnd_61 rfl ?_
      refine z_iload_n cx dX5_setEnd_62 rfl ?_
      refine z_icmp_le cx (tgt := 69) dX5_setEnd_63 (fun h63 => ?_) (fun h63 => ?_)
      · skip
        refine z_aload_n cx dX5_setEnd_69 rfl ?_
        refine z_vv cx (c_X5_begins) rfl mv_X5_begins ml_X5_147 (by omega) (co_mod E _) rfl dX5_setEnd_70 (fun G70 hz70 => ?_)
        obtain ⟨hMid, hBc, hBs⟩ := begins_mid hR hA hz70
        have bM := hMid.1
        refine z_aload_n cx dX5_setEnd_73 rfl ?_
        refine z_iload_n cx dX5_setEnd_74 rfl ?_
        refine z_iconst cx dX5_setEnd_75 ?_
        have gS := bM.2.2.2.2 k hk
        refine z_vi cx (c_X5_of (20 + 43 * k + 1) (by omega) (by omega)) rfl mv_X5_of ml_X5_43 (by omega) (co_mod E _) rfl dX5_setEnd_76 (fun z76 G76 hz76 => ?_)
        obtain ⟨eG, rfl⟩ := hz76
        have eG := eG.symm
        subst eG
        refine z_istore cx dX5_setEnd_79 ?_
        refine z_aload_n cx dX5_setEnd_81 rfl ?_
        refine z_iload_n cx dX5_setEnd_82 rfl ?_
        refine z_iconst cx dX5_setEnd_83 ?_
        refine z_iload_n cx dX5_setEnd_84 rfl ?_
        refine z_vv cx (c_X5_lays (20 + 43 * k + 1) (by omega) (by omega)) rfl mv_X5_lays ml_X5_51 (by omega) (co_mod E _) rfl dX5_setEnd_85 (fun G85 hz85 => ?_)
        subst hz85
        refine z_aload_n cx dX5_setEnd_88 rfl ?_
        refine z_iload cx dX5_setEnd_89 rfl ?_
        refine z_vi cx (c_X5_records (F := (A.1.1, A.1.2.1, A.1.2.2.set k ((A.1.2.2.getD k dS).1, y, (A.1.2.2.getD k dS).2.2))) (hMid.fr FrM.rf.up (mfilm_setw bM hO.W hk ⟨by rw [gup_i _ _ _ _ _ (by omega)]; exact gS.1, by rw [gup_s], by rw [gup_i _ _ _ _ _ (by omega)]; exact gS.2.2.1, fun j hj => by rw [gup_i _ _ _ _ _ (by omega)]; exact gS.2.2.2 j hj⟩ (fun j hj => by rw [gup_i _ _ _ _ _ (by omega)]))) hA) rfl mv_X5_records ml_X5_159 (by omega) (co_mod E _) rfl dX5_setEnd_91 (fun z91 G91 hz91 => ?_)
        obtain ⟨rfl, hrmhz91, hrchz91⟩ := hz91
        refine z_iret cx dX5_setEnd_94 ?_
        rw [hspec, if_neg (by omega)]
        exact ⟨gS.2.1, hrmhz91, hBc.tr ((FrM.rf.up : FrM G70 _).cfx.tr hrchz91)⟩
      · skip
        refine z_bipush cx dX5_setEnd_66 ?_
        refine z_iret cx dX5_setEnd_68 ?_
        rw [hspec, if_pos (by omega)]
        exact ⟨rfl, hR, CFx.rf⟩
  refine z_aload_n cx dX5_setEnd_0 rfl ?_
  refine z_iload_n cx dX5_setEnd_1 rfl ?_
  refine z_vi cx (c_X5_isSubtitle (by omega) m0) rfl mv_X5_isSubtitle ml_X5_162 (by omega) (co_mod E _) rfl dX5_setEnd_2 (fun z2 G2 hz2 => ?_)
  obtain ⟨eG, hz2⟩ := hz2
  have eG := eG.symm
  subst eG
  refine z_if_ne cx (tgt := 10) dX5_setEnd_5 (fun h5 => ?_) (fun h5 => ?_)
  · skip
    refine z_iload_n cx dX5_setEnd_10 rfl ?_
    refine z_iconst cx dX5_setEnd_11 ?_
    refine z_sipush cx dX5_setEnd_12 ?_
    refine z_si cx (c_X5_in (by omega)) rfl ms_X5_in ml_X5_39 dX5_setEnd_15 (fun z15 G15 hz15 => ?_)
    obtain ⟨eG, hz15⟩ := hz15
    have eG := eG.symm
    subst eG
    refine z_if_ne cx (tgt := 24) dX5_setEnd_18 (fun h18 => ?_) (fun h18 => ?_)
    · skip
      obtain ⟨k0, hxk⟩ : ∃ k : Nat, x = k := ⟨x.toNat, by omega⟩
      refine z_iload_n cx dX5_setEnd_24 rfl ?_
      refine z_iconst cx dX5_setEnd_25 ?_
      refine z_iadd cx dX5_setEnd_26 ?_
      refine z_aload_n cx dX5_setEnd_27 rfl ?_
      refine g_X5_0 cx fl_X5_7 dX5_setEnd_28 ?_
      refine z_iconst cx dX5_setEnd_31 ?_
      refine z_iald cx (0) (by omega) (by omega) (co_s E _) dX5_setEnd_32 ?_
      refine z_icmp_ge cx (tgt := 47) dX5_setEnd_33 (fun h33 => ?_) (fun h33 => ?_)
      · skip
        refine z_sipush cx dX5_setEnd_47 ?_
        refine Z.locs (L50 (k0) _ hxk (by omega) (by omega) ?_) ⟨rfl, rfl, rfl, trivial⟩
        first
        | (rw [if_pos (by omega)]; exact t0n)
        | (rw [if_neg (by omega)]; done)
      · skip
        have hsn_ := mS (k0 + 1) (by omega)
        have hon := hOs.2.1 (k0 + 1) (by omega)
        have t0n := hsn_.1
        have t1n := hsn_.2.1
        have t2n := hsn_.2.2.1
        have t3n := hsn_.2.2.2
        have o1n := hon.1
        have o2n := hon.2.1
        have o3n := hon.2.2.1
        have o4n := hon.2.2.2.1
        have o5n := hon.2.2.2.2.1
        refine z_aload_n cx dX5_setEnd_36 rfl ?_
        refine z_iload_n cx dX5_setEnd_37 rfl ?_
        refine z_iconst cx dX5_setEnd_38 ?_
        refine z_iadd cx dX5_setEnd_39 ?_
        refine z_iconst cx dX5_setEnd_40 ?_
        refine z_vi cx (c_X5_of (20 + 43 * (k0 + 1)) (by omega) (by omega)) rfl mv_X5_of ml_X5_43 (by omega) (co_mod E _) rfl dX5_setEnd_41 (fun z41 G41 hz41 => ?_)
        obtain ⟨eG, rfl⟩ := hz41
        have eG := eG.symm
        subst eG
        refine z_goto cx (tgt := 50) dX5_setEnd_44 ?_
        refine Z.locs (L50 (k0) _ hxk (by omega) (by omega) ?_) ⟨rfl, rfl, rfl, trivial⟩
        first
        | (rw [if_pos (by omega)]; exact t0n)
        | (rw [if_neg (by omega)]; done)
    · skip
      refine z_bipush cx dX5_setEnd_21 ?_
      refine z_iret cx dX5_setEnd_23 ?_
      rw [show s_setEnd A x y = (-2, A) from by unfold s_setEnd; rw [if_pos (by omega), if_neg (by omega)]]
      exact ⟨rfl, hR, CFx.rf⟩
  · skip
    refine z_iconst cx dX5_setEnd_8 ?_
    refine z_iret cx dX5_setEnd_9 ?_
    rw [show s_setEnd A x y = (-1, A) from by unfold s_setEnd; rw [if_neg (by omega)]]
    exact ⟨rfl, hR, CFx.rf⟩
set_option maxRecDepth 100000 in
set_option maxHeartbeats 4000000 in
theorem c_X5_leastOf {E : En} {G : Wd} {x : Int} {k : Nat} (hx : x = (k : Int)) (hk : k < 6) : Cti E yX5_leastOf cX5_leastOf 1 .int 0 0 [.int (iN (x))] G (fun z G' => G' = G ∧ z = lowT k) := by
  refine Cti.mk [some (.int (iN (x)))] (by decide) rfl (by intro v hv; simp only [List.mem_cons, List.not_mem_nil, or_false] at hv; subst hv; rfl) (Nat.le_of_ble_eq_true rfl) ?_
  intro p l e s m args below meth c cx
  refine z_iload_n cx dX5_leastOf_0 rfl ?_
  refine z_if_eq cx (tgt := 9) dX5_leastOf_1 (fun h1 => ?_) (fun h1 => ?_)
  · skip
    refine z_iconst cx dX5_leastOf_9 ?_
    refine z_goto cx (tgt := 34) dX5_leastOf_10 ?_
    refine z_iret cx dX5_leastOf_34 ?_
    refine ⟨rfl, ?_⟩
    rcases (show k = 0 ∨ k = 1 ∨ k = 2 ∨ k = 3 ∨ k = 4 ∨ k = 5 by omega) with rfl | rfl | rfl | rfl | rfl | rfl <;> first | rfl | (exfalso; omega)
  · skip
    refine z_iload_n cx dX5_leastOf_4 rfl ?_
    refine z_iconst cx dX5_leastOf_5 ?_
    refine z_icmp_ne cx (tgt := 13) dX5_leastOf_6 (fun h6 => ?_) (fun h6 => ?_)
    · skip
      refine z_iload_n cx dX5_leastOf_13 rfl ?_
      refine z_iconst cx dX5_leastOf_14 ?_
      refine z_icmp_ne cx (tgt := 23) dX5_leastOf_15 (fun h15 => ?_) (fun h15 => ?_)
      · skip
        refine z_iload_n cx dX5_leastOf_23 rfl ?_
        refine z_iconst cx dX5_leastOf_24 ?_
        refine z_icmp_ne cx (tgt := 33) dX5_leastOf_25 (fun h25 => ?_) (fun h25 => ?_)
        · skip
          refine z_iconst cx dX5_leastOf_33 ?_
          refine z_iret cx dX5_leastOf_34 ?_
          refine ⟨rfl, ?_⟩
          rcases (show k = 0 ∨ k = 1 ∨ k = 2 ∨ k = 3 ∨ k = 4 ∨ k = 5 by omega) with rfl | rfl | rfl | rfl | rfl | rfl <;> first | rfl | (exfalso; omega)
        · skip
          refine z_bipush cx dX5_leastOf_28 ?_
          refine z_goto cx (tgt := 34) dX5_leastOf_30 ?_
          refine z_iret cx dX5_leastOf_34 ?_
          refine ⟨rfl, ?_⟩
          rcases (show k = 0 ∨ k = 1 ∨ k = 2 ∨ k = 3 ∨ k = 4 ∨ k = 5 by omega) with rfl | rfl | rfl | rfl | rfl | rfl <;> first | rfl | (exfalso; omega)
      · skip
        refine z_bipush cx dX5_leastOf_18 ?_
        refine z_goto cx (tgt := 34) dX5_leastOf_20 ?_
        refine z_iret cx dX5_leastOf_34 ?_
        refine ⟨rfl, ?_⟩
        rcases (show k = 0 ∨ k = 1 ∨ k = 2 ∨ k = 3 ∨ k = 4 ∨ k = 5 by omega) with rfl | rfl | rfl | rfl | rfl | rfl <;> first | rfl | (exfalso; omega)
    · skip
      refine z_iconst cx dX5_leastOf_9 ?_
      refine z_goto cx (tgt := 34) dX5_leastOf_10 ?_
      refine z_iret cx dX5_leastOf_34 ?_
      refine ⟨rfl, ?_⟩
      rcases (show k = 0 ∨ k = 1 ∨ k = 2 ∨ k = 3 ∨ k = 4 ∨ k = 5 by omega) with rfl | rfl | rfl | rfl | rfl | rfl <;> first | rfl | (exfalso; omega)
set_option maxRecDepth 100000 in
set_option maxHeartbeats 4000000 in
theorem c_X5_mostOf {E : En} {G : Wd} {x : Int} {k : Nat} (hx : x = (k : Int)) (hk : k < 6) : Cti E yX5_mostOf cX5_mostOf 1 .int 0 0 [.int (iN (x))] G (fun z G' => G' = G ∧ z = higT k) := by
  refine Cti.mk [some (.int (iN (x)))] (by decide) rfl (by intro v hv; simp only [List.mem_cons, List.not_mem_nil, or_false] at hv; subst hv; rfl) (Nat.le_of_ble_eq_true rfl) ?_
  intro p l e s m args below meth c cx
  refine z_iload_n cx dX5_mostOf_0 rfl ?_
  refine z_if_eq cx (tgt := 9) dX5_mostOf_1 (fun h1 => ?_) (fun h1 => ?_)
  · skip
    refine z_bipush cx dX5_mostOf_9 ?_
    refine z_goto cx (tgt := 47) dX5_mostOf_11 ?_
    refine z_iret cx dX5_mostOf_47 ?_
    refine ⟨rfl, ?_⟩
    rcases (show k = 0 ∨ k = 1 ∨ k = 2 ∨ k = 3 ∨ k = 4 ∨ k = 5 by omega) with rfl | rfl | rfl | rfl | rfl | rfl <;> first | rfl | (exfalso; omega)
  · skip
    refine z_iload_n cx dX5_mostOf_4 rfl ?_
    refine z_iconst cx dX5_mostOf_5 ?_
    refine z_icmp_ne cx (tgt := 14) dX5_mostOf_6 (fun h6 => ?_) (fun h6 => ?_)
    · skip
      refine z_iload_n cx dX5_mostOf_14 rfl ?_
      refine z_iconst cx dX5_mostOf_15 ?_
      refine z_icmp_ne cx (tgt := 24) dX5_mostOf_16 (fun h16 => ?_) (fun h16 => ?_)
      · skip
        refine z_iload_n cx dX5_mostOf_24 rfl ?_
        refine z_iconst cx dX5_mostOf_25 ?_
        refine z_icmp_ne cx (tgt := 34) dX5_mostOf_26 (fun h26 => ?_) (fun h26 => ?_)
        · skip
          refine z_iload_n cx dX5_mostOf_34 rfl ?_
          refine z_iconst cx dX5_mostOf_35 ?_
          refine z_icmp_ne cx (tgt := 45) dX5_mostOf_36 (fun h36 => ?_) (fun h36 => ?_)
          · skip
            refine z_bipush cx dX5_mostOf_45 ?_
            refine z_iret cx dX5_mostOf_47 ?_
            refine ⟨rfl, ?_⟩
            rcases (show k = 0 ∨ k = 1 ∨ k = 2 ∨ k = 3 ∨ k = 4 ∨ k = 5 by omega) with rfl | rfl | rfl | rfl | rfl | rfl <;> first | rfl | (exfalso; omega)
          · skip
            refine z_sipush cx dX5_mostOf_39 ?_
            refine z_goto cx (tgt := 47) dX5_mostOf_42 ?_
            refine z_iret cx dX5_mostOf_47 ?_
            refine ⟨rfl, ?_⟩
            rcases (show k = 0 ∨ k = 1 ∨ k = 2 ∨ k = 3 ∨ k = 4 ∨ k = 5 by omega) with rfl | rfl | rfl | rfl | rfl | rfl <;> first | rfl | (exfalso; omega)
        · skip
          refine z_bipush cx dX5_mostOf_29 ?_
          refine z_goto cx (tgt := 47) dX5_mostOf_31 ?_
          refine z_iret cx dX5_mostOf_47 ?_
          refine ⟨rfl, ?_⟩
          rcases (show k = 0 ∨ k = 1 ∨ k = 2 ∨ k = 3 ∨ k = 4 ∨ k = 5 by omega) with rfl | rfl | rfl | rfl | rfl | rfl <;> first | rfl | (exfalso; omega)
      · skip
        refine z_bipush cx dX5_mostOf_19 ?_
        refine z_goto cx (tgt := 47) dX5_mostOf_21 ?_
        refine z_iret cx dX5_mostOf_47 ?_
        refine ⟨rfl, ?_⟩
        rcases (show k = 0 ∨ k = 1 ∨ k = 2 ∨ k = 3 ∨ k = 4 ∨ k = 5 by omega) with rfl | rfl | rfl | rfl | rfl | rfl <;> first | rfl | (exfalso; omega)
    · skip
      refine z_bipush cx dX5_mostOf_9 ?_
      refine z_goto cx (tgt := 47) dX5_mostOf_11 ?_
      refine z_iret cx dX5_mostOf_47 ?_
      refine ⟨rfl, ?_⟩
      rcases (show k = 0 ∨ k = 1 ∨ k = 2 ∨ k = 3 ∨ k = 4 ∨ k = 5 by omega) with rfl | rfl | rfl | rfl | rfl | rfl <;> first | rfl | (exfalso; omega)
theorem lowT_b (k : Nat) : 0 ≤ lowT k ∧ lowT k ≤ 50 := by
  unfold lowT
  repeat' split
  all_goals omega
theorem higT_b (k : Nat) : 0 ≤ higT k ∧ higT k ≤ 250 := by
  unfold higT
  repeat' split
  all_goals omega
set_option maxRecDepth 100000 in
set_option maxHeartbeats 4000000 in
theorem c_X5_set {E : En} {G : Wd} {A : Ast} (hR : MRel G A) (hA : AOk A) {x y : Int} (hx : -2147483648 ≤ x ∧ x < 2147483648) (hy : -2147483648 ≤ y ∧ y < 2147483648) : Cti E yX5_set cX5_set 4 .int 2 46 [.ref (E.1 6), .int (iN (x)), .int (iN (y))] G (fun z G' => z = (s_set A x y).1 ∧ MRel G' (s_set A x y).2 ∧ CFx G G') := by
  have hM := hR.1
  have hO := hA.1
  obtain ⟨m0, mV, m7, mC, mS⟩ := id hM
  obtain ⟨hOv, hOc, hOs⟩ := id hO
  have hl20 := hOs.1
  have hl12 := hOc.1
  obtain ⟨hv0, hv1, hv2, hv3, hv4, hv5⟩ := id hOv
  have v0 : G 20 0 1 = A.1.1 0 := mV 0 (by omega)
  have v1 : G 20 0 2 = A.1.1 1 := mV 1 (by omega)
  have v2 : G 20 0 3 = A.1.1 2 := mV 2 (by omega)
  have v3 : G 20 0 4 = A.1.1 3 := mV 3 (by omega)
  have v4 : G 20 0 5 = A.1.1 4 := mV 4 (by omega)
  have v5 : G 20 0 6 = A.1.1 5 := mV 5 (by omega)
  refine Cti.mk [some (.ref (E.1 6)), some (.int (iN (x))), some (.int (iN (y))), none] (by decide) rfl (by intro v hv; simp only [List.mem_cons, List.not_mem_nil, or_false] at hv; rcases hv with rfl | rfl | rfl <;> rfl) (Nat.le_of_ble_eq_true rfl) ?_
  intro p l e s m args below meth c cx
  refine z_iload_n cx dX5_set_0 rfl ?_
  refine z_iconst cx dX5_set_1 ?_
  refine z_iconst cx dX5_set_2 ?_
  refine z_si cx (c_X5_in (by omega)) rfl ms_X5_in ml_X5_39 dX5_set_3 (fun z3 G3 hz3 => ?_)
  obtain ⟨eG, hz3⟩ := hz3
  have eG := eG.symm
  subst eG
  refine z_if_ne cx (tgt := 11) dX5_set_6 (fun h6 => ?_) (fun h6 => ?_)
  · skip
    obtain ⟨k, hxk⟩ : ∃ k : Nat, x = k := ⟨x.toNat, by omega⟩
    have hlb := lowT_b k
    have hhb := higT_b k
    refine z_iload_n cx dX5_set_11 rfl ?_
    refine z_iload_n cx dX5_set_12 rfl ?_
    refine z_si cx (c_X5_leastOf hxk (by omega)) rfl ms_X5_leastOf ml_X5_186 dX5_set_13 (fun z13 G13 hz13 => ?_)
    obtain ⟨eG, rfl⟩ := hz13
    have eG := eG.symm
    subst eG
    refine z_iload_n cx dX5_set_16 rfl ?_
    refine z_si cx (c_X5_mostOf hxk (by omega)) rfl ms_X5_mostOf ml_X5_189 dX5_set_17 (fun z17 G17 hz17 => ?_)
    obtain ⟨eG, rfl⟩ := hz17
    have eG := eG.symm
    subst eG
    refine z_si cx (c_X5_in (by omega)) rfl ms_X5_in ml_X5_39 dX5_set_20 (fun z20 G20 hz20 => ?_)
    obtain ⟨eG, hz20⟩ := hz20
    have eG := eG.symm
    subst eG
    refine z_if_ne cx (tgt := 29) dX5_set_23 (fun h23 => ?_) (fun h23 => ?_)
    · skip
      refine z_aload_n cx dX5_set_29 rfl ?_
      refine z_vv cx (c_X5_begins) rfl mv_X5_begins ml_X5_147 (by omega) (co_mod E _) rfl dX5_set_30 (fun G30 hz30 => ?_)
      obtain ⟨hMid, hBc, hBs⟩ := begins_mid hR hA hz30
      have bM := hMid.1
      have gV := bM.2.1 k (by omega)
      refine z_aload_n cx dX5_set_33 rfl ?_
      refine z_iload_n cx dX5_set_34 rfl ?_
      refine z_vi cx (c_X5_its (1 + k) (by omega) (by omega)) rfl mv_X5_its ml_X5_47 (by omega) (co_mod E _) rfl dX5_set_35 (fun z35 G35 hz35 => ?_)
      obtain ⟨eG, rfl⟩ := hz35
      have eG := eG.symm
      subst eG
      refine z_istore_n cx dX5_set_38 ?_
      refine z_aload_n cx dX5_set_39 rfl ?_
      refine g_X5_0 cx fl_X5_7 dX5_set_40 ?_
      refine z_iconst cx dX5_set_43 ?_
      refine z_iload_n cx dX5_set_44 rfl ?_
      refine z_iadd cx dX5_set_45 ?_
      refine z_iload_n cx dX5_set_46 rfl ?_
      refine z_iast cx (1 + k) (by omega) (by omega) rfl (fun G => co_s E G) dX5_set_47 ?_
      refine z_aload_n cx dX5_set_48 rfl ?_
      refine z_iload_n cx dX5_set_49 rfl ?_
      refine z_vi cx (c_X5_records (F := (updV1 A.1.1 k y, A.1.2.1, A.1.2.2)) (hMid.fr FrM.rf.up (mval bM hO (by omega) (by rw [gup_s]) (fun j _ hj => by rw [gup_i _ _ _ _ _ hj]))) hA) rfl mv_X5_records ml_X5_159 (by omega) (co_mod E _) rfl dX5_set_50 (fun z50 G50 hz50 => ?_)
      obtain ⟨rfl, hrmhz50, hrchz50⟩ := hz50
      refine z_iret cx dX5_set_53 ?_
      rw [show s_set A x y = (A.1.1 k, act A (updV1 A.1.1 k y, A.1.2)) from by unfold s_set; rw [if_pos (by omega), hxk, Int.toNat_natCast, if_pos (by omega)]]
      exact ⟨gV, hrmhz50, hBc.tr ((FrM.rf.up : FrM G30 _).cfx.tr hrchz50)⟩
    · skip
      refine z_bipush cx dX5_set_26 ?_
      refine z_iret cx dX5_set_28 ?_
      rw [show s_set A x y = (-2, A) from by unfold s_set; rw [if_pos (by omega), hxk, Int.toNat_natCast, if_neg (by omega)]]
      exact ⟨rfl, hR, CFx.rf⟩
  · skip
    refine z_iconst cx dX5_set_9 ?_
    refine z_iret cx dX5_set_10 ?_
    rw [show s_set A x y = (-1, A) from by unfold s_set; rw [if_neg (by omega)]]
    exact ⟨rfl, hR, CFx.rf⟩
set_option maxRecDepth 100000 in
set_option maxHeartbeats 4000000 in
theorem c_X5_cut {E : En} {G : Wd} {A : Ast} (hR : MRel G A) (hA : AOk A) {x : Int} (hx : -2147483648 ≤ x ∧ x < 2147483648) : Cti E yX5_cut cX5_cut 3 .int 2 46 [.ref (E.1 6), .int (iN (x))] G (fun z G' => z = (s_cut A x).1 ∧ MRel G' (s_cut A x).2 ∧ CFx G G') := by
  have hM := hR.1
  have hO := hA.1
  obtain ⟨m0, mV, m7, mC, mS⟩ := id hM
  obtain ⟨hOv, hOc, hOs⟩ := id hO
  have hl20 := hOs.1
  have hl12 := hOc.1
  obtain ⟨hv0, hv1, hv2, hv3, hv4, hv5⟩ := id hOv
  have v0 : G 20 0 1 = A.1.1 0 := mV 0 (by omega)
  have v1 : G 20 0 2 = A.1.1 1 := mV 1 (by omega)
  have v2 : G 20 0 3 = A.1.1 2 := mV 2 (by omega)
  have v3 : G 20 0 4 = A.1.1 3 := mV 3 (by omega)
  have v4 : G 20 0 5 = A.1.1 4 := mV 4 (by omega)
  have v5 : G 20 0 6 = A.1.1 5 := mV 5 (by omega)
  refine Cti.mk [some (.ref (E.1 6)), some (.int (iN (x))), none] (by decide) rfl (by intro v hv; simp only [List.mem_cons, List.not_mem_nil, or_false] at hv; rcases hv with rfl | rfl <;> rfl) (Nat.le_of_ble_eq_true rfl) ?_
  intro p l e s m args below meth c cx
  have L52 : ∀ (n : Nat) (k : Nat) (GB G1 : Wd), k < n → (k ≤ A.1.2.1.length) → (A.1.2.1.length < 12) → (1 ≤ x ∧ x ≤ 4999) → (∀ i, i < A.1.2.1.length → A.1.2.1.getD i 0 ≠ x) → (MMid GB A A.1) → (CFx G GB) → (∀ i, k ≤ i → i < A.1.2.1.length → x < A.1.2.1.getD i 0) → (∀ j, G1 20 0 j = if 8 + k + 1 ≤ j ∧ j ≤ 8 + A.1.2.1.length then GB 20 0 (j - 1) else GB 20 0 j) → (FrM GB G1) → Z p l e (zr 2 46) s m args below meth c 3 0 0 E (Qi_ E below args s (fun z G' => z = (s_cut A x).1 ∧ MRel G' (s_cut A x).2 ∧ CFx G G')) G1 52 [some (.ref (E.1 6)), some (.int (iN (x))), some (.int (iN ((k : Int))))] [] := by
    intro n
    induction n with
    | zero =>
      intro k GB G1 hmu
      exact absurd hmu (Nat.not_lt_zero _)
    | succ n ih =>
      intro k GB G1 hmu hk hn hxx hnone hMid hBc hgt hG1 hf
      have bC := hMid.1.2.2.2.1
      have b7 := hMid.1.2.2.1
      refine z_iload_n cx dX5_cut_52 rfl ?_
      refine z_if_le cx (tgt := 97) dX5_cut_53 (fun h53 => ?_) (fun h53 => ?_)
      · skip
        have hlt : ∀ i, i < k → A.1.2.1.getD i 0 < x := by
          intro i hi
          have w1 := hnone (k - 1) (by omega)
          have w2 : A.1.2.1.getD (k - 1) 0 ≤ x := by
            first
            | (exfalso; omega)
            | (rw [show k - 1 = k1 by omega]; omega)
          by_cases w : i = k - 1
          · subst w; omega
          · have := hOc.2.2 i (k - 1) (by omega) (by omega)
            omega
        have hcp : cpos A.1.2.1 x = k := cpos_of ⟨hk, hlt, hgt⟩
        have e7 : G1 20 0 7 = (A.1.2.1.length : Int) := by rw [hG1, if_neg (by omega)]; exact b7
        refine z_aload_n cx dX5_cut_97 rfl ?_
        refine g_X5_0 cx fl_X5_7 dX5_cut_98 ?_
        refine z_bipush cx dX5_cut_101 ?_
        refine z_iload_n cx dX5_cut_103 rfl ?_
        refine z_iadd cx dX5_cut_104 ?_
        refine z_iload_n cx dX5_cut_105 rfl ?_
        refine z_iast cx (8 + k) (by omega) (by omega) rfl (fun G => co_s E G) dX5_cut_106 ?_
        refine z_aload_n cx dX5_cut_107 rfl ?_
        refine g_X5_0 cx fl_X5_7 dX5_cut_108 ?_
        refine z_bipush cx dX5_cut_111 ?_
        refine z_dup2 cx dX5_cut_113 ?_
        refine z_iald cx (7) (by omega) (by omega) (co_s E _) dX5_cut_114 ?_
        refine z_iconst cx dX5_cut_115 ?_
        refine z_iadd cx dX5_cut_116 ?_
        refine z_iast cx (7) (by omega) (by omega) rfl (fun G => co_s E G) dX5_cut_117 ?_
        have e72 : (gup (gup G1 20 0 (8 + k) x) 20 0 7 (gup G1 20 0 (8 + k) x 20 0 7 + 1)) 20 0 7 = (A.1.2.1.length : Int) + 1 := by rw [gup_s, gup_i _ _ _ _ _ (by omega), e7]
        refine z_aload_n cx dX5_cut_118 rfl ?_
        refine z_aload_n cx dX5_cut_119 rfl ?_
        refine g_X5_0 cx fl_X5_7 dX5_cut_120 ?_
        refine z_bipush cx dX5_cut_123 ?_
        refine z_iald cx (7) (by omega) (by omega) (co_s E _) dX5_cut_125 ?_
        rw [e72]
        refine z_vi cx (c_X5_records (F := (A.1.1, insL A.1.2.1 k x, A.1.2.2)) (hMid.fr hf.up.up (mcutI hMid.1 hO.W hk hn e72 (by rw [gup_i _ _ _ _ _ (by omega), gup_s]) (fun j h1 h2 => by rw [gup_i _ _ _ _ _ h1, gup_i _ _ _ _ _ h2]; exact hG1 j))) hA) rfl mv_X5_records ml_X5_159 (by omega) (co_mod E _) rfl dX5_cut_126 (fun z126 G126 hz126 => ?_)
        obtain ⟨rfl, hrmhz126, hrchz126⟩ := hz126
        refine z_iret cx dX5_cut_129 ?_
        rw [show s_cut A x = ((A.1.2.1.length : Int) + 1, act A (A.1.1, insL A.1.2.1 k x, A.1.2.2)) from by unfold s_cut; rw [if_pos hxx, if_neg (fun ⟨i, w1, w2⟩ => hnone i w1 w2), if_neg (by omega), hcp]]
        exact ⟨rfl, hrmhz126, hBc.tr ((hf.up.up).cfx.tr hrchz126)⟩
      · skip
        obtain ⟨k1, hk1⟩ : ∃ k1 : Nat, k = k1 + 1 := ⟨k - 1, by omega⟩
        have e66 : G1 20 0 (8 + k1) = A.1.2.1.getD k1 0 := by rw [hG1, if_neg (by omega)]; exact bC k1 (by omega)
        have hcb := hOc.2.1 k1 (by omega)
        refine z_aload_n cx dX5_cut_56 rfl ?_
        refine g_X5_0 cx fl_X5_7 dX5_cut_57 ?_
        refine z_bipush cx dX5_cut_60 ?_
        refine z_iload_n cx dX5_cut_62 rfl ?_
        refine z_iadd cx dX5_cut_63 ?_
        refine z_iconst cx dX5_cut_64 ?_
        refine z_isub cx dX5_cut_65 ?_
        refine z_iald cx (8 + k1) (by omega) (by omega) (co_s E _) dX5_cut_66 ?_
        rw [e66]
        refine z_iload_n cx dX5_cut_67 rfl ?_
        refine z_icmp_le cx (tgt := 97) dX5_cut_68 (fun h68 => ?_) (fun h68 => ?_)
        · skip
          have hlt : ∀ i, i < k → A.1.2.1.getD i 0 < x := by
            intro i hi
            have w1 := hnone (k - 1) (by omega)
            have w2 : A.1.2.1.getD (k - 1) 0 ≤ x := by
              first
              | (exfalso; omega)
              | (rw [show k - 1 = k1 by omega]; omega)
            by_cases w : i = k - 1
            · subst w; omega
            · have := hOc.2.2 i (k - 1) (by omega) (by omega)
              omega
          have hcp : cpos A.1.2.1 x = k := cpos_of ⟨hk, hlt, hgt⟩
          have e7 : G1 20 0 7 = (A.1.2.1.length : Int) := by rw [hG1, if_neg (by omega)]; exact b7
          refine z_aload_n cx dX5_cut_97 rfl ?_
          refine g_X5_0 cx fl_X5_7 dX5_cut_98 ?_
          refine z_bipush cx dX5_cut_101 ?_
          refine z_iload_n cx dX5_cut_103 rfl ?_
          refine z_iadd cx dX5_cut_104 ?_
          refine z_iload_n cx dX5_cut_105 rfl ?_
          refine z_iast cx (8 + k) (by omega) (by omega) rfl (fun G => co_s E G) dX5_cut_106 ?_
          refine z_aload_n cx dX5_cut_107 rfl ?_
          refine g_X5_0 cx fl_X5_7 dX5_cut_108 ?_
          refine z_bipush cx dX5_cut_111 ?_
          refine z_dup2 cx dX5_cut_113 ?_
          refine z_iald cx (7) (by omega) (by omega) (co_s E _) dX5_cut_114 ?_
          refine z_iconst cx dX5_cut_115 ?_
          refine z_iadd cx dX5_cut_116 ?_
          refine z_iast cx (7) (by omega) (by omega) rfl (fun G => co_s E G) dX5_cut_117 ?_
          have e72 : (gup (gup G1 20 0 (8 + k) x) 20 0 7 (gup G1 20 0 (8 + k) x 20 0 7 + 1)) 20 0 7 = (A.1.2.1.length : Int) + 1 := by rw [gup_s, gup_i _ _ _ _ _ (by omega), e7]
          refine z_aload_n cx dX5_cut_118 rfl ?_
          refine z_aload_n cx dX5_cut_119 rfl ?_
          refine g_X5_0 cx fl_X5_7 dX5_cut_120 ?_
          refine z_bipush cx dX5_cut_123 ?_
          refine z_iald cx (7) (by omega) (by omega) (co_s E _) dX5_cut_125 ?_
          rw [e72]
          refine z_vi cx (c_X5_records (F := (A.1.1, insL A.1.2.1 k x, A.1.2.2)) (hMid.fr hf.up.up (mcutI hMid.1 hO.W hk hn e72 (by rw [gup_i _ _ _ _ _ (by omega), gup_s]) (fun j h1 h2 => by rw [gup_i _ _ _ _ _ h1, gup_i _ _ _ _ _ h2]; exact hG1 j))) hA) rfl mv_X5_records ml_X5_159 (by omega) (co_mod E _) rfl dX5_cut_126 (fun z126 G126 hz126 => ?_)
          obtain ⟨rfl, hrmhz126, hrchz126⟩ := hz126
          refine z_iret cx dX5_cut_129 ?_
          rw [show s_cut A x = ((A.1.2.1.length : Int) + 1, act A (A.1.1, insL A.1.2.1 k x, A.1.2.2)) from by unfold s_cut; rw [if_pos hxx, if_neg (fun ⟨i, w1, w2⟩ => hnone i w1 w2), if_neg (by omega), hcp]]
          exact ⟨rfl, hrmhz126, hBc.tr ((hf.up.up).cfx.tr hrchz126)⟩
        · skip
          refine z_aload_n cx dX5_cut_71 rfl ?_
          refine g_X5_0 cx fl_X5_7 dX5_cut_72 ?_
          refine z_bipush cx dX5_cut_75 ?_
          refine z_iload_n cx dX5_cut_77 rfl ?_
          refine z_iadd cx dX5_cut_78 ?_
          refine z_aload_n cx dX5_cut_79 rfl ?_
          refine g_X5_0 cx fl_X5_7 dX5_cut_80 ?_
          refine z_bipush cx dX5_cut_83 ?_
          refine z_iload_n cx dX5_cut_85 rfl ?_
          refine z_iadd cx dX5_cut_86 ?_
          refine z_iconst cx dX5_cut_87 ?_
          refine z_isub cx dX5_cut_88 ?_
          refine z_iald cx (8 + k1) (by omega) (by omega) (co_s E _) dX5_cut_89 ?_
          refine z_iast cx (8 + k) (by omega) (by omega) rfl (fun G => co_s E G) dX5_cut_90 ?_
          refine z_iinc cx dX5_cut_91 rfl ?_
          refine z_goto cx (tgt := 52) dX5_cut_94 ?_
          rw [show ((k : Int) + -1) = (k1 : Int) by omega]
          refine Z.locs (ih (k1) (GB) _ (by omega) (by omega) hn hxx hnone hMid hBc ?_ ?_ hf.up) ⟨rfl, rfl, rfl, trivial⟩
          · intro i h1 h2
            by_cases w : i = k1
            · subst w; omega
            · exact hgt i (by omega) h2
          · intro j
            by_cases w : j = 8 + k
            · subst w
              rw [gup_s, hG1, if_neg (by omega), if_pos (by omega)]
              congr 1
              omega
            · rw [gup_i _ _ _ _ _ w, hG1]
              by_cases w2 : 8 + k + 1 ≤ j ∧ j ≤ 8 + A.1.2.1.length
              · rw [if_pos w2, if_pos (by omega)]
              · rw [if_neg w2, if_neg (by omega)]
  refine z_iload_n cx dX5_cut_0 rfl ?_
  refine z_iconst cx dX5_cut_1 ?_
  refine z_sipush cx dX5_cut_2 ?_
  refine z_si cx (c_X5_in (by omega)) rfl ms_X5_in ml_X5_39 dX5_cut_5 (fun z5 G5 hz5 => ?_)
  obtain ⟨eG, hz5⟩ := hz5
  have eG := eG.symm
  subst eG
  refine z_if_ne cx (tgt := 14) dX5_cut_8 (fun h8 => ?_) (fun h8 => ?_)
  · skip
    refine z_aload_n cx dX5_cut_14 rfl ?_
    refine z_iload_n cx dX5_cut_15 rfl ?_
    refine z_vi cx (c_X5_placeOfCut (C := A.1.2.1) m7 mC hOc (by omega)) rfl mv_X5_placeOfCut ml_X5_183 (by omega) (co_mod E _) rfl dX5_cut_16 (fun z16 G16 hz16 => ?_)
    obtain ⟨eG, hz16⟩ := hz16
    have eG := eG.symm
    subst eG
    have hz16b : -1 ≤ z16 ∧ z16 < 100 := by
      rcases hz16 with ⟨w, -⟩ | ⟨i, w, w2, -⟩ <;> omega
    refine z_if_lt cx (tgt := 25) dX5_cut_19 (fun h19 => ?_) (fun h19 => ?_)
    · skip
      have hnone : ∀ i, i < A.1.2.1.length → A.1.2.1.getD i 0 ≠ x := by
        rcases hz16 with ⟨-, w⟩ | ⟨i, w, -⟩
        · exact w
        · exfalso; omega
      refine z_aload_n cx dX5_cut_25 rfl ?_
      refine g_X5_0 cx fl_X5_7 dX5_cut_26 ?_
      refine z_bipush cx dX5_cut_29 ?_
      refine z_iald cx (7) (by omega) (by omega) (co_s E _) dX5_cut_31 ?_
      refine z_bipush cx dX5_cut_32 ?_
      refine z_icmp_ne cx (tgt := 40) dX5_cut_34 (fun h34 => ?_) (fun h34 => ?_)
      · skip
        refine z_aload_n cx dX5_cut_40 rfl ?_
        refine z_vv cx (c_X5_begins) rfl mv_X5_begins ml_X5_147 (by omega) (co_mod E _) rfl dX5_cut_41 (fun G41 hz41 => ?_)
        obtain ⟨hMid, hBc, hBs⟩ := begins_mid hR hA hz41
        have bM := hMid.1
        refine z_aload_n cx dX5_cut_44 rfl ?_
        refine g_X5_0 cx fl_X5_7 dX5_cut_45 ?_
        refine z_bipush cx dX5_cut_48 ?_
        refine z_iald cx (7) (by omega) (by omega) (co_s E _) dX5_cut_50 ?_
        rw [hBs 20 7 (by decide), m7]
        refine z_istore_n cx dX5_cut_51 ?_
        refine Z.locs (L52 _ (A.1.2.1.length) _ _ (Nat.lt_succ_self _) (Nat.le_refl _) (by omega) (by omega) hnone hMid hBc (fun i h1 h2 => by omega) (fun j => by rw [if_neg (by omega)]) FrM.rf) ⟨rfl, rfl, rfl, trivial⟩
      · skip
        refine z_bipush cx dX5_cut_37 ?_
        refine z_iret cx dX5_cut_39 ?_
        rw [show s_cut A x = (-4, A) from by unfold s_cut; rw [if_pos (by omega), if_neg (fun ⟨i, w1, w2⟩ => hnone i w1 w2), if_pos (by omega)]]
        exact ⟨rfl, hR, CFx.rf⟩
    · skip
      have hhas : hasC A.1.2.1 x := by
        rcases hz16 with ⟨w, -⟩ | ⟨i, -, w1, w2⟩
        · exfalso; omega
        · exact ⟨i, w1, w2⟩
      refine z_bipush cx dX5_cut_22 ?_
      refine z_iret cx dX5_cut_24 ?_
      rw [show s_cut A x = (-5, A) from by unfold s_cut; rw [if_pos (by clear hhas; omega), if_pos hhas]]
      exact ⟨rfl, hR, CFx.rf⟩
  · skip
    refine z_bipush cx dX5_cut_11 ?_
    refine z_iret cx dX5_cut_13 ?_
    rw [show s_cut A x = (-2, A) from by unfold s_cut; rw [if_neg (by omega)]]
    exact ⟨rfl, hR, CFx.rf⟩
