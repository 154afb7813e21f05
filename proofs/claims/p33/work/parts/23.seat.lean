set_option maxRecDepth 100000 in
set_option maxHeartbeats 4000000 in
theorem c_X0_seatRow {E : En} {G : Wd} {q : Nat} {F : Fm} (hq : q < 6) (hC : FilmC G q F) (hOv : VlOk F.1) (hOc : CuOk F.2.1) {k : Nat} {S : Sb} {lo hi : Int} (hk : k < 120) (hS : SubIs G k S) (hT : SbOk S) (hlo : 0 ≤ lo ∧ lo ≤ 5020) (hhi : -20 ≤ hi ∧ hi ≤ 5000) : Cti E yX0_seatRow cX0_seatRow 8 .boolean 2 44 [.ref (E.1 (14 + q)), .ref (E.1 (38 + k)), .int (iN lo), .int (iN hi)] G (fun z G' => (z = 1 ∧ seat1 F S lo hi ≠ S ∨ z = 0 ∧ seat1 F S lo hi = S) ∧ SubIs G' k (seat1 F S lo hi) ∧ ∀ f a i, ¬ ((f = 5 ∨ f = 6) ∧ a = k) → G' f a i = G f a i) := by
  obtain ⟨hV, hcc, hcu⟩ := id hC
  have hl12 := hOc.1
  obtain ⟨hv0, hv1, hv2, hv3, hv4, hv5⟩ := id hOv
  have w0 := hV 0 (by omega)
  have w1 := hV 1 (by omega)
  have w2 := hV 2 (by omega)
  have w3 := hV 3 (by omega)
  have w4 := hV 4 (by omega)
  have w5 := hV 5 (by omega)
  have e5 := hS.1
  have e6 := hS.2.1
  have e7 := hS.2.2.1
  have o1 := hT.1
  have o2 := hT.2.1
  have o3 := hT.2.2.1
  have o4 := hT.2.2.2.1
  have o5 := hT.2.2.2.2.1
  have hnb := need_b hOv hT.2.2.2
  have hb1 := st_e1_b (F := F) (S := S) (hi := hi)
  have hb2 := st_s1_b (F := F) (S := S) (lo := lo) (hi := hi)
  have hcb := ncut_b hOc (st_e1 F S hi)
  have e8 := hS.2.2.2
  refine Cti.mk [some (.ref (E.1 (14 + q))), some (.ref (E.1 (38 + k))), some (.int (iN lo)), some (.int (iN hi)), none, none, none, none] (by decide) rfl (by intro v hv; simp only [List.mem_cons, List.not_mem_nil, or_false] at hv; rcases hv with rfl | rfl | rfl | rfl <;> rfl) (Nat.le_of_ble_eq_true rfl) ?_
  intro p l e s m args below meth c cx
  have L141 : ∀ (G1 : Wd), (G1 5 k 0 = st_s1 F S lo hi) → (G1 6 k 0 = st_e2 F S lo hi) → (∀ f a i, ¬ ((f = 5 ∨ f = 6) ∧ a = k) → G1 f a i = G f a i) → Z p l e (zr 2 44) s m args below meth c 8 0 0 E (Qi_ E below args s (fun z G' => (z = 1 ∧ seat1 F S lo hi ≠ S ∨ z = 0 ∧ seat1 F S lo hi = S) ∧ SubIs G' k (seat1 F S lo hi) ∧ ∀ f a i, ¬ ((f = 5 ∨ f = 6) ∧ a = k) → G' f a i = G f a i)) G1 141 [some (.ref (E.1 (14 + q))), some (.ref (E.1 (38 + k))), some (.int (iN lo)), some (.int (iN hi)), some (.int (iN S.1)), some (.int (iN S.2.1)), some (.int (iN (need F S))), none] [] := by
    intro G1 g5 g6 gf
    have hb3 : 0 ≤ st_e2 F S lo hi ∧ st_e2 F S lo hi ≤ 5000 := by
      have w := (seat1_ok (F := F) (S := S) (lo := lo) (hi := hi) (pe := 0) (ns := 5000) hOv hOc hT (by omega) (by omega) (by omega) (by omega) (by omega) (by omega)).1
      have w1 := w.1
      have w2 := w.2.1
      have w3 := w.2.2.1
      rw [seat1_eq] at w1 w2 w3
      dsimp only at w1 w2 w3
      omega
    have hfin : SubIs G1 k (seat1 F S lo hi) := ⟨g5, g6, (gf 7 k 0 (by omega)).trans e7, fun i h => (gf 8 k i (by omega)).trans (e8 i h)⟩
    refine z_aload_n cx dX0_seatRow_141 rfl ?_
    refine g_X3_0 cx (by omega) fl_X0_45 dX0_seatRow_142 ?_
    refine z_iload cx dX0_seatRow_145 rfl ?_
    refine z_icmp_ne cx (tgt := 159) dX0_seatRow_147 (fun h147 => ?_) (fun h147 => ?_)
    · skip
      refine z_iconst cx dX0_seatRow_159 ?_
      refine z_goto cx (tgt := 164) dX0_seatRow_160 ?_
      refine z_zret cx dX0_seatRow_164 ?_
      refine ⟨Or.inl ⟨rfl, fun w => ?_⟩, hfin, gf⟩
      rw [seat1_eq] at w
      have w1 := congrArg (fun t : Sb => t.1) w
      have w2 := congrArg (fun t : Sb => t.2.1) w
      dsimp only at w1 w2
      omega
    · skip
      refine z_aload_n cx dX0_seatRow_150 rfl ?_
      refine g_X3_1 cx (by omega) fl_X0_48 dX0_seatRow_151 ?_
      refine z_iload cx dX0_seatRow_154 rfl ?_
      refine z_icmp_eq cx (tgt := 163) dX0_seatRow_156 (fun h156 => ?_) (fun h156 => ?_)
      · skip
        refine z_iconst cx dX0_seatRow_163 ?_
        refine z_zret cx dX0_seatRow_164 ?_
        refine ⟨Or.inr ⟨rfl, ?_⟩, hfin, gf⟩
        rw [seat1_eq, show st_s1 F S lo hi = S.1 by omega, show st_e2 F S lo hi = S.2.1 by omega]
      · skip
        refine z_iconst cx dX0_seatRow_159 ?_
        refine z_goto cx (tgt := 164) dX0_seatRow_160 ?_
        refine z_zret cx dX0_seatRow_164 ?_
        refine ⟨Or.inl ⟨rfl, fun w => ?_⟩, hfin, gf⟩
        rw [seat1_eq] at w
        have w1 := congrArg (fun t : Sb => t.1) w
        have w2 := congrArg (fun t : Sb => t.2.1) w
        dsimp only at w1 w2
        omega
  have L81 : ∀ (G1 : Wd), (G1 5 k 0 = st_s1 F S lo hi) → (G1 6 k 0 = st_e1 F S hi) → (∀ f a i, ¬ ((f = 5 ∨ f = 6) ∧ a = k) → G1 f a i = G f a i) → Z p l e (zr 2 44) s m args below meth c 8 0 0 E (Qi_ E below args s (fun z G' => (z = 1 ∧ seat1 F S lo hi ≠ S ∨ z = 0 ∧ seat1 F S lo hi = S) ∧ SubIs G' k (seat1 F S lo hi) ∧ ∀ f a i, ¬ ((f = 5 ∨ f = 6) ∧ a = k) → G' f a i = G f a i)) G1 81 [some (.ref (E.1 (14 + q))), some (.ref (E.1 (38 + k))), some (.int (iN lo)), some (.int (iN hi)), some (.int (iN S.1)), some (.int (iN S.2.1)), some (.int (iN (need F S))), none] [] := by
    intro G1 g5 g6 gf
    have hC1 : FilmC G1 q F := hC.of (fun f i h1 h3 => gf f q i (by omega))
    have w51 := hC1.1 5 (by omega)
    refine z_aload_n cx dX0_seatRow_81 rfl ?_
    refine z_aload_n cx dX0_seatRow_82 rfl ?_
    refine g_X3_1 cx (by omega) fl_X0_48 dX0_seatRow_83 ?_
    refine z_vi cx (c_X0_nearestCutTo hq hC1 hOv hOc (by omega)) rfl mv_X0_nearestCutTo ml_X0_93 (by omega) (co_film E _ (by omega)) rfl dX0_seatRow_86 (fun z86 G86 hz86 => ?_)
    obtain ⟨eG, hz86⟩ := hz86
    have eG := eG.symm
    subst eG
    rw [g6] at hz86
    have hcb2 : z86 = -6 ∨ (1 ≤ z86 ∧ z86 ≤ 4999) := by omega
    refine z_istore cx dX0_seatRow_89 ?_
    refine z_iload cx dX0_seatRow_91 rfl ?_
    refine z_bipush cx dX0_seatRow_93 ?_
    refine z_icmp_eq cx (tgt := 141) dX0_seatRow_95 (fun h95 => ?_) (fun h95 => ?_)
    · skip
      refine Z.locs (L141 _ ?_ ?_ ?_) ⟨rfl, rfl, rfl, rfl, rfl, rfl, rfl, trivial⟩
      · first
        | exact g5
        | (rw [gup_f _ _ _ _ _ _ _ (by decide)]; exact g5)
      · first
        | (rw [gup_s, hz86, st_e2_t (by omega) (by omega) (by omega) (by omega)]; done)
        | (rw [st_e2_f (by omega)]; exact g6)
      · first
        | exact gf
        | exact (fun f a i h => by rw [gup_eq, if_neg (by omega)]; exact gf f a i h)
    · skip
      refine z_iload cx dX0_seatRow_98 rfl ?_
      refine z_aload_n cx dX0_seatRow_100 rfl ?_
      refine g_X3_1 cx (by omega) fl_X0_48 dX0_seatRow_101 ?_
      refine z_isub cx dX0_seatRow_104 ?_
      refine z_abs cx ml_X0_97 dX0_seatRow_105 ?_
      refine z_aload_n cx dX0_seatRow_108 rfl ?_
      refine g_X0_4 cx (by omega) fl_X0_22 dX0_seatRow_109 ?_
      refine z_iconst cx dX0_seatRow_112 ?_
      refine z_iald cx 5 rfl (by omega) (co_vals E _ (by omega)) dX0_seatRow_113 ?_
      refine z_icmp_gt cx (tgt := 141) dX0_seatRow_114 (fun h114 => ?_) (fun h114 => ?_)
      · skip
        refine Z.locs (L141 _ ?_ ?_ ?_) ⟨rfl, rfl, rfl, rfl, rfl, rfl, rfl, trivial⟩
        · first
          | exact g5
          | (rw [gup_f _ _ _ _ _ _ _ (by decide)]; exact g5)
        · first
          | (rw [gup_s, hz86, st_e2_t (by omega) (by omega) (by omega) (by omega)]; done)
          | (rw [st_e2_f (by omega)]; exact g6)
        · first
          | exact gf
          | exact (fun f a i h => by rw [gup_eq, if_neg (by omega)]; exact gf f a i h)
      · skip
        refine z_iload cx dX0_seatRow_117 rfl ?_
        refine z_iload_n cx dX0_seatRow_119 rfl ?_
        refine z_icmp_gt cx (tgt := 141) dX0_seatRow_120 (fun h120 => ?_) (fun h120 => ?_)
        · skip
          refine Z.locs (L141 _ ?_ ?_ ?_) ⟨rfl, rfl, rfl, rfl, rfl, rfl, rfl, trivial⟩
          · first
            | exact g5
            | (rw [gup_f _ _ _ _ _ _ _ (by decide)]; exact g5)
          · first
            | (rw [gup_s, hz86, st_e2_t (by omega) (by omega) (by omega) (by omega)]; done)
            | (rw [st_e2_f (by omega)]; exact g6)
          · first
            | exact gf
            | exact (fun f a i h => by rw [gup_eq, if_neg (by omega)]; exact gf f a i h)
        · skip
          refine z_iload cx dX0_seatRow_123 rfl ?_
          refine z_aload_n cx dX0_seatRow_125 rfl ?_
          refine g_X3_0 cx (by omega) fl_X0_45 dX0_seatRow_126 ?_
          refine z_isub cx dX0_seatRow_129 ?_
          refine z_iload cx dX0_seatRow_130 rfl ?_
          refine z_icmp_lt cx (tgt := 141) dX0_seatRow_132 (fun h132 => ?_) (fun h132 => ?_)
          · skip
            refine Z.locs (L141 _ ?_ ?_ ?_) ⟨rfl, rfl, rfl, rfl, rfl, rfl, rfl, trivial⟩
            · first
              | exact g5
              | (rw [gup_f _ _ _ _ _ _ _ (by decide)]; exact g5)
            · first
              | (rw [gup_s, hz86, st_e2_t (by omega) (by omega) (by omega) (by omega)]; done)
              | (rw [st_e2_f (by omega)]; exact g6)
            · first
              | exact gf
              | exact (fun f a i h => by rw [gup_eq, if_neg (by omega)]; exact gf f a i h)
          · skip
            refine z_aload_n cx dX0_seatRow_135 rfl ?_
            refine z_iload cx dX0_seatRow_136 rfl ?_
            refine p_X3_1 cx (by omega) fl_X0_48 dX0_seatRow_138 ?_
            refine Z.locs (L141 _ ?_ ?_ ?_) ⟨rfl, rfl, rfl, rfl, rfl, rfl, rfl, trivial⟩
            · first
              | exact g5
              | (rw [gup_f _ _ _ _ _ _ _ (by decide)]; exact g5)
            · first
              | (rw [gup_s, hz86, st_e2_t (by omega) (by omega) (by omega) (by omega)]; done)
              | (rw [st_e2_f (by omega)]; exact g6)
            · first
              | exact gf
              | exact (fun f a i h => by rw [gup_eq, if_neg (by omega)]; exact gf f a i h)
  have L50 : ∀ (G1 : Wd), (G1 5 k 0 = S.1) → (G1 6 k 0 = st_e1 F S hi) → (∀ f a i, ¬ (f = 6 ∧ a = k) → G1 f a i = G f a i) → Z p l e (zr 2 44) s m args below meth c 8 0 0 E (Qi_ E below args s (fun z G' => (z = 1 ∧ seat1 F S lo hi ≠ S ∨ z = 0 ∧ seat1 F S lo hi = S) ∧ SubIs G' k (seat1 F S lo hi) ∧ ∀ f a i, ¬ ((f = 5 ∨ f = 6) ∧ a = k) → G' f a i = G f a i)) G1 50 [some (.ref (E.1 (14 + q))), some (.ref (E.1 (38 + k))), some (.int (iN lo)), some (.int (iN hi)), some (.int (iN S.1)), some (.int (iN S.2.1)), some (.int (iN (need F S))), none] [] := by
    intro G1 g5 g6 gf
    refine z_aload_n cx dX0_seatRow_50 rfl ?_
    refine z_vi cx (c_X3_frames hk) rfl mv_X3_frames ml_X0_66 (by omega) (co_sub E _ (by omega)) rfl dX0_seatRow_51 (fun z51 G51 hz51 => ?_)
    obtain ⟨eG, rfl⟩ := hz51
    have eG := eG.symm
    subst eG
    refine z_iload cx dX0_seatRow_54 rfl ?_
    refine z_icmp_ge cx (tgt := 81) dX0_seatRow_56 (fun h56 => ?_) (fun h56 => ?_)
    · skip
      refine Z.locs (L81 _ ?_ ?_ ?_) ⟨rfl, rfl, rfl, rfl, rfl, rfl, rfl, trivial⟩
      · first
        | (rw [gup_s, g6, g5, st_s1_t (by omega)]; done)
        | (rw [g5, st_s1_f (by omega)]; done)
      · first
        | (rw [gup_f _ _ _ _ _ _ _ (by decide)]; exact g6)
        | exact g6
      · first
        | exact (fun f a i h => by rw [gup_eq, if_neg (by omega)]; exact gf f a i (by omega))
        | exact (fun f a i h => gf f a i (by omega))
    · skip
      refine z_aload_n cx dX0_seatRow_59 rfl ?_
      refine z_aload_n cx dX0_seatRow_60 rfl ?_
      refine g_X3_0 cx (by omega) fl_X0_45 dX0_seatRow_61 ?_
      refine z_aload_n cx dX0_seatRow_64 rfl ?_
      refine g_X3_1 cx (by omega) fl_X0_48 dX0_seatRow_65 ?_
      refine z_iload cx dX0_seatRow_68 rfl ?_
      refine z_isub cx dX0_seatRow_70 ?_
      refine z_iload_n cx dX0_seatRow_71 rfl ?_
      refine z_max cx ml_X0_79 dX0_seatRow_72 ?_
      refine z_min cx ml_X0_74 dX0_seatRow_75 ?_
      refine p_X3_0 cx (by omega) fl_X0_45 dX0_seatRow_78 ?_
      refine Z.locs (L81 _ ?_ ?_ ?_) ⟨rfl, rfl, rfl, rfl, rfl, rfl, rfl, trivial⟩
      · first
        | (rw [gup_s, g6, g5, st_s1_t (by omega)]; done)
        | (rw [g5, st_s1_f (by omega)]; done)
      · first
        | (rw [gup_f _ _ _ _ _ _ _ (by decide)]; exact g6)
        | exact g6
      · first
        | exact (fun f a i h => by rw [gup_eq, if_neg (by omega)]; exact gf f a i (by omega))
        | exact (fun f a i h => gf f a i (by omega))
  refine z_aload_n cx dX0_seatRow_0 rfl ?_
  refine g_X3_0 cx (by omega) fl_X0_45 dX0_seatRow_1 ?_
  rw [e5]
  refine z_istore cx dX0_seatRow_4 ?_
  refine z_aload_n cx dX0_seatRow_6 rfl ?_
  refine g_X3_1 cx (by omega) fl_X0_48 dX0_seatRow_7 ?_
  rw [e6]
  refine z_istore cx dX0_seatRow_10 ?_
  refine z_aload_n cx dX0_seatRow_12 rfl ?_
  refine z_aload_n cx dX0_seatRow_13 rfl ?_
  refine z_vi cx (c_X0_framesNeededBy hq hC hOv hOc hk hS hT) rfl mv_X0_framesNeededBy ml_X0_89 (by omega) (co_film E _ (by omega)) rfl dX0_seatRow_14 (fun z14 G14 hz14 => ?_)
  obtain ⟨eG, rfl⟩ := hz14
  have eG := eG.symm
  subst eG
  refine z_istore cx dX0_seatRow_17 ?_
  refine z_aload_n cx dX0_seatRow_19 rfl ?_
  refine z_vi cx (c_X3_frames hk) rfl mv_X3_frames ml_X0_66 (by omega) (co_sub E _ (by omega)) rfl dX0_seatRow_20 (fun z20 G20 hz20 => ?_)
  obtain ⟨eG, rfl⟩ := hz20
  have eG := eG.symm
  subst eG
  refine z_iload cx dX0_seatRow_23 rfl ?_
  refine z_icmp_ge cx (tgt := 50) dX0_seatRow_25 (fun h25 => ?_) (fun h25 => ?_)
  · skip
    refine Z.locs (L50 _ ?_ ?_ ?_) ⟨rfl, rfl, rfl, rfl, rfl, rfl, rfl, trivial⟩
    · first
      | (rw [gup_f _ _ _ _ _ _ _ (by decide)]; exact e5)
      | exact e5
    · first
      | (rw [gup_s, e6, e5, st_e1_t (by omega)]; done)
      | (rw [st_e1_f (by omega)]; exact e6)
    · first
      | exact (fun f a i h => by rw [gup_eq, if_neg (by omega)])
      | exact (fun f a i h => rfl)
  · skip
    refine z_aload_n cx dX0_seatRow_28 rfl ?_
    refine z_aload_n cx dX0_seatRow_29 rfl ?_
    refine g_X3_1 cx (by omega) fl_X0_48 dX0_seatRow_30 ?_
    refine z_aload_n cx dX0_seatRow_33 rfl ?_
    refine g_X3_0 cx (by omega) fl_X0_45 dX0_seatRow_34 ?_
    refine z_iload cx dX0_seatRow_37 rfl ?_
    refine z_iadd cx dX0_seatRow_39 ?_
    refine z_iload_n cx dX0_seatRow_40 rfl ?_
    refine z_min cx ml_X0_74 dX0_seatRow_41 ?_
    refine z_max cx ml_X0_79 dX0_seatRow_44 ?_
    refine p_X3_1 cx (by omega) fl_X0_48 dX0_seatRow_47 ?_
    refine Z.locs (L50 _ ?_ ?_ ?_) ⟨rfl, rfl, rfl, rfl, rfl, rfl, rfl, trivial⟩
    · first
      | (rw [gup_f _ _ _ _ _ _ _ (by decide)]; exact e5)
      | exact e5
    · first
      | (rw [gup_s, e6, e5, st_e1_t (by omega)]; done)
      | (rw [st_e1_f (by omega)]; exact e6)
    · first
      | exact (fun f a i h => by rw [gup_eq, if_neg (by omega)])
      | exact (fun f a i h => rfl)
set_option maxRecDepth 100000 in
set_option maxHeartbeats 4000000 in
theorem c_X0_seatAll {E : En} {G : Wd} {q : Nat} {F : Fm} {x : Int} (hq : q < 6) (hF : FilmIs G q F) (hO : FOk F) (hx : 0 ≤ x ∧ x ≤ 20) : Cti E yX0_seatAll cX0_seatAll 6 .int 3 71 [.ref (E.1 (14 + q)), .int (iN x)] G (fun z G' => z = seatC F x ∧ FilmIs G' q (seatF F x) ∧ FrF q G G') := by
  obtain ⟨hR, hV, hcc, hcu, hn, hs⟩ := id hF
  obtain ⟨hOv, hOc, hOs⟩ := id hO
  have hl20 := hOs.1
  have hl12 := hOc.1
  obtain ⟨hv0, hv1, hv2, hv3, hv4, hv5⟩ := id hOv
  have w0 := hV 0 (by omega)
  have w1 := hV 1 (by omega)
  have w2 := hV 2 (by omega)
  have w3 := hV 3 (by omega)
  have w4 := hV 4 (by omega)
  have w5 := hV 5 (by omega)
  refine Cti.mk [some (.ref (E.1 (14 + q))), some (.int (iN x)), none, none, none, none] (by decide) rfl (by intro v hv; simp only [List.mem_cons, List.not_mem_nil, or_false] at hv; rcases hv with rfl | rfl <;> rfl) (Nat.le_of_ble_eq_true rfl) ?_
  intro p l e s m args below meth c cx
  have L4 : ∀ (n : Nat) (j : Nat) (G1 : Wd), (60 - j) < n → (j ≤ F.2.2.length) → (FilmIs G1 q (F.1, F.2.1, seatN F x j)) → (FrF q G G1) → Z p l e (zr 3 71) s m args below meth c 6 0 0 E (Qi_ E below args s (fun z G' => z = seatC F x ∧ FilmIs G' q (seatF F x) ∧ FrF q G G')) G1 4 [some (.ref (E.1 (14 + q))), some (.int (iN x)), some (.int (iN (cnt (fun i => (seatN F x F.2.2.length).getD i dS ≠ F.2.2.getD i dS) j))), some (.int (iN (j : Int))), none, none] [] := by
    intro n
    induction n with
    | zero =>
      intro j G1 hmu
      exact absurd hmu (Nat.not_lt_zero _)
    | succ n ih =>
      intro j G1 hmu hj hF1 hfr
      obtain ⟨hR1, hV1, hcc1, hcu1, hn1, hs1⟩ := id hF1
      dsimp only at hn1 hs1
      have hOs1 := seatN_ok (g := x) hO hx.1 j hj
      rw [seatN_len] at hn1
      have hlen := seatN_len F x j
      have hcb := cnt_b (fun i => (seatN F x F.2.2.length).getD i dS ≠ F.2.2.getD i dS) j
      refine z_iload_n cx dX0_seatAll_4 rfl ?_
      refine z_aload_n cx dX0_seatAll_5 rfl ?_
      refine g_X0_1 cx (by omega) fl_X0_34 dX0_seatAll_6 ?_
      refine z_icmp_ge cx (tgt := 92) dX0_seatAll_9 (fun h9 => ?_) (fun h9 => ?_)
      · skip
        refine z_iload_n cx dX0_seatAll_92 rfl ?_
        refine z_iret cx dX0_seatAll_93 ?_
        have hjl : j = F.2.2.length := by omega
        subst hjl
        exact ⟨rfl, hF1, hfr⟩
      · skip
        have hk := hR1.1 (j) (by omega)
        have hs_ := hs1 (j) (by omega)
        have ho := hOs1.2.1 (j) (by omega)
        have e5 := hs_.1
        have e6 := hs_.2.1
        have e7 := hs_.2.2.1
        have o1 := ho.1
        have o2 := ho.2.1
        have o3 := ho.2.2.1
        refine z_iload_n cx dX0_seatAll_12 rfl ?_
        refine z_if_le cx (tgt := 32) dX0_seatAll_13 (fun h13 => ?_) (fun h13 => ?_)
        · skip
          refine z_iconst cx dX0_seatAll_32 ?_
          first
          | rw [show ((0 : Int)) = (if 0 < j then ((seatN F x j).getD (j - 1) dS).2.1 + x else 0) from (if_neg (by omega)).symm]
          | rw [show ((seatN F x j).getD (j - 1) dS).2.1 + x = (if 0 < j then ((seatN F x j).getD (j - 1) dS).2.1 + x else 0) from (if_pos (by omega)).symm]
          refine z_istore cx dX0_seatAll_33 ?_
          refine z_iload_n cx dX0_seatAll_35 rfl ?_
          refine z_aload_n cx dX0_seatAll_36 rfl ?_
          refine g_X0_1 cx (by omega) fl_X0_34 dX0_seatAll_37 ?_
          refine z_iconst cx dX0_seatAll_40 ?_
          refine z_isub cx dX0_seatAll_41 ?_
          refine z_icmp_ge cx (tgt := 61) dX0_seatAll_42 (fun h42 => ?_) (fun h42 => ?_)
          · skip
            refine z_sipush cx dX0_seatAll_61 ?_
            first
            | rw [show ((5000 : Int)) = (if j + 1 < (seatN F x j).length then ((seatN F x j).getD (j + 1) dS).1 - x else 5000) from (if_neg (by omega)).symm]
            | rw [show ((seatN F x j).getD (j + 1) dS).1 - x = (if j + 1 < (seatN F x j).length then ((seatN F x j).getD (j + 1) dS).1 - x else 5000) from (if_pos (by omega)).symm]
            refine z_istore cx dX0_seatAll_64 ?_
            refine z_aload_n cx dX0_seatAll_66 rfl ?_
            refine z_aload_n cx dX0_seatAll_67 rfl ?_
            refine g_X0_0 cx (by omega) fl_X0_11 dX0_seatAll_68 ?_
            refine z_iload_n cx dX0_seatAll_71 rfl ?_
            refine z_aldq cx _ rfl (by omega) (co_rows E _ (by omega)) rfl dX0_seatAll_72 ?_
            refine z_iload cx dX0_seatAll_73 rfl ?_
            refine z_iload cx dX0_seatAll_75 rfl ?_
            refine z_vi cx (c_X0_seatRow (F := (F.1, F.2.1, seatN F x j)) (S := (seatN F x j).getD j dS) (lo := (if 0 < j then ((seatN F x j).getD (j - 1) dS).2.1 + x else 0)) (hi := (if j + 1 < (seatN F x j).length then ((seatN F x j).getD (j + 1) dS).1 - x else 5000)) hq hF1.C hOv hOc (by omega) hs_ ho (by split <;> omega) (by split <;> omega)) rfl mv_X0_seatRow ml_X0_85 (by omega) (co_film E _ (by omega)) rfl dX0_seatAll_77 (fun z77 G77 hz77 => ?_)
            refine z_if_eq cx (tgt := 86) dX0_seatAll_80 (fun h80 => ?_) (fun h80 => ?_)
            · skip
              have hseq : seatL F x (seatN F x j) j = (seatN F x j).set j (seat1 F ((seatN F x j).getD j dS) (if 0 < j then ((seatN F x j).getD (j - 1) dS).2.1 + x else 0) (if j + 1 < (seatN F x j).length then ((seatN F x j).getD (j + 1) dS).1 - x else 5000)) := rfl
              have hPj : (seatN F x F.2.2.length).getD j dS = seat1 F ((seatN F x j).getD j dS) (if 0 < j then ((seatN F x j).getD (j - 1) dS).2.1 + x else 0) (if j + 1 < (seatN F x j).length then ((seatN F x j).getD (j + 1) dS).1 - x else 5000) := by
                rw [seatN_lo F x (show j < F.2.2.length by omega), seatN_s, seatL_eq (by omega)]
              have hFj : (seatN F x j).getD j dS = F.2.2.getD j dS := seatN_hi F x (Nat.le_refl _)
              have hset : FilmIs G77 q (F.1, F.2.1, seatL F x (seatN F x j) j) ∧ FrF q G1 G77 := by
                rw [hseq]
                exact film_set (F := (F.1, F.2.1, seatN F x j)) hF1 hOs1.1 (by dsimp only; omega) hz77.2.1 (fun f a i h => hz77.2.2 f a i (by omega))
              have hz771 := hz77.1
              rw [hFj, ← hFj] at hz771
              first
              | (have hst : cnt (fun i => (seatN F x F.2.2.length).getD i dS ≠ F.2.2.getD i dS) (j + 1) = cnt (fun i => (seatN F x F.2.2.length).getD i dS ≠ F.2.2.getD i dS) j + 1 := cnt_t (p := (fun i => (seatN F x F.2.2.length).getD i dS ≠ F.2.2.getD i dS)) (by
                  show _ ≠ _
                  rw [hPj, ← hFj]
                  rcases hz771 with ⟨g1, g2⟩ | ⟨g1, g2⟩
                  · exact g2
                  · exfalso; omega)
                 rw [← hst])
              | (have hst : cnt (fun i => (seatN F x F.2.2.length).getD i dS ≠ F.2.2.getD i dS) (j + 1) = cnt (fun i => (seatN F x F.2.2.length).getD i dS ≠ F.2.2.getD i dS) j := cnt_f (p := (fun i => (seatN F x F.2.2.length).getD i dS ≠ F.2.2.getD i dS)) (by
                  show ¬ (_ ≠ _)
                  rw [hPj, ← hFj]
                  rcases hz771 with ⟨g1, g2⟩ | ⟨g1, g2⟩
                  · exfalso; omega
                  · exact fun w => w g2)
                 rw [← hst])
              refine z_iinc cx dX0_seatAll_86 rfl ?_
              refine z_goto cx (tgt := 4) dX0_seatAll_89 ?_
              refine Z.locs (ih (j + 1) _ (by omega) (by omega) (by rw [seatN_s]; exact hset.1) (hfr.tr hset.2)) ⟨rfl, rfl, rfl, rfl, trivial⟩
            · skip
              refine z_iinc cx dX0_seatAll_83 rfl ?_
              have hseq : seatL F x (seatN F x j) j = (seatN F x j).set j (seat1 F ((seatN F x j).getD j dS) (if 0 < j then ((seatN F x j).getD (j - 1) dS).2.1 + x else 0) (if j + 1 < (seatN F x j).length then ((seatN F x j).getD (j + 1) dS).1 - x else 5000)) := rfl
              have hPj : (seatN F x F.2.2.length).getD j dS = seat1 F ((seatN F x j).getD j dS) (if 0 < j then ((seatN F x j).getD (j - 1) dS).2.1 + x else 0) (if j + 1 < (seatN F x j).length then ((seatN F x j).getD (j + 1) dS).1 - x else 5000) := by
                rw [seatN_lo F x (show j < F.2.2.length by omega), seatN_s, seatL_eq (by omega)]
              have hFj : (seatN F x j).getD j dS = F.2.2.getD j dS := seatN_hi F x (Nat.le_refl _)
              have hset : FilmIs G77 q (F.1, F.2.1, seatL F x (seatN F x j) j) ∧ FrF q G1 G77 := by
                rw [hseq]
                exact film_set (F := (F.1, F.2.1, seatN F x j)) hF1 hOs1.1 (by dsimp only; omega) hz77.2.1 (fun f a i h => hz77.2.2 f a i (by omega))
              have hz771 := hz77.1
              rw [hFj, ← hFj] at hz771
              first
              | (have hst : cnt (fun i => (seatN F x F.2.2.length).getD i dS ≠ F.2.2.getD i dS) (j + 1) = cnt (fun i => (seatN F x F.2.2.length).getD i dS ≠ F.2.2.getD i dS) j + 1 := cnt_t (p := (fun i => (seatN F x F.2.2.length).getD i dS ≠ F.2.2.getD i dS)) (by
                  show _ ≠ _
                  rw [hPj, ← hFj]
                  rcases hz771 with ⟨g1, g2⟩ | ⟨g1, g2⟩
                  · exact g2
                  · exfalso; omega)
                 rw [← hst])
              | (have hst : cnt (fun i => (seatN F x F.2.2.length).getD i dS ≠ F.2.2.getD i dS) (j + 1) = cnt (fun i => (seatN F x F.2.2.length).getD i dS ≠ F.2.2.getD i dS) j := cnt_f (p := (fun i => (seatN F x F.2.2.length).getD i dS ≠ F.2.2.getD i dS)) (by
                  show ¬ (_ ≠ _)
                  rw [hPj, ← hFj]
                  rcases hz771 with ⟨g1, g2⟩ | ⟨g1, g2⟩
                  · exfalso; omega
                  · exact fun w => w g2)
                 rw [← hst])
              refine z_iinc cx dX0_seatAll_86 rfl ?_
              refine z_goto cx (tgt := 4) dX0_seatAll_89 ?_
              refine Z.locs (ih (j + 1) _ (by omega) (by omega) (by rw [seatN_s]; exact hset.1) (hfr.tr hset.2)) ⟨rfl, rfl, rfl, rfl, trivial⟩
          · skip
            have hkn := hR1.1 (j + 1) (by omega)
            have hsn_ := hs1 (j + 1) (by omega)
            have hon := hOs1.2.1 (j + 1) (by omega)
            have e5n := hsn_.1
            have e6n := hsn_.2.1
            have e7n := hsn_.2.2.1
            have o1n := hon.1
            have o2n := hon.2.1
            have o3n := hon.2.2.1
            refine z_aload_n cx dX0_seatAll_45 rfl ?_
            refine g_X0_0 cx (by omega) fl_X0_11 dX0_seatAll_46 ?_
            refine z_iload_n cx dX0_seatAll_49 rfl ?_
            refine z_iconst cx dX0_seatAll_50 ?_
            refine z_iadd cx dX0_seatAll_51 ?_
            refine z_aldq cx (j + 1) (by omega) (by omega) (co_rows E _ (by omega)) rfl dX0_seatAll_52 ?_
            refine g_X3_0 cx (by omega) fl_X0_45 dX0_seatAll_53 ?_
            refine z_iload_n cx dX0_seatAll_56 rfl ?_
            rw [e5n]
            refine z_isub cx dX0_seatAll_57 ?_
            refine z_goto cx (tgt := 64) dX0_seatAll_58 ?_
            first
            | rw [show ((5000 : Int)) = (if j + 1 < (seatN F x j).length then ((seatN F x j).getD (j + 1) dS).1 - x else 5000) from (if_neg (by omega)).symm]
            | rw [show ((seatN F x j).getD (j + 1) dS).1 - x = (if j + 1 < (seatN F x j).length then ((seatN F x j).getD (j + 1) dS).1 - x else 5000) from (if_pos (by omega)).symm]
            refine z_istore cx dX0_seatAll_64 ?_
            refine z_aload_n cx dX0_seatAll_66 rfl ?_
            refine z_aload_n cx dX0_seatAll_67 rfl ?_
            refine g_X0_0 cx (by omega) fl_X0_11 dX0_seatAll_68 ?_
            refine z_iload_n cx dX0_seatAll_71 rfl ?_
            refine z_aldq cx _ rfl (by omega) (co_rows E _ (by omega)) rfl dX0_seatAll_72 ?_
            refine z_iload cx dX0_seatAll_73 rfl ?_
            refine z_iload cx dX0_seatAll_75 rfl ?_
            refine z_vi cx (c_X0_seatRow (F := (F.1, F.2.1, seatN F x j)) (S := (seatN F x j).getD j dS) (lo := (if 0 < j then ((seatN F x j).getD (j - 1) dS).2.1 + x else 0)) (hi := (if j + 1 < (seatN F x j).length then ((seatN F x j).getD (j + 1) dS).1 - x else 5000)) hq hF1.C hOv hOc (by omega) hs_ ho (by split <;> omega) (by split <;> omega)) rfl mv_X0_seatRow ml_X0_85 (by omega) (co_film E _ (by omega)) rfl dX0_seatAll_77 (fun z77 G77 hz77 => ?_)
            refine z_if_eq cx (tgt := 86) dX0_seatAll_80 (fun h80 => ?_) (fun h80 => ?_)
            · skip
              have hseq : seatL F x (seatN F x j) j = (seatN F x j).set j (seat1 F ((seatN F x j).getD j dS) (if 0 < j then ((seatN F x j).getD (j - 1) dS).2.1 + x else 0) (if j + 1 < (seatN F x j).length then ((seatN F x j).getD (j + 1) dS).1 - x else 5000)) := rfl
              have hPj : (seatN F x F.2.2.length).getD j dS = seat1 F ((seatN F x j).getD j dS) (if 0 < j then ((seatN F x j).getD (j - 1) dS).2.1 + x else 0) (if j + 1 < (seatN F x j).length then ((seatN F x j).getD (j + 1) dS).1 - x else 5000) := by
                rw [seatN_lo F x (show j < F.2.2.length by omega), seatN_s, seatL_eq (by omega)]
              have hFj : (seatN F x j).getD j dS = F.2.2.getD j dS := seatN_hi F x (Nat.le_refl _)
              have hset : FilmIs G77 q (F.1, F.2.1, seatL F x (seatN F x j) j) ∧ FrF q G1 G77 := by
                rw [hseq]
                exact film_set (F := (F.1, F.2.1, seatN F x j)) hF1 hOs1.1 (by dsimp only; omega) hz77.2.1 (fun f a i h => hz77.2.2 f a i (by omega))
              have hz771 := hz77.1
              rw [hFj, ← hFj] at hz771
              first
              | (have hst : cnt (fun i => (seatN F x F.2.2.length).getD i dS ≠ F.2.2.getD i dS) (j + 1) = cnt (fun i => (seatN F x F.2.2.length).getD i dS ≠ F.2.2.getD i dS) j + 1 := cnt_t (p := (fun i => (seatN F x F.2.2.length).getD i dS ≠ F.2.2.getD i dS)) (by
                  show _ ≠ _
                  rw [hPj, ← hFj]
                  rcases hz771 with ⟨g1, g2⟩ | ⟨g1, g2⟩
                  · exact g2
                  · exfalso; omega)
                 rw [← hst])
              | (have hst : cnt (fun i => (seatN F x F.2.2.length).getD i dS ≠ F.2.2.getD i dS) (j + 1) = cnt (fun i => (seatN F x F.2.2.length).getD i dS ≠ F.2.2.getD i dS) j := cnt_f (p := (fun i => (seatN F x F.2.2.length).getD i dS ≠ F.2.2.getD i dS)) (by
                  show ¬ (_ ≠ _)
                  rw [hPj, ← hFj]
                  rcases hz771 with ⟨g1, g2⟩ | ⟨g1, g2⟩
                  · exfalso; omega
                  · exact fun w => w g2)
                 rw [← hst])
              refine z_iinc cx dX0_seatAll_86 rfl ?_
              refine z_goto cx (tgt := 4) dX0_seatAll_89 ?_
              refine Z.locs (ih (j + 1) _ (by omega) (by omega) (by rw [seatN_s]; exact hset.1) (hfr.tr hset.2)) ⟨rfl, rfl, rfl, rfl, trivial⟩
            · skip
              refine z_iinc cx dX0_seatAll_83 rfl ?_
              have hseq : seatL F x (seatN F x j) j = (seatN F x j).set j (seat1 F ((seatN F x j).getD j dS) (if 0 < j then ((seatN F x j).getD (j - 1) dS).2.1 + x else 0) (if j + 1 < (seatN F x j).length then ((seatN F x j).getD (j + 1) dS).1 - x else 5000)) := rfl
              have hPj : (seatN F x F.2.2.length).getD j dS = seat1 F ((seatN F x j).getD j dS) (if 0 < j then ((seatN F x j).getD (j - 1) dS).2.1 + x else 0) (if j + 1 < (seatN F x j).length then ((seatN F x j).getD (j + 1) dS).1 - x else 5000) := by
                rw [seatN_lo F x (show j < F.2.2.length by omega), seatN_s, seatL_eq (by omega)]
              have hFj : (seatN F x j).getD j dS = F.2.2.getD j dS := seatN_hi F x (Nat.le_refl _)
              have hset : FilmIs G77 q (F.1, F.2.1, seatL F x (seatN F x j) j) ∧ FrF q G1 G77 := by
                rw [hseq]
                exact film_set (F := (F.1, F.2.1, seatN F x j)) hF1 hOs1.1 (by dsimp only; omega) hz77.2.1 (fun f a i h => hz77.2.2 f a i (by omega))
              have hz771 := hz77.1
              rw [hFj, ← hFj] at hz771
              first
              | (have hst : cnt (fun i => (seatN F x F.2.2.length).getD i dS ≠ F.2.2.getD i dS) (j + 1) = cnt (fun i => (seatN F x F.2.2.length).getD i dS ≠ F.2.2.getD i dS) j + 1 := cnt_t (p := (fun i => (seatN F x F.2.2.length).getD i dS ≠ F.2.2.getD i dS)) (by
                  show _ ≠ _
                  rw [hPj, ← hFj]
                  rcases hz771 with ⟨g1, g2⟩ | ⟨g1, g2⟩
                  · exact g2
                  · exfalso; omega)
                 rw [← hst])
              | (have hst : cnt (fun i => (seatN F x F.2.2.length).getD i dS ≠ F.2.2.getD i dS) (j + 1) = cnt (fun i => (seatN F x F.2.2.length).getD i dS ≠ F.2.2.getD i dS) j := cnt_f (p := (fun i => (seatN F x F.2.2.length).getD i dS ≠ F.2.2.getD i dS)) (by
                  show ¬ (_ ≠ _)
                  rw [hPj, ← hFj]
                  rcases hz771 with ⟨g1, g2⟩ | ⟨g1, g2⟩
                  · exfalso; omega
                  · exact fun w => w g2)
                 rw [← hst])
              refine z_iinc cx dX0_seatAll_86 rfl ?_
              refine z_goto cx (tgt := 4) dX0_seatAll_89 ?_
              refine Z.locs (ih (j + 1) _ (by omega) (by omega) (by rw [seatN_s]; exact hset.1) (hfr.tr hset.2)) ⟨rfl, rfl, rfl, rfl, trivial⟩
        · skip
          have hkp := hR1.1 (j - 1) (by omega)
          have hsp_ := hs1 (j - 1) (by omega)
          have hop := hOs1.2.1 (j - 1) (by omega)
          have e5p := hsp_.1
          have e6p := hsp_.2.1
          have e7p := hsp_.2.2.1
          have o1p := hop.1
          have o2p := hop.2.1
          have o3p := hop.2.2.1
          refine z_aload_n cx dX0_seatAll_16 rfl ?_
          refine g_X0_0 cx (by omega) fl_X0_11 dX0_seatAll_17 ?_
          refine z_iload_n cx dX0_seatAll_20 rfl ?_
          refine z_iconst cx dX0_seatAll_21 ?_
          refine z_isub cx dX0_seatAll_22 ?_
          refine z_aldq cx (j - 1) (by omega) (by omega) (co_rows E _ (by omega)) rfl dX0_seatAll_23 ?_
          refine g_X3_1 cx (by omega) fl_X0_48 dX0_seatAll_24 ?_
          refine z_iload_n cx dX0_seatAll_27 rfl ?_
          rw [e6p]
          refine z_iadd cx dX0_seatAll_28 ?_
          refine z_goto cx (tgt := 33) dX0_seatAll_29 ?_
          first
          | rw [show ((0 : Int)) = (if 0 < j then ((seatN F x j).getD (j - 1) dS).2.1 + x else 0) from (if_neg (by omega)).symm]
          | rw [show ((seatN F x j).getD (j - 1) dS).2.1 + x = (if 0 < j then ((seatN F x j).getD (j - 1) dS).2.1 + x else 0) from (if_pos (by omega)).symm]
          refine z_istore cx dX0_seatAll_33 ?_
          refine z_iload_n cx dX0_seatAll_35 rfl ?_
          refine z_aload_n cx dX0_seatAll_36 rfl ?_
          refine g_X0_1 cx (by omega) fl_X0_34 dX0_seatAll_37 ?_
          refine z_iconst cx dX0_seatAll_40 ?_
          refine z_isub cx dX0_seatAll_41 ?_
          refine z_icmp_ge cx (tgt := 61) dX0_seatAll_42 (fun h42 => ?_) (fun h42 => ?_)
          · skip
            refine z_sipush cx dX0_seatAll_61 ?_
            first
            | rw [show ((5000 : Int)) = (if j + 1 < (seatN F x j).length then ((seatN F x j).getD (j + 1) dS).1 - x else 5000) from (if_neg (by omega)).symm]
            | rw [show ((seatN F x j).getD (j + 1) dS).1 - x = (if j + 1 < (seatN F x j).length then ((seatN F x j).getD (j + 1) dS).1 - x else 5000) from (if_pos (by omega)).symm]
            refine z_istore cx dX0_seatAll_64 ?_
            refine z_aload_n cx dX0_seatAll_66 rfl ?_
            refine z_aload_n cx dX0_seatAll_67 rfl ?_
            refine g_X0_0 cx (by omega) fl_X0_11 dX0_seatAll_68 ?_
            refine z_iload_n cx dX0_seatAll_71 rfl ?_
            refine z_aldq cx _ rfl (by omega) (co_rows E _ (by omega)) rfl dX0_seatAll_72 ?_
            refine z_iload cx dX0_seatAll_73 rfl ?_
            refine z_iload cx dX0_seatAll_75 rfl ?_
            refine z_vi cx (c_X0_seatRow (F := (F.1, F.2.1, seatN F x j)) (S := (seatN F x j).getD j dS) (lo := (if 0 < j then ((seatN F x j).getD (j - 1) dS).2.1 + x else 0)) (hi := (if j + 1 < (seatN F x j).length then ((seatN F x j).getD (j + 1) dS).1 - x else 5000)) hq hF1.C hOv hOc (by omega) hs_ ho (by split <;> omega) (by split <;> omega)) rfl mv_X0_seatRow ml_X0_85 (by omega) (co_film E _ (by omega)) rfl dX0_seatAll_77 (fun z77 G77 hz77 => ?_)
            refine z_if_eq cx (tgt := 86) dX0_seatAll_80 (fun h80 => ?_) (fun h80 => ?_)
            · skip
              have hseq : seatL F x (seatN F x j) j = (seatN F x j).set j (seat1 F ((seatN F x j).getD j dS) (if 0 < j then ((seatN F x j).getD (j - 1) dS).2.1 + x else 0) (if j + 1 < (seatN F x j).length then ((seatN F x j).getD (j + 1) dS).1 - x else 5000)) := rfl
              have hPj : (seatN F x F.2.2.length).getD j dS = seat1 F ((seatN F x j).getD j dS) (if 0 < j then ((seatN F x j).getD (j - 1) dS).2.1 + x else 0) (if j + 1 < (seatN F x j).length then ((seatN F x j).getD (j + 1) dS).1 - x else 5000) := by
                rw [seatN_lo F x (show j < F.2.2.length by omega), seatN_s, seatL_eq (by omega)]
              have hFj : (seatN F x j).getD j dS = F.2.2.getD j dS := seatN_hi F x (Nat.le_refl _)
              have hset : FilmIs G77 q (F.1, F.2.1, seatL F x (seatN F x j) j) ∧ FrF q G1 G77 := by
                rw [hseq]
                exact film_set (F := (F.1, F.2.1, seatN F x j)) hF1 hOs1.1 (by dsimp only; omega) hz77.2.1 (fun f a i h => hz77.2.2 f a i (by omega))
              have hz771 := hz77.1
              rw [hFj, ← hFj] at hz771
              first
              | (have hst : cnt (fun i => (seatN F x F.2.2.length).getD i dS ≠ F.2.2.getD i dS) (j + 1) = cnt (fun i => (seatN F x F.2.2.length).getD i dS ≠ F.2.2.getD i dS) j + 1 := cnt_t (p := (fun i => (seatN F x F.2.2.length).getD i dS ≠ F.2.2.getD i dS)) (by
                  show _ ≠ _
                  rw [hPj, ← hFj]
                  rcases hz771 with ⟨g1, g2⟩ | ⟨g1, g2⟩
                  · exact g2
                  · exfalso; omega)
                 rw [← hst])
              | (have hst : cnt (fun i => (seatN F x F.2.2.length).getD i dS ≠ F.2.2.getD i dS) (j + 1) = cnt (fun i => (seatN F x F.2.2.length).getD i dS ≠ F.2.2.getD i dS) j := cnt_f (p := (fun i => (seatN F x F.2.2.length).getD i dS ≠ F.2.2.getD i dS)) (by
                  show ¬ (_ ≠ _)
                  rw [hPj, ← hFj]
                  rcases hz771 with ⟨g1, g2⟩ | ⟨g1, g2⟩
                  · exfalso; omega
                  · exact fun w => w g2)
                 rw [← hst])
              refine z_iinc cx dX0_seatAll_86 rfl ?_
              refine z_goto cx (tgt := 4) dX0_seatAll_89 ?_
              refine Z.locs (ih (j + 1) _ (by omega) (by omega) (by rw [seatN_s]; exact hset.1) (hfr.tr hset.2)) ⟨rfl, rfl, rfl, rfl, trivial⟩
            · skip
              refine z_iinc cx dX0_seatAll_83 rfl ?_
              have hseq : seatL F x (seatN F x j) j = (seatN F x j).set j (seat1 F ((seatN F x j).getD j dS) (if 0 < j then ((seatN F x j).getD (j - 1) dS).2.1 + x else 0) (if j + 1 < (seatN F x j).length then ((seatN F x j).getD (j + 1) dS).1 - x else 5000)) := rfl
              have hPj : (seatN F x F.2.2.length).getD j dS = seat1 F ((seatN F x j).getD j dS) (if 0 < j then ((seatN F x j).getD (j - 1) dS).2.1 + x else 0) (if j + 1 < (seatN F x j).length then ((seatN F x j).getD (j + 1) dS).1 - x else 5000) := by
                rw [seatN_lo F x (show j < F.2.2.length by omega), seatN_s, seatL_eq (by omega)]
              have hFj : (seatN F x j).getD j dS = F.2.2.getD j dS := seatN_hi F x (Nat.le_refl _)
              have hset : FilmIs G77 q (F.1, F.2.1, seatL F x (seatN F x j) j) ∧ FrF q G1 G77 := by
                rw [hseq]
                exact film_set (F := (F.1, F.2.1, seatN F x j)) hF1 hOs1.1 (by dsimp only; omega) hz77.2.1 (fun f a i h => hz77.2.2 f a i (by omega))
              have hz771 := hz77.1
              rw [hFj, ← hFj] at hz771
              first
              | (have hst : cnt (fun i => (seatN F x F.2.2.length).getD i dS ≠ F.2.2.getD i dS) (j + 1) = cnt (fun i => (seatN F x F.2.2.length).getD i dS ≠ F.2.2.getD i dS) j + 1 := cnt_t (p := (fun i => (seatN F x F.2.2.length).getD i dS ≠ F.2.2.getD i dS)) (by
                  show _ ≠ _
                  rw [hPj, ← hFj]
                  rcases hz771 with ⟨g1, g2⟩ | ⟨g1, g2⟩
                  · exact g2
                  · exfalso; omega)
                 rw [← hst])
              | (have hst : cnt (fun i => (seatN F x F.2.2.length).getD i dS ≠ F.2.2.getD i dS) (j + 1) = cnt (fun i => (seatN F x F.2.2.length).getD i dS ≠ F.2.2.getD i dS) j := cnt_f (p := (fun i => (seatN F x F.2.2.length).getD i dS ≠ F.2.2.getD i dS)) (by
                  show ¬ (_ ≠ _)
                  rw [hPj, ← hFj]
                  rcases hz771 with ⟨g1, g2⟩ | ⟨g1, g2⟩
                  · exfalso; omega
                  · exact fun w => w g2)
                 rw [← hst])
              refine z_iinc cx dX0_seatAll_86 rfl ?_
              refine z_goto cx (tgt := 4) dX0_seatAll_89 ?_
              refine Z.locs (ih (j + 1) _ (by omega) (by omega) (by rw [seatN_s]; exact hset.1) (hfr.tr hset.2)) ⟨rfl, rfl, rfl, rfl, trivial⟩
          · skip
            have hkn := hR1.1 (j + 1) (by omega)
            have hsn_ := hs1 (j + 1) (by omega)
            have hon := hOs1.2.1 (j + 1) (by omega)
            have e5n := hsn_.1
            have e6n := hsn_.2.1
            have e7n := hsn_.2.2.1
            have o1n := hon.1
            have o2n := hon.2.1
            have o3n := hon.2.2.1
            refine z_aload_n cx dX0_seatAll_45 rfl ?_
            refine g_X0_0 cx (by omega) fl_X0_11 dX0_seatAll_46 ?_
            refine z_iload_n cx dX0_seatAll_49 rfl ?_
            refine z_iconst cx dX0_seatAll_50 ?_
            refine z_iadd cx dX0_seatAll_51 ?_
            refine z_aldq cx (j + 1) (by omega) (by omega) (co_rows E _ (by omega)) rfl dX0_seatAll_52 ?_
            refine g_X3_0 cx (by omega) fl_X0_45 dX0_seatAll_53 ?_
            refine z_iload_n cx dX0_seatAll_56 rfl ?_
            rw [e5n]
            refine z_isub cx dX0_seatAll_57 ?_
            refine z_goto cx (tgt := 64) dX0_seatAll_58 ?_
            first
            | rw [show ((5000 : Int)) = (if j + 1 < (seatN F x j).length then ((seatN F x j).getD (j + 1) dS).1 - x else 5000) from (if_neg (by omega)).symm]
            | rw [show ((seatN F x j).getD (j + 1) dS).1 - x = (if j + 1 < (seatN F x j).length then ((seatN F x j).getD (j + 1) dS).1 - x else 5000) from (if_pos (by omega)).symm]
            refine z_istore cx dX0_seatAll_64 ?_
            refine z_aload_n cx dX0_seatAll_66 rfl ?_
            refine z_aload_n cx dX0_seatAll_67 rfl ?_
            refine g_X0_0 cx (by omega) fl_X0_11 dX0_seatAll_68 ?_
            refine z_iload_n cx dX0_seatAll_71 rfl ?_
            refine z_aldq cx _ rfl (by omega) (co_rows E _ (by omega)) rfl dX0_seatAll_72 ?_
            refine z_iload cx dX0_seatAll_73 rfl ?_
            refine z_iload cx dX0_seatAll_75 rfl ?_
            refine z_vi cx (c_X0_seatRow (F := (F.1, F.2.1, seatN F x j)) (S := (seatN F x j).getD j dS) (lo := (if 0 < j then ((seatN F x j).getD (j - 1) dS).2.1 + x else 0)) (hi := (if j + 1 < (seatN F x j).length then ((seatN F x j).getD (j + 1) dS).1 - x else 5000)) hq hF1.C hOv hOc (by omega) hs_ ho (by split <;> omega) (by split <;> omega)) rfl mv_X0_seatRow ml_X0_85 (by omega) (co_film E _ (by omega)) rfl dX0_seatAll_77 (fun z77 G77 hz77 => ?_)
            refine z_if_eq cx (tgt := 86) dX0_seatAll_80 (fun h80 => ?_) (fun h80 => ?_)
            · skip
              have hseq : seatL F x (seatN F x j) j = (seatN F x j).set j (seat1 F ((seatN F x j).getD j dS) (if 0 < j then ((seatN F x j).getD (j - 1) dS).2.1 + x else 0) (if j + 1 < (seatN F x j).length then ((seatN F x j).getD (j + 1) dS).1 - x else 5000)) := rfl
              have hPj : (seatN F x F.2.2.length).getD j dS = seat1 F ((seatN F x j).getD j dS) (if 0 < j then ((seatN F x j).getD (j - 1) dS).2.1 + x else 0) (if j + 1 < (seatN F x j).length then ((seatN F x j).getD (j + 1) dS).1 - x else 5000) := by
                rw [seatN_lo F x (show j < F.2.2.length by omega), seatN_s, seatL_eq (by omega)]
              have hFj : (seatN F x j).getD j dS = F.2.2.getD j dS := seatN_hi F x (Nat.le_refl _)
              have hset : FilmIs G77 q (F.1, F.2.1, seatL F x (seatN F x j) j) ∧ FrF q G1 G77 := by
                rw [hseq]
                exact film_set (F := (F.1, F.2.1, seatN F x j)) hF1 hOs1.1 (by dsimp only; omega) hz77.2.1 (fun f a i h => hz77.2.2 f a i (by omega))
              have hz771 := hz77.1
              rw [hFj, ← hFj] at hz771
              first
              | (have hst : cnt (fun i => (seatN F x F.2.2.length).getD i dS ≠ F.2.2.getD i dS) (j + 1) = cnt (fun i => (seatN F x F.2.2.length).getD i dS ≠ F.2.2.getD i dS) j + 1 := cnt_t (p := (fun i => (seatN F x F.2.2.length).getD i dS ≠ F.2.2.getD i dS)) (by
                  show _ ≠ _
                  rw [hPj, ← hFj]
                  rcases hz771 with ⟨g1, g2⟩ | ⟨g1, g2⟩
                  · exact g2
                  · exfalso; omega)
                 rw [← hst])
              | (have hst : cnt (fun i => (seatN F x F.2.2.length).getD i dS ≠ F.2.2.getD i dS) (j + 1) = cnt (fun i => (seatN F x F.2.2.length).getD i dS ≠ F.2.2.getD i dS) j := cnt_f (p := (fun i => (seatN F x F.2.2.length).getD i dS ≠ F.2.2.getD i dS)) (by
                  show ¬ (_ ≠ _)
                  rw [hPj, ← hFj]
                  rcases hz771 with ⟨g1, g2⟩ | ⟨g1, g2⟩
                  · exfalso; omega
                  · exact fun w => w g2)
                 rw [← hst])
              refine z_iinc cx dX0_seatAll_86 rfl ?_
              refine z_goto cx (tgt := 4) dX0_seatAll_89 ?_
              refine Z.locs (ih (j + 1) _ (by omega) (by omega) (by rw [seatN_s]; exact hset.1) (hfr.tr hset.2)) ⟨rfl, rfl, rfl, rfl, trivial⟩
            · skip
              refine z_iinc cx dX0_seatAll_83 rfl ?_
              have hseq : seatL F x (seatN F x j) j = (seatN F x j).set j (seat1 F ((seatN F x j).getD j dS) (if 0 < j then ((seatN F x j).getD (j - 1) dS).2.1 + x else 0) (if j + 1 < (seatN F x j).length then ((seatN F x j).getD (j + 1) dS).1 - x else 5000)) := rfl
              have hPj : (seatN F x F.2.2.length).getD j dS = seat1 F ((seatN F x j).getD j dS) (if 0 < j then ((seatN F x j).getD (j - 1) dS).2.1 + x else 0) (if j + 1 < (seatN F x j).length then ((seatN F x j).getD (j + 1) dS).1 - x else 5000) := by
                rw [seatN_lo F x (show j < F.2.2.length by omega), seatN_s, seatL_eq (by omega)]
              have hFj : (seatN F x j).getD j dS = F.2.2.getD j dS := seatN_hi F x (Nat.le_refl _)
              have hset : FilmIs G77 q (F.1, F.2.1, seatL F x (seatN F x j) j) ∧ FrF q G1 G77 := by
                rw [hseq]
                exact film_set (F := (F.1, F.2.1, seatN F x j)) hF1 hOs1.1 (by dsimp only; omega) hz77.2.1 (fun f a i h => hz77.2.2 f a i (by omega))
              have hz771 := hz77.1
              rw [hFj, ← hFj] at hz771
              first
              | (have hst : cnt (fun i => (seatN F x F.2.2.length).getD i dS ≠ F.2.2.getD i dS) (j + 1) = cnt (fun i => (seatN F x F.2.2.length).getD i dS ≠ F.2.2.getD i dS) j + 1 := cnt_t (p := (fun i => (seatN F x F.2.2.length).getD i dS ≠ F.2.2.getD i dS)) (by
                  show _ ≠ _
                  rw [hPj, ← hFj]
                  rcases hz771 with ⟨g1, g2⟩ | ⟨g1, g2⟩
                  · exact g2
                  · exfalso; omega)
                 rw [← hst])
              | (have hst : cnt (fun i => (seatN F x F.2.2.length).getD i dS ≠ F.2.2.getD i dS) (j + 1) = cnt (fun i => (seatN F x F.2.2.length).getD i dS ≠ F.2.2.getD i dS) j := cnt_f (p := (fun i => (seatN F x F.2.2.length).getD i dS ≠ F.2.2.getD i dS)) (by
                  show ¬ (_ ≠ _)
                  rw [hPj, ← hFj]
                  rcases hz771 with ⟨g1, g2⟩ | ⟨g1, g2⟩
                  · exfalso; omega
                  · exact fun w => w g2)
                 rw [← hst])
              refine z_iinc cx dX0_seatAll_86 rfl ?_
              refine z_goto cx (tgt := 4) dX0_seatAll_89 ?_
              refine Z.locs (ih (j + 1) _ (by omega) (by omega) (by rw [seatN_s]; exact hset.1) (hfr.tr hset.2)) ⟨rfl, rfl, rfl, rfl, trivial⟩
  refine z_iconst cx dX0_seatAll_0 ?_
  refine z_istore_n cx dX0_seatAll_1 ?_
  refine z_iconst cx dX0_seatAll_2 ?_
  refine z_istore_n cx dX0_seatAll_3 ?_
  refine Z.locs (L4 _ (0) _ (Nat.lt_succ_self _) (by omega) hF FrF.rf) ⟨rfl, rfl, rfl, rfl, trivial⟩
