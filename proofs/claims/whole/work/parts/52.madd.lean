/-! ===== the model: reasons, entries ===== -/
def OvR (F : Fm) (a b : Int) (j : Nat) (z : Int) : Prop := (z = 1 ∧ ∃ i, i < F.2.2.length ∧ a < (F.2.2.getD i dS).2.1 ∧ (F.2.2.getD i dS).1 < b) ∨ (z = 0 ∧ ∀ i, i < j → ¬ (a < (F.2.2.getD i dS).2.1 ∧ (F.2.2.getD i dS).1 < b))
set_option maxRecDepth 100000 in
set_option maxHeartbeats 4000000 in
theorem c_X5_reasonNow {E : En} {G : Wd} {F : Fm} (hM : MFilm (G 20 0) F) (hO : FOk F) {a b : Int} (ha : G 32 0 0 = a) (hb : G 33 0 0 = b) (hab : 0 ≤ a ∧ a ≤ 5000 ∧ 0 ≤ b ∧ b ≤ 5000) : Cti E yX5_reasonNow cX5_reasonNow 3 .int 1 22 [.ref (E.1 6)] G (fun z G' => G' = G ∧ z = rsn F a b) := by
  obtain ⟨m0, mV, m7, mC, mS⟩ := id hM
  obtain ⟨hOv, hOc, hOs⟩ := id hO
  have hl20 := hOs.1
  have hl12 := hOc.1
  obtain ⟨hv0, hv1, hv2, hv3, hv4, hv5⟩ := id hOv
  have v0 : G 20 0 1 = F.1 0 := mV 0 (by omega)
  have v1 : G 20 0 2 = F.1 1 := mV 1 (by omega)
  have v2 : G 20 0 3 = F.1 2 := mV 2 (by omega)
  have v3 : G 20 0 4 = F.1 3 := mV 3 (by omega)
  have v4 : G 20 0 5 = F.1 4 := mV 4 (by omega)
  have v5 : G 20 0 6 = F.1 5 := mV 5 (by omega)
  refine Cti.mk [some (.ref (E.1 6)), none, none] (by decide) rfl (by intro v hv; simp only [List.mem_cons, List.not_mem_nil, or_false] at hv; subst hv; rfl) (Nat.le_of_ble_eq_true rfl) ?_
  intro p l e s m args below meth c cx
  have L17 : ∀ (n : Nat) (j : Nat) (is : Int), (60 - j) < n → (a < b) → (j ≤ F.2.2.length) → (is = 1 ∨ is = 0) → (OvR F a b j is) → Z p l e (zr 1 22) s m args below meth c 3 0 0 E (Qi_ E below args s (fun z G' => G' = G ∧ z = rsn F a b)) G 17 [some (.ref (E.1 6)), some (.int (iN (is))), some (.int (iN ((j : Int))))] [] := by
    intro n
    induction n with
    | zero =>
      intro j is hmu
      exact absurd hmu (Nat.not_lt_zero _)
    | succ n ih =>
      intro j is hmu hlt hj his hN
      refine z_iload_n cx dX5_reasonNow_17 rfl ?_
      refine z_aload_n cx dX5_reasonNow_18 rfl ?_
      refine g_X5_0 cx fl_X5_7 dX5_reasonNow_19 ?_
      refine z_iconst cx dX5_reasonNow_22 ?_
      refine z_iald cx (0) (by omega) (by omega) (co_s E _) dX5_reasonNow_23 ?_
      refine z_icmp_ge cx (tgt := 69) dX5_reasonNow_24 (fun h24 => ?_) (fun h24 => ?_)
      · skip
        refine z_iload_n cx dX5_reasonNow_69 rfl ?_
        refine z_if_eq cx (tgt := 77) dX5_reasonNow_70 (fun h70 => ?_) (fun h70 => ?_)
        · skip
          refine z_aload_n cx dX5_reasonNow_77 rfl ?_
          refine g_X5_0 cx fl_X5_7 dX5_reasonNow_78 ?_
          refine z_iconst cx dX5_reasonNow_81 ?_
          refine z_iald cx (0) (by omega) (by omega) (co_s E _) dX5_reasonNow_82 ?_
          refine z_bipush cx dX5_reasonNow_83 ?_
          refine z_icmp_ne cx (tgt := 92) dX5_reasonNow_85 (fun h85 => ?_) (fun h85 => ?_)
          · skip
            refine z_iconst cx dX5_reasonNow_92 ?_
            refine z_iret cx dX5_reasonNow_93 ?_
            refine ⟨rfl, ?_⟩
            rcases hN with ⟨g1, -⟩ | ⟨-, g2⟩
            · exfalso; omega
            · rw [rsn_3 hlt (fun i h => g2 i (by omega))]
              first | (rw [if_pos (by omega)]; done) | (rw [if_neg (by omega)]; done)
          · skip
            refine z_iconst cx dX5_reasonNow_88 ?_
            refine z_goto cx (tgt := 93) dX5_reasonNow_89 ?_
            refine z_iret cx dX5_reasonNow_93 ?_
            refine ⟨rfl, ?_⟩
            rcases hN with ⟨g1, -⟩ | ⟨-, g2⟩
            · exfalso; omega
            · rw [rsn_3 hlt (fun i h => g2 i (by omega))]
              first | (rw [if_pos (by omega)]; done) | (rw [if_neg (by omega)]; done)
        · skip
          refine z_iconst cx dX5_reasonNow_73 ?_
          refine z_goto cx (tgt := 93) dX5_reasonNow_74 ?_
          refine z_iret cx dX5_reasonNow_93 ?_
          refine ⟨rfl, ?_⟩
          rcases hN with ⟨-, i, g1, g2, g3⟩ | ⟨g1, -⟩
          · exact (rsn_2 hlt g1 g2 g3).symm
          · exfalso; omega
      · skip
        have hs_ := mS (j) (by omega)
        have ho := hOs.2.1 (j) (by omega)
        have t0 := hs_.1
        have t1 := hs_.2.1
        have t2 := hs_.2.2.1
        have t3 := hs_.2.2.2
        have o1 := ho.1
        have o2 := ho.2.1
        have o3 := ho.2.2.1
        have o4 := ho.2.2.2.1
        have o5 := ho.2.2.2.2.1
        refine z_iload_n cx dX5_reasonNow_27 rfl ?_
        refine z_if_ne cx (tgt := 57) dX5_reasonNow_28 (fun h28 => ?_) (fun h28 => ?_)
        · skip
          refine z_iconst cx dX5_reasonNow_57 ?_
          refine z_goto cx (tgt := 62) dX5_reasonNow_58 ?_
          refine z_istore_n cx dX5_reasonNow_62 ?_
          refine z_iinc cx dX5_reasonNow_63 rfl ?_
          refine z_goto cx (tgt := 17) dX5_reasonNow_66 ?_
          refine Z.locs (ih (j + 1) _ (by omega) hlt (by omega) (by omega) ?_) ⟨rfl, rfl, rfl, trivial⟩
          rcases hN with ⟨g1, g2⟩ | ⟨g1, g2⟩
          · first
            | (exfalso; omega)
            | exact Or.inl ⟨rfl, g2⟩
          · first
            | (exfalso; omega)
            | exact Or.inl ⟨rfl, j, by omega, by omega, by omega⟩
            | exact Or.inr ⟨rfl, fun i h => by
                rcases Nat.lt_succ_iff_lt_or_eq.mp h with h | rfl
                · exact g2 i h
                · omega⟩
        · skip
          refine z_aload_n cx dX5_reasonNow_31 rfl ?_
          refine z_iload_n cx dX5_reasonNow_32 rfl ?_
          refine z_iconst cx dX5_reasonNow_33 ?_
          refine z_vi cx (c_X5_of (20 + 43 * j) (by omega) (by omega)) rfl mv_X5_of ml_X5_43 (by omega) (co_mod E _) rfl dX5_reasonNow_34 (fun z34 G34 hz34 => ?_)
          obtain ⟨eG, rfl⟩ := hz34
          have eG := eG.symm
          subst eG
          refine z_aload_n cx dX5_reasonNow_37 rfl ?_
          refine g_X5_12 cx fl_X5_131 dX5_reasonNow_38 ?_
          refine z_icmp_ge cx (tgt := 61) dX5_reasonNow_41 (fun h41 => ?_) (fun h41 => ?_)
          · skip
            refine z_iconst cx dX5_reasonNow_61 ?_
            refine z_istore_n cx dX5_reasonNow_62 ?_
            refine z_iinc cx dX5_reasonNow_63 rfl ?_
            refine z_goto cx (tgt := 17) dX5_reasonNow_66 ?_
            refine Z.locs (ih (j + 1) _ (by omega) hlt (by omega) (by omega) ?_) ⟨rfl, rfl, rfl, trivial⟩
            rcases hN with ⟨g1, g2⟩ | ⟨g1, g2⟩
            · first
              | (exfalso; omega)
              | exact Or.inl ⟨rfl, g2⟩
            · first
              | (exfalso; omega)
              | exact Or.inl ⟨rfl, j, by omega, by omega, by omega⟩
              | exact Or.inr ⟨rfl, fun i h => by
                  rcases Nat.lt_succ_iff_lt_or_eq.mp h with h | rfl
                  · exact g2 i h
                  · omega⟩
          · skip
            refine z_aload_n cx dX5_reasonNow_44 rfl ?_
            refine g_X5_11 cx fl_X5_128 dX5_reasonNow_45 ?_
            refine z_aload_n cx dX5_reasonNow_48 rfl ?_
            refine z_iload_n cx dX5_reasonNow_49 rfl ?_
            refine z_iconst cx dX5_reasonNow_50 ?_
            refine z_vi cx (c_X5_of (20 + 43 * j + 1) (by omega) (by omega)) rfl mv_X5_of ml_X5_43 (by omega) (co_mod E _) rfl dX5_reasonNow_51 (fun z51 G51 hz51 => ?_)
            obtain ⟨eG, rfl⟩ := hz51
            have eG := eG.symm
            subst eG
            refine z_icmp_ge cx (tgt := 61) dX5_reasonNow_54 (fun h54 => ?_) (fun h54 => ?_)
            · skip
              refine z_iconst cx dX5_reasonNow_61 ?_
              refine z_istore_n cx dX5_reasonNow_62 ?_
              refine z_iinc cx dX5_reasonNow_63 rfl ?_
              refine z_goto cx (tgt := 17) dX5_reasonNow_66 ?_
              refine Z.locs (ih (j + 1) _ (by omega) hlt (by omega) (by omega) ?_) ⟨rfl, rfl, rfl, trivial⟩
              rcases hN with ⟨g1, g2⟩ | ⟨g1, g2⟩
              · first
                | (exfalso; omega)
                | exact Or.inl ⟨rfl, g2⟩
              · first
                | (exfalso; omega)
                | exact Or.inl ⟨rfl, j, by omega, by omega, by omega⟩
                | exact Or.inr ⟨rfl, fun i h => by
                    rcases Nat.lt_succ_iff_lt_or_eq.mp h with h | rfl
                    · exact g2 i h
                    · omega⟩
            · skip
              refine z_iconst cx dX5_reasonNow_57 ?_
              refine z_goto cx (tgt := 62) dX5_reasonNow_58 ?_
              refine z_istore_n cx dX5_reasonNow_62 ?_
              refine z_iinc cx dX5_reasonNow_63 rfl ?_
              refine z_goto cx (tgt := 17) dX5_reasonNow_66 ?_
              refine Z.locs (ih (j + 1) _ (by omega) hlt (by omega) (by omega) ?_) ⟨rfl, rfl, rfl, trivial⟩
              rcases hN with ⟨g1, g2⟩ | ⟨g1, g2⟩
              · first
                | (exfalso; omega)
                | exact Or.inl ⟨rfl, g2⟩
              · first
                | (exfalso; omega)
                | exact Or.inl ⟨rfl, j, by omega, by omega, by omega⟩
                | exact Or.inr ⟨rfl, fun i h => by
                    rcases Nat.lt_succ_iff_lt_or_eq.mp h with h | rfl
                    · exact g2 i h
                    · omega⟩
  refine z_aload_n cx dX5_reasonNow_0 rfl ?_
  refine g_X5_11 cx fl_X5_128 dX5_reasonNow_1 ?_
  refine z_aload_n cx dX5_reasonNow_4 rfl ?_
  refine g_X5_12 cx fl_X5_131 dX5_reasonNow_5 ?_
  refine z_icmp_lt cx (tgt := 13) dX5_reasonNow_8 (fun h8 => ?_) (fun h8 => ?_)
  · skip
    refine z_iconst cx dX5_reasonNow_13 ?_
    refine z_istore_n cx dX5_reasonNow_14 ?_
    refine z_iconst cx dX5_reasonNow_15 ?_
    refine z_istore_n cx dX5_reasonNow_16 ?_
    refine Z.locs (L17 _ (0) (0) (Nat.lt_succ_self _) (by omega) (by omega) (Or.inr rfl) (Or.inr ⟨rfl, fun i h => absurd h (Nat.not_lt_zero _)⟩)) ⟨rfl, rfl, rfl, trivial⟩
  · skip
    refine z_iconst cx dX5_reasonNow_11 ?_
    refine z_iret cx dX5_reasonNow_12 ?_
    exact ⟨rfl, (rsn_1 (by omega)).symm⟩
set_option maxRecDepth 100000 in
set_option maxHeartbeats 4000000 in
theorem c_X5_addsEntry {E : En} {G : Wd} {F : Fm} (hM : MFilm (G 20 0) F) (hO : FOk F) {sc : List Int} {a b : Int} {tp L : Nat} (hs : MSc G sc) (hO_ : ScOk sc) (ha : G 32 0 0 = a) (hb : G 33 0 0 = b) (hL : G 34 0 0 = (L : Int)) (hsp : G 29 0 0 = (tp : Int) + L) (htp : tp + L ≤ sc.length) (hab : 0 ≤ a ∧ a ≤ 5000 ∧ 0 ≤ b ∧ b ≤ 5000) (hL40 : L ≤ 40) (hn20 : F.2.2.length < 20) : Ctv E yX5_addsEntry cX5_addsEntry 3 3 68 [.ref (E.1 6)] G (fun G' => MFilm (G' 20 0) (addF F (a, b, ((sc.drop tp).take L))) ∧ FrM G G') := by
  obtain ⟨m0, mV, m7, mC, mS⟩ := id hM
  obtain ⟨hOv, hOc, hOs⟩ := id hO
  have hl20 := hOs.1
  have hl12 := hOc.1
  obtain ⟨hv0, hv1, hv2, hv3, hv4, hv5⟩ := id hOv
  have v0 : G 20 0 1 = F.1 0 := mV 0 (by omega)
  have v1 : G 20 0 2 = F.1 1 := mV 1 (by omega)
  have v2 : G 20 0 3 = F.1 2 := mV 2 (by omega)
  have v3 : G 20 0 4 = F.1 3 := mV 3 (by omega)
  have v4 : G 20 0 5 = F.1 4 := mV 4 (by omega)
  have v5 : G 20 0 6 = F.1 5 := mV 5 (by omega)
  have h80 := hO_.1
  have hlt : ((sc.drop tp).take L).length = L := by
    rw [List.length_take, List.length_drop]
    omega
  have hget : ∀ w, w < L → ((sc.drop tp).take L).getD w 0 = sc.getD (tp + w) 0 := fun w hw => by rw [takeL hw, dropL]
  refine Ctv.mk [some (.ref (E.1 6)), none, none] (by decide) rfl (by intro v hv; simp only [List.mem_cons, List.not_mem_nil, or_false] at hv; subst hv; rfl) (Nat.le_of_ble_eq_true rfl) ?_
  intro p l e s m args below meth c cx
  have L68 : ∀ (n : Nat) (k j : Nat) (G4 G1 : Wd), (60 - k) < n → (k ≤ L) → (j ≤ F.2.2.length) → (ipos F.2.2 a = j) → (MOpen G G4 j F.2.2.length) → (FrM G G1) → (G1 20 0 (20 + 43 * j) = a) → (G1 20 0 (20 + 43 * j + 1) = b) → (G1 20 0 (20 + 43 * j + 2) = (L : Int)) → (∀ w, w < k → G1 20 0 (20 + 43 * j + 3 + w) = sc.getD (tp + w) 0) → (∀ q, ¬ (20 + 43 * j ≤ q ∧ q < 20 + 43 * j + 43) → G1 20 0 q = G4 20 0 q) → Z p l e (zr 3 68) s m args below meth c 3 0 0 E (Qv_ E below args s (fun G' => MFilm (G' 20 0) (addF F (a, b, ((sc.drop tp).take L))) ∧ FrM G G')) G1 68 [some (.ref (E.1 6)), some (.int (iN ((j : Int)))), some (.int (iN ((k : Int))))] [] := by
    intro n
    induction n with
    | zero =>
      intro k j G4 G1 hmu
      exact absurd hmu (Nat.not_lt_zero _)
    | succ n ih =>
      intro k j G4 G1 hmu hk hj hip hop hf b0 b1 b2 b3 gk
      have l1 : G1 34 0 0 = (L : Int) := (hf 34 0 0 (by omega)).trans hL
      have l2 : G1 29 0 0 = (tp : Int) + L := (hf 29 0 0 (by omega)).trans hsp
      refine z_iload_n cx dX5_addsEntry_68 rfl ?_
      refine z_aload_n cx dX5_addsEntry_69 rfl ?_
      refine g_X5_13 cx fl_X5_116 dX5_addsEntry_70 ?_
      refine z_icmp_ge cx (tgt := 106) dX5_addsEntry_73 (fun h73 => ?_) (fun h73 => ?_)
      · skip
        refine z_vret cx dX5_addsEntry_106 ?_
        refine ⟨?_, hf⟩
        unfold addF
        dsimp only
        rw [hip]
        exact hop.film hM hO hj ⟨b0, b1, by rw [b2]; dsimp only; rw [hlt], fun w hw => by
          dsimp only at hw ⊢
          rw [hlt] at hw
          rw [hget w hw]
          exact b3 w (by omega)⟩ gk
      · skip
        have es := (hs.of (fun f a q w => hf f a q (by omega)) : MSc G1 sc).2 (tp + k) (by omega)
        refine z_aload_n cx dX5_addsEntry_76 rfl ?_
        refine z_iload_n cx dX5_addsEntry_77 rfl ?_
        refine z_iconst cx dX5_addsEntry_78 ?_
        refine z_iload_n cx dX5_addsEntry_79 rfl ?_
        refine z_iadd cx dX5_addsEntry_80 ?_
        refine z_aload_n cx dX5_addsEntry_81 rfl ?_
        refine g_X5_5 cx fl_X5_22 dX5_addsEntry_82 ?_
        refine z_aload_n cx dX5_addsEntry_85 rfl ?_
        refine g_X5_8 cx fl_X5_101 dX5_addsEntry_86 ?_
        refine z_aload_n cx dX5_addsEntry_89 rfl ?_
        refine g_X5_13 cx fl_X5_116 dX5_addsEntry_90 ?_
        refine z_isub cx dX5_addsEntry_93 ?_
        refine z_iload_n cx dX5_addsEntry_94 rfl ?_
        refine z_iadd cx dX5_addsEntry_95 ?_
        refine z_iald cx (tp + k) (by omega) (by omega) (co_mscr E _) dX5_addsEntry_96 ?_
        refine z_vv cx (c_X5_lays (20 + 43 * j + (3 + k)) (by omega) (by omega)) rfl mv_X5_lays ml_X5_51 (by omega) (co_mod E _) rfl dX5_addsEntry_97 (fun G97 hz97 => ?_)
        subst hz97
        refine z_iinc cx dX5_addsEntry_100 rfl ?_
        refine z_goto cx (tgt := 68) dX5_addsEntry_103 ?_
        refine Z.locs (ih (k + 1) (j) (G4) _ (by omega) (by omega) hj hip hop hf.up (by rw [gup_i _ _ _ _ _ (by omega)]; exact b0) (by rw [gup_i _ _ _ _ _ (by omega)]; exact b1) (by rw [gup_i _ _ _ _ _ (by omega)]; exact b2) ?_ (fun q hq => by rw [gup_i _ _ _ _ _ (by omega)]; exact gk q hq)) ⟨rfl, rfl, rfl, trivial⟩
        intro w hw
        rcases Nat.lt_succ_iff_lt_or_eq.mp hw with hw | rfl
        · rw [gup_i _ _ _ _ _ (by omega)]
          exact b3 w hw
        · rw [show 20 + 43 * j + 3 + w = 20 + 43 * j + (3 + w) by omega, gup_s]
          exact es
  have L2 : ∀ (n : Nat) (j : Nat), (60 - j) < n → (j ≤ F.2.2.length) → (∀ i, i < j → (F.2.2.getD i dS).1 < a) → Z p l e (zr 3 68) s m args below meth c 3 0 0 E (Qv_ E below args s (fun G' => MFilm (G' 20 0) (addF F (a, b, ((sc.drop tp).take L))) ∧ FrM G G')) G 2 [some (.ref (E.1 6)), some (.int (iN ((j : Int)))), none] [] := by
    intro n
    induction n with
    | zero =>
      intro j hmu
      exact absurd hmu (Nat.not_lt_zero _)
    | succ n ih =>
      intro j hmu hj hN
      refine z_iload_n cx dX5_addsEntry_2 rfl ?_
      refine z_aload_n cx dX5_addsEntry_3 rfl ?_
      refine g_X5_0 cx fl_X5_7 dX5_addsEntry_4 ?_
      refine z_iconst cx dX5_addsEntry_7 ?_
      refine z_iald cx (0) (by omega) (by omega) (co_s E _) dX5_addsEntry_8 ?_
      refine z_icmp_ge cx (tgt := 31) dX5_addsEntry_9 (fun h9 => ?_) (fun h9 => ?_)
      · skip
        have hup : ∀ i, j ≤ i → i < F.2.2.length → a ≤ (F.2.2.getD i dS).1 := by
          intro i h1 h2
          have w0 : j < F.2.2.length := by omega
          have w1 : a ≤ (F.2.2.getD j dS).1 := by
            first
            | (exfalso; omega)
            | omega
          by_cases w : i = j
          · rw [w]; exact w1
          · have w2 := hOs.mono (i := j) (j := i) (by omega) h2
            have w3 := (hOs.2.1 j w0).2.1
            omega
        refine z_aload_n cx dX5_addsEntry_31 rfl ?_
        refine z_iload_n cx dX5_addsEntry_32 rfl ?_
        refine z_vv cx (c_X5_opens j F.2.2.length rfl m0 (by omega)) rfl mv_X5_opens ml_X5_144 (by omega) (co_mod E _) rfl dX5_addsEntry_33 (fun G33 hz33 => ?_)
        refine z_aload_n cx dX5_addsEntry_36 rfl ?_
        refine z_iload_n cx dX5_addsEntry_37 rfl ?_
        refine z_iconst cx dX5_addsEntry_38 ?_
        refine z_aload_n cx dX5_addsEntry_39 rfl ?_
        refine g_X5_11 cx fl_X5_128 dX5_addsEntry_40 ?_
        refine z_vv cx (c_X5_lays (20 + 43 * j) (by omega) (by omega)) rfl mv_X5_lays ml_X5_51 (by omega) (co_mod E _) rfl dX5_addsEntry_43 (fun G43 hz43 => ?_)
        subst hz43
        refine z_aload_n cx dX5_addsEntry_46 rfl ?_
        refine z_iload_n cx dX5_addsEntry_47 rfl ?_
        refine z_iconst cx dX5_addsEntry_48 ?_
        refine z_aload_n cx dX5_addsEntry_49 rfl ?_
        refine g_X5_12 cx fl_X5_131 dX5_addsEntry_50 ?_
        refine z_vv cx (c_X5_lays (20 + 43 * j + 1) (by omega) (by omega)) rfl mv_X5_lays ml_X5_51 (by omega) (co_mod E _) rfl dX5_addsEntry_53 (fun G53 hz53 => ?_)
        subst hz53
        refine z_aload_n cx dX5_addsEntry_56 rfl ?_
        refine z_iload_n cx dX5_addsEntry_57 rfl ?_
        refine z_iconst cx dX5_addsEntry_58 ?_
        refine z_aload_n cx dX5_addsEntry_59 rfl ?_
        refine g_X5_13 cx fl_X5_116 dX5_addsEntry_60 ?_
        refine z_vv cx (c_X5_lays (20 + 43 * j + 2) (by omega) (by omega)) rfl mv_X5_lays ml_X5_51 (by omega) (co_mod E _) rfl dX5_addsEntry_63 (fun G63 hz63 => ?_)
        subst hz63
        refine z_iconst cx dX5_addsEntry_66 ?_
        refine z_istore_n cx dX5_addsEntry_67 ?_
        refine Z.locs (L68 _ (0) (j) _ _ (Nat.lt_succ_self _) (by omega) hj (ipos_of ⟨hj, hN, hup⟩) hz33 hz33.1.up.up.up ?_ ?_ ?_ (fun w h => absurd h (Nat.not_lt_zero _)) (fun q hq => by rw [gup_i _ _ _ _ _ (by omega), gup_i _ _ _ _ _ (by omega), gup_i _ _ _ _ _ (by omega)])) ⟨rfl, rfl, rfl, trivial⟩
        · rw [gup_i _ _ _ _ _ (by omega), gup_i _ _ _ _ _ (by omega), gup_s, hz33.1 32 0 0 (by omega)]; exact ha
        · rw [gup_i _ _ _ _ _ (by omega), gup_s, gup_f _ _ _ _ _ _ _ (by decide), hz33.1 33 0 0 (by omega)]; exact hb
        · rw [gup_s, gup_f _ _ _ _ _ _ _ (by decide), gup_f _ _ _ _ _ _ _ (by decide), hz33.1 34 0 0 (by omega)]; exact hL
      · skip
        have hs_ := mS (j) (by omega)
        have ho := hOs.2.1 (j) (by omega)
        have t0 := hs_.1
        have t1 := hs_.2.1
        have t2 := hs_.2.2.1
        have t3 := hs_.2.2.2
        have o1 := ho.1
        have o2 := ho.2.1
        have o3 := ho.2.2.1
        have o4 := ho.2.2.2.1
        have o5 := ho.2.2.2.2.1
        refine z_aload_n cx dX5_addsEntry_12 rfl ?_
        refine z_iload_n cx dX5_addsEntry_13 rfl ?_
        refine z_iconst cx dX5_addsEntry_14 ?_
        refine z_vi cx (c_X5_of (20 + 43 * j) (by omega) (by omega)) rfl mv_X5_of ml_X5_43 (by omega) (co_mod E _) rfl dX5_addsEntry_15 (fun z15 G15 hz15 => ?_)
        obtain ⟨eG, rfl⟩ := hz15
        have eG := eG.symm
        subst eG
        refine z_aload_n cx dX5_addsEntry_18 rfl ?_
        refine g_X5_11 cx fl_X5_128 dX5_addsEntry_19 ?_
        refine z_icmp_ge cx (tgt := 31) dX5_addsEntry_22 (fun h22 => ?_) (fun h22 => ?_)
        · skip
          have hup : ∀ i, j ≤ i → i < F.2.2.length → a ≤ (F.2.2.getD i dS).1 := by
            intro i h1 h2
            have w0 : j < F.2.2.length := by omega
            have w1 : a ≤ (F.2.2.getD j dS).1 := by
              first
              | (exfalso; omega)
              | omega
            by_cases w : i = j
            · rw [w]; exact w1
            · have w2 := hOs.mono (i := j) (j := i) (by omega) h2
              have w3 := (hOs.2.1 j w0).2.1
              omega
          refine z_aload_n cx dX5_addsEntry_31 rfl ?_
          refine z_iload_n cx dX5_addsEntry_32 rfl ?_
          refine z_vv cx (c_X5_opens j F.2.2.length rfl m0 (by omega)) rfl mv_X5_opens ml_X5_144 (by omega) (co_mod E _) rfl dX5_addsEntry_33 (fun G33 hz33 => ?_)
          refine z_aload_n cx dX5_addsEntry_36 rfl ?_
          refine z_iload_n cx dX5_addsEntry_37 rfl ?_
          refine z_iconst cx dX5_addsEntry_38 ?_
          refine z_aload_n cx dX5_addsEntry_39 rfl ?_
          refine g_X5_11 cx fl_X5_128 dX5_addsEntry_40 ?_
          refine z_vv cx (c_X5_lays (20 + 43 * j) (by omega) (by omega)) rfl mv_X5_lays ml_X5_51 (by omega) (co_mod E _) rfl dX5_addsEntry_43 (fun G43 hz43 => ?_)
          subst hz43
          refine z_aload_n cx dX5_addsEntry_46 rfl ?_
          refine z_iload_n cx dX5_addsEntry_47 rfl ?_
          refine z_iconst cx dX5_addsEntry_48 ?_
          refine z_aload_n cx dX5_addsEntry_49 rfl ?_
          refine g_X5_12 cx fl_X5_131 dX5_addsEntry_50 ?_
          refine z_vv cx (c_X5_lays (20 + 43 * j + 1) (by omega) (by omega)) rfl mv_X5_lays ml_X5_51 (by omega) (co_mod E _) rfl dX5_addsEntry_53 (fun G53 hz53 => ?_)
          subst hz53
          refine z_aload_n cx dX5_addsEntry_56 rfl ?_
          refine z_iload_n cx dX5_addsEntry_57 rfl ?_
          refine z_iconst cx dX5_addsEntry_58 ?_
          refine z_aload_n cx dX5_addsEntry_59 rfl ?_
          refine g_X5_13 cx fl_X5_116 dX5_addsEntry_60 ?_
          refine z_vv cx (c_X5_lays (20 + 43 * j + 2) (by omega) (by omega)) rfl mv_X5_lays ml_X5_51 (by omega) (co_mod E _) rfl dX5_addsEntry_63 (fun G63 hz63 => ?_)
          subst hz63
          refine z_iconst cx dX5_addsEntry_66 ?_
          refine z_istore_n cx dX5_addsEntry_67 ?_
          refine Z.locs (L68 _ (0) (j) _ _ (Nat.lt_succ_self _) (by omega) hj (ipos_of ⟨hj, hN, hup⟩) hz33 hz33.1.up.up.up ?_ ?_ ?_ (fun w h => absurd h (Nat.not_lt_zero _)) (fun q hq => by rw [gup_i _ _ _ _ _ (by omega), gup_i _ _ _ _ _ (by omega), gup_i _ _ _ _ _ (by omega)])) ⟨rfl, rfl, rfl, trivial⟩
          · rw [gup_i _ _ _ _ _ (by omega), gup_i _ _ _ _ _ (by omega), gup_s, hz33.1 32 0 0 (by omega)]; exact ha
          · rw [gup_i _ _ _ _ _ (by omega), gup_s, gup_f _ _ _ _ _ _ _ (by decide), hz33.1 33 0 0 (by omega)]; exact hb
          · rw [gup_s, gup_f _ _ _ _ _ _ _ (by decide), gup_f _ _ _ _ _ _ _ (by decide), hz33.1 34 0 0 (by omega)]; exact hL
        · skip
          refine z_iinc cx dX5_addsEntry_25 rfl ?_
          refine z_goto cx (tgt := 2) dX5_addsEntry_28 ?_
          refine Z.locs (ih (j + 1) (by omega) (by omega) (fun i h => by rcases Nat.lt_succ_iff_lt_or_eq.mp h with h | rfl; exact hN i h; omega)) ⟨rfl, rfl, trivial⟩
  refine z_iconst cx dX5_addsEntry_0 ?_
  refine z_istore_n cx dX5_addsEntry_1 ?_
  refine Z.locs (L2 _ (0) (Nat.lt_succ_self _) (by omega) (fun i h => absurd h (Nat.not_lt_zero _))) ⟨rfl, rfl, trivial⟩
