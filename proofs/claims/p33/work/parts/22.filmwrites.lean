set_option maxRecDepth 100000 in
set_option maxHeartbeats 4000000 in
theorem c_X3_takeText {E : En} {G : Wd} {k c0 n0 f0 a0 : Nat} {fr sz : Int} (hk : k < 120) (hc0 : (c0 < 278 ∧ (c0 < 6 ∨ 14 ≤ c0))) (hco : cont E G c0 = ci_ E 1 n0 (fun i => iN (G f0 a0 i))) (hb : 0 ≤ fr ∧ 0 ≤ sz ∧ fr + sz ≤ n0 ∧ sz ≤ 40 ∧ n0 ≤ 100) (hch : ∀ i, i < sz.toNat → 0 ≤ G f0 a0 (fr.toNat + i) ∧ G f0 a0 (fr.toNat + i) < 65536) : Ctv E yX3_takeText cX3_takeText 4 1 26 [.ref (E.1 (38 + k)), .ref (E.1 c0), .int (iN fr), .int (iN sz)] G (fun G' => G' = gup (gcp G 8 k f0 a0 fr.toNat 0 sz.toNat) 7 k 0 sz) := by
  refine Ctv.mk [some (.ref (E.1 (38 + k))), some (.ref (E.1 c0)), some (.int (iN fr)), some (.int (iN sz))] (by decide) rfl (by intro v hv; simp only [List.mem_cons, List.not_mem_nil, or_false] at hv; rcases hv with rfl | rfl | rfl | rfl <;> rfl) (Nat.le_of_ble_eq_true rfl) ?_
  intro p l e s m args below meth c cx
  refine z_aload_n cx dX3_takeText_0 rfl ?_
  refine z_iload_n cx dX3_takeText_1 rfl ?_
  refine z_aload_n cx dX3_takeText_2 rfl ?_
  refine g_X3_3 cx (by omega) fl_X3_9 dX3_takeText_3 ?_
  refine z_iconst cx dX3_takeText_6 ?_
  refine z_iload_n cx dX3_takeText_7 rfl ?_
  refine z_copy cx hc0 (by omega) rfl hco (fun G => co_text E G _) rfl rfl (fun i hi => iN_fits_char (hch i hi)) ml_X3_29 dX3_takeText_8 ?_
  refine z_aload_n cx dX3_takeText_11 rfl ?_
  refine z_iload_n cx dX3_takeText_12 rfl ?_
  refine p_X3_2 cx (by omega) fl_X3_22 dX3_takeText_13 ?_
  refine z_vret cx dX3_takeText_16 ?_
  exact rfl
set_option maxRecDepth 100000 in
set_option maxHeartbeats 4000000 in
theorem c_X3_copyFrom {E : En} {G : Wd} {k k2 : Nat} {S : Sb} (hk : k < 120) (hk2 : k2 < 120) (hne : k ≠ k2) (hS : SubIs G k2 S) (hT : SbOk S) : Ctv E yX3_copyFrom cX3_copyFrom 2 2 49 [.ref (E.1 (38 + k)), .ref (E.1 (38 + k2))] G (fun G' => SubIs G' k S ∧ ∀ f a i, ¬ (5 ≤ f ∧ f ≤ 8 ∧ a = k) → G' f a i = G f a i) := by
  have e5 := hS.1
  have e6 := hS.2.1
  have e7 := hS.2.2.1
  have e8 := hS.2.2.2
  have o4 := hT.2.2.2.1
  have o5 := hT.2.2.2.2.1
  have hne2 : k2 ≠ k := Ne.symm hne
  refine Ctv.mk [some (.ref (E.1 (38 + k))), some (.ref (E.1 (38 + k2)))] (by decide) rfl (by intro v hv; simp only [List.mem_cons, List.not_mem_nil, or_false] at hv; rcases hv with rfl | rfl <;> rfl) (Nat.le_of_ble_eq_true rfl) ?_
  intro p l e s m args below meth c cx
  refine z_aload_n cx dX3_copyFrom_0 rfl ?_
  refine z_aload_n cx dX3_copyFrom_1 rfl ?_
  refine g_X3_0 cx (by omega) fl_X3_15 dX3_copyFrom_2 ?_
  refine p_X3_0 cx (by omega) fl_X3_15 dX3_copyFrom_5 ?_
  refine z_aload_n cx dX3_copyFrom_8 rfl ?_
  refine z_aload_n cx dX3_copyFrom_9 rfl ?_
  refine g_X3_1 cx (by omega) fl_X3_19 dX3_copyFrom_10 ?_
  refine p_X3_1 cx (by omega) fl_X3_19 dX3_copyFrom_13 ?_
  refine z_aload_n cx dX3_copyFrom_16 rfl ?_
  refine z_aload_n cx dX3_copyFrom_17 rfl ?_
  refine g_X3_3 cx (by omega) fl_X3_9 dX3_copyFrom_18 ?_
  refine z_iconst cx dX3_copyFrom_21 ?_
  refine z_aload_n cx dX3_copyFrom_22 rfl ?_
  refine g_X3_2 cx (by omega) fl_X3_22 dX3_copyFrom_23 ?_
  rw [gup_f _ _ _ _ _ _ _ (show (7 : Nat) ≠ 6 by decide), gup_f _ _ _ _ _ _ _ (show (7 : Nat) ≠ 5 by decide), e7]
  refine z_vv cx (c_X3_takeText hk (c0 := 158 + k2) (n0 := 40) (f0 := 8) (a0 := k2) (by omega) (co_text E _ _) (by omega) (fun i hi => by
      have hi2 : i < S.2.2.length := by omega
      have h1 := e8 i hi2
      have h2 := hT.2.2.2.ch hi2
      rw [gup_f _ _ _ _ _ _ _ (show (8 : Nat) ≠ 6 by decide), gup_f _ _ _ _ _ _ _ (show (8 : Nat) ≠ 5 by decide), show (0 : Int).toNat + i = i by simp]
      omega)) rfl mv_X3_takeText ml_X3_25 (by omega) (co_sub E _ (by omega)) rfl dX3_copyFrom_26 (fun G26 hz26 => ?_)
  subst hz26
  refine z_vret cx dX3_copyFrom_29 ?_
  refine ⟨⟨?_, ?_, ?_, fun i hi => ?_⟩, fun f a i hn => ?_⟩
  · simp (config := { decide := true }) only [gup_eq, gcp_eq, false_and, and_false, true_and, and_true, if_false, if_true, ite_false, ite_true, ne_eq, not_true_eq_false, not_false_eq_true]
    exact e5
  · simp (config := { decide := true }) only [gup_eq, gcp_eq, false_and, and_false, true_and, and_true, if_false, if_true, ite_false, ite_true, ne_eq, not_true_eq_false, not_false_eq_true]
    exact e6
  · simp (config := { decide := true }) only [gup_eq, gcp_eq, false_and, and_false, true_and, and_true, if_false, if_true, ite_false, ite_true, ne_eq, not_true_eq_false, not_false_eq_true]
  · rw [gup_f _ _ _ _ _ _ _ (show (8 : Nat) ≠ 7 by decide), gcp_eq, if_pos ⟨rfl, rfl, Nat.zero_le _, by omega⟩, gup_f _ _ _ _ _ _ _ (show (8 : Nat) ≠ 6 by decide), gup_f _ _ _ _ _ _ _ (show (8 : Nat) ≠ 5 by decide), show (0 : Int).toNat + (i - 0) = i by simp]
    exact e8 i hi
  · rw [gup_eq, if_neg (by omega), gcp_eq, if_neg (by omega), gup_eq, if_neg (by omega), gup_eq, if_neg (by omega)]
set_option maxRecDepth 100000 in
set_option maxHeartbeats 4000000 in
theorem c_X0_copyFrom {E : En} {G : Wd} {q r : Nat} {F : Fm} (hq : q < 6) (hr : r < 6) (hne : r ≠ q) (hF : FilmIs G r F) (hO : FOk F) (hRq : RowOk G q) : Ctv E yX0_copyFrom cX0_copyFrom 3 3 70 [.ref (E.1 (14 + q)), .ref (E.1 (14 + r))] G (fun G' => FilmIs G' q F ∧ FrF q G G') := by
  obtain ⟨hRr, hV, hcc, hcu, hn, hs⟩ := id hF
  obtain ⟨hOv, hOc, hOs⟩ := id hO
  have hl20 := hOs.1
  have hl12 := hOc.1
  obtain ⟨hv0, hv1, hv2, hv3, hv4, hv5⟩ := hOv
  have w0 := hV 0 (by omega)
  have w1 := hV 1 (by omega)
  have w2 := hV 2 (by omega)
  have w3 := hV 3 (by omega)
  have w4 := hV 4 (by omega)
  have w5 := hV 5 (by omega)
  refine Ctv.mk [some (.ref (E.1 (14 + q))), some (.ref (E.1 (14 + r))), none] (by decide) rfl (by intro v hv; simp only [List.mem_cons, List.not_mem_nil, or_false] at hv; rcases hv with rfl | rfl <;> rfl) (Nat.le_of_ble_eq_true rfl) ?_
  intro p l e s m args below meth c cx
  have L10 : ∀ (n : Nat) (j : Nat) (G1 : Wd), (60 - j) < n → (j ≤ F.2.2.length) → (FrF q G G1) → (∀ i, G1 4 q i = G 4 q i) → (G1 0 q 0 = F.2.2.length) → (∀ i, i < j → SubIs G1 (G 4 q i).toNat (F.2.2.getD i dS)) → Z p l e (zr 3 70) s m args below meth c 3 0 0 E (Qv_ E below args s (fun G' => FilmIs G' q F ∧ FrF q G G')) G1 10 [some (.ref (E.1 (14 + q))), some (.ref (E.1 (14 + r))), some (.int (iN (j : Int)))] [] := by
    intro n
    induction n with
    | zero =>
      intro j G1 hmu
      exact absurd hmu (Nat.not_lt_zero _)
    | succ n ih =>
      intro j G1 hmu hj hfr h4 h0 hss
      have hFr := hF.fr hl20 hfr hne
      obtain ⟨-, -, hcc1, hcu1, hn1, hs1⟩ := id hFr
      have hV1 := hFr.2.1
      have hR1 := hFr.1
      refine z_iload_n cx dX0_copyFrom_10 rfl ?_
      refine z_aload_n cx dX0_copyFrom_11 rfl ?_
      refine g_X0_1 cx (by omega) fl_X0_34 dX0_copyFrom_12 ?_
      refine z_icmp_ge cx (tgt := 39) dX0_copyFrom_15 (fun h15 => ?_) (fun h15 => ?_)
      · skip
        refine z_aload_n cx dX0_copyFrom_39 rfl ?_
        refine z_aload_n cx dX0_copyFrom_40 rfl ?_
        refine g_X0_3 cx (by omega) fl_X0_42 dX0_copyFrom_41 ?_
        refine p_X0_3 cx (by omega) fl_X0_42 dX0_copyFrom_44 ?_
        skip
        refine z_aload_n cx dX0_copyFrom_47 rfl ?_
        refine g_X0_2 cx (by omega) fl_X0_18 dX0_copyFrom_48 ?_
        refine z_iconst cx dX0_copyFrom_51 ?_
        refine z_aload_n cx dX0_copyFrom_52 rfl ?_
        refine g_X0_2 cx (by omega) fl_X0_18 dX0_copyFrom_53 ?_
        refine z_iconst cx dX0_copyFrom_56 ?_
        refine z_bipush cx dX0_copyFrom_57 ?_
        refine z_copy cx (by omega) (by omega) rfl (co_cuts E _ (by omega)) (fun G => (co_cuts E G (by omega))) rfl rfl (fun _ _ => rfl) ml_X0_28 dX0_copyFrom_59 ?_
        refine z_aload_n cx dX0_copyFrom_62 rfl ?_
        refine g_X0_4 cx (by omega) fl_X0_22 dX0_copyFrom_63 ?_
        refine z_iconst cx dX0_copyFrom_66 ?_
        refine z_aload_n cx dX0_copyFrom_67 rfl ?_
        refine g_X0_4 cx (by omega) fl_X0_22 dX0_copyFrom_68 ?_
        refine z_iconst cx dX0_copyFrom_71 ?_
        refine z_bipush cx dX0_copyFrom_72 ?_
        refine z_copy cx (by omega) (by omega) rfl (co_vals E _ (by omega)) (fun G => (co_vals E G (by omega))) rfl rfl (fun _ _ => rfl) ml_X0_28 dX0_copyFrom_74 ?_
        refine z_vret cx dX0_copyFrom_77 ?_
        have hjl : j = F.2.2.length := by omega
        subst hjl
        have hfin := ((hfr.up (f := 1) (a := q) (i := 0) (v := G1 1 r 0) (by unfold inF; omega)).cp (f := 2) (a := q) (f0 := 2) (a0 := r) (sp := (0 : Int).toNat) (dp := (0 : Int).toNat) (n := (12 : Int).toNat) (by unfold inF; omega)).cp (f := 3) (a := q) (f0 := 3) (a0 := r) (sp := (0 : Int).toNat) (dp := (0 : Int).toNat) (n := (6 : Int).toNat) (by unfold inF; omega)
        refine ⟨⟨⟨fun i hi => ?_, fun i j hi hj hij => ?_⟩, fun i hi => ?_, ?_, fun i hi => ?_, ?_, fun i hi => ?_⟩, hfin⟩
        · rw [gcp_eq, if_neg (by omega), gcp_eq, if_neg (by omega), gup_f _ _ _ _ _ _ _ (by decide), h4]
          exact hRq.1 i hi
        · rw [gcp_eq, if_neg (by omega), gcp_eq, if_neg (by omega), gup_f _ _ _ _ _ _ _ (by decide), gcp_eq, if_neg (by omega), gcp_eq, if_neg (by omega), gup_f _ _ _ _ _ _ _ (by decide), h4, h4] at hij
          exact hRq.2 i j hi hj hij
        · rw [gcp_eq, if_pos ⟨rfl, rfl, Nat.zero_le _, by simp; omega⟩, gcp_eq, if_neg (by omega), gup_f _ _ _ _ _ _ _ (by decide), show (0 : Int).toNat + (i - (0 : Int).toNat) = i by simp]
          exact hV1 i hi
        · rw [gcp_eq, if_neg (by omega), gcp_eq, if_neg (by omega), gup_s]
          exact hcc1
        · rw [gcp_eq, if_neg (by omega), gcp_eq, if_pos ⟨rfl, rfl, Nat.zero_le _, by simp; omega⟩, gup_f _ _ _ _ _ _ _ (by decide), show (0 : Int).toNat + (i - (0 : Int).toNat) = i by simp]
          exact hcu1 i hi
        · rw [gcp_eq, if_neg (by omega), gcp_eq, if_neg (by omega), gup_f _ _ _ _ _ _ _ (by decide)]
          exact h0
        · rw [gcp_eq, if_neg (by omega), gcp_eq, if_neg (by omega), gup_f _ _ _ _ _ _ _ (by decide), h4]
          exact (hss i hi).of (fun f j2 h5 h8 => by rw [gcp_eq, if_neg (by omega), gcp_eq, if_neg (by omega), gup_f _ _ _ _ _ _ _ (by omega)])
      · skip
        have hkq := hRq.1 j (by omega)
        have hkr := hR1.1 j (by omega)
        have hdj : ∀ i, i < 20 → i ≠ j → (G 4 q i).toNat ≠ (G1 4 q j).toNat := fun i hi hij w => hij (hRq.2 i j hi (by omega) (by rw [w, h4]))
        have h4j := h4 j
        refine z_aload_n cx dX0_copyFrom_18 rfl ?_
        refine g_X0_0 cx (by omega) fl_X0_11 dX0_copyFrom_19 ?_
        refine z_iload_n cx dX0_copyFrom_22 rfl ?_
        refine z_aldq cx _ rfl (by omega) (co_rows E _ (by omega)) rfl dX0_copyFrom_23 ?_
        refine z_aload_n cx dX0_copyFrom_24 rfl ?_
        refine g_X0_0 cx (by omega) fl_X0_11 dX0_copyFrom_25 ?_
        refine z_iload_n cx dX0_copyFrom_28 rfl ?_
        refine z_aldq cx _ rfl (by omega) (co_rows E _ (by omega)) rfl dX0_copyFrom_29 ?_
        refine z_vv cx (c_X3_copyFrom (k := (G1 4 q j).toNat) (k2 := (G1 4 r j).toNat) (by omega) (by omega) (by omega) (hs1 j (by omega)) (hOs.2.1 j (by omega))) rfl mv_X3_copyFrom ml_X0_38 (by omega) (co_sub E _ (by omega)) rfl dX0_copyFrom_30 (fun G30 hz30 => ?_)
        refine z_iinc cx dX0_copyFrom_33 rfl ?_
        refine z_goto cx (tgt := 10) dX0_copyFrom_36 ?_
        refine Z.locs (ih (j + 1) _ (by omega) (by omega) (hfr.tr (fun f a i hna => hz30.2 f a i (by unfold inF at hna; omega))) (fun i => (hz30.2 4 q i (by omega)).trans (h4 i)) (by rw [hz30.2 0 q 0 (by omega)]; exact h0) (fun i h => by rcases Nat.lt_succ_iff_lt_or_eq.mp h with h | rfl; exact (hss i h).of (fun f j2 h5 h8 => hz30.2 f _ j2 (fun w => hdj i (by omega) (by omega) w.2.2)); exact (show SubIs G30 (G 4 q i).toNat _ from (h4 i) ▸ hz30.1))) ⟨rfl, rfl, rfl, trivial⟩
  refine z_aload_n cx dX0_copyFrom_0 rfl ?_
  refine z_aload_n cx dX0_copyFrom_1 rfl ?_
  refine g_X0_1 cx (by omega) fl_X0_34 dX0_copyFrom_2 ?_
  refine p_X0_1 cx (by omega) fl_X0_34 dX0_copyFrom_5 ?_
  refine z_iconst cx dX0_copyFrom_8 ?_
  refine z_istore_n cx dX0_copyFrom_9 ?_
  refine Z.locs (L10 _ (0) _ (Nat.lt_succ_self _) (by omega) (FrF.rf.up (by unfold inF; omega)) (fun i => gup_f _ _ _ _ _ _ _ (by decide)) (by rw [gup_s]; exact hn) (fun i h => absurd h (Nat.not_lt_zero _))) ⟨rfl, rfl, rfl, trivial⟩
set_option maxRecDepth 100000 in
set_option maxHeartbeats 4000000 in
theorem c_X0_openRow {E : En} {G : Wd} {q pp nn : Nat} (hq : q < 6) (hR : RowOk G q) (hn : G 0 q 0 = nn) (hp : pp ≤ nn) (hn20 : nn < 20) : Ctv E yX0_openRow cX0_openRow 4 0 0 [.ref (E.1 (14 + q)), .int (iN (pp : Int))] G (fun G' => RowsOpen G G' q pp nn) := by
  have hkn := hR.1 nn (by omega)
  refine Ctv.mk [some (.ref (E.1 (14 + q))), some (.int (iN (pp : Int))), none, none] (by decide) rfl (by intro v hv; simp only [List.mem_cons, List.not_mem_nil, or_false] at hv; rcases hv with rfl | rfl <;> rfl) (Nat.le_of_ble_eq_true rfl) ?_
  intro p l e s m args below meth c cx
  have L15 : ∀ (n : Nat) (j : Nat) (G1 : Wd), (60 + j) < n → (pp ≤ j ∧ j ≤ nn) → (∀ i, j < i → i ≤ nn → G1 4 q i = G 4 q (i - 1)) → (∀ i, i ≤ j ∨ nn < i → G1 4 q i = G 4 q i) → (∀ f a i, ¬ (a = q ∧ f = 4) → G1 f a i = G f a i) → Z p l e (zr 0 0) s m args below meth c 4 0 0 E (Qv_ E below args s (fun G' => RowsOpen G G' q pp nn)) G1 15 [some (.ref (E.1 (14 + q))), some (.int (iN (pp : Int))), some (.ref (E.1 (38 + (G 4 q nn).toNat))), some (.int (iN (j : Int)))] [] := by
    intro n
    induction n with
    | zero =>
      intro j G1 hmu
      exact absurd hmu (Nat.not_lt_zero _)
    | succ n ih =>
      intro j G1 hmu hj h1 h2 h3
      refine z_iload_n cx dX0_openRow_15 rfl ?_
      refine z_iload_n cx dX0_openRow_16 rfl ?_
      refine z_icmp_le cx (tgt := 40) dX0_openRow_17 (fun h17 => ?_) (fun h17 => ?_)
      · skip
        refine z_aload_n cx dX0_openRow_40 rfl ?_
        refine g_X0_0 cx (by omega) fl_X0_11 dX0_openRow_41 ?_
        refine z_iload_n cx dX0_openRow_44 rfl ?_
        refine z_aload_n cx dX0_openRow_45 rfl ?_
        refine z_astq cx (pp) (by omega) (by omega) (by omega) dX0_openRow_46 ?_
        refine z_aload_n cx dX0_openRow_47 rfl ?_
        refine z_dup cx dX0_openRow_48 ?_
        refine g_X0_1 cx (by omega) fl_X0_34 dX0_openRow_49 ?_
        refine z_iconst cx dX0_openRow_52 ?_
        refine z_iadd cx dX0_openRow_53 ?_
        refine p_X0_1 cx (by omega) fl_X0_34 dX0_openRow_54 ?_
        refine z_vret cx dX0_openRow_57 ?_
        have hjp : j = pp := by omega
        subst hjp
        refine ⟨?_, fun i hi => ?_, ?_, fun i a b => ?_, fun i a => ?_, fun f a i hn2 => ?_⟩
        · rw [gup_s, gup_f _ _ _ _ _ _ _ (by decide), h3 0 q 0 (by omega), hn]
        · rw [gup_f _ _ _ _ _ _ _ (by decide), gup_i _ _ _ _ _ (by omega), h2 i (by omega)]
        · rw [gup_f _ _ _ _ _ _ _ (by decide), gup_s, Int.toNat_of_nonneg hkn.1]
        · rw [gup_f _ _ _ _ _ _ _ (by decide), gup_i _ _ _ _ _ (by omega), h1 i a b]
        · rw [gup_f _ _ _ _ _ _ _ (by decide), gup_i _ _ _ _ _ (by omega), h2 i (by omega)]
        · rw [gup_eq, if_neg (by omega), gup_eq, if_neg (by omega), h3 f a i (by omega)]
      · skip
        have hkj := hR.1 (j - 1) (by omega)
        have ej := h2 (j - 1) (by omega)
        refine z_aload_n cx dX0_openRow_20 rfl ?_
        refine g_X0_0 cx (by omega) fl_X0_11 dX0_openRow_21 ?_
        refine z_iload_n cx dX0_openRow_24 rfl ?_
        refine z_aload_n cx dX0_openRow_25 rfl ?_
        refine g_X0_0 cx (by omega) fl_X0_11 dX0_openRow_26 ?_
        refine z_iload_n cx dX0_openRow_29 rfl ?_
        refine z_iconst cx dX0_openRow_30 ?_
        refine z_isub cx dX0_openRow_31 ?_
        refine z_aldq cx (j - 1) (by omega) (by omega) (co_rows E _ (by omega)) rfl dX0_openRow_32 ?_
        rw [ej]
        refine z_astq cx (j) (by omega) (by omega) (by omega) dX0_openRow_33 ?_
        refine z_iinc cx dX0_openRow_34 rfl ?_
        refine z_goto cx (tgt := 15) dX0_openRow_37 ?_
        rw [show (j : Int) + -1 = ((j - 1 : Nat) : Int) by omega]
        refine Z.locs (ih (j - 1) _ (by omega) (by omega) ?_ ?_ ?_) ⟨rfl, rfl, rfl, rfl, trivial⟩
        · intro i a b
          by_cases hij : i = j
          · subst hij
            rw [gup_s, Int.toNat_of_nonneg hkj.1]
          · rw [gup_i _ _ _ _ _ hij]
            exact h1 i (by omega) b
        · intro i a
          rw [gup_i _ _ _ _ _ (by omega)]
          exact h2 i (by omega)
        · intro f a i hn2
          rw [gup_eq, if_neg (by omega)]
          exact h3 f a i hn2
  refine z_aload_n cx dX0_openRow_0 rfl ?_
  refine g_X0_0 cx (by omega) fl_X0_11 dX0_openRow_1 ?_
  refine z_aload_n cx dX0_openRow_4 rfl ?_
  refine g_X0_1 cx (by omega) fl_X0_34 dX0_openRow_5 ?_
  skip
  refine z_aldq cx (nn) (by omega) (by omega) (co_rows E _ (by omega)) rfl dX0_openRow_8 ?_
  refine z_astore_n cx dX0_openRow_9 ?_
  refine z_aload_n cx dX0_openRow_10 rfl ?_
  refine g_X0_1 cx (by omega) fl_X0_34 dX0_openRow_11 ?_
  rw [hn]
  refine z_istore_n cx dX0_openRow_14 ?_
  refine Z.locs (L15 _ (nn) _ (Nat.lt_succ_self _) (by omega) (fun i a b => by omega) (fun i _ => rfl) (fun f a i _ => rfl)) ⟨rfl, rfl, rfl, rfl, trivial⟩
set_option maxRecDepth 100000 in
set_option maxHeartbeats 4000000 in
theorem c_X0_closeRow {E : En} {G : Wd} {q pp nn : Nat} (hq : q < 6) (hR : RowOk G q) (hn : G 0 q 0 = nn) (hp : pp < nn) (hn20 : nn ≤ 20) : Ctv E yX0_closeRow cX0_closeRow 4 0 0 [.ref (E.1 (14 + q)), .int (iN (pp : Int))] G (fun G' => RowsClose G G' q pp nn) := by
  have hkp := hR.1 pp (by omega)
  refine Ctv.mk [some (.ref (E.1 (14 + q))), some (.int (iN (pp : Int))), none, none] (by decide) rfl (by intro v hv; simp only [List.mem_cons, List.not_mem_nil, or_false] at hv; rcases hv with rfl | rfl <;> rfl) (Nat.le_of_ble_eq_true rfl) ?_
  intro p l e s m args below meth c cx
  have L9 : ∀ (n : Nat) (j : Nat) (G1 : Wd), (60 - j) < n → (pp ≤ j ∧ j ≤ nn - 1) → (∀ i, pp ≤ i → i < j → G1 4 q i = G 4 q (i + 1)) → (∀ i, i < pp ∨ j ≤ i → G1 4 q i = G 4 q i) → (∀ f a i, ¬ (a = q ∧ f = 4) → G1 f a i = G f a i) → Z p l e (zr 0 0) s m args below meth c 4 0 0 E (Qv_ E below args s (fun G' => RowsClose G G' q pp nn)) G1 9 [some (.ref (E.1 (14 + q))), some (.int (iN (pp : Int))), some (.ref (E.1 (38 + (G 4 q pp).toNat))), some (.int (iN (j : Int)))] [] := by
    intro n
    induction n with
    | zero =>
      intro j G1 hmu
      exact absurd hmu (Nat.not_lt_zero _)
    | succ n ih =>
      intro j G1 hmu hj h1 h2 h3
      have h30 := h3 0 q 0 (by omega)
      refine z_iload_n cx dX0_closeRow_9 rfl ?_
      refine z_aload_n cx dX0_closeRow_10 rfl ?_
      refine g_X0_1 cx (by omega) fl_X0_34 dX0_closeRow_11 ?_
      refine z_iconst cx dX0_closeRow_14 ?_
      refine z_isub cx dX0_closeRow_15 ?_
      refine z_icmp_ge cx (tgt := 39) dX0_closeRow_16 (fun h16 => ?_) (fun h16 => ?_)
      · skip
        refine z_aload_n cx dX0_closeRow_39 rfl ?_
        refine z_dup cx dX0_closeRow_40 ?_
        refine g_X0_1 cx (by omega) fl_X0_34 dX0_closeRow_41 ?_
        refine z_iconst cx dX0_closeRow_44 ?_
        refine z_isub cx dX0_closeRow_45 ?_
        refine p_X0_1 cx (by omega) fl_X0_34 dX0_closeRow_46 ?_
        skip
        refine z_aload_n cx dX0_closeRow_49 rfl ?_
        refine g_X0_0 cx (by omega) fl_X0_11 dX0_closeRow_50 ?_
        refine z_aload_n cx dX0_closeRow_53 rfl ?_
        refine g_X0_1 cx (by omega) fl_X0_34 dX0_closeRow_54 ?_
        refine z_aload_n cx dX0_closeRow_57 rfl ?_
        rw [gup_s]
        refine z_astq cx (nn - 1) (by omega) (by omega) (by omega) dX0_closeRow_58 ?_
        refine z_vret cx dX0_closeRow_59 ?_
        have hjp : j = nn - 1 := by omega
        subst hjp
        refine ⟨?_, fun i hi => ?_, ?_, fun i a b => ?_, fun i a => ?_, fun f a i hn2 => ?_⟩
        · rw [gup_f _ _ _ _ _ _ _ (by decide), gup_s, h30, hn]
        · rw [gup_i _ _ _ _ _ (by omega), gup_f _ _ _ _ _ _ _ (by decide), h2 i (by omega)]
        · rw [gup_s, Int.toNat_of_nonneg hkp.1]
        · rw [gup_i _ _ _ _ _ (by omega), gup_f _ _ _ _ _ _ _ (by decide), h1 i a b]
        · rw [gup_i _ _ _ _ _ (by omega), gup_f _ _ _ _ _ _ _ (by decide), h2 i (by omega)]
        · rw [gup_eq, if_neg (by omega), gup_eq, if_neg (by omega), h3 f a i (by omega)]
      · skip
        have hkj := hR.1 (j + 1) (by omega)
        have ej := h2 (j + 1) (by omega)
        refine z_aload_n cx dX0_closeRow_19 rfl ?_
        refine g_X0_0 cx (by omega) fl_X0_11 dX0_closeRow_20 ?_
        refine z_iload_n cx dX0_closeRow_23 rfl ?_
        refine z_aload_n cx dX0_closeRow_24 rfl ?_
        refine g_X0_0 cx (by omega) fl_X0_11 dX0_closeRow_25 ?_
        refine z_iload_n cx dX0_closeRow_28 rfl ?_
        refine z_iconst cx dX0_closeRow_29 ?_
        refine z_iadd cx dX0_closeRow_30 ?_
        refine z_aldq cx (j + 1) (by omega) (by omega) (co_rows E _ (by omega)) rfl dX0_closeRow_31 ?_
        rw [ej]
        refine z_astq cx (j) (by omega) (by omega) (by omega) dX0_closeRow_32 ?_
        refine z_iinc cx dX0_closeRow_33 rfl ?_
        refine z_goto cx (tgt := 9) dX0_closeRow_36 ?_
        refine Z.locs (ih (j + 1) _ (by omega) (by omega) ?_ ?_ ?_) ⟨rfl, rfl, rfl, rfl, trivial⟩
        · intro i a b
          by_cases hij : i = j
          · subst hij
            rw [gup_s, Int.toNat_of_nonneg hkj.1]
          · rw [gup_i _ _ _ _ _ hij]
            exact h1 i a (by omega)
        · intro i a
          rw [gup_i _ _ _ _ _ (by omega)]
          exact h2 i (by omega)
        · intro f a i hn2
          rw [gup_eq, if_neg (by omega)]
          exact h3 f a i hn2
  refine z_aload_n cx dX0_closeRow_0 rfl ?_
  refine g_X0_0 cx (by omega) fl_X0_11 dX0_closeRow_1 ?_
  refine z_iload_n cx dX0_closeRow_4 rfl ?_
  refine z_aldq cx (pp) (by omega) (by omega) (co_rows E _ (by omega)) rfl dX0_closeRow_5 ?_
  refine z_astore_n cx dX0_closeRow_6 ?_
  refine z_iload_n cx dX0_closeRow_7 rfl ?_
  refine z_istore_n cx dX0_closeRow_8 ?_
  refine Z.locs (L9 _ (pp) _ (Nat.lt_succ_self _) (by omega) (fun i a b => by omega) (fun i _ => rfl) (fun f a i _ => rfl)) ⟨rfl, rfl, rfl, rfl, trivial⟩
set_option maxRecDepth 100000 in
set_option maxHeartbeats 4000000 in
theorem c_X0_openRowAt {E : En} {G : Wd} {q : Nat} {F : Fm} {x : Int} (hq : q < 6) (hF : FilmIs G q F) (hO : FOk F) (hx : 0 ≤ x ∧ x ≤ 5000) (hn20 : F.2.2.length < 20) : Cti E yX0_openRowAt cX0_openRowAt 4 .int 1 23 [.ref (E.1 (14 + q)), .int (iN x)] G (fun z G' => z = (ipos F.2.2 x : Int) ∧ RowsOpen G G' q (ipos F.2.2 x) F.2.2.length) := by
  obtain ⟨hR, hV, hcc, hcu, hn, hs⟩ := id hF
  obtain ⟨hOv, hOc, hOs⟩ := id hO
  have hl20 := hOs.1
  have hl12 := hOc.1
  obtain ⟨hv0, hv1, hv2, hv3, hv4, hv5⟩ := hOv
  have w0 := hV 0 (by omega)
  have w1 := hV 1 (by omega)
  have w2 := hV 2 (by omega)
  have w3 := hV 3 (by omega)
  have w4 := hV 4 (by omega)
  have w5 := hV 5 (by omega)
  obtain ⟨hip, hIP⟩ := ipos_cnt hOs x
  have hipl := hIP.1
  refine Cti.mk [some (.ref (E.1 (14 + q))), some (.int (iN x)), none, none] (by decide) rfl (by intro v hv; simp only [List.mem_cons, List.not_mem_nil, or_false] at hv; rcases hv with rfl | rfl <;> rfl) (Nat.le_of_ble_eq_true rfl) ?_
  intro p l e s m args below meth c cx
  have L4 : ∀ (n : Nat) (j : Nat), (60 - j) < n → (j ≤ F.2.2.length) → Z p l e (zr 1 23) s m args below meth c 4 0 0 E (Qi_ E below args s (fun z G' => z = (ipos F.2.2 x : Int) ∧ RowsOpen G G' q (ipos F.2.2 x) F.2.2.length)) G 4 [some (.ref (E.1 (14 + q))), some (.int (iN x)), some (.int (iN (cnt (fun i => (F.2.2.getD i dS).1 < x) j))), some (.int (iN (j : Int)))] [] := by
    intro n
    induction n with
    | zero =>
      intro j hmu
      exact absurd hmu (Nat.not_lt_zero _)
    | succ n ih =>
      intro j hmu hj
      refine z_iload_n cx dX0_openRowAt_4 rfl ?_
      refine z_aload_n cx dX0_openRowAt_5 rfl ?_
      refine g_X0_1 cx (by omega) fl_X0_34 dX0_openRowAt_6 ?_
      refine z_icmp_ge cx (tgt := 34) dX0_openRowAt_9 (fun h9 => ?_) (fun h9 => ?_)
      · skip
        rw [show j = F.2.2.length by omega, hip]
        refine z_aload_n cx dX0_openRowAt_34 rfl ?_
        refine z_iload_n cx dX0_openRowAt_35 rfl ?_
        refine z_vv cx (c_X0_openRow (pp := ipos F.2.2 x) hq hR hn hipl hn20) rfl mv_X0_openRow ml_X0_51 (by omega) (co_film E _ (by omega)) rfl dX0_openRowAt_36 (fun G36 hz36 => ?_)
        refine z_iload_n cx dX0_openRowAt_39 rfl ?_
        refine z_iret cx dX0_openRowAt_40 ?_
        exact ⟨rfl, hz36⟩
      · skip
        have hk := hR.1 (j) (by omega)
        have hs_ := hs (j) (by omega)
        have ho := hOs.2.1 (j) (by omega)
        have e5 := hs_.1
        have e6 := hs_.2.1
        have e7 := hs_.2.2.1
        have o1 := ho.1
        have o2 := ho.2.1
        have o3 := ho.2.2.1
        have o4 := ho.2.2.2.1
        have o5 := ho.2.2.2.2.1
        have hcb := cnt_b (fun i => (F.2.2.getD i dS).1 < x) j
        refine z_aload_n cx dX0_openRowAt_12 rfl ?_
        refine g_X0_0 cx (by omega) fl_X0_11 dX0_openRowAt_13 ?_
        refine z_iload_n cx dX0_openRowAt_16 rfl ?_
        refine z_aldq cx _ rfl (by omega) (co_rows E _ (by omega)) rfl dX0_openRowAt_17 ?_
        refine g_X3_0 cx (by omega) fl_X0_45 dX0_openRowAt_18 ?_
        refine z_iload_n cx dX0_openRowAt_21 rfl ?_
        refine z_icmp_ge cx (tgt := 28) dX0_openRowAt_22 (fun h22 => ?_) (fun h22 => ?_)
        · skip
          first
          | (have hst : cnt (fun i => (F.2.2.getD i dS).1 < x) (j + 1) = cnt (fun i => (F.2.2.getD i dS).1 < x) j + 1 := cnt_t (p := (fun i => (F.2.2.getD i dS).1 < x)) (by show (F.2.2.getD j dS).1 < x; omega); rw [← hst])
          | (have hst : cnt (fun i => (F.2.2.getD i dS).1 < x) (j + 1) = cnt (fun i => (F.2.2.getD i dS).1 < x) j := cnt_f (p := (fun i => (F.2.2.getD i dS).1 < x)) (by show ¬ (F.2.2.getD j dS).1 < x; omega); rw [← hst])
          refine z_iinc cx dX0_openRowAt_28 rfl ?_
          refine z_goto cx (tgt := 4) dX0_openRowAt_31 ?_
          refine Z.locs (ih (j + 1) (by omega) (by omega)) ⟨rfl, rfl, rfl, rfl, trivial⟩
        · skip
          refine z_iinc cx dX0_openRowAt_25 rfl ?_
          first
          | (have hst : cnt (fun i => (F.2.2.getD i dS).1 < x) (j + 1) = cnt (fun i => (F.2.2.getD i dS).1 < x) j + 1 := cnt_t (p := (fun i => (F.2.2.getD i dS).1 < x)) (by show (F.2.2.getD j dS).1 < x; omega); rw [← hst])
          | (have hst : cnt (fun i => (F.2.2.getD i dS).1 < x) (j + 1) = cnt (fun i => (F.2.2.getD i dS).1 < x) j := cnt_f (p := (fun i => (F.2.2.getD i dS).1 < x)) (by show ¬ (F.2.2.getD j dS).1 < x; omega); rw [← hst])
          refine z_iinc cx dX0_openRowAt_28 rfl ?_
          refine z_goto cx (tgt := 4) dX0_openRowAt_31 ?_
          refine Z.locs (ih (j + 1) (by omega) (by omega)) ⟨rfl, rfl, rfl, rfl, trivial⟩
  refine z_iconst cx dX0_openRowAt_0 ?_
  refine z_istore_n cx dX0_openRowAt_1 ?_
  refine z_iconst cx dX0_openRowAt_2 ?_
  refine z_istore_n cx dX0_openRowAt_3 ?_
  refine Z.locs (L4 _ (0) (Nat.lt_succ_self _) (by omega)) ⟨rfl, rfl, rfl, rfl, trivial⟩
set_option maxRecDepth 100000 in
set_option maxHeartbeats 4000000 in
theorem c_X0_addCut {E : En} {G : Wd} {q : Nat} {F : Fm} {x : Int} (hq : q < 6) (hF : FilmIs G q F) (hO : FOk F) (hx : 1 ≤ x ∧ x ≤ 4999) (hnx : ∀ i, i < F.2.1.length → F.2.1.getD i 0 ≠ x) (hn12 : F.2.1.length < 12) : Ctv E yX0_addCut cX0_addCut 3 0 0 [.ref (E.1 (14 + q)), .int (iN x)] G (fun G' => FilmIs G' q (F.1, insL F.2.1 (cpos F.2.1 x) x, F.2.2) ∧ FrF q G G') := by
  obtain ⟨hR, hV, hcc, hcu, hn, hs⟩ := id hF
  obtain ⟨hOv, hOc, hOs⟩ := id hO
  have hl20 := hOs.1
  have hl12 := hOc.1
  obtain ⟨hv0, hv1, hv2, hv3, hv4, hv5⟩ := hOv
  have w0 := hV 0 (by omega)
  have w1 := hV 1 (by omega)
  have w2 := hV 2 (by omega)
  have w3 := hV 3 (by omega)
  have w4 := hV 4 (by omega)
  have w5 := hV 5 (by omega)
  refine Ctv.mk [some (.ref (E.1 (14 + q))), some (.int (iN x)), none] (by decide) rfl (by intro v hv; simp only [List.mem_cons, List.not_mem_nil, or_false] at hv; rcases hv with rfl | rfl <;> rfl) (Nat.le_of_ble_eq_true rfl) ?_
  intro p l e s m args below meth c cx
  have L5 : ∀ (n : Nat) (j : Nat) (G1 : Wd), (60 + j) < n → (j ≤ F.2.1.length) → (∀ i, j < i → i ≤ F.2.1.length → G1 2 q i = F.2.1.getD (i - 1) 0) → (∀ i, i < j → G1 2 q i = F.2.1.getD i 0) → (∀ f a i, ¬ (a = q ∧ f = 2) → G1 f a i = G f a i) → (∀ i, j ≤ i → i < F.2.1.length → x < F.2.1.getD i 0) → Z p l e (zr 0 0) s m args below meth c 3 0 0 E (Qv_ E below args s (fun G' => FilmIs G' q (F.1, insL F.2.1 (cpos F.2.1 x) x, F.2.2) ∧ FrF q G G')) G1 5 [some (.ref (E.1 (14 + q))), some (.int (iN x)), some (.int (iN (j : Int)))] [] := by
    intro n
    induction n with
    | zero =>
      intro j G1 hmu
      exact absurd hmu (Nat.not_lt_zero _)
    | succ n ih =>
      intro j G1 hmu hj h1 h2 h3 hgt
      have h31 := h3 1 q 0 (by omega)
      skip
      refine z_iload_n cx dX0_addCut_5 rfl ?_
      refine z_if_le cx (tgt := 41) dX0_addCut_6 (fun h6 => ?_) (fun h6 => ?_)
      · skip
        have hlt : ∀ i, i < j → F.2.1.getD i 0 < x := by
          intro i hi
          first
          | (exfalso; omega)
          | (rcases Nat.lt_or_ge i (j - 1) with w | w
             · have := hOc.2.2 i (j - 1) w (by omega)
               omega
             · have w2 : i = j - 1 := by omega
               subst w2
               have := hnx (j - 1) (by omega)
               omega)
        have hcp : cpos F.2.1 x = j := cpos_of ⟨hj, hlt, hgt⟩
        refine z_aload_n cx dX0_addCut_41 rfl ?_
        refine g_X0_2 cx (by omega) fl_X0_18 dX0_addCut_42 ?_
        refine z_iload_n cx dX0_addCut_45 rfl ?_
        refine z_iload_n cx dX0_addCut_46 rfl ?_
        refine z_iast cx (j) (by omega) (by omega) rfl (fun G => co_cuts E G (by omega)) dX0_addCut_47 ?_
        refine z_aload_n cx dX0_addCut_48 rfl ?_
        refine z_dup cx dX0_addCut_49 ?_
        refine g_X0_3 cx (by omega) fl_X0_42 dX0_addCut_50 ?_
        refine z_iconst cx dX0_addCut_53 ?_
        refine z_iadd cx dX0_addCut_54 ?_
        refine p_X0_3 cx (by omega) fl_X0_42 dX0_addCut_55 ?_
        refine z_vret cx dX0_addCut_58 ?_
        rw [hcp]
        refine ⟨⟨⟨fun i hi => ?_, fun i j2 hi hj2 hij => ?_⟩, fun i hi => ?_, ?_, fun i hi => ?_, ?_, fun i hi => ?_⟩, fun f a i hn2 => ?_⟩
        · rw [gup_f _ _ _ _ _ _ _ (by decide), gup_f _ _ _ _ _ _ _ (by decide), h3 4 q i (by omega)]
          exact hR.1 i hi
        · rw [gup_f _ _ _ _ _ _ _ (by decide), gup_f _ _ _ _ _ _ _ (by decide), h3 4 q i (by omega), gup_f _ _ _ _ _ _ _ (by decide), gup_f _ _ _ _ _ _ _ (by decide), h3 4 q j2 (by omega)] at hij
          exact hR.2 i j2 hi hj2 hij
        · rw [gup_f _ _ _ _ _ _ _ (by decide), gup_f _ _ _ _ _ _ _ (by decide), h3 3 q i (by omega)]
          exact hV i hi
        · rw [gup_s, gup_f _ _ _ _ _ _ _ (by decide), h31, hcc, insL_len hj]
          omega
        · dsimp only at hi
          rw [insL_len hj] at hi
          rw [gup_f _ _ _ _ _ _ _ (by decide)]
          dsimp only
          rcases Nat.lt_trichotomy i j with w | w | w
          · rw [gup_i _ _ _ _ _ (by omega), insL_lt hj w, h2 i w]
          · subst w
            rw [gup_s, insL_eq hj]
          · rw [gup_i _ _ _ _ _ (by omega), insL_gt hj w, h1 i w (by omega)]
        · rw [gup_f _ _ _ _ _ _ _ (by decide), gup_f _ _ _ _ _ _ _ (by decide), h3 0 q 0 (by omega)]
          exact hn
        · have e9 : (gup (gup G1 2 q j x) 1 q 0 (gup G1 2 q j x 1 q 0 + 1)) 4 q i = G 4 q i := by
            rw [gup_f _ _ _ _ _ _ _ (by decide), gup_f _ _ _ _ _ _ _ (by decide), h3 4 q i (by omega)]
          rw [e9]
          exact (hs i hi).of (fun f j2 h5 h8 => by rw [gup_eq, if_neg (by omega), gup_eq, if_neg (by omega), h3 f _ j2 (by omega)])
        · rw [gup_eq, if_neg (by unfold inF at hn2; omega), gup_eq, if_neg (by unfold inF at hn2; omega), h3 f a i (by unfold inF at hn2; omega)]
      · skip
        have ej := h2 (j - 1) (by omega)
        have hcj := hOc.2.1 (j - 1) (by omega)
        refine z_aload_n cx dX0_addCut_9 rfl ?_
        refine g_X0_2 cx (by omega) fl_X0_18 dX0_addCut_10 ?_
        refine z_iload_n cx dX0_addCut_13 rfl ?_
        refine z_iconst cx dX0_addCut_14 ?_
        refine z_isub cx dX0_addCut_15 ?_
        refine z_iald cx (j - 1) (by omega) (by omega) (co_cuts E _ (by omega)) dX0_addCut_16 ?_
        refine z_iload_n cx dX0_addCut_17 rfl ?_
        refine z_icmp_le cx (tgt := 41) dX0_addCut_18 (fun h18 => ?_) (fun h18 => ?_)
        · skip
          have hlt : ∀ i, i < j → F.2.1.getD i 0 < x := by
            intro i hi
            first
            | (exfalso; omega)
            | (rcases Nat.lt_or_ge i (j - 1) with w | w
               · have := hOc.2.2 i (j - 1) w (by omega)
                 omega
               · have w2 : i = j - 1 := by omega
                 subst w2
                 have := hnx (j - 1) (by omega)
                 omega)
          have hcp : cpos F.2.1 x = j := cpos_of ⟨hj, hlt, hgt⟩
          refine z_aload_n cx dX0_addCut_41 rfl ?_
          refine g_X0_2 cx (by omega) fl_X0_18 dX0_addCut_42 ?_
          refine z_iload_n cx dX0_addCut_45 rfl ?_
          refine z_iload_n cx dX0_addCut_46 rfl ?_
          refine z_iast cx (j) (by omega) (by omega) rfl (fun G => co_cuts E G (by omega)) dX0_addCut_47 ?_
          refine z_aload_n cx dX0_addCut_48 rfl ?_
          refine z_dup cx dX0_addCut_49 ?_
          refine g_X0_3 cx (by omega) fl_X0_42 dX0_addCut_50 ?_
          refine z_iconst cx dX0_addCut_53 ?_
          refine z_iadd cx dX0_addCut_54 ?_
          refine p_X0_3 cx (by omega) fl_X0_42 dX0_addCut_55 ?_
          refine z_vret cx dX0_addCut_58 ?_
          rw [hcp]
          refine ⟨⟨⟨fun i hi => ?_, fun i j2 hi hj2 hij => ?_⟩, fun i hi => ?_, ?_, fun i hi => ?_, ?_, fun i hi => ?_⟩, fun f a i hn2 => ?_⟩
          · rw [gup_f _ _ _ _ _ _ _ (by decide), gup_f _ _ _ _ _ _ _ (by decide), h3 4 q i (by omega)]
            exact hR.1 i hi
          · rw [gup_f _ _ _ _ _ _ _ (by decide), gup_f _ _ _ _ _ _ _ (by decide), h3 4 q i (by omega), gup_f _ _ _ _ _ _ _ (by decide), gup_f _ _ _ _ _ _ _ (by decide), h3 4 q j2 (by omega)] at hij
            exact hR.2 i j2 hi hj2 hij
          · rw [gup_f _ _ _ _ _ _ _ (by decide), gup_f _ _ _ _ _ _ _ (by decide), h3 3 q i (by omega)]
            exact hV i hi
          · rw [gup_s, gup_f _ _ _ _ _ _ _ (by decide), h31, hcc, insL_len hj]
            omega
          · dsimp only at hi
            rw [insL_len hj] at hi
            rw [gup_f _ _ _ _ _ _ _ (by decide)]
            dsimp only
            rcases Nat.lt_trichotomy i j with w | w | w
            · rw [gup_i _ _ _ _ _ (by omega), insL_lt hj w, h2 i w]
            · subst w
              rw [gup_s, insL_eq hj]
            · rw [gup_i _ _ _ _ _ (by omega), insL_gt hj w, h1 i w (by omega)]
          · rw [gup_f _ _ _ _ _ _ _ (by decide), gup_f _ _ _ _ _ _ _ (by decide), h3 0 q 0 (by omega)]
            exact hn
          · have e9 : (gup (gup G1 2 q j x) 1 q 0 (gup G1 2 q j x 1 q 0 + 1)) 4 q i = G 4 q i := by
              rw [gup_f _ _ _ _ _ _ _ (by decide), gup_f _ _ _ _ _ _ _ (by decide), h3 4 q i (by omega)]
            rw [e9]
            exact (hs i hi).of (fun f j2 h5 h8 => by rw [gup_eq, if_neg (by omega), gup_eq, if_neg (by omega), h3 f _ j2 (by omega)])
          · rw [gup_eq, if_neg (by unfold inF at hn2; omega), gup_eq, if_neg (by unfold inF at hn2; omega), h3 f a i (by unfold inF at hn2; omega)]
        · skip
          refine z_aload_n cx dX0_addCut_21 rfl ?_
          refine g_X0_2 cx (by omega) fl_X0_18 dX0_addCut_22 ?_
          refine z_iload_n cx dX0_addCut_25 rfl ?_
          refine z_aload_n cx dX0_addCut_26 rfl ?_
          refine g_X0_2 cx (by omega) fl_X0_18 dX0_addCut_27 ?_
          refine z_iload_n cx dX0_addCut_30 rfl ?_
          refine z_iconst cx dX0_addCut_31 ?_
          refine z_isub cx dX0_addCut_32 ?_
          refine z_iald cx (j - 1) (by omega) (by omega) (co_cuts E _ (by omega)) dX0_addCut_33 ?_
          refine z_iast cx (j) (by omega) (by omega) rfl (fun G => co_cuts E G (by omega)) dX0_addCut_34 ?_
          refine z_iinc cx dX0_addCut_35 rfl ?_
          refine z_goto cx (tgt := 5) dX0_addCut_38 ?_
          rw [show (j : Int) + -1 = ((j - 1 : Nat) : Int) by omega]
          refine Z.locs (ih (j - 1) _ (by omega) (by omega) ?_ ?_ ?_ ?_) ⟨rfl, rfl, rfl, trivial⟩
          · intro i a b
            by_cases hij : i = j
            · subst hij
              rw [gup_s]
              exact ej
            · rw [gup_i _ _ _ _ _ hij]
              exact h1 i (by omega) b
          · intro i a
            rw [gup_i _ _ _ _ _ (by omega)]
            exact h2 i (by omega)
          · intro f a i hn2
            rw [gup_eq, if_neg (by omega)]
            exact h3 f a i hn2
          · intro i a b
            by_cases hij : i = j - 1
            · subst hij
              omega
            · exact hgt i (by omega) b
  refine z_aload_n cx dX0_addCut_0 rfl ?_
  refine g_X0_3 cx (by omega) fl_X0_42 dX0_addCut_1 ?_
  rw [hcc]
  refine z_istore_n cx dX0_addCut_4 ?_
  refine Z.locs (L5 _ (F.2.1.length) _ (Nat.lt_succ_self _) (by omega) (fun i a b => by omega) (fun i h => hcu i h) (fun f a i _ => rfl) (fun i a b => by omega)) ⟨rfl, rfl, rfl, trivial⟩
set_option maxRecDepth 100000 in
set_option maxHeartbeats 4000000 in
theorem c_X0_removeCut {E : En} {G : Wd} {q : Nat} {F : Fm} {pp : Nat} (hq : q < 6) (hF : FilmIs G q F) (hO : FOk F) (hp : pp < F.2.1.length) : Ctv E yX0_removeCut cX0_removeCut 3 0 0 [.ref (E.1 (14 + q)), .int (iN (pp : Int))] G (fun G' => FilmIs G' q (F.1, F.2.1.eraseIdx pp, F.2.2) ∧ FrF q G G') := by
  obtain ⟨hR, hV, hcc, hcu, hn, hs⟩ := id hF
  obtain ⟨hOv, hOc, hOs⟩ := id hO
  have hl20 := hOs.1
  have hl12 := hOc.1
  obtain ⟨hv0, hv1, hv2, hv3, hv4, hv5⟩ := hOv
  have w0 := hV 0 (by omega)
  have w1 := hV 1 (by omega)
  have w2 := hV 2 (by omega)
  have w3 := hV 3 (by omega)
  have w4 := hV 4 (by omega)
  have w5 := hV 5 (by omega)
  refine Ctv.mk [some (.ref (E.1 (14 + q))), some (.int (iN (pp : Int))), none] (by decide) rfl (by intro v hv; simp only [List.mem_cons, List.not_mem_nil, or_false] at hv; rcases hv with rfl | rfl <;> rfl) (Nat.le_of_ble_eq_true rfl) ?_
  intro p l e s m args below meth c cx
  have L12 : ∀ (n : Nat) (j : Nat) (G1 : Wd), (60 - j) < n → (pp ≤ j ∧ j ≤ F.2.1.length - 1) → (∀ i, pp ≤ i → i < j → G1 2 q i = F.2.1.getD (i + 1) 0) → (∀ i, i < F.2.1.length → i < pp ∨ j ≤ i → G1 2 q i = F.2.1.getD i 0) → (∀ f a i, ¬ (a = q ∧ (f = 2 ∨ f = 1)) → G1 f a i = G f a i) → (G1 1 q 0 = F.2.1.length - 1) → Z p l e (zr 0 0) s m args below meth c 3 0 0 E (Qv_ E below args s (fun G' => FilmIs G' q (F.1, F.2.1.eraseIdx pp, F.2.2) ∧ FrF q G G')) G1 12 [some (.ref (E.1 (14 + q))), some (.int (iN (pp : Int))), some (.int (iN (j : Int)))] [] := by
    intro n
    induction n with
    | zero =>
      intro j G1 hmu
      exact absurd hmu (Nat.not_lt_zero _)
    | succ n ih =>
      intro j G1 hmu hj h1 h2 h3 h31
      refine z_iload_n cx dX0_removeCut_12 rfl ?_
      refine z_aload_n cx dX0_removeCut_13 rfl ?_
      refine g_X0_3 cx (by omega) fl_X0_42 dX0_removeCut_14 ?_
      refine z_icmp_ge cx (tgt := 40) dX0_removeCut_17 (fun h17 => ?_) (fun h17 => ?_)
      · skip
        refine z_vret cx dX0_removeCut_40 ?_
        have hjp : j = F.2.1.length - 1 := by omega
        subst hjp
        refine ⟨⟨⟨fun i hi => ?_, fun i j2 hi hj2 hij => ?_⟩, fun i hi => ?_, ?_, fun i hi => ?_, ?_, fun i hi => ?_⟩, fun f a i hn2 => ?_⟩
        · rw [h3 4 q i (by omega)]
          exact hR.1 i hi
        · rw [h3 4 q i (by omega), h3 4 q j2 (by omega)] at hij
          exact hR.2 i j2 hi hj2 hij
        · rw [h3 3 q i (by omega)]
          exact hV i hi
        · rw [h31, delL_len hp]
          omega
        · dsimp only at hi
          rw [delL_len hp] at hi
          dsimp only
          by_cases w : i < pp
          · rw [delL_lt w, h2 i (by omega) (Or.inl w)]
          · rw [delL_ge (by omega), h1 i (by omega) (by omega)]
        · rw [h3 0 q 0 (by omega)]
          exact hn
        · rw [h3 4 q i (by omega)]
          exact (hs i hi).of (fun f j2 h5 h8 => h3 f _ j2 (by omega))
        · exact h3 f a i (by unfold inF at hn2; omega)
      · skip
        have ej := h2 (j + 1) (by omega) (by omega)
        refine z_aload_n cx dX0_removeCut_20 rfl ?_
        refine g_X0_2 cx (by omega) fl_X0_18 dX0_removeCut_21 ?_
        refine z_iload_n cx dX0_removeCut_24 rfl ?_
        refine z_aload_n cx dX0_removeCut_25 rfl ?_
        refine g_X0_2 cx (by omega) fl_X0_18 dX0_removeCut_26 ?_
        refine z_iload_n cx dX0_removeCut_29 rfl ?_
        refine z_iconst cx dX0_removeCut_30 ?_
        refine z_iadd cx dX0_removeCut_31 ?_
        refine z_iald cx (j + 1) (by omega) (by omega) (co_cuts E _ (by omega)) dX0_removeCut_32 ?_
        refine z_iast cx (j) (by omega) (by omega) rfl (fun G => co_cuts E G (by omega)) dX0_removeCut_33 ?_
        refine z_iinc cx dX0_removeCut_34 rfl ?_
        refine z_goto cx (tgt := 12) dX0_removeCut_37 ?_
        refine Z.locs (ih (j + 1) _ (by omega) (by omega) ?_ ?_ ?_ ?_) ⟨rfl, rfl, rfl, trivial⟩
        · intro i a b
          by_cases hij : i = j
          · subst hij
            rw [gup_s]
            exact ej
          · rw [gup_i _ _ _ _ _ hij]
            exact h1 i a (by omega)
        · intro i w a
          rw [gup_i _ _ _ _ _ (by omega)]
          exact h2 i w (by omega)
        · intro f a i hn2
          rw [gup_eq, if_neg (by omega)]
          exact h3 f a i hn2
        · rw [gup_f _ _ _ _ _ _ _ (by decide)]
          exact h31
  refine z_aload_n cx dX0_removeCut_0 rfl ?_
  refine z_dup cx dX0_removeCut_1 ?_
  refine g_X0_3 cx (by omega) fl_X0_42 dX0_removeCut_2 ?_
  refine z_iconst cx dX0_removeCut_5 ?_
  refine z_isub cx dX0_removeCut_6 ?_
  refine p_X0_3 cx (by omega) fl_X0_42 dX0_removeCut_7 ?_
  refine z_iload_n cx dX0_removeCut_10 rfl ?_
  refine z_istore_n cx dX0_removeCut_11 ?_
  refine Z.locs (L12 _ (pp) _ (Nat.lt_succ_self _) (by omega) (fun i a b => by omega) (fun i h _ => (gup_f _ _ _ _ _ _ _ (by decide)).trans (hcu i h)) (fun f a i hn2 => by rw [gup_eq, if_neg (by omega)]) (by rw [gup_s, hcc])) ⟨rfl, rfl, rfl, trivial⟩
