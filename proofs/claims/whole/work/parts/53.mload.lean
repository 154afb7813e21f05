/-! ===== the model: load ===== -/
def LdI (sc : List Int) (A1 F1 : Fm) (k pos : Nat) (so r0 r1 r2 : Int) : Prop := (so = 0 ∧ pos < sc.length ∧ fltF sc (81 - k) pos = -6 ∧ ldF sc (81 - k) pos k F1 = ldF sc 81 0 0 A1 ∧ r0 = -6 ∧ r1 = -6 ∧ r2 = -6) ∨ ((so = 1 ∨ ¬ pos < sc.length) ∧ ldF sc 81 0 0 A1 = (F1, (k : Int), r0, r1, r2) ∧ (so = 0 → r0 = -6 ∧ r1 = -6 ∧ r2 = -6))
def FrL (G G' : Wd) : Prop := ∀ f a q, f ≠ 20 → f ≠ 26 → ¬ (29 ≤ f ∧ f ≤ 35) → G' f a q = G f a q
theorem flt_1 {sc : List Int} {f i : Nat} (h : fltF sc (f + 1) i = -6) (hO : ScOk sc) (hi : i ≤ sc.length) : (ent sc i).1 = 1 ∧ i < sc.length ∧ (at_ sc (ent sc i).2.1 124 → fltF sc f ((ent sc i).2.1 + 1) = -6) ∧ (¬ at_ sc (ent sc i).2.1 124 → ¬ (ent sc i).2.1 < sc.length) := by
  have hok := ent_ok hO hi
  rw [fltF_s] at h
  rcases hok.1 with w | w
  · rw [if_pos w] at h
    omega
  · rw [if_neg (by omega)] at h
    have h2 := hok.2.2.2 w
    refine ⟨w, by have := hok.2.2.1; omega, fun q => ?_, fun q q2 => ?_⟩
    · rw [if_pos q] at h
      exact h
    · rw [if_neg q, if_pos q2] at h
      omega
theorem mload_rest {GB G1 : Wd} {A : Ast} {so r0 r1 r2 : Int} (h : MRest GB A) (hf : FrL GB G1) (h35 : G1 35 0 0 = so) (hso : so = 0 ∨ so = 1) (h0 : so = 0 → r0 = -6 ∧ r1 = -6 ∧ r2 = -6) (h1 : so = 1 → G1 26 0 0 = r0 ∧ G1 26 0 1 = r1 ∧ G1 26 0 2 = r2) : MRest G1 (A.1, A.2.1, A.2.2.1, (r0, r1, r2)) := by
  obtain ⟨q1, q2, q3, q4, -⟩ := h
  refine ⟨(hf 27 0 0 (by decide) (by decide) (by decide)).trans q1, fun k hk => ?_, (hf 28 0 0 (by decide) (by decide) (by decide)).trans q3, fun i hi => (hf 24 0 i (by decide) (by decide) (by decide)).trans (q4 i hi), ?_⟩
  · rw [show (fun i => G1 23 0 (880 * (A.2.1.length - 1 - k) + i)) = (fun i => GB 23 0 (880 * (A.2.1.length - 1 - k) + i)) from funext fun i => hf 23 0 _ (by decide) (by decide) (by decide)]
    exact q2 k hk
  · rcases hso with w | w
    · exact Or.inl ⟨h35.trans w, h0 w⟩
    · exact Or.inr ⟨h35.trans w, h1 w⟩
set_option maxRecDepth 100000 in
set_option maxHeartbeats 4000000 in
theorem c_X5_load {E : En} {G : Wd} {A : Ast} (hR : MRel G A) (hA : AOk A) : Cti E yX5_load cX5_load 3 .int 5 106 [.ref (E.1 6)] G (fun z G' => z = (s_load A).1 ∧ MRel G' (s_load A).2 ∧ CFx G G') := by
  have hO := hA.1
  have hScO := hA.2.2.2.1
  have hs80 := hScO.1
  have hsM : MSc G A.2.2.1 := ⟨hR.2.2.2.1, hR.2.2.2.2.1⟩
  have hRp := hA.2.2.2.2
  refine Cti.mk [some (.ref (E.1 6)), none, none] (by decide) rfl (by intro v hv; simp only [List.mem_cons, List.not_mem_nil, or_false] at hv; subst hv; rfl) (Nat.le_of_ble_eq_true rfl) ?_
  intro p l e s m args below meth c cx
  have L26 : ∀ (n : Nat) (k pos : Nat) (so r0 r1 r2 : Int) (F1 : Fm) (GB G1 : Wd), (200 - pos) < n → (faultS A.2.2.1 = -6) → (MMid GB A A.1) → (CFx G GB) → (FrL GB G1) → (MFilm (G1 20 0) F1) → (FOk F1) → (G1 35 0 0 = so) → (so = 0 ∨ so = 1) → (G1 31 0 0 = 1) → (G1 29 0 0 = (pos : Int)) → (k ≤ pos ∧ pos ≤ 81) → (RpOk (r0, r1, r2)) → (so = 1 → G1 26 0 0 = r0 ∧ G1 26 0 1 = r1 ∧ G1 26 0 2 = r2) → (LdI A.2.2.1 A.1 F1 k pos so r0 r1 r2) → Z p l e (zr 5 106) s m args below meth c 3 0 0 E (Qi_ E below args s (fun z G' => z = (s_load A).1 ∧ MRel G' (s_load A).2 ∧ CFx G G')) G1 26 [some (.ref (E.1 6)), some (.int (iN ((k : Int)))), none] [] := by
    intro n
    induction n with
    | zero =>
      intro k pos so r0 r1 r2 F1 GB G1 hmu
      exact absurd hmu (Nat.not_lt_zero _)
    | succ n ih26 =>
      intro k pos so r0 r1 r2 F1 GB G1 hmu hfau hMid hBc hf hF1 hOF hq35 hso hq31 hq29 hkp hrr h26 hld
      have hs1 : MSc G1 A.2.2.1 := ⟨(hf 28 0 0 (by decide) (by decide) (by decide)).trans hMid.2.2.2.2.1, fun i hi => (hf 24 0 i (by decide) (by decide) (by decide)).trans (hMid.2.2.2.2.2.1 i hi)⟩
      have hq28 := hs1.1
      have L96 : ∀ (k2 : Nat) (so2 r02 r12 r22 : Int) (F2 : Fm) (G2 : Wd), ((ent A.2.2.1 pos).2.1 ≤ A.2.2.1.length ∧ pos < (ent A.2.2.1 pos).2.1 ∧ k2 ≤ (ent A.2.2.1 pos).2.1 + 1) → (FrL GB G2) → (MFilm (G2 20 0) F2) → (FOk F2) → (G2 35 0 0 = so2) → (so2 = 0 ∨ so2 = 1) → (G2 31 0 0 = 1) → (G2 29 0 0 = ((ent A.2.2.1 pos).2.1 : Int)) → (RpOk (r02, r12, r22)) → (so2 = 1 → G2 26 0 0 = r02 ∧ G2 26 0 1 = r12 ∧ G2 26 0 2 = r22) → (LdI A.2.2.1 A.1 F2 k2 ((ent A.2.2.1 pos).2.1 + 1) so2 r02 r12 r22) → Z p l e (zr 5 106) s m args below meth c 3 0 0 E (Qi_ E below args s (fun z G' => z = (s_load A).1 ∧ MRel G' (s_load A).2 ∧ CFx G G')) G2 96 [some (.ref (E.1 6)), some (.int (iN ((k2 : Int)))), none] [] := by
        intro k2 so2 r02 r12 r22 F2 G2 gE gf gF2 gO2 g35 gso g31 g29 grr g26 gld
        refine z_aload_n cx dX5_load_96 rfl ?_
        refine z_dup cx dX5_load_97 ?_
        refine g_X5_8 cx fl_X5_101 dX5_load_98 ?_
        refine z_iconst cx dX5_load_101 ?_
        refine z_iadd cx dX5_load_102 ?_
        refine p_X5_8 cx fl_X5_101 dX5_load_103 ?_
        refine z_goto cx (tgt := 26) dX5_load_106 ?_
        refine Z.locs (ih26 (k2) ((ent A.2.2.1 pos).2.1 + 1) (so2) (r02) (r12) (r22) (F2) (GB) _ (by omega) hfau hMid hBc (fun f a q w1 w2 w3 => by rw [gup_f _ _ _ _ _ _ _ (by omega)]; exact gf f a q w1 w2 w3) (by rw [show (gup G2 29 0 0 (G2 29 0 0 + 1)) 20 0 = G2 20 0 from funext fun i => by rw [gup_f _ _ _ _ _ _ _ (by decide)]]; exact gF2) gO2 (by rw [gup_f _ _ _ _ _ _ _ (by decide)]; exact g35) gso (by rw [gup_f _ _ _ _ _ _ _ (by decide)]; exact g31) (by rw [gup_s, g29]; rfl) (by omega) grr (fun w => by rw [gup_f _ _ _ _ _ _ _ (by decide), gup_f _ _ _ _ _ _ _ (by decide), gup_f _ _ _ _ _ _ _ (by decide)]; exact g26 w) gld) ⟨rfl, rfl, trivial⟩
      refine z_aload_n cx dX5_load_26 rfl ?_
      refine g_X5_14 cx fl_X5_150 dX5_load_27 ?_
      refine z_if_ne cx (tgt := 109) dX5_load_30 (fun h30 => ?_) (fun h30 => ?_)
      · skip
        have hld2 : (so = 1 ∨ ¬ pos < A.2.2.1.length) ∧ ldF A.2.2.1 81 0 0 A.1 = (F1, (k : Int), r0, r1, r2) ∧ (so = 0 → r0 = -6 ∧ r1 = -6 ∧ r2 = -6) := by
          rcases hld with ⟨q1, q2, -⟩ | q
          · exfalso; omega
          · exact q
        clear hld
        obtain ⟨-, hld3, hld4⟩ := hld2
        have hAr : AOk (A.1, A.2.1, A.2.2.1, (r0, r1, r2)) := ⟨hA.1, hA.2.1, hA.2.2.1, hScO, hrr⟩
        have hMr : MMid G1 (A.1, A.2.1, A.2.2.1, (r0, r1, r2)) F1 := ⟨hF1, by rw [show G1 22 0 = GB 22 0 from funext fun i => hf 22 0 i (by decide) (by decide) (by decide)]; exact hMid.2.1, mload_rest hMid.2.2 hf hq35 hso hld4 h26⟩
        refine z_aload_n cx dX5_load_109 rfl ?_
        refine z_iload_n cx dX5_load_110 rfl ?_
        refine z_vi cx (c_X5_records (A := (A.1, A.2.1, A.2.2.1, (r0, r1, r2))) (F := F1) hMr hAr) rfl mv_X5_records ml_X5_159 (by omega) (co_mod E _) rfl dX5_load_111 (fun z111 G111 hz111 => ?_)
        obtain ⟨rfl, hrmhz111, hrchz111⟩ := hz111
        refine z_iret cx dX5_load_114 ?_
        have hsp : s_load A = ((k : Int), act (A.1, A.2.1, A.2.2.1, (r0, r1, r2)) F1) := by
          unfold s_load
          rw [if_neg (by omega), hld3]
          rfl
        rw [hsp]
        exact ⟨rfl, hrmhz111, hBc.tr (CFx.tr (fun f a q w => hf f a q (by omega) (by omega) (by omega)) hrchz111)⟩
      · skip
        refine z_aload_n cx dX5_load_33 rfl ?_
        refine g_X5_8 cx fl_X5_101 dX5_load_34 ?_
        refine z_aload_n cx dX5_load_37 rfl ?_
        refine g_X5_6 cx fl_X5_98 dX5_load_38 ?_
        refine z_icmp_ge cx (tgt := 109) dX5_load_41 (fun h41 => ?_) (fun h41 => ?_)
        · skip
          have hld2 : (so = 1 ∨ ¬ pos < A.2.2.1.length) ∧ ldF A.2.2.1 81 0 0 A.1 = (F1, (k : Int), r0, r1, r2) ∧ (so = 0 → r0 = -6 ∧ r1 = -6 ∧ r2 = -6) := by
            rcases hld with ⟨q1, q2, -⟩ | q
            · exfalso; omega
            · exact q
          clear hld
          obtain ⟨-, hld3, hld4⟩ := hld2
          have hAr : AOk (A.1, A.2.1, A.2.2.1, (r0, r1, r2)) := ⟨hA.1, hA.2.1, hA.2.2.1, hScO, hrr⟩
          have hMr : MMid G1 (A.1, A.2.1, A.2.2.1, (r0, r1, r2)) F1 := ⟨hF1, by rw [show G1 22 0 = GB 22 0 from funext fun i => hf 22 0 i (by decide) (by decide) (by decide)]; exact hMid.2.1, mload_rest hMid.2.2 hf hq35 hso hld4 h26⟩
          refine z_aload_n cx dX5_load_109 rfl ?_
          refine z_iload_n cx dX5_load_110 rfl ?_
          refine z_vi cx (c_X5_records (A := (A.1, A.2.1, A.2.2.1, (r0, r1, r2))) (F := F1) hMr hAr) rfl mv_X5_records ml_X5_159 (by omega) (co_mod E _) rfl dX5_load_111 (fun z111 G111 hz111 => ?_)
          obtain ⟨rfl, hrmhz111, hrchz111⟩ := hz111
          refine z_iret cx dX5_load_114 ?_
          have hsp : s_load A = ((k : Int), act (A.1, A.2.1, A.2.2.1, (r0, r1, r2)) F1) := by
            unfold s_load
            rw [if_neg (by omega), hld3]
            rfl
          rw [hsp]
          exact ⟨rfl, hrmhz111, hBc.tr (CFx.tr (fun f a q w => hf f a q (by omega) (by omega) (by omega)) hrchz111)⟩
        · skip
          have hso0 : so = 0 := by omega
          obtain ⟨hfl, hldc⟩ : fltF A.2.2.1 (81 - k) pos = -6 ∧ ldF A.2.2.1 (81 - k) pos k F1 = ldF A.2.2.1 81 0 0 A.1 := by
            rcases hld with ⟨-, -, q1, q2, -⟩ | ⟨q, -⟩
            · exact ⟨q1, q2⟩
            · exfalso; omega
          clear hld
          have hpl : pos < A.2.2.1.length := by omega
          rw [show 81 - k = (81 - (k + 1)) + 1 by omega] at hfl
          have hF4 := flt_1 hfl hScO (by omega)
          have he1 := hF4.1
          have hok := ent_ok hScO (i := pos) (by omega)
          obtain ⟨ha0, ha1, ha2, ha3, ha4, ha5, ha6⟩ := hok.2.2.2 he1
          have ha7 := hok.2.2.1
          refine z_aload_n cx dX5_load_44 rfl ?_
          refine z_vv cx (c_X5_takesEntry (sc := A.2.2.1) (i := pos) hs1 hScO hq31 hq29 (by omega)) rfl mv_X5_takesEntry ml_X5_137 (by omega) (co_mod E _) rfl dX5_load_45 (fun G45 hz45 => ?_)
          have hM45 : MFilm (G45 20 0) F1 := by
            rw [show G45 20 0 = G1 20 0 from funext fun i => hz45.2.2.2.2 20 0 i (by omega)]
            exact hF1
          obtain ⟨e32, e33, e34⟩ := hz45.2.2.2.1 he1
          refine z_aload_n cx dX5_load_48 rfl ?_
          refine z_vi cx (c_X5_reasonNow (F := F1) (a := (ent A.2.2.1 pos).2.2.1) (b := (ent A.2.2.1 pos).2.2.2.1) hM45 hOF e32 e33 (by omega)) rfl mv_X5_reasonNow ml_X5_153 (by omega) (co_mod E _) rfl dX5_load_49 (fun z49 G49 hz49 => ?_)
          obtain ⟨eG, rfl⟩ := hz49
          have eG := eG.symm
          subst eG
          have hrb := rsn_b F1 (ent A.2.2.1 pos).2.2.1 (ent A.2.2.1 pos).2.2.2.1
          refine z_istore_n cx dX5_load_52 ?_
          refine z_iload_n cx dX5_load_53 rfl ?_
          refine z_if_le cx (tgt := 89) dX5_load_54 (fun h54 => ?_) (fun h54 => ?_)
          · skip
            have hr0 : rsn F1 (ent A.2.2.1 pos).2.2.1 (ent A.2.2.1 pos).2.2.2.1 = 0 := by omega
            have hn20 := (rsn_0 hr0).2.1
            have hab0 := (rsn_0 hr0).1
            have hs45 : MSc G45 A.2.2.1 := hs1.of (fun f a q w => hz45.2.2.2.2 f a q (by omega))
            have hSbE : SbOk (entS A.2.2.1 pos) := ⟨ha1.1, hab0, ha2.2, ha6⟩
            have hO90 : FOk (addF F1 (entS A.2.2.1 pos)) := addF_ok hOF hSbE hr0
            refine z_aload_n cx dX5_load_89 rfl ?_
            refine z_vv cx (c_X5_addsEntry (F := F1) (sc := A.2.2.1) (a := (ent A.2.2.1 pos).2.2.1) (b := (ent A.2.2.1 pos).2.2.2.1) (tp := (ent A.2.2.1 pos).2.2.2.2) (L := (ent A.2.2.1 pos).2.1 - (ent A.2.2.1 pos).2.2.2.2) hM45 hOF hs45 hScO e32 e33 (by rw [e34]; omega) (by rw [hz45.2.1]; omega) (by omega) (by omega) (by omega) hn20) rfl mv_X5_addsEntry ml_X5_156 (by omega) (co_mod E _) rfl dX5_load_90 (fun G90 hz90 => ?_)
            refine z_iinc cx dX5_load_93 rfl ?_
            refine Z.locs (L96 (k + 1) (0) ((-6)) ((-6)) ((-6)) ((addF F1 (entS A.2.2.1 pos))) _ (by omega) ?_ hz90.1 hO90 ?_ (Or.inl rfl) ?_ ?_ (by unfold RpOk; dsimp only; omega) (fun w => absurd w (by decide)) ?_) ⟨rfl, rfl, trivial⟩
            · exact (fun f a q w1 w2 w3 => by rw [hz90.2 f a q (by omega), hz45.2.2.2.2 f a q (by omega)]; exact hf f a q w1 w2 w3)
            · rw [hz90.2 35 0 0 (by omega), hz45.2.2.2.2 35 0 0 (by omega), hq35]; exact hso0
            · rw [hz90.2 31 0 0 (by omega), hz45.1]; exact he1
            · rw [hz90.2 29 0 0 (by omega)]; exact hz45.2.1
            · rw [show 81 - k = (81 - (k + 1)) + 1 by omega, ldF_s, if_neg (by omega)] at hldc
              by_cases w : at_ A.2.2.1 (ent A.2.2.1 pos).2.1 124
              · rw [if_pos w] at hldc
                have hn := hF4.2.2.1 w
                rw [show 81 - (k + 1) = (81 - (k + 2)) + 1 by omega] at hn
                have hn2 := flt_1 hn hScO w.1
                rw [← show 81 - (k + 1) = (81 - (k + 2)) + 1 by omega] at hn
                exact Or.inl ⟨rfl, hn2.2.1, hn, hldc, rfl, rfl, rfl⟩
              · rw [if_neg w] at hldc
                have := hF4.2.2.2 w
                exact Or.inr ⟨Or.inr (by omega), hldc.symm, fun _ => ⟨rfl, rfl, rfl⟩⟩
          · skip
            have hldS : ldF A.2.2.1 81 0 0 A.1 = (F1, (k : Int), (k : Int), rsn F1 (ent A.2.2.1 pos).2.2.1 (ent A.2.2.1 pos).2.2.2.1, (pos : Int)) := by
              rw [← hldc, show 81 - k = (81 - (k + 1)) + 1 by omega, ldF_s, if_pos (by omega)]
            refine z_aload_n cx dX5_load_57 rfl ?_
            refine z_iconst cx dX5_load_58 ?_
            refine p_X5_14 cx fl_X5_150 dX5_load_59 ?_
            refine z_aload_n cx dX5_load_62 rfl ?_
            refine g_X5_15 cx fl_X5_28 dX5_load_63 ?_
            refine z_iconst cx dX5_load_66 ?_
            refine z_iload_n cx dX5_load_67 rfl ?_
            refine z_iast cx (0) (by omega) (by omega) rfl (fun G => co_mrep E G) dX5_load_68 ?_
            refine z_aload_n cx dX5_load_69 rfl ?_
            refine g_X5_15 cx fl_X5_28 dX5_load_70 ?_
            refine z_iconst cx dX5_load_73 ?_
            refine z_iload_n cx dX5_load_74 rfl ?_
            refine z_iast cx (1) (by omega) (by omega) rfl (fun G => co_mrep E G) dX5_load_75 ?_
            refine z_aload_n cx dX5_load_76 rfl ?_
            refine g_X5_15 cx fl_X5_28 dX5_load_77 ?_
            refine z_iconst cx dX5_load_80 ?_
            refine z_aload_n cx dX5_load_81 rfl ?_
            refine g_X5_9 cx fl_X5_122 dX5_load_82 ?_
            rw [gup_f _ _ _ _ _ _ _ (by decide), gup_f _ _ _ _ _ _ _ (by decide), gup_f _ _ _ _ _ _ _ (by decide), hz45.2.2.1]
            refine z_iast cx (2) (by omega) (by omega) rfl (fun G => co_mrep E G) dX5_load_85 ?_
            refine z_goto cx (tgt := 96) dX5_load_86 ?_
            refine Z.locs (L96 (k) (1) ((k : Int)) ((rsn F1 (ent A.2.2.1 pos).2.2.1 (ent A.2.2.1 pos).2.2.2.1)) ((pos : Int)) (F1) _ (by omega) ?_ ?_ hOF ?_ (Or.inr rfl) ?_ ?_ (by unfold RpOk; dsimp only; omega) ?_ (Or.inr ⟨Or.inl rfl, hldS, fun w => absurd w (by decide)⟩)) ⟨rfl, rfl, trivial⟩
            · exact (fun f a q w1 w2 w3 => by rw [gup_f _ _ _ _ _ _ _ w2, gup_f _ _ _ _ _ _ _ w2, gup_f _ _ _ _ _ _ _ w2, gup_f _ _ _ _ _ _ _ (by omega), hz45.2.2.2.2 f a q (by omega)]; exact hf f a q w1 w2 w3)
            · rw [show (gup (gup (gup (gup G45 35 0 0 1) 26 0 0 (k : Int)) 26 0 1 (rsn F1 (ent A.2.2.1 pos).2.2.1 (ent A.2.2.1 pos).2.2.2.1)) 26 0 2 (pos : Int)) 20 0 = G45 20 0 from funext fun i => by rw [gup_f _ _ _ _ _ _ _ (by decide), gup_f _ _ _ _ _ _ _ (by decide), gup_f _ _ _ _ _ _ _ (by decide), gup_f _ _ _ _ _ _ _ (by decide)]]
              exact hM45
            · rw [gup_f _ _ _ _ _ _ _ (by decide), gup_f _ _ _ _ _ _ _ (by decide), gup_f _ _ _ _ _ _ _ (by decide), gup_s]
            · rw [gup_f _ _ _ _ _ _ _ (by decide), gup_f _ _ _ _ _ _ _ (by decide), gup_f _ _ _ _ _ _ _ (by decide), gup_f _ _ _ _ _ _ _ (by decide), hz45.1]; exact he1
            · rw [gup_f _ _ _ _ _ _ _ (by decide), gup_f _ _ _ _ _ _ _ (by decide), gup_f _ _ _ _ _ _ _ (by decide), gup_f _ _ _ _ _ _ _ (by decide)]; exact hz45.2.1
            · exact (fun _ => ⟨by rw [gup_i _ _ _ _ _ (by decide), gup_i _ _ _ _ _ (by decide), gup_s], by rw [gup_i _ _ _ _ _ (by decide), gup_s], by rw [gup_s]⟩)
  refine z_aload_n cx dX5_load_0 rfl ?_
  refine z_vi cx (c_X5_isScript hsM hScO) rfl mv_X5_isScript ml_X5_140 (by omega) (co_mod E _) rfl dX5_load_1 (fun z1 G1 hz1 => ?_)
  obtain ⟨hz1, hzf⟩ := hz1
  refine z_if_ne cx (tgt := 10) dX5_load_4 (fun h4 => ?_) (fun h4 => ?_)
  · skip
    refine z_aload_n cx dX5_load_10 rfl ?_
    refine z_vv cx (c_X5_begins) rfl mv_X5_begins ml_X5_147 (by omega) (co_mod E _) rfl dX5_load_11 (fun G11 hz11 => ?_)
    have hR1 := hzf.rel hR
    obtain ⟨hMid, hBc1, hBs⟩ := begins_mid hR1 hA hz11
    have bM := hMid.1
    have hBc : CFx G G11 := hzf.cfx.tr hBc1
    have hfau : faultS A.2.2.1 = -6 := by omega
    have hf31 : G1 31 0 0 = 1 := by omega
    refine z_aload_n cx dX5_load_14 rfl ?_
    refine z_iconst cx dX5_load_15 ?_
    refine p_X5_8 cx fl_X5_101 dX5_load_16 ?_
    refine z_aload_n cx dX5_load_19 rfl ?_
    refine z_iconst cx dX5_load_20 ?_
    refine p_X5_14 cx fl_X5_150 dX5_load_21 ?_
    refine z_iconst cx dX5_load_24 ?_
    refine z_istore_n cx dX5_load_25 ?_
    refine Z.locs (L26 _ (0) (0) (0) ((-6)) ((-6)) ((-6)) (A.1) (G11) _ (Nat.lt_succ_self _) hfau hMid hBc (fun f a q w1 w2 w3 => by rw [gup_f _ _ _ _ _ _ _ (by omega), gup_f _ _ _ _ _ _ _ (by omega)]) (by rw [show (gup (gup G11 29 0 0 0) 35 0 0 0) 20 0 = G11 20 0 from funext fun i => by rw [gup_f _ _ _ _ _ _ _ (by decide), gup_f _ _ _ _ _ _ _ (by decide)]]; exact bM) hO (by rw [gup_s]) (Or.inl rfl) (by rw [gup_f _ _ _ _ _ _ _ (by decide), gup_f _ _ _ _ _ _ _ (by decide), hBs 31 0 (by decide)]; exact hf31) (by rw [gup_f _ _ _ _ _ _ _ (by decide), gup_s]; rfl) (by omega) (by unfold RpOk; dsimp only; omega) (fun w => absurd w (by decide)) (Or.inl ⟨rfl, (flt_1 (f := 80) hfau hScO (Nat.zero_le _)).2.1, hfau, rfl, rfl, rfl, rfl⟩)) ⟨rfl, rfl, trivial⟩
  · skip
    refine z_bipush cx dX5_load_7 ?_
    refine z_iret cx dX5_load_9 ?_
    rw [show s_load A = (-3, A) from by unfold s_load; rw [if_pos (by omega)]]
    exact ⟨rfl, hzf.rel hR, hzf.cfx⟩
