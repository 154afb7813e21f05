/-! ===== the model: the parser takes an entry, a script ===== -/
def EntR (sc : List Int) (i : Nat) (G G' : Wd) : Prop := G' 31 0 0 = (ent sc i).1 ∧ G' 29 0 0 = ((ent sc i).2.1 : Int) ∧ G' 30 0 0 = (i : Int) ∧ ((ent sc i).1 = 1 → G' 32 0 0 = (ent sc i).2.2.1 ∧ G' 33 0 0 = (ent sc i).2.2.2.1 ∧ G' 34 0 0 = ((ent sc i).2.1 : Int) - (ent sc i).2.2.2.2) ∧ ∀ f a q, ¬ (29 ≤ f ∧ f ≤ 34) → G' f a q = G f a q
theorem at_hr {sc : List Int} {i : Nat} {x : Int} (hx : x ≠ 0) : at_ sc i x ↔ hr_ sc i = x := by
  refine ⟨fun h => (hr_t h.1).trans h.2, fun h => ?_⟩
  have := hr_n (sc := sc) (i := i) (by omega)
  exact ⟨this.1, by omega⟩
set_option maxRecDepth 100000 in
set_option maxHeartbeats 4000000 in
theorem c_X5_takesEntry {E : En} {G : Wd} {sc : List Int} {i : Nat} (hs : MSc G sc) (hO : ScOk sc) (hb : G 31 0 0 = 1) (hi : G 29 0 0 = (i : Int)) (hil : i ≤ sc.length) : Ctv E yX5_takesEntry cX5_takesEntry 1 3 66 [.ref (E.1 6)] G (fun G' => EntR sc i G G') := by
  have h80 := hO.1
  refine Ctv.mk [some (.ref (E.1 6))] (by decide) rfl (by intro v hv; simp only [List.mem_cons, List.not_mem_nil, or_false] at hv; subst hv; rfl) (Nat.le_of_ble_eq_true rfl) ?_
  intro p l e s m args below meth c cx
  refine z_aload_n cx dX5_takesEntry_0 rfl ?_
  refine z_aload_n cx dX5_takesEntry_1 rfl ?_
  refine g_X5_8 cx fl_X5_101 dX5_takesEntry_2 ?_
  refine p_X5_9 cx fl_X5_122 dX5_takesEntry_5 ?_
  refine z_aload_n cx dX5_takesEntry_8 rfl ?_
  refine z_aload_n cx dX5_takesEntry_9 rfl ?_
  refine z_vi cx (c_X5_takesNumber (b := 1) (i := i) (hs.of (fun f a q w => by rw [gup_f _ _ _ _ _ _ _ (by omega)])) hO (by rw [gup_f _ _ _ _ _ _ _ (by decide)]; exact hb) (by omega) (by rw [gup_f _ _ _ _ _ _ _ (by decide)]; exact hi) (by omega)) rfl mv_X5_takesNumber ml_X5_125 (by omega) (co_mod E _) rfl dX5_takesEntry_10 (fun z10 G10 hz10 => ?_)
  obtain ⟨fa, p1, hnf⟩ : ∃ fa p1, numF sc i (-6) = (fa, p1) := ⟨_, _, rfl⟩
  have hnb := numF_b h80 _ i (-6) (Nat.le_refl _) hil (Or.inl rfl)
  rw [hnf] at hnb
  dsimp only at hnb
  obtain ⟨b1, hb1c, hP1⟩ : ∃ b1 : Int, ((b1 = 1 ∧ fa ≠ -6 ∧ z10 = fa) ∨ (b1 = 0 ∧ fa = -6)) ∧ PS (gup G 30 0 0 (G 29 0 0)) G10 b1 p1 := by
    unfold NumR at hz10
    rw [hnf] at hz10
    dsimp only at hz10
    rcases hz10 with ⟨-, q1, q2, q3⟩ | ⟨-, q1, q2, q3⟩ | ⟨q0, -⟩
    · exact ⟨1, Or.inl ⟨rfl, q1, q2⟩, q3⟩
    · exact ⟨0, Or.inr ⟨rfl, q1⟩, q2 ▸ q3⟩
    · exfalso; omega
  clear hz10
  have hbd1 := hnb.2.1
  have hbd2 := hnb.2.2.1
  clear hnb
  refine p_X5_11 cx fl_X5_128 dX5_takesEntry_13 ?_
  have hs13 : MSc (gup G10 32 0 0 z10) sc := (hP1.sc (hs.of (fun f a q w => by rw [gup_f _ _ _ _ _ _ _ (by omega)]))).of (fun f a q w => by rw [gup_f _ _ _ _ _ _ _ (by omega)])
  have hb13 : (gup G10 32 0 0 z10) 31 0 0 = b1 := (gup_f _ _ _ _ _ _ _ (by decide)).trans hP1.1
  have hj13 : (gup G10 32 0 0 z10) 29 0 0 = (p1 : Int) := (gup_f _ _ _ _ _ _ _ (by decide)).trans hP1.2.1
  have hhb1 := hr_b hO p1
  refine z_aload_n cx dX5_takesEntry_16 rfl ?_
  refine z_aload_n cx dX5_takesEntry_17 rfl ?_
  refine z_vi cx (c_X5_here hs13 hO hj13 (by omega)) rfl mv_X5_here ml_X5_108 (by omega) (co_mod E _) rfl dX5_takesEntry_18 (fun z18 G18 hz18 => ?_)
  obtain ⟨eG, rfl⟩ := hz18
  have eG := eG.symm
  subst eG
  refine z_bipush cx dX5_takesEntry_21 ?_
  refine z_icmp_ne cx (tgt := 30) dX5_takesEntry_23 (fun h23 => ?_) (fun h23 => ?_)
  · skip
    refine z_iconst cx dX5_takesEntry_30 ?_
    refine z_vv cx (c_X5_takes (b := b1) (i := p1) hb13 (by omega) (by omega) hj13 (by omega)) rfl mv_X5_takes ml_X5_112 (by omega) (co_mod E _) rfl dX5_takesEntry_31 (fun G31 hz31 => ?_)
    obtain ⟨b2, p2, hc2, hP2⟩ : ∃ (b2 : Int) (p2 : Nat), ((b2 = 1 ∧ b1 = 1 ∧ hr_ sc p1 = 45 ∧ p2 = p1 + 1 ∧ p2 ≤ sc.length) ∨ (b2 = 0 ∧ p2 = p1 ∧ (b1 = 0 ∨ hr_ sc p1 ≠ 45))) ∧ PS (gup G10 32 0 0 z10) G31 b2 p2 := by
      rcases hz31 with ⟨q1, q2, q3⟩ | ⟨q1, q2⟩
      · first
        | (exfalso; omega)
        | (have hx := hr_n (sc := sc) (i := p1) (by omega)
           exact ⟨1, p1 + 1, Or.inl ⟨rfl, q1, by omega, rfl, hx.1⟩, q3⟩)
      · exact ⟨0, p1, Or.inr ⟨rfl, rfl, by omega⟩, q2⟩
    clear hz31
    have hs31 : MSc G31 sc := hP2.sc hs13
    refine z_aload_n cx dX5_takesEntry_34 rfl ?_
    refine z_aload_n cx dX5_takesEntry_35 rfl ?_
    refine z_vi cx (c_X5_takesNumber (b := b2) (i := p2) hs31 hO hP2.1 (by omega) hP2.2.1 (by omega)) rfl mv_X5_takesNumber ml_X5_125 (by omega) (co_mod E _) rfl dX5_takesEntry_36 (fun z36 G36 hz36 => ?_)
    obtain ⟨fb, e2, hnf2⟩ : ∃ fb e2, numF sc p2 (-6) = (fb, e2) := ⟨_, _, rfl⟩
    have hnb2 := numF_b h80 _ p2 (-6) (Nat.le_refl _) (by omega) (Or.inl rfl)
    rw [hnf2] at hnb2
    dsimp only at hnb2
    obtain ⟨b3, p3, hc3, hP3⟩ : ∃ (b3 : Int) (p3 : Nat), ((b3 = 1 ∧ b2 = 1 ∧ fb ≠ -6 ∧ z36 = fb ∧ p3 = e2) ∨ (b3 = 0 ∧ b2 = 1 ∧ fb = -6 ∧ p3 = e2) ∨ (b3 = 0 ∧ b2 = 0 ∧ p3 = p2)) ∧ PS G31 G36 b3 p3 := by
      unfold NumR at hz36
      rw [hnf2] at hz36
      dsimp only at hz36
      rcases hz36 with ⟨q0, q1, q2, q3⟩ | ⟨q0, q1, q2, q3⟩ | ⟨q0, q3⟩
      · exact ⟨1, e2, Or.inl ⟨rfl, q0, q1, q2, rfl⟩, q3⟩
      · exact ⟨0, e2, Or.inr (Or.inl ⟨rfl, q0, q1, rfl⟩), q2 ▸ q3⟩
      · exact ⟨0, p2, Or.inr (Or.inr ⟨rfl, q0, rfl⟩), q3⟩
    clear hz36
    have hbd3 := hnb2.2.1
    have hbd4 := hnb2.2.2.1
    clear hnb2
    refine p_X5_12 cx fl_X5_131 dX5_takesEntry_39 ?_
    have hs39 : MSc (gup G36 33 0 0 z36) sc := (hP3.sc hs31).of (fun f a q w => by rw [gup_f _ _ _ _ _ _ _ (by omega)])
    have hb39 : (gup G36 33 0 0 z36) 31 0 0 = b3 := (gup_f _ _ _ _ _ _ _ (by decide)).trans hP3.1
    have hj39 : (gup G36 33 0 0 z36) 29 0 0 = (p3 : Int) := (gup_f _ _ _ _ _ _ _ (by decide)).trans hP3.2.1
    have hhb3 := hr_b hO p3
    refine z_aload_n cx dX5_takesEntry_42 rfl ?_
    refine z_aload_n cx dX5_takesEntry_43 rfl ?_
    refine z_vi cx (c_X5_here hs39 hO hj39 (by omega)) rfl mv_X5_here ml_X5_108 (by omega) (co_mod E _) rfl dX5_takesEntry_44 (fun z44 G44 hz44 => ?_)
    obtain ⟨eG, rfl⟩ := hz44
    have eG := eG.symm
    subst eG
    refine z_bipush cx dX5_takesEntry_47 ?_
    refine z_icmp_ne cx (tgt := 56) dX5_takesEntry_49 (fun h49 => ?_) (fun h49 => ?_)
    · skip
      refine z_iconst cx dX5_takesEntry_56 ?_
      refine z_vv cx (c_X5_takes (b := b3) (i := p3) hb39 (by omega) (by omega) hj39 (by omega)) rfl mv_X5_takes ml_X5_112 (by omega) (co_mod E _) rfl dX5_takesEntry_57 (fun G57 hz57 => ?_)
      obtain ⟨b4, p4, hc4, hP4⟩ : ∃ (b4 : Int) (p4 : Nat), ((b4 = 1 ∧ b3 = 1 ∧ hr_ sc p3 = 58 ∧ p4 = p3 + 1 ∧ p4 ≤ sc.length) ∨ (b4 = 0 ∧ p4 = p3 ∧ (b3 = 0 ∨ hr_ sc p3 ≠ 58))) ∧ PS (gup G36 33 0 0 z36) G57 b4 p4 := by
        rcases hz57 with ⟨q1, q2, q3⟩ | ⟨q1, q2⟩
        · first
          | (exfalso; omega)
          | (have hx := hr_n (sc := sc) (i := p3) (by omega)
             exact ⟨1, p3 + 1, Or.inl ⟨rfl, q1, by omega, rfl, hx.1⟩, q3⟩)
        · exact ⟨0, p3, Or.inr ⟨rfl, rfl, by omega⟩, q2⟩
      clear hz57
      have hs57 : MSc G57 sc := hP4.sc hs39
      have hb57 := hP4.1
      have h45 := at_hr (sc := sc) (i := p1) (x := 45) (by decide)
      have h58 := at_hr (sc := sc) (i := p3) (x := 58) (by decide)
      have hfr57 : ∀ f a q, ¬ (29 ≤ f ∧ f ≤ 34) → G57 f a q = G f a q := fun f a q w => by
        rw [hP4.2.2 f a q (by omega) (by omega), gup_f _ _ _ _ _ _ _ (by omega), hP3.2.2 f a q (by omega) (by omega), hP2.2.2 f a q (by omega) (by omega), gup_f _ _ _ _ _ _ _ (by omega), hP1.2.2 f a q (by omega) (by omega), gup_f _ _ _ _ _ _ _ (by omega)]
      have h30 : G57 30 0 0 = (i : Int) := by
        rw [hP4.2.2 30 0 0 (by decide) (by decide), gup_f _ _ _ _ _ _ _ (by decide), hP3.2.2 30 0 0 (by decide) (by decide), hP2.2.2 30 0 0 (by decide) (by decide), gup_f _ _ _ _ _ _ _ (by decide), hP1.2.2 30 0 0 (by decide) (by decide), gup_s]
        exact hi
      have h32 : G57 32 0 0 = z10 := by
        rw [hP4.2.2 32 0 0 (by decide) (by decide), gup_f _ _ _ _ _ _ _ (by decide), hP3.2.2 32 0 0 (by decide) (by decide), hP2.2.2 32 0 0 (by decide) (by decide), gup_s]
      have h33 : G57 33 0 0 = z36 := by
        rw [hP4.2.2 33 0 0 (by decide) (by decide), gup_s]
      refine z_aload_n cx dX5_takesEntry_60 rfl ?_
      refine g_X5_10 cx fl_X5_104 dX5_takesEntry_61 ?_
      refine z_if_eq cx (tgt := 71) dX5_takesEntry_64 (fun h64 => ?_) (fun h64 => ?_)
      · skip
        refine z_vret cx dX5_takesEntry_71 ?_
        have fin : ent sc i = (0, p4, 0, 0, 0) → EntR sc i G G57 := fun he => by
          unfold EntR
          rw [he]
          exact ⟨hb57.trans (by dsimp only; omega), hP4.2.1, h30, fun w => absurd (show (0 : Int) = 1 from w) (by decide), hfr57⟩
        refine fin ?_
        by_cases w0 : fa = -6
        · subst w0
          rw [ent_1 hnf, show p4 = p1 by omega]
        · by_cases w1 : at_ sc p1 45
          · have w1h := h45.mp w1
            rw [show p2 = p1 + 1 by omega] at hnf2
            by_cases w2 : fb = -6
            · subst w2
              rw [ent_3 hnf w0 w1 hnf2, show p4 = e2 by omega]
            · have w3 : ¬ at_ sc p3 58 := fun q => by
                have := h58.mp q
                omega
              rw [show p3 = e2 by omega] at w3
              rw [ent_4 hnf w0 w1 hnf2 w2 w3, show p4 = e2 by omega]
          · have w1h : hr_ sc p1 ≠ 45 := fun q => w1 (h45.mpr q)
            rw [ent_2 hnf w0 w1, show p4 = p1 by omega]
      · skip
        refine z_aload_n cx dX5_takesEntry_67 rfl ?_
        refine z_vv cx (c_X5_takesText (tp := p4) hs57 hO (by omega) hP4.2.1 (by omega)) rfl mv_X5_takesText ml_X5_134 (by omega) (co_mod E _) rfl dX5_takesEntry_68 (fun G68 hz68 => ?_)
        refine z_vret cx dX5_takesEntry_71 ?_
        have w0 : fa ≠ -6 := by omega
        have w1 : at_ sc p1 45 := h45.mpr (by omega)
        rw [show p2 = p1 + 1 by omega] at hnf2
        have w2 : fb ≠ -6 := by omega
        have w3 : at_ sc p3 58 := h58.mpr (by omega)
        rw [show p3 = e2 by omega] at w3
        have e4 : p4 = e2 + 1 := by omega
        subst e4
        obtain ⟨t1, t2, t3⟩ := hz68
        unfold EntR
        rcases t2 with ⟨r1, r2, r3, r4⟩ | ⟨r1, r2⟩
        · rw [ent_5 hnf w0 w1 hnf2 w2 w3 ⟨r2, r3⟩]
          exact ⟨r1, t1, (t3 30 0 0 (by decide) (by decide) (by decide)).trans h30, fun _ => ⟨(t3 32 0 0 (by decide) (by decide) (by decide)).trans (h32.trans (by dsimp only; omega)), (t3 33 0 0 (by decide) (by decide) (by decide)).trans (h33.trans (by dsimp only; omega)), r4⟩, fun f a q w => (t3 f a q (by omega) (by omega) (by omega)).trans (hfr57 f a q w)⟩
        · rw [ent_6 hnf w0 w1 hnf2 w2 w3 r2]
          exact ⟨r1, t1, (t3 30 0 0 (by decide) (by decide) (by decide)).trans h30, fun w => absurd (show (0 : Int) = 1 from w) (by decide), fun f a q w => (t3 f a q (by omega) (by omega) (by omega)).trans (hfr57 f a q w)⟩
    · skip
      refine z_iconst cx dX5_takesEntry_52 ?_
      refine z_goto cx (tgt := 57) dX5_takesEntry_53 ?_
      refine z_vv cx (c_X5_takes (b := b3) (i := p3) hb39 (by omega) (by omega) hj39 (by omega)) rfl mv_X5_takes ml_X5_112 (by omega) (co_mod E _) rfl dX5_takesEntry_57 (fun G57 hz57 => ?_)
      obtain ⟨b4, p4, hc4, hP4⟩ : ∃ (b4 : Int) (p4 : Nat), ((b4 = 1 ∧ b3 = 1 ∧ hr_ sc p3 = 58 ∧ p4 = p3 + 1 ∧ p4 ≤ sc.length) ∨ (b4 = 0 ∧ p4 = p3 ∧ (b3 = 0 ∨ hr_ sc p3 ≠ 58))) ∧ PS (gup G36 33 0 0 z36) G57 b4 p4 := by
        rcases hz57 with ⟨q1, q2, q3⟩ | ⟨q1, q2⟩
        · first
          | (exfalso; omega)
          | (have hx := hr_n (sc := sc) (i := p3) (by omega)
             exact ⟨1, p3 + 1, Or.inl ⟨rfl, q1, by omega, rfl, hx.1⟩, q3⟩)
        · exact ⟨0, p3, Or.inr ⟨rfl, rfl, by omega⟩, q2⟩
      clear hz57
      have hs57 : MSc G57 sc := hP4.sc hs39
      have hb57 := hP4.1
      have h45 := at_hr (sc := sc) (i := p1) (x := 45) (by decide)
      have h58 := at_hr (sc := sc) (i := p3) (x := 58) (by decide)
      have hfr57 : ∀ f a q, ¬ (29 ≤ f ∧ f ≤ 34) → G57 f a q = G f a q := fun f a q w => by
        rw [hP4.2.2 f a q (by omega) (by omega), gup_f _ _ _ _ _ _ _ (by omega), hP3.2.2 f a q (by omega) (by omega), hP2.2.2 f a q (by omega) (by omega), gup_f _ _ _ _ _ _ _ (by omega), hP1.2.2 f a q (by omega) (by omega), gup_f _ _ _ _ _ _ _ (by omega)]
      have h30 : G57 30 0 0 = (i : Int) := by
        rw [hP4.2.2 30 0 0 (by decide) (by decide), gup_f _ _ _ _ _ _ _ (by decide), hP3.2.2 30 0 0 (by decide) (by decide), hP2.2.2 30 0 0 (by decide) (by decide), gup_f _ _ _ _ _ _ _ (by decide), hP1.2.2 30 0 0 (by decide) (by decide), gup_s]
        exact hi
      have h32 : G57 32 0 0 = z10 := by
        rw [hP4.2.2 32 0 0 (by decide) (by decide), gup_f _ _ _ _ _ _ _ (by decide), hP3.2.2 32 0 0 (by decide) (by decide), hP2.2.2 32 0 0 (by decide) (by decide), gup_s]
      have h33 : G57 33 0 0 = z36 := by
        rw [hP4.2.2 33 0 0 (by decide) (by decide), gup_s]
      refine z_aload_n cx dX5_takesEntry_60 rfl ?_
      refine g_X5_10 cx fl_X5_104 dX5_takesEntry_61 ?_
      refine z_if_eq cx (tgt := 71) dX5_takesEntry_64 (fun h64 => ?_) (fun h64 => ?_)
      · skip
        refine z_vret cx dX5_takesEntry_71 ?_
        have fin : ent sc i = (0, p4, 0, 0, 0) → EntR sc i G G57 := fun he => by
          unfold EntR
          rw [he]
          exact ⟨hb57.trans (by dsimp only; omega), hP4.2.1, h30, fun w => absurd (show (0 : Int) = 1 from w) (by decide), hfr57⟩
        refine fin ?_
        by_cases w0 : fa = -6
        · subst w0
          rw [ent_1 hnf, show p4 = p1 by omega]
        · by_cases w1 : at_ sc p1 45
          · have w1h := h45.mp w1
            rw [show p2 = p1 + 1 by omega] at hnf2
            by_cases w2 : fb = -6
            · subst w2
              rw [ent_3 hnf w0 w1 hnf2, show p4 = e2 by omega]
            · have w3 : ¬ at_ sc p3 58 := fun q => by
                have := h58.mp q
                omega
              rw [show p3 = e2 by omega] at w3
              rw [ent_4 hnf w0 w1 hnf2 w2 w3, show p4 = e2 by omega]
          · have w1h : hr_ sc p1 ≠ 45 := fun q => w1 (h45.mpr q)
            rw [ent_2 hnf w0 w1, show p4 = p1 by omega]
      · skip
        refine z_aload_n cx dX5_takesEntry_67 rfl ?_
        refine z_vv cx (c_X5_takesText (tp := p4) hs57 hO (by omega) hP4.2.1 (by omega)) rfl mv_X5_takesText ml_X5_134 (by omega) (co_mod E _) rfl dX5_takesEntry_68 (fun G68 hz68 => ?_)
        refine z_vret cx dX5_takesEntry_71 ?_
        have w0 : fa ≠ -6 := by omega
        have w1 : at_ sc p1 45 := h45.mpr (by omega)
        rw [show p2 = p1 + 1 by omega] at hnf2
        have w2 : fb ≠ -6 := by omega
        have w3 : at_ sc p3 58 := h58.mpr (by omega)
        rw [show p3 = e2 by omega] at w3
        have e4 : p4 = e2 + 1 := by omega
        subst e4
        obtain ⟨t1, t2, t3⟩ := hz68
        unfold EntR
        rcases t2 with ⟨r1, r2, r3, r4⟩ | ⟨r1, r2⟩
        · rw [ent_5 hnf w0 w1 hnf2 w2 w3 ⟨r2, r3⟩]
          exact ⟨r1, t1, (t3 30 0 0 (by decide) (by decide) (by decide)).trans h30, fun _ => ⟨(t3 32 0 0 (by decide) (by decide) (by decide)).trans (h32.trans (by dsimp only; omega)), (t3 33 0 0 (by decide) (by decide) (by decide)).trans (h33.trans (by dsimp only; omega)), r4⟩, fun f a q w => (t3 f a q (by omega) (by omega) (by omega)).trans (hfr57 f a q w)⟩
        · rw [ent_6 hnf w0 w1 hnf2 w2 w3 r2]
          exact ⟨r1, t1, (t3 30 0 0 (by decide) (by decide) (by decide)).trans h30, fun w => absurd (show (0 : Int) = 1 from w) (by decide), fun f a q w => (t3 f a q (by omega) (by omega) (by omega)).trans (hfr57 f a q w)⟩
  · skip
    refine z_iconst cx dX5_takesEntry_26 ?_
    refine z_goto cx (tgt := 31) dX5_takesEntry_27 ?_
    refine z_vv cx (c_X5_takes (b := b1) (i := p1) hb13 (by omega) (by omega) hj13 (by omega)) rfl mv_X5_takes ml_X5_112 (by omega) (co_mod E _) rfl dX5_takesEntry_31 (fun G31 hz31 => ?_)
    obtain ⟨b2, p2, hc2, hP2⟩ : ∃ (b2 : Int) (p2 : Nat), ((b2 = 1 ∧ b1 = 1 ∧ hr_ sc p1 = 45 ∧ p2 = p1 + 1 ∧ p2 ≤ sc.length) ∨ (b2 = 0 ∧ p2 = p1 ∧ (b1 = 0 ∨ hr_ sc p1 ≠ 45))) ∧ PS (gup G10 32 0 0 z10) G31 b2 p2 := by
      rcases hz31 with ⟨q1, q2, q3⟩ | ⟨q1, q2⟩
      · first
        | (exfalso; omega)
        | (have hx := hr_n (sc := sc) (i := p1) (by omega)
           exact ⟨1, p1 + 1, Or.inl ⟨rfl, q1, by omega, rfl, hx.1⟩, q3⟩)
      · exact ⟨0, p1, Or.inr ⟨rfl, rfl, by omega⟩, q2⟩
    clear hz31
    have hs31 : MSc G31 sc := hP2.sc hs13
    refine z_aload_n cx dX5_takesEntry_34 rfl ?_
    refine z_aload_n cx dX5_takesEntry_35 rfl ?_
    refine z_vi cx (c_X5_takesNumber (b := b2) (i := p2) hs31 hO hP2.1 (by omega) hP2.2.1 (by omega)) rfl mv_X5_takesNumber ml_X5_125 (by omega) (co_mod E _) rfl dX5_takesEntry_36 (fun z36 G36 hz36 => ?_)
    obtain ⟨fb, e2, hnf2⟩ : ∃ fb e2, numF sc p2 (-6) = (fb, e2) := ⟨_, _, rfl⟩
    have hnb2 := numF_b h80 _ p2 (-6) (Nat.le_refl _) (by omega) (Or.inl rfl)
    rw [hnf2] at hnb2
    dsimp only at hnb2
    obtain ⟨b3, p3, hc3, hP3⟩ : ∃ (b3 : Int) (p3 : Nat), ((b3 = 1 ∧ b2 = 1 ∧ fb ≠ -6 ∧ z36 = fb ∧ p3 = e2) ∨ (b3 = 0 ∧ b2 = 1 ∧ fb = -6 ∧ p3 = e2) ∨ (b3 = 0 ∧ b2 = 0 ∧ p3 = p2)) ∧ PS G31 G36 b3 p3 := by
      unfold NumR at hz36
      rw [hnf2] at hz36
      dsimp only at hz36
      rcases hz36 with ⟨q0, q1, q2, q3⟩ | ⟨q0, q1, q2, q3⟩ | ⟨q0, q3⟩
      · exact ⟨1, e2, Or.inl ⟨rfl, q0, q1, q2, rfl⟩, q3⟩
      · exact ⟨0, e2, Or.inr (Or.inl ⟨rfl, q0, q1, rfl⟩), q2 ▸ q3⟩
      · exact ⟨0, p2, Or.inr (Or.inr ⟨rfl, q0, rfl⟩), q3⟩
    clear hz36
    have hbd3 := hnb2.2.1
    have hbd4 := hnb2.2.2.1
    clear hnb2
    refine p_X5_12 cx fl_X5_131 dX5_takesEntry_39 ?_
    have hs39 : MSc (gup G36 33 0 0 z36) sc := (hP3.sc hs31).of (fun f a q w => by rw [gup_f _ _ _ _ _ _ _ (by omega)])
    have hb39 : (gup G36 33 0 0 z36) 31 0 0 = b3 := (gup_f _ _ _ _ _ _ _ (by decide)).trans hP3.1
    have hj39 : (gup G36 33 0 0 z36) 29 0 0 = (p3 : Int) := (gup_f _ _ _ _ _ _ _ (by decide)).trans hP3.2.1
    have hhb3 := hr_b hO p3
    refine z_aload_n cx dX5_takesEntry_42 rfl ?_
    refine z_aload_n cx dX5_takesEntry_43 rfl ?_
    refine z_vi cx (c_X5_here hs39 hO hj39 (by omega)) rfl mv_X5_here ml_X5_108 (by omega) (co_mod E _) rfl dX5_takesEntry_44 (fun z44 G44 hz44 => ?_)
    obtain ⟨eG, rfl⟩ := hz44
    have eG := eG.symm
    subst eG
    refine z_bipush cx dX5_takesEntry_47 ?_
    refine z_icmp_ne cx (tgt := 56) dX5_takesEntry_49 (fun h49 => ?_) (fun h49 => ?_)
    · skip
      refine z_iconst cx dX5_takesEntry_56 ?_
      refine z_vv cx (c_X5_takes (b := b3) (i := p3) hb39 (by omega) (by omega) hj39 (by omega)) rfl mv_X5_takes ml_X5_112 (by omega) (co_mod E _) rfl dX5_takesEntry_57 (fun G57 hz57 => ?_)
      obtain ⟨b4, p4, hc4, hP4⟩ : ∃ (b4 : Int) (p4 : Nat), ((b4 = 1 ∧ b3 = 1 ∧ hr_ sc p3 = 58 ∧ p4 = p3 + 1 ∧ p4 ≤ sc.length) ∨ (b4 = 0 ∧ p4 = p3 ∧ (b3 = 0 ∨ hr_ sc p3 ≠ 58))) ∧ PS (gup G36 33 0 0 z36) G57 b4 p4 := by
        rcases hz57 with ⟨q1, q2, q3⟩ | ⟨q1, q2⟩
        · first
          | (exfalso; omega)
          | (have hx := hr_n (sc := sc) (i := p3) (by omega)
             exact ⟨1, p3 + 1, Or.inl ⟨rfl, q1, by omega, rfl, hx.1⟩, q3⟩)
        · exact ⟨0, p3, Or.inr ⟨rfl, rfl, by omega⟩, q2⟩
      clear hz57
      have hs57 : MSc G57 sc := hP4.sc hs39
      have hb57 := hP4.1
      have h45 := at_hr (sc := sc) (i := p1) (x := 45) (by decide)
      have h58 := at_hr (sc := sc) (i := p3) (x := 58) (by decide)
      have hfr57 : ∀ f a q, ¬ (29 ≤ f ∧ f ≤ 34) → G57 f a q = G f a q := fun f a q w => by
        rw [hP4.2.2 f a q (by omega) (by omega), gup_f _ _ _ _ _ _ _ (by omega), hP3.2.2 f a q (by omega) (by omega), hP2.2.2 f a q (by omega) (by omega), gup_f _ _ _ _ _ _ _ (by omega), hP1.2.2 f a q (by omega) (by omega), gup_f _ _ _ _ _ _ _ (by omega)]
      have h30 : G57 30 0 0 = (i : Int) := by
        rw [hP4.2.2 30 0 0 (by decide) (by decide), gup_f _ _ _ _ _ _ _ (by decide), hP3.2.2 30 0 0 (by decide) (by decide), hP2.2.2 30 0 0 (by decide) (by decide), gup_f _ _ _ _ _ _ _ (by decide), hP1.2.2 30 0 0 (by decide) (by decide), gup_s]
        exact hi
      have h32 : G57 32 0 0 = z10 := by
        rw [hP4.2.2 32 0 0 (by decide) (by decide), gup_f _ _ _ _ _ _ _ (by decide), hP3.2.2 32 0 0 (by decide) (by decide), hP2.2.2 32 0 0 (by decide) (by decide), gup_s]
      have h33 : G57 33 0 0 = z36 := by
        rw [hP4.2.2 33 0 0 (by decide) (by decide), gup_s]
      refine z_aload_n cx dX5_takesEntry_60 rfl ?_
      refine g_X5_10 cx fl_X5_104 dX5_takesEntry_61 ?_
      refine z_if_eq cx (tgt := 71) dX5_takesEntry_64 (fun h64 => ?_) (fun h64 => ?_)
      · skip
        refine z_vret cx dX5_takesEntry_71 ?_
        have fin : ent sc i = (0, p4, 0, 0, 0) → EntR sc i G G57 := fun he => by
          unfold EntR
          rw [he]
          exact ⟨hb57.trans (by dsimp only; omega), hP4.2.1, h30, fun w => absurd (show (0 : Int) = 1 from w) (by decide), hfr57⟩
        refine fin ?_
        by_cases w0 : fa = -6
        · subst w0
          rw [ent_1 hnf, show p4 = p1 by omega]
        · by_cases w1 : at_ sc p1 45
          · have w1h := h45.mp w1
            rw [show p2 = p1 + 1 by omega] at hnf2
            by_cases w2 : fb = -6
            · subst w2
              rw [ent_3 hnf w0 w1 hnf2, show p4 = e2 by omega]
            · have w3 : ¬ at_ sc p3 58 := fun q => by
                have := h58.mp q
                omega
              rw [show p3 = e2 by omega] at w3
              rw [ent_4 hnf w0 w1 hnf2 w2 w3, show p4 = e2 by omega]
          · have w1h : hr_ sc p1 ≠ 45 := fun q => w1 (h45.mpr q)
            rw [ent_2 hnf w0 w1, show p4 = p1 by omega]
      · skip
        refine z_aload_n cx dX5_takesEntry_67 rfl ?_
        refine z_vv cx (c_X5_takesText (tp := p4) hs57 hO (by omega) hP4.2.1 (by omega)) rfl mv_X5_takesText ml_X5_134 (by omega) (co_mod E _) rfl dX5_takesEntry_68 (fun G68 hz68 => ?_)
        refine z_vret cx dX5_takesEntry_71 ?_
        have w0 : fa ≠ -6 := by omega
        have w1 : at_ sc p1 45 := h45.mpr (by omega)
        rw [show p2 = p1 + 1 by omega] at hnf2
        have w2 : fb ≠ -6 := by omega
        have w3 : at_ sc p3 58 := h58.mpr (by omega)
        rw [show p3 = e2 by omega] at w3
        have e4 : p4 = e2 + 1 := by omega
        subst e4
        obtain ⟨t1, t2, t3⟩ := hz68
        unfold EntR
        rcases t2 with ⟨r1, r2, r3, r4⟩ | ⟨r1, r2⟩
        · rw [ent_5 hnf w0 w1 hnf2 w2 w3 ⟨r2, r3⟩]
          exact ⟨r1, t1, (t3 30 0 0 (by decide) (by decide) (by decide)).trans h30, fun _ => ⟨(t3 32 0 0 (by decide) (by decide) (by decide)).trans (h32.trans (by dsimp only; omega)), (t3 33 0 0 (by decide) (by decide) (by decide)).trans (h33.trans (by dsimp only; omega)), r4⟩, fun f a q w => (t3 f a q (by omega) (by omega) (by omega)).trans (hfr57 f a q w)⟩
        · rw [ent_6 hnf w0 w1 hnf2 w2 w3 r2]
          exact ⟨r1, t1, (t3 30 0 0 (by decide) (by decide) (by decide)).trans h30, fun w => absurd (show (0 : Int) = 1 from w) (by decide), fun f a q w => (t3 f a q (by omega) (by omega) (by omega)).trans (hfr57 f a q w)⟩
    · skip
      refine z_iconst cx dX5_takesEntry_52 ?_
      refine z_goto cx (tgt := 57) dX5_takesEntry_53 ?_
      refine z_vv cx (c_X5_takes (b := b3) (i := p3) hb39 (by omega) (by omega) hj39 (by omega)) rfl mv_X5_takes ml_X5_112 (by omega) (co_mod E _) rfl dX5_takesEntry_57 (fun G57 hz57 => ?_)
      obtain ⟨b4, p4, hc4, hP4⟩ : ∃ (b4 : Int) (p4 : Nat), ((b4 = 1 ∧ b3 = 1 ∧ hr_ sc p3 = 58 ∧ p4 = p3 + 1 ∧ p4 ≤ sc.length) ∨ (b4 = 0 ∧ p4 = p3 ∧ (b3 = 0 ∨ hr_ sc p3 ≠ 58))) ∧ PS (gup G36 33 0 0 z36) G57 b4 p4 := by
        rcases hz57 with ⟨q1, q2, q3⟩ | ⟨q1, q2⟩
        · first
          | (exfalso; omega)
          | (have hx := hr_n (sc := sc) (i := p3) (by omega)
             exact ⟨1, p3 + 1, Or.inl ⟨rfl, q1, by omega, rfl, hx.1⟩, q3⟩)
        · exact ⟨0, p3, Or.inr ⟨rfl, rfl, by omega⟩, q2⟩
      clear hz57
      have hs57 : MSc G57 sc := hP4.sc hs39
      have hb57 := hP4.1
      have h45 := at_hr (sc := sc) (i := p1) (x := 45) (by decide)
      have h58 := at_hr (sc := sc) (i := p3) (x := 58) (by decide)
      have hfr57 : ∀ f a q, ¬ (29 ≤ f ∧ f ≤ 34) → G57 f a q = G f a q := fun f a q w => by
        rw [hP4.2.2 f a q (by omega) (by omega), gup_f _ _ _ _ _ _ _ (by omega), hP3.2.2 f a q (by omega) (by omega), hP2.2.2 f a q (by omega) (by omega), gup_f _ _ _ _ _ _ _ (by omega), hP1.2.2 f a q (by omega) (by omega), gup_f _ _ _ _ _ _ _ (by omega)]
      have h30 : G57 30 0 0 = (i : Int) := by
        rw [hP4.2.2 30 0 0 (by decide) (by decide), gup_f _ _ _ _ _ _ _ (by decide), hP3.2.2 30 0 0 (by decide) (by decide), hP2.2.2 30 0 0 (by decide) (by decide), gup_f _ _ _ _ _ _ _ (by decide), hP1.2.2 30 0 0 (by decide) (by decide), gup_s]
        exact hi
      have h32 : G57 32 0 0 = z10 := by
        rw [hP4.2.2 32 0 0 (by decide) (by decide), gup_f _ _ _ _ _ _ _ (by decide), hP3.2.2 32 0 0 (by decide) (by decide), hP2.2.2 32 0 0 (by decide) (by decide), gup_s]
      have h33 : G57 33 0 0 = z36 := by
        rw [hP4.2.2 33 0 0 (by decide) (by decide), gup_s]
      refine z_aload_n cx dX5_takesEntry_60 rfl ?_
      refine g_X5_10 cx fl_X5_104 dX5_takesEntry_61 ?_
      refine z_if_eq cx (tgt := 71) dX5_takesEntry_64 (fun h64 => ?_) (fun h64 => ?_)
      · skip
        refine z_vret cx dX5_takesEntry_71 ?_
        have fin : ent sc i = (0, p4, 0, 0, 0) → EntR sc i G G57 := fun he => by
          unfold EntR
          rw [he]
          exact ⟨hb57.trans (by dsimp only; omega), hP4.2.1, h30, fun w => absurd (show (0 : Int) = 1 from w) (by decide), hfr57⟩
        refine fin ?_
        by_cases w0 : fa = -6
        · subst w0
          rw [ent_1 hnf, show p4 = p1 by omega]
        · by_cases w1 : at_ sc p1 45
          · have w1h := h45.mp w1
            rw [show p2 = p1 + 1 by omega] at hnf2
            by_cases w2 : fb = -6
            · subst w2
              rw [ent_3 hnf w0 w1 hnf2, show p4 = e2 by omega]
            · have w3 : ¬ at_ sc p3 58 := fun q => by
                have := h58.mp q
                omega
              rw [show p3 = e2 by omega] at w3
              rw [ent_4 hnf w0 w1 hnf2 w2 w3, show p4 = e2 by omega]
          · have w1h : hr_ sc p1 ≠ 45 := fun q => w1 (h45.mpr q)
            rw [ent_2 hnf w0 w1, show p4 = p1 by omega]
      · skip
        refine z_aload_n cx dX5_takesEntry_67 rfl ?_
        refine z_vv cx (c_X5_takesText (tp := p4) hs57 hO (by omega) hP4.2.1 (by omega)) rfl mv_X5_takesText ml_X5_134 (by omega) (co_mod E _) rfl dX5_takesEntry_68 (fun G68 hz68 => ?_)
        refine z_vret cx dX5_takesEntry_71 ?_
        have w0 : fa ≠ -6 := by omega
        have w1 : at_ sc p1 45 := h45.mpr (by omega)
        rw [show p2 = p1 + 1 by omega] at hnf2
        have w2 : fb ≠ -6 := by omega
        have w3 : at_ sc p3 58 := h58.mpr (by omega)
        rw [show p3 = e2 by omega] at w3
        have e4 : p4 = e2 + 1 := by omega
        subst e4
        obtain ⟨t1, t2, t3⟩ := hz68
        unfold EntR
        rcases t2 with ⟨r1, r2, r3, r4⟩ | ⟨r1, r2⟩
        · rw [ent_5 hnf w0 w1 hnf2 w2 w3 ⟨r2, r3⟩]
          exact ⟨r1, t1, (t3 30 0 0 (by decide) (by decide) (by decide)).trans h30, fun _ => ⟨(t3 32 0 0 (by decide) (by decide) (by decide)).trans (h32.trans (by dsimp only; omega)), (t3 33 0 0 (by decide) (by decide) (by decide)).trans (h33.trans (by dsimp only; omega)), r4⟩, fun f a q w => (t3 f a q (by omega) (by omega) (by omega)).trans (hfr57 f a q w)⟩
        · rw [ent_6 hnf w0 w1 hnf2 w2 w3 r2]
          exact ⟨r1, t1, (t3 30 0 0 (by decide) (by decide) (by decide)).trans h30, fun w => absurd (show (0 : Int) = 1 from w) (by decide), fun f a q w => (t3 f a q (by omega) (by omega) (by omega)).trans (hfr57 f a q w)⟩
def FrE (G G' : Wd) : Prop := ∀ f a q, ¬ (29 ≤ f ∧ f ≤ 34) → G' f a q = G f a q
theorem FrE.rel {G G' : Wd} {A : Ast} (h : FrE G G') (hM : MRel G A) : MRel G' A :=
  ⟨by rw [show G' 20 0 = G 20 0 from funext fun i => h 20 0 i (by omega)]; exact hM.1, hM.2.of (fun f i hq => h f 0 i (by omega))⟩
theorem FrE.cfx {G G' : Wd} (h : FrE G G') : CFx G G' := fun f a i hf => h f a i (by omega)
set_option maxRecDepth 100000 in
set_option maxHeartbeats 4000000 in
theorem c_X5_isScript {E : En} {G : Wd} {sc : List Int} (hs : MSc G sc) (hO : ScOk sc) : Cti E yX5_isScript cX5_isScript 1 .boolean 4 86 [.ref (E.1 6)] G (fun z G' => ((z = 1 ∧ faultS sc = -6 ∧ G' 31 0 0 = 1) ∨ (z = 0 ∧ faultS sc ≠ -6 ∧ G' 29 0 0 = faultS sc)) ∧ FrE G G') := by
  have h80 := hO.1
  refine Cti.mk [some (.ref (E.1 6))] (by decide) rfl (by intro v hv; simp only [List.mem_cons, List.not_mem_nil, or_false] at hv; subst hv; rfl) (Nat.le_of_ble_eq_true rfl) ?_
  intro p l e s m args below meth c cx
  have L14 : ∀ (n : Nat) (sp i k : Nat) (fm : Int) (G1 : Wd), (2 * (100 - sp) + fm.toNat) < n → (G1 29 0 0 = (sp : Int)) → (G1 31 0 0 = fm) → (fm = 1 ∨ fm = 0) → (sp ≤ sc.length ∧ k ≤ i ∧ i ≤ sc.length) → ((fm = 0 ∧ faultS sc = sp) ∨ (fm = 1 ∧ (ent sc i).1 = 1 ∧ sp = (ent sc i).2.1 ∧ faultS sc = fltF sc (81 - k) i)) → (FrE G G1) → Z p l e (zr 4 86) s m args below meth c 1 0 0 E (Qi_ E below args s (fun z G' => ((z = 1 ∧ faultS sc = -6 ∧ G' 31 0 0 = 1) ∨ (z = 0 ∧ faultS sc ≠ -6 ∧ G' 29 0 0 = faultS sc)) ∧ FrE G G')) G1 14 [some (.ref (E.1 6))] [] := by
    intro n
    induction n with
    | zero =>
      intro sp i k fm G1 hmu
      exact absurd hmu (Nat.not_lt_zero _)
    | succ n ih =>
      intro sp i k fm G1 hmu hq29 hq31 hfm hsp hd hf
      have hs1 : MSc G1 sc := hs.of (fun f a q w => hf f a q (by omega))
      have hok := ent_ok hO hsp.2.2
      have h28 := hs1.1
      have hstep : fm = 1 → (sp < sc.length → ¬ at_ sc sp 124 → faultS sc = sp) ∧ (¬ sp < sc.length → faultS sc = -6) ∧ (at_ sc sp 124 → faultS sc = fltF sc (81 - (k + 1)) (sp + 1)) := fun w => by
        rcases hd with ⟨q, -⟩ | ⟨-, q1, q2, q3⟩
        · omega
        · rw [show 81 - k = (81 - (k + 1)) + 1 by omega, fltF_s, if_neg (by omega), ← q2] at q3
          refine ⟨fun w1 w2 => ?_, fun w1 => ?_, fun w1 => ?_⟩
          · rw [q3, if_neg w2, if_pos w1]
          · rw [q3, if_neg (fun w2 => w1 w2.1), if_neg w1]
          · rw [q3, if_pos w1]
      have h124 := at_hr (sc := sc) (i := sp) (x := 124) (by decide)
      have hhs := hr_b hO sp
      refine z_aload_n cx dX5_isScript_14 rfl ?_
      refine g_X5_10 cx fl_X5_104 dX5_isScript_15 ?_
      refine z_if_eq cx (tgt := 64) dX5_isScript_18 (fun h18 => ?_) (fun h18 => ?_)
      · skip
        refine z_aload_n cx dX5_isScript_64 rfl ?_
        refine g_X5_10 cx fl_X5_104 dX5_isScript_65 ?_
        refine z_zret cx dX5_isScript_68 ?_
        rcases hd with ⟨q1, q2⟩ | ⟨q1, q2, q3, q4⟩
        · exact ⟨Or.inr ⟨by omega, by omega, by omega⟩, hf⟩
        · first
          | (exfalso; omega)
          | exact ⟨Or.inl ⟨by omega, (hstep q1).2.1 (by omega), by omega⟩, hf⟩
      · skip
        refine z_aload_n cx dX5_isScript_21 rfl ?_
        refine g_X5_8 cx fl_X5_101 dX5_isScript_22 ?_
        refine z_aload_n cx dX5_isScript_25 rfl ?_
        refine g_X5_6 cx fl_X5_98 dX5_isScript_26 ?_
        refine z_icmp_ge cx (tgt := 64) dX5_isScript_29 (fun h29 => ?_) (fun h29 => ?_)
        · skip
          refine z_aload_n cx dX5_isScript_64 rfl ?_
          refine g_X5_10 cx fl_X5_104 dX5_isScript_65 ?_
          refine z_zret cx dX5_isScript_68 ?_
          rcases hd with ⟨q1, q2⟩ | ⟨q1, q2, q3, q4⟩
          · exact ⟨Or.inr ⟨by omega, by omega, by omega⟩, hf⟩
          · first
            | (exfalso; omega)
            | exact ⟨Or.inl ⟨by omega, (hstep q1).2.1 (by omega), by omega⟩, hf⟩
        · skip
          refine z_aload_n cx dX5_isScript_32 rfl ?_
          refine z_aload_n cx dX5_isScript_33 rfl ?_
          refine z_vi cx (c_X5_here hs1 hO hq29 (by omega)) rfl mv_X5_here ml_X5_108 (by omega) (co_mod E _) rfl dX5_isScript_34 (fun z34 G34 hz34 => ?_)
          obtain ⟨eG, rfl⟩ := hz34
          have eG := eG.symm
          subst eG
          refine z_bipush cx dX5_isScript_37 ?_
          refine z_icmp_ne cx (tgt := 46) dX5_isScript_39 (fun h39 => ?_) (fun h39 => ?_)
          · skip
            refine z_iconst cx dX5_isScript_46 ?_
            refine z_vv cx (c_X5_takes (b := fm) (i := sp) hq31 hfm (by omega) hq29 (by omega)) rfl mv_X5_takes ml_X5_112 (by omega) (co_mod E _) rfl dX5_isScript_47 (fun G47 hz47 => ?_)
            obtain ⟨b2, q2, hz47b, hz47c⟩ : ∃ (b2 : Int) (q2 : Nat), PS G1 G47 b2 q2 ∧ ((b2 = 1 ∧ q2 = sp + 1 ∧ hr_ sc sp = 124) ∨ (b2 = 0 ∧ q2 = sp ∧ hr_ sc sp ≠ 124)) := by
              rcases hz47 with ⟨q1, q2, q3⟩ | ⟨q1, q2⟩
              · exact ⟨1, sp + 1, q3, Or.inl ⟨rfl, rfl, by omega⟩⟩
              · exact ⟨0, sp, q2, Or.inr ⟨rfl, rfl, by omega⟩⟩
            clear hz47
            have hb47 := hz47b.1
            have hj47 := hz47b.2.1
            refine z_aload_n cx dX5_isScript_50 rfl ?_
            refine g_X5_10 cx fl_X5_104 dX5_isScript_51 ?_
            refine z_if_eq cx (tgt := 14) dX5_isScript_54 (fun h54 => ?_) (fun h54 => ?_)
            · skip
              have e2 : b2 = 0 ∧ q2 = sp := by omega
              rw [e2.1, e2.2] at hz47b
              refine Z.locs (ih (sp) (i) (k) (0) _ (by omega) hz47b.2.1 hz47b.1 (Or.inr rfl) hsp (Or.inl ⟨rfl, (hstep (by omega)).1 (by omega) (fun w => by have := h124.mp w; omega)⟩) (fun f a q w => by rw [hz47b.2.2 f a q (by omega) (by omega)]; exact hf f a q w)) ⟨rfl, trivial⟩
            · skip
              have e2 : b2 = 1 ∧ q2 = sp + 1 ∧ hr_ sc sp = 124 := by omega
              rw [e2.1, e2.2.1] at hz47b
              have hx := hr_n (sc := sc) (i := sp) (by omega)
              refine z_aload_n cx dX5_isScript_57 rfl ?_
              have hsl : sp + 1 ≤ sc.length := by omega
              have hokn := ent_ok hO hsl
              have hst3 := (hstep (by omega)).2.2 (h124.mpr (by omega))
              have hmono := hokn.2.1
              refine z_vv cx (c_X5_takesEntry (sc := sc) (i := sp + 1) (hz47b.sc hs1) hO hz47b.1 hz47b.2.1 hsl) rfl mv_X5_takesEntry ml_X5_137 (by omega) (co_mod E _) rfl dX5_isScript_58 (fun G58 hz58 => ?_)
              have h58f : G58 31 0 0 = 0 ∨ G58 31 0 0 = 1 := by
                rw [hz58.1]
                exact hokn.1
              refine z_goto cx (tgt := 14) dX5_isScript_61 ?_
              refine Z.locs (ih ((ent sc (sp + 1)).2.1) (sp + 1) (k + 1) _ _ (by omega) hz58.2.1 rfl ?_ ?_ ?_ ?_) ⟨rfl, trivial⟩
              · rw [hz58.1]
                have q := hokn.1
                omega
              · exact ⟨hokn.2.2.1, by omega, hsl⟩
              · rw [hz58.1]
                rcases hokn.1 with w | w
                · refine Or.inl ⟨w, ?_⟩
                  rw [hst3, show 81 - (k + 1) = (81 - (k + 2)) + 1 by omega, fltF_s, if_pos w]
                · exact Or.inr ⟨w, w, rfl, hst3⟩
              · exact (fun f a q w => by rw [hz58.2.2.2.2 f a q w, hz47b.2.2 f a q (by omega) (by omega)]; exact hf f a q w)
          · skip
            refine z_iconst cx dX5_isScript_42 ?_
            refine z_goto cx (tgt := 47) dX5_isScript_43 ?_
            refine z_vv cx (c_X5_takes (b := fm) (i := sp) hq31 hfm (by omega) hq29 (by omega)) rfl mv_X5_takes ml_X5_112 (by omega) (co_mod E _) rfl dX5_isScript_47 (fun G47 hz47 => ?_)
            obtain ⟨b2, q2, hz47b, hz47c⟩ : ∃ (b2 : Int) (q2 : Nat), PS G1 G47 b2 q2 ∧ ((b2 = 1 ∧ q2 = sp + 1 ∧ hr_ sc sp = 124) ∨ (b2 = 0 ∧ q2 = sp ∧ hr_ sc sp ≠ 124)) := by
              rcases hz47 with ⟨q1, q2, q3⟩ | ⟨q1, q2⟩
              · exact ⟨1, sp + 1, q3, Or.inl ⟨rfl, rfl, by omega⟩⟩
              · exact ⟨0, sp, q2, Or.inr ⟨rfl, rfl, by omega⟩⟩
            clear hz47
            have hb47 := hz47b.1
            have hj47 := hz47b.2.1
            refine z_aload_n cx dX5_isScript_50 rfl ?_
            refine g_X5_10 cx fl_X5_104 dX5_isScript_51 ?_
            refine z_if_eq cx (tgt := 14) dX5_isScript_54 (fun h54 => ?_) (fun h54 => ?_)
            · skip
              have e2 : b2 = 0 ∧ q2 = sp := by omega
              rw [e2.1, e2.2] at hz47b
              refine Z.locs (ih (sp) (i) (k) (0) _ (by omega) hz47b.2.1 hz47b.1 (Or.inr rfl) hsp (Or.inl ⟨rfl, (hstep (by omega)).1 (by omega) (fun w => by have := h124.mp w; omega)⟩) (fun f a q w => by rw [hz47b.2.2 f a q (by omega) (by omega)]; exact hf f a q w)) ⟨rfl, trivial⟩
            · skip
              have e2 : b2 = 1 ∧ q2 = sp + 1 ∧ hr_ sc sp = 124 := by omega
              rw [e2.1, e2.2.1] at hz47b
              have hx := hr_n (sc := sc) (i := sp) (by omega)
              refine z_aload_n cx dX5_isScript_57 rfl ?_
              have hsl : sp + 1 ≤ sc.length := by omega
              have hokn := ent_ok hO hsl
              have hst3 := (hstep (by omega)).2.2 (h124.mpr (by omega))
              have hmono := hokn.2.1
              refine z_vv cx (c_X5_takesEntry (sc := sc) (i := sp + 1) (hz47b.sc hs1) hO hz47b.1 hz47b.2.1 hsl) rfl mv_X5_takesEntry ml_X5_137 (by omega) (co_mod E _) rfl dX5_isScript_58 (fun G58 hz58 => ?_)
              have h58f : G58 31 0 0 = 0 ∨ G58 31 0 0 = 1 := by
                rw [hz58.1]
                exact hokn.1
              refine z_goto cx (tgt := 14) dX5_isScript_61 ?_
              refine Z.locs (ih ((ent sc (sp + 1)).2.1) (sp + 1) (k + 1) _ _ (by omega) hz58.2.1 rfl ?_ ?_ ?_ ?_) ⟨rfl, trivial⟩
              · rw [hz58.1]
                have q := hokn.1
                omega
              · exact ⟨hokn.2.2.1, by omega, hsl⟩
              · rw [hz58.1]
                rcases hokn.1 with w | w
                · refine Or.inl ⟨w, ?_⟩
                  rw [hst3, show 81 - (k + 1) = (81 - (k + 2)) + 1 by omega, fltF_s, if_pos w]
                · exact Or.inr ⟨w, w, rfl, hst3⟩
              · exact (fun f a q w => by rw [hz58.2.2.2.2 f a q w, hz47b.2.2 f a q (by omega) (by omega)]; exact hf f a q w)
  refine z_aload_n cx dX5_isScript_0 rfl ?_
  refine z_iconst cx dX5_isScript_1 ?_
  refine p_X5_8 cx fl_X5_101 dX5_isScript_2 ?_
  refine z_aload_n cx dX5_isScript_5 rfl ?_
  refine z_iconst cx dX5_isScript_6 ?_
  refine p_X5_10 cx fl_X5_104 dX5_isScript_7 ?_
  refine z_aload_n cx dX5_isScript_10 rfl ?_
  refine z_vv cx (c_X5_takesEntry (sc := sc) (i := 0) (hs.of (fun f a q w => by rw [gup_f _ _ _ _ _ _ _ (by omega), gup_f _ _ _ _ _ _ _ (by omega)])) hO (by rw [gup_s]) (by rw [gup_f _ _ _ _ _ _ _ (by decide), gup_s]; rfl) (Nat.zero_le _)) rfl mv_X5_takesEntry ml_X5_137 (by omega) (co_mod E _) rfl dX5_isScript_11 (fun G11 hz11 => ?_)
  refine Z.locs (L14 _ ((ent sc 0).2.1) (0) (0) _ _ (Nat.lt_succ_self _) hz11.2.1 rfl (by rw [hz11.1]; have q := (ent_ok hO (Nat.zero_le _)).1; omega) ⟨(ent_ok hO (Nat.zero_le _)).2.2.1, Nat.le_refl _, Nat.zero_le _⟩ ?_ (fun f a q w => by rw [hz11.2.2.2.2 f a q w, gup_f _ _ _ _ _ _ _ (by omega), gup_f _ _ _ _ _ _ _ (by omega)])) ⟨rfl, trivial⟩
  rw [hz11.1]
  rcases (ent_ok hO (Nat.zero_le sc.length)).1 with w | w
  · refine Or.inl ⟨w, ?_⟩
    show fltF sc (80 + 1) 0 = _
    rw [fltF_s, if_pos w]
  · exact Or.inr ⟨w, w, rfl, rfl⟩
set_option maxRecDepth 100000 in
set_option maxHeartbeats 4000000 in
theorem c_X5_fault {E : En} {G : Wd} {A : Ast} (hR : MRel G A) (hA : AOk A) : Cti E yX5_fault cX5_fault 1 .int 5 106 [.ref (E.1 6)] G (fun z G' => z = (s_fault A).1 ∧ MRel G' (s_fault A).2 ∧ CFx G G') := by
  have hsM : MSc G A.2.2.1 := ⟨hR.2.2.2.1, hR.2.2.2.2.1⟩
  have hfb := faultS_b hA.2.2.2.1
  refine Cti.mk [some (.ref (E.1 6))] (by decide) rfl (by intro v hv; simp only [List.mem_cons, List.not_mem_nil, or_false] at hv; subst hv; rfl) (Nat.le_of_ble_eq_true rfl) ?_
  intro p l e s m args below meth c cx
  refine z_aload_n cx dX5_fault_0 rfl ?_
  refine z_vi cx (c_X5_isScript hsM hA.2.2.2.1) rfl mv_X5_isScript ml_X5_140 (by omega) (co_mod E _) rfl dX5_fault_1 (fun z1 G1 hz1 => ?_)
  obtain ⟨hz1, hzf⟩ := hz1
  refine z_if_eq cx (tgt := 12) dX5_fault_4 (fun h4 => ?_) (fun h4 => ?_)
  · skip
    refine z_aload_n cx dX5_fault_12 rfl ?_
    refine g_X5_8 cx fl_X5_101 dX5_fault_13 ?_
    refine z_iret cx dX5_fault_16 ?_
    refine ⟨?_, hzf.rel hR, hzf.cfx⟩
    show _ = faultS A.2.2.1
    omega
  · skip
    refine z_bipush cx dX5_fault_7 ?_
    refine z_goto cx (tgt := 16) dX5_fault_9 ?_
    refine z_iret cx dX5_fault_16 ?_
    refine ⟨?_, hzf.rel hR, hzf.cfx⟩
    show _ = faultS A.2.2.1
    omega
