/-! ===== the model: the parser takes a text ===== -/
def TxR (sc : List Int) (tp : Nat) (G G' : Wd) : Prop := G' 29 0 0 = (txE sc tp tp : Int) ∧ ((G' 31 0 0 = 1 ∧ tp < txE sc tp tp ∧ sc.getD (txE sc tp tp - 1) 0 ≠ 32 ∧ G' 34 0 0 = (txE sc tp tp : Int) - tp) ∨ (G' 31 0 0 = 0 ∧ ¬ (tp < txE sc tp tp ∧ sc.getD (txE sc tp tp - 1) 0 ≠ 32))) ∧ ∀ f a i, f ≠ 29 → f ≠ 31 → f ≠ 34 → G' f a i = G f a i
set_option maxRecDepth 100000 in
set_option maxHeartbeats 4000000 in
theorem c_X5_takesText {E : En} {G : Wd} {sc : List Int} {tp : Nat} (hs : MSc G sc) (hO : ScOk sc) (hb : G 31 0 0 = 1) (hi : G 29 0 0 = (tp : Int)) (htp : 1 ≤ tp ∧ tp ≤ sc.length) : Ctv E yX5_takesText cX5_takesText 5 2 42 [.ref (E.1 6)] G (fun G' => TxR sc tp G G') := by
  have h80 := hO.1
  have hhb := hr_b hO tp
  refine Ctv.mk [some (.ref (E.1 6)), none, none, none, none] (by decide) rfl (by intro v hv; simp only [List.mem_cons, List.not_mem_nil, or_false] at hv; subst hv; rfl) (Nat.le_of_ble_eq_true rfl) ?_
  intro p l e s m args below meth c cx
  have L31 : ∀ (n : Nat) (j : Nat) (gn fm : Int) (G1 : Wd), (2 * (200 - j) + gn.toNat) < n → (G1 29 0 0 = (j : Int)) → (G1 31 0 0 = fm) → ((gn = 1 ∨ gn = 0) ∧ (fm = 1 ∨ fm = 0)) → (tp ≤ j ∧ j ≤ sc.length ∧ j ≤ tp + 40) → ((fm = 1 ∧ tp < j ∧ G1 34 0 0 = (j : Int) - tp ∧ gn = 1 ∧ txE sc tp tp = txE sc tp j) ∨ (fm = 1 ∧ tp < j ∧ G1 34 0 0 = (j : Int) - tp ∧ gn = 0 ∧ txE sc tp tp = j) ∨ (fm = 0 ∧ gn = 0 ∧ j = tp ∧ txE sc tp tp = tp)) → (∀ f a q, f ≠ 29 → f ≠ 31 → f ≠ 34 → G1 f a q = G f a q) → Z p l e (zr 2 42) s m args below meth c 5 0 0 E (Qv_ E below args s (fun G' => TxR sc tp G G')) G1 31 [some (.ref (E.1 6)), some (.int (iN (gn))), none, none, none] [] := by
    intro n
    induction n with
    | zero =>
      intro j gn fm G1 hmu
      exact absurd hmu (Nat.not_lt_zero _)
    | succ n ih31 =>
      intro j gn fm G1 hmu h29 h31 hgf hj hd hf
      have hs1 : MSc G1 sc := hs.of (fun f a q w => hf f a q (by omega) (by omega) (by omega))
      have hhj := hr_b hO j
      have e1 : G1 24 0 (j - 1) = sc.getD (j - 1) 0 := hs1.2 (j - 1) (by omega)
      have e1b := hO.2 (j - 1) (by omega)
      have L125 : ∀ (gg : Int), (gn = 1) → (gg = 1 ∨ gg = 0) → (gg = 1 → j < sc.length ∧ j < tp + 40) → ((gg = 1 ∧ j < sc.length ∧ mayF sc tp j) ∨ (gg = 0 ∧ ¬ (j < sc.length ∧ mayF sc tp j))) → Z p l e (zr 2 42) s m args below meth c 5 0 0 E (Qv_ E below args s (fun G' => TxR sc tp G G')) G1 125 [some (.ref (E.1 6)), some (.int (iN (gn))), none, none, none] [.int (iN (gg))] := by
        intro gg hgn hgg hgj hg
        obtain ⟨j2, hj2⟩ : ∃ j2 : Nat, (gg = 1 ∧ j2 = j + 1 ∧ j < sc.length ∧ j < tp + 40) ∨ (gg = 0 ∧ j2 = j) := by
          rcases hgg with w | w
          · exact ⟨j + 1, Or.inl ⟨w, rfl, hgj w⟩⟩
          · exact ⟨j, Or.inr ⟨w, rfl⟩⟩
        clear hgj
        refine z_istore_n cx dX5_takesText_125 ?_
        refine z_aload_n cx dX5_takesText_126 rfl ?_
        refine z_dup cx dX5_takesText_127 ?_
        refine g_X5_8 cx fl_X5_101 dX5_takesText_128 ?_
        refine z_iload_n cx dX5_takesText_131 rfl ?_
        refine z_if_eq cx (tgt := 139) dX5_takesText_132 (fun h132 => ?_) (fun h132 => ?_)
        · skip
          refine z_iconst cx dX5_takesText_139 ?_
          refine z_iadd cx dX5_takesText_140 ?_
          refine p_X5_8 cx fl_X5_101 dX5_takesText_141 ?_
          refine z_aload_n cx dX5_takesText_144 rfl ?_
          refine z_dup cx dX5_takesText_145 ?_
          refine g_X5_13 cx fl_X5_116 dX5_takesText_146 ?_
          refine z_iload_n cx dX5_takesText_149 rfl ?_
          refine z_if_eq cx (tgt := 157) dX5_takesText_150 (fun h150 => ?_) (fun h150 => ?_)
          · skip
            refine z_iconst cx dX5_takesText_157 ?_
            refine z_iadd cx dX5_takesText_158 ?_
            refine p_X5_13 cx fl_X5_116 dX5_takesText_159 ?_
            refine z_goto cx (tgt := 31) dX5_takesText_162 ?_
            refine Z.locs (ih31 (j2) _ (fm) _ (by omega) ?_ ?_ (by omega) (by omega) ?_ ?_) ⟨rfl, rfl, trivial⟩
            · rw [gup_f _ _ _ _ _ _ _ (by decide), gup_s]; omega
            · rw [gup_f _ _ _ _ _ _ _ (by decide), gup_f _ _ _ _ _ _ _ (by decide)]; exact h31
            · rcases hg with ⟨q1, q2, q3⟩ | ⟨q1, q2⟩
              · refine Or.inl ⟨by omega, by omega, ?_, q1, ?_⟩
                · rw [gup_s, gup_f _ _ _ _ _ _ _ (by decide)]; omega
                · rw [show txE sc tp tp = txE sc tp j by omega, txE_go h80 ⟨q2, q3⟩, show j2 = j + 1 by omega]
              · refine Or.inr (Or.inl ⟨by omega, by omega, ?_, q1, ?_⟩)
                · rw [gup_s, gup_f _ _ _ _ _ _ _ (by decide)]; omega
                · rw [show txE sc tp tp = txE sc tp j by omega, txE_stop q2]; omega
            · exact (fun f a q w1 w2 w3 => by rw [gup_f _ _ _ _ _ _ _ w3, gup_f _ _ _ _ _ _ _ w1]; exact hf f a q w1 w2 w3)
          · skip
            refine z_iconst cx dX5_takesText_153 ?_
            refine z_goto cx (tgt := 158) dX5_takesText_154 ?_
            refine z_iadd cx dX5_takesText_158 ?_
            refine p_X5_13 cx fl_X5_116 dX5_takesText_159 ?_
            refine z_goto cx (tgt := 31) dX5_takesText_162 ?_
            refine Z.locs (ih31 (j2) _ (fm) _ (by omega) ?_ ?_ (by omega) (by omega) ?_ ?_) ⟨rfl, rfl, trivial⟩
            · rw [gup_f _ _ _ _ _ _ _ (by decide), gup_s]; omega
            · rw [gup_f _ _ _ _ _ _ _ (by decide), gup_f _ _ _ _ _ _ _ (by decide)]; exact h31
            · rcases hg with ⟨q1, q2, q3⟩ | ⟨q1, q2⟩
              · refine Or.inl ⟨by omega, by omega, ?_, q1, ?_⟩
                · rw [gup_s, gup_f _ _ _ _ _ _ _ (by decide)]; omega
                · rw [show txE sc tp tp = txE sc tp j by omega, txE_go h80 ⟨q2, q3⟩, show j2 = j + 1 by omega]
              · refine Or.inr (Or.inl ⟨by omega, by omega, ?_, q1, ?_⟩)
                · rw [gup_s, gup_f _ _ _ _ _ _ _ (by decide)]; omega
                · rw [show txE sc tp tp = txE sc tp j by omega, txE_stop q2]; omega
            · exact (fun f a q w1 w2 w3 => by rw [gup_f _ _ _ _ _ _ _ w3, gup_f _ _ _ _ _ _ _ w1]; exact hf f a q w1 w2 w3)
        · skip
          refine z_iconst cx dX5_takesText_135 ?_
          refine z_goto cx (tgt := 140) dX5_takesText_136 ?_
          refine z_iadd cx dX5_takesText_140 ?_
          refine p_X5_8 cx fl_X5_101 dX5_takesText_141 ?_
          refine z_aload_n cx dX5_takesText_144 rfl ?_
          refine z_dup cx dX5_takesText_145 ?_
          refine g_X5_13 cx fl_X5_116 dX5_takesText_146 ?_
          refine z_iload_n cx dX5_takesText_149 rfl ?_
          refine z_if_eq cx (tgt := 157) dX5_takesText_150 (fun h150 => ?_) (fun h150 => ?_)
          · skip
            refine z_iconst cx dX5_takesText_157 ?_
            refine z_iadd cx dX5_takesText_158 ?_
            refine p_X5_13 cx fl_X5_116 dX5_takesText_159 ?_
            refine z_goto cx (tgt := 31) dX5_takesText_162 ?_
            refine Z.locs (ih31 (j2) _ (fm) _ (by omega) ?_ ?_ (by omega) (by omega) ?_ ?_) ⟨rfl, rfl, trivial⟩
            · rw [gup_f _ _ _ _ _ _ _ (by decide), gup_s]; omega
            · rw [gup_f _ _ _ _ _ _ _ (by decide), gup_f _ _ _ _ _ _ _ (by decide)]; exact h31
            · rcases hg with ⟨q1, q2, q3⟩ | ⟨q1, q2⟩
              · refine Or.inl ⟨by omega, by omega, ?_, q1, ?_⟩
                · rw [gup_s, gup_f _ _ _ _ _ _ _ (by decide)]; omega
                · rw [show txE sc tp tp = txE sc tp j by omega, txE_go h80 ⟨q2, q3⟩, show j2 = j + 1 by omega]
              · refine Or.inr (Or.inl ⟨by omega, by omega, ?_, q1, ?_⟩)
                · rw [gup_s, gup_f _ _ _ _ _ _ _ (by decide)]; omega
                · rw [show txE sc tp tp = txE sc tp j by omega, txE_stop q2]; omega
            · exact (fun f a q w1 w2 w3 => by rw [gup_f _ _ _ _ _ _ _ w3, gup_f _ _ _ _ _ _ _ w1]; exact hf f a q w1 w2 w3)
          · skip
            refine z_iconst cx dX5_takesText_153 ?_
            refine z_goto cx (tgt := 158) dX5_takesText_154 ?_
            refine z_iadd cx dX5_takesText_158 ?_
            refine p_X5_13 cx fl_X5_116 dX5_takesText_159 ?_
            refine z_goto cx (tgt := 31) dX5_takesText_162 ?_
            refine Z.locs (ih31 (j2) _ (fm) _ (by omega) ?_ ?_ (by omega) (by omega) ?_ ?_) ⟨rfl, rfl, trivial⟩
            · rw [gup_f _ _ _ _ _ _ _ (by decide), gup_s]; omega
            · rw [gup_f _ _ _ _ _ _ _ (by decide), gup_f _ _ _ _ _ _ _ (by decide)]; exact h31
            · rcases hg with ⟨q1, q2, q3⟩ | ⟨q1, q2⟩
              · refine Or.inl ⟨by omega, by omega, ?_, q1, ?_⟩
                · rw [gup_s, gup_f _ _ _ _ _ _ _ (by decide)]; omega
                · rw [show txE sc tp tp = txE sc tp j by omega, txE_go h80 ⟨q2, q3⟩, show j2 = j + 1 by omega]
              · refine Or.inr (Or.inl ⟨by omega, by omega, ?_, q1, ?_⟩)
                · rw [gup_s, gup_f _ _ _ _ _ _ _ (by decide)]; omega
                · rw [show txE sc tp tp = txE sc tp j by omega, txE_stop q2]; omega
            · exact (fun f a q w1 w2 w3 => by rw [gup_f _ _ _ _ _ _ _ w3, gup_f _ _ _ _ _ _ _ w1]; exact hf f a q w1 w2 w3)
      have L109 : ∀ (wb nx bl : Int), (gn = 1) → ((wb = 1 ∧ sc.getD (j - 1) 0 = 32) ∨ (wb = 0 ∧ sc.getD (j - 1) 0 ≠ 32)) → ((nx = 1 ∧ j < tp + 40 ∧ isLet (hr_ sc j)) ∨ (nx = 0 ∧ ¬ (j < tp + 40 ∧ isLet (hr_ sc j)))) → ((bl = 1 ∧ j < tp + 39 ∧ hr_ sc j = 32 ∧ wb = 0) ∨ (bl = 0 ∧ ¬ (j < tp + 39 ∧ hr_ sc j = 32 ∧ wb = 0))) → Z p l e (zr 2 42) s m args below meth c 5 0 0 E (Qv_ E below args s (fun G' => TxR sc tp G G')) G1 109 [some (.ref (E.1 6)), some (.int (iN (gn))), some (.int (iN (wb))), some (.int (iN (nx))), none] [.int (iN (bl))] := by
        intro wb nx bl hgn hwb hnx hbl
        have hxj : (j < sc.length ∧ hr_ sc j = sc.getD j 0) ∨ (¬ j < sc.length ∧ hr_ sc j = 0) := by
          by_cases w : j < sc.length
          · exact Or.inl ⟨w, hr_t w⟩
          · exact Or.inr ⟨w, if_neg w⟩
        refine z_istore cx dX5_takesText_109 ?_
        refine z_iload_n cx dX5_takesText_111 rfl ?_
        refine z_if_ne cx (tgt := 120) dX5_takesText_112 (fun h112 => ?_) (fun h112 => ?_)
        · skip
          refine z_iconst cx dX5_takesText_120 ?_
          refine z_goto cx (tgt := 125) dX5_takesText_121 ?_
          refine Z.locs (L125 _ hgn (by omega) (by omega) ?_) ⟨rfl, rfl, trivial⟩
          first
          | (exfalso; omega)
          | (have hx := hr_n (sc := sc) (i := j) (by omega)
             exact Or.inl ⟨rfl, hx.1, by omega⟩)
          | exact Or.inr ⟨rfl, fun w => by
              have hx := hr_t w.1
              omega⟩
        · skip
          refine z_iload cx dX5_takesText_115 rfl ?_
          refine z_if_eq cx (tgt := 124) dX5_takesText_117 (fun h117 => ?_) (fun h117 => ?_)
          · skip
            refine z_iconst cx dX5_takesText_124 ?_
            refine Z.locs (L125 _ hgn (by omega) (by omega) ?_) ⟨rfl, rfl, trivial⟩
            first
            | (exfalso; omega)
            | (have hx := hr_n (sc := sc) (i := j) (by omega)
               exact Or.inl ⟨rfl, hx.1, by omega⟩)
            | exact Or.inr ⟨rfl, fun w => by
                have hx := hr_t w.1
                omega⟩
          · skip
            refine z_iconst cx dX5_takesText_120 ?_
            refine z_goto cx (tgt := 125) dX5_takesText_121 ?_
            refine Z.locs (L125 _ hgn (by omega) (by omega) ?_) ⟨rfl, rfl, trivial⟩
            first
            | (exfalso; omega)
            | (have hx := hr_n (sc := sc) (i := j) (by omega)
               exact Or.inl ⟨rfl, hx.1, by omega⟩)
            | exact Or.inr ⟨rfl, fun w => by
                have hx := hr_t w.1
                omega⟩
      have L81 : ∀ (wb nx : Int), (gn = 1) → ((wb = 1 ∧ sc.getD (j - 1) 0 = 32) ∨ (wb = 0 ∧ sc.getD (j - 1) 0 ≠ 32)) → ((nx = 1 ∧ j < tp + 40 ∧ isLet (hr_ sc j)) ∨ (nx = 0 ∧ ¬ (j < tp + 40 ∧ isLet (hr_ sc j)))) → Z p l e (zr 2 42) s m args below meth c 5 0 0 E (Qv_ E below args s (fun G' => TxR sc tp G G')) G1 81 [some (.ref (E.1 6)), some (.int (iN (gn))), some (.int (iN (wb))), none, none] [.int (iN (nx))] := by
        intro wb nx hgn hwb hnx
        refine z_istore_n cx dX5_takesText_81 ?_
        refine z_aload_n cx dX5_takesText_82 rfl ?_
        refine g_X5_13 cx fl_X5_116 dX5_takesText_83 ?_
        refine z_bipush cx dX5_takesText_86 ?_
        refine z_icmp_ge cx (tgt := 108) dX5_takesText_88 (fun h88 => ?_) (fun h88 => ?_)
        · skip
          refine z_iconst cx dX5_takesText_108 ?_
          refine Z.locs (L109 (wb) (nx) _ hgn hwb hnx (by omega)) ⟨rfl, rfl, rfl, rfl, trivial⟩
        · skip
          refine z_aload_n cx dX5_takesText_91 rfl ?_
          refine z_vi cx (c_X5_here hs1 hO h29 (by omega)) rfl mv_X5_here ml_X5_108 (by omega) (co_mod E _) rfl dX5_takesText_92 (fun z92 G92 hz92 => ?_)
          obtain ⟨eG, rfl⟩ := hz92
          have eG := eG.symm
          subst eG
          refine z_bipush cx dX5_takesText_95 ?_
          refine z_icmp_ne cx (tgt := 108) dX5_takesText_97 (fun h97 => ?_) (fun h97 => ?_)
          · skip
            refine z_iconst cx dX5_takesText_108 ?_
            refine Z.locs (L109 (wb) (nx) _ hgn hwb hnx (by omega)) ⟨rfl, rfl, rfl, rfl, trivial⟩
          · skip
            refine z_iload_n cx dX5_takesText_100 rfl ?_
            refine z_if_ne cx (tgt := 108) dX5_takesText_101 (fun h101 => ?_) (fun h101 => ?_)
            · skip
              refine z_iconst cx dX5_takesText_108 ?_
              refine Z.locs (L109 (wb) (nx) _ hgn hwb hnx (by omega)) ⟨rfl, rfl, rfl, rfl, trivial⟩
            · skip
              refine z_iconst cx dX5_takesText_104 ?_
              refine z_goto cx (tgt := 109) dX5_takesText_105 ?_
              refine Z.locs (L109 (wb) (nx) _ hgn hwb hnx (by omega)) ⟨rfl, rfl, rfl, rfl, trivial⟩
      have L56 : ∀ (wb : Int), (gn = 1) → ((wb = 1 ∧ sc.getD (j - 1) 0 = 32) ∨ (wb = 0 ∧ sc.getD (j - 1) 0 ≠ 32)) → Z p l e (zr 2 42) s m args below meth c 5 0 0 E (Qv_ E below args s (fun G' => TxR sc tp G G')) G1 56 [some (.ref (E.1 6)), some (.int (iN (gn))), none, none, none] [.int (iN (wb))] := by
        intro wb hgn hwb
        refine z_istore_n cx dX5_takesText_56 ?_
        refine z_aload_n cx dX5_takesText_57 rfl ?_
        refine g_X5_13 cx fl_X5_116 dX5_takesText_58 ?_
        refine z_bipush cx dX5_takesText_61 ?_
        refine z_icmp_ge cx (tgt := 80) dX5_takesText_63 (fun h63 => ?_) (fun h63 => ?_)
        · skip
          refine z_iconst cx dX5_takesText_80 ?_
          refine Z.locs (L81 (wb) _ hgn hwb (by omega)) ⟨rfl, rfl, rfl, trivial⟩
        · skip
          refine z_aload_n cx dX5_takesText_66 rfl ?_
          refine z_vi cx (c_X5_here hs1 hO h29 (by omega)) rfl mv_X5_here ml_X5_108 (by omega) (co_mod E _) rfl dX5_takesText_67 (fun z67 G67 hz67 => ?_)
          obtain ⟨eG, rfl⟩ := hz67
          have eG := eG.symm
          subst eG
          refine z_si cx (c_X5_isLetter (by omega)) rfl ms_X5_isLetter ml_X5_119 dX5_takesText_70 (fun z70 G70 hz70 => ?_)
          obtain ⟨eG, hz70⟩ := hz70
          have eG := eG.symm
          subst eG
          refine z_if_eq cx (tgt := 80) dX5_takesText_73 (fun h73 => ?_) (fun h73 => ?_)
          · skip
            refine z_iconst cx dX5_takesText_80 ?_
            refine Z.locs (L81 (wb) _ hgn hwb (by omega)) ⟨rfl, rfl, rfl, trivial⟩
          · skip
            refine z_iconst cx dX5_takesText_76 ?_
            refine z_goto cx (tgt := 81) dX5_takesText_77 ?_
            refine Z.locs (L81 (wb) _ hgn hwb (by omega)) ⟨rfl, rfl, rfl, trivial⟩
      refine z_iload_n cx dX5_takesText_31 rfl ?_
      refine z_if_eq cx (tgt := 165) dX5_takesText_32 (fun h32 => ?_) (fun h32 => ?_)
      · skip
        refine z_aload_n cx dX5_takesText_165 rfl ?_
        refine z_aload_n cx dX5_takesText_166 rfl ?_
        refine g_X5_10 cx fl_X5_104 dX5_takesText_167 ?_
        refine z_if_eq cx (tgt := 193) dX5_takesText_170 (fun h170 => ?_) (fun h170 => ?_)
        · skip
          refine z_iconst cx dX5_takesText_193 ?_
          refine p_X5_10 cx fl_X5_104 dX5_takesText_194 ?_
          refine z_vret cx dX5_takesText_197 ?_
          have hfr : ∀ (v : Int) (f a q : Nat), f ≠ 29 → f ≠ 31 → f ≠ 34 → gup G1 31 0 0 v f a q = G f a q := fun v f a q w1 w2 w3 => by rw [gup_f _ _ _ _ _ _ _ w2]; exact hf f a q w1 w2 w3
          have he : txE sc tp tp = j := by omega
          unfold TxR
          rw [he]
          refine ⟨by rw [gup_f _ _ _ _ _ _ _ (by decide)]; exact h29, ?_, hfr _⟩
          first
          | exact Or.inl ⟨by rw [gup_s], by omega, by omega, by rw [gup_f _ _ _ _ _ _ _ (by decide)]; omega⟩
          | exact Or.inr ⟨by rw [gup_s], by omega⟩
        · skip
          refine z_aload_n cx dX5_takesText_173 rfl ?_
          refine g_X5_5 cx fl_X5_22 dX5_takesText_174 ?_
          refine z_aload_n cx dX5_takesText_177 rfl ?_
          refine g_X5_8 cx fl_X5_101 dX5_takesText_178 ?_
          refine z_iconst cx dX5_takesText_181 ?_
          refine z_isub cx dX5_takesText_182 ?_
          refine z_iald cx (j - 1) (by omega) (by omega) (co_mscr E _) dX5_takesText_183 ?_
          rw [e1]
          refine z_bipush cx dX5_takesText_184 ?_
          refine z_icmp_eq cx (tgt := 193) dX5_takesText_186 (fun h186 => ?_) (fun h186 => ?_)
          · skip
            refine z_iconst cx dX5_takesText_193 ?_
            refine p_X5_10 cx fl_X5_104 dX5_takesText_194 ?_
            refine z_vret cx dX5_takesText_197 ?_
            have hfr : ∀ (v : Int) (f a q : Nat), f ≠ 29 → f ≠ 31 → f ≠ 34 → gup G1 31 0 0 v f a q = G f a q := fun v f a q w1 w2 w3 => by rw [gup_f _ _ _ _ _ _ _ w2]; exact hf f a q w1 w2 w3
            have he : txE sc tp tp = j := by omega
            unfold TxR
            rw [he]
            refine ⟨by rw [gup_f _ _ _ _ _ _ _ (by decide)]; exact h29, ?_, hfr _⟩
            first
            | exact Or.inl ⟨by rw [gup_s], by omega, by omega, by rw [gup_f _ _ _ _ _ _ _ (by decide)]; omega⟩
            | exact Or.inr ⟨by rw [gup_s], by omega⟩
          · skip
            refine z_iconst cx dX5_takesText_189 ?_
            refine z_goto cx (tgt := 194) dX5_takesText_190 ?_
            refine p_X5_10 cx fl_X5_104 dX5_takesText_194 ?_
            refine z_vret cx dX5_takesText_197 ?_
            have hfr : ∀ (v : Int) (f a q : Nat), f ≠ 29 → f ≠ 31 → f ≠ 34 → gup G1 31 0 0 v f a q = G f a q := fun v f a q w1 w2 w3 => by rw [gup_f _ _ _ _ _ _ _ w2]; exact hf f a q w1 w2 w3
            have he : txE sc tp tp = j := by omega
            unfold TxR
            rw [he]
            refine ⟨by rw [gup_f _ _ _ _ _ _ _ (by decide)]; exact h29, ?_, hfr _⟩
            first
            | exact Or.inl ⟨by rw [gup_s], by omega, by omega, by rw [gup_f _ _ _ _ _ _ _ (by decide)]; omega⟩
            | exact Or.inr ⟨by rw [gup_s], by omega⟩
      · skip
        refine z_aload_n cx dX5_takesText_35 rfl ?_
        refine g_X5_5 cx fl_X5_22 dX5_takesText_36 ?_
        refine z_aload_n cx dX5_takesText_39 rfl ?_
        refine g_X5_8 cx fl_X5_101 dX5_takesText_40 ?_
        refine z_iconst cx dX5_takesText_43 ?_
        refine z_isub cx dX5_takesText_44 ?_
        refine z_iald cx (j - 1) (by omega) (by omega) (co_mscr E _) dX5_takesText_45 ?_
        rw [e1]
        refine z_bipush cx dX5_takesText_46 ?_
        refine z_icmp_ne cx (tgt := 55) dX5_takesText_48 (fun h48 => ?_) (fun h48 => ?_)
        · skip
          refine z_iconst cx dX5_takesText_55 ?_
          refine Z.locs (L56 _ (by omega) (by omega)) ⟨rfl, rfl, trivial⟩
        · skip
          refine z_iconst cx dX5_takesText_51 ?_
          refine z_goto cx (tgt := 56) dX5_takesText_52 ?_
          refine Z.locs (L56 _ (by omega) (by omega)) ⟨rfl, rfl, trivial⟩
  refine z_aload_n cx dX5_takesText_0 rfl ?_
  refine z_iconst cx dX5_takesText_1 ?_
  refine p_X5_13 cx fl_X5_116 dX5_takesText_2 ?_
  refine z_aload_n cx dX5_takesText_5 rfl ?_
  refine z_aload_n cx dX5_takesText_6 rfl ?_
  refine z_vi cx (c_X5_here (hs.of (fun f a q w => by rw [gup_f _ _ _ _ _ _ _ (by omega)])) hO (by rw [gup_f _ _ _ _ _ _ _ (by decide)]; exact hi) (by omega)) rfl mv_X5_here ml_X5_108 (by omega) (co_mod E _) rfl dX5_takesText_7 (fun z7 G7 hz7 => ?_)
  obtain ⟨eG, rfl⟩ := hz7
  have eG := eG.symm
  subst eG
  refine z_si cx (c_X5_isLetter (by omega)) rfl ms_X5_isLetter ml_X5_119 dX5_takesText_10 (fun z10 G10 hz10 => ?_)
  obtain ⟨eG, hz10⟩ := hz10
  have eG := eG.symm
  subst eG
  refine z_vv cx (c_X5_takes (b := 1) (i := tp) (by rw [gup_f _ _ _ _ _ _ _ (by decide)]; exact hb) (by omega) (by omega) (by rw [gup_f _ _ _ _ _ _ _ (by decide)]; exact hi) (by omega)) rfl mv_X5_takes ml_X5_112 (by omega) (co_mod E _) rfl dX5_takesText_13 (fun G13 hz13 => ?_)
  obtain ⟨fm0, j0, hz13, h13⟩ : ∃ (fm0 : Int) (j0 : Nat), PS (gup G 34 0 0 0) G13 fm0 j0 ∧ ((fm0 = 1 ∧ j0 = tp + 1 ∧ isLet (hr_ sc tp)) ∨ (fm0 = 0 ∧ j0 = tp ∧ ¬ isLet (hr_ sc tp))) := by
    rcases hz13 with ⟨-, q1, q2⟩ | ⟨q1, q2⟩
    · exact ⟨1, tp + 1, q2, Or.inl ⟨rfl, rfl, by omega⟩⟩
    · exact ⟨0, tp, q2, Or.inr ⟨rfl, rfl, by omega⟩⟩
  have hx0 : (tp < sc.length ∧ hr_ sc tp = sc.getD tp 0) ∨ (¬ tp < sc.length ∧ hr_ sc tp = 0) := by
    by_cases w : tp < sc.length
    · exact Or.inl ⟨w, hr_t w⟩
    · exact Or.inr ⟨w, if_neg w⟩
  have h131 := hz13.1
  refine z_aload_n cx dX5_takesText_16 rfl ?_
  refine z_dup cx dX5_takesText_17 ?_
  refine g_X5_13 cx fl_X5_116 dX5_takesText_18 ?_
  refine z_iconst cx dX5_takesText_21 ?_
  refine z_iadd cx dX5_takesText_22 ?_
  refine p_X5_13 cx fl_X5_116 dX5_takesText_23 ?_
  refine z_aload_n cx dX5_takesText_26 rfl ?_
  refine g_X5_10 cx fl_X5_104 dX5_takesText_27 ?_
  skip
  refine z_istore_n cx dX5_takesText_30 ?_
  refine Z.locs (L31 _ (j0) _ (fm0) _ (Nat.lt_succ_self _) ?_ ?_ (by rw [gup_f _ _ _ _ _ _ _ (by decide), hz13.1]; omega) (by omega) ?_ ?_) ⟨rfl, rfl, trivial⟩
  · rw [gup_f _ _ _ _ _ _ _ (by decide)]; exact hz13.2.1
  · rw [gup_f _ _ _ _ _ _ _ (by decide)]; exact hz13.1
  · rcases h13 with ⟨q1, q2, q3⟩ | ⟨q1, q2, q3⟩
    · have hx := hr_n (sc := sc) (i := tp) (by omega)
      refine Or.inl ⟨q1, by omega, ?_, ?_, ?_⟩
      · rw [gup_s, hz13.2.2 34 0 0 (by decide) (by decide), gup_s]; omega
      · rw [gup_f _ _ _ _ _ _ _ (by decide), hz13.1]; exact q1
      · rw [txE_go h80 ⟨hx.1, Or.inr ⟨by omega, by omega, by rw [← hx.2]; exact q3⟩⟩, q2]
    · refine Or.inr (Or.inr ⟨q1, ?_, q2, txE_stop ?_⟩)
      · rw [gup_f _ _ _ _ _ _ _ (by decide), hz13.1]; exact q1
      · rintro ⟨w1, w2 | w2⟩
        · omega
        · rw [hr_t w1] at q3
          exact q3 w2.2.2
  · exact (fun f a q w1 w2 w3 => by rw [gup_f _ _ _ _ _ _ _ w3, hz13.2.2 f a q w1 w2, gup_f _ _ _ _ _ _ _ w3])
