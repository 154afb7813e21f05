/-! ===== moves ===== -/
def MvI (A : Ast) (u no st en ln nx : Int) : Prop := ((0 ≤ u ∧ u ≤ (A.1.2.2.length : Int)) ∧ (0 ≤ st ∧ st ≤ 5000) ∧ (0 ≤ en ∧ en ≤ 5000) ∧ (0 ≤ ln ∧ ln ≤ 40) ∧ (0 ≤ nx ∧ nx ≤ 5000)) ∧ ((no = 1 ∧ u = (A.1.2.2.length : Int) ∧ ln = 0) ∨ (no = 0 ∧ u < (A.1.2.2.length : Int) ∧ st = (sb A u).1 ∧ en = (sb A u).2.1 ∧ ln = ((sb A u).2.2.length : Int))) ∧ nx = nX A u
set_option maxRecDepth 100000 in
set_option maxHeartbeats 4000000 in
theorem c_L_moves {E : En} {G : Wd} {A : Ast} (hC : CRel G A) (hA : AOk A) {hw y : Int} (hhw : 0 ≤ hw ∧ hw ≤ 4) : Cti E yL_moves cL_moves 14 .boolean 6 137 [.ref (E.1 0), .int (iN hw), .int (iN y)] G (fun z G' => z = 1 ∧ ∃ B, CRel G' B ∧ AOk B ∧ Nx A B) := by
  obtain ⟨hv0, hv1, hv2, hv3, hv4, hv5a, hv5b⟩ := id hA.1.1
  have hcl := hA.1.2.1.1
  have hsl := hA.1.2.2.1
  refine Cti.mk [some (.ref (E.1 0)), some (.int (iN hw)), some (.int (iN y)), none, none, none, none, none, none, none, none, none, none, none] (by decide) rfl (by intro v hv; simp only [List.mem_cons, List.not_mem_nil, or_false] at hv; rcases hv with rfl | rfl | rfl <;> rfl) (Nat.le_of_ble_eq_true rfl) ?_
  intro p l e s m args below meth c cx
  have L834 : ∀ (u no st en ln nx ot tx told w : Int) (B : Ast) (G1 : Wd), (MvI A u no st en ln nx) → (w = told) → (-10 ≤ told ∧ told ≤ 5000) → (AOk B) → (Nx A B) → ((told < 0 ∧ B.1.2.2.length = A.1.2.2.length) ∨ (0 ≤ told ∧ JoB A B u told)) → (((u + 1 < (A.1.2.2.length : Int) ∧ ot = ((sb A (u + 1)).2.2.length : Int) ∧ tx = (sb A (u + 1)).2.1) ∨ ((A.1.2.2.length : Int) ≤ u + 1 ∧ ot = 0 ∧ tx = 0)) ∧ (0 ≤ ot ∧ ot ≤ 40) ∧ 0 ≤ tx ∧ tx ≤ 5000) → (CRel G1 B) → Z p l e (zr 6 137) s m args below meth c 14 0 0 E (Qi_ E below args s (fun z G' => z = 1 ∧ ∃ B, CRel G' B ∧ AOk B ∧ Nx A B)) G1 834 [some (.ref (E.1 0)), some (.int (iN hw)), some (.int (iN y)), some (.int (iN (A.1.2.2.length : Int))), some (.int (iN u)), some (.int (iN no)), some (.int (iN st)), some (.int (iN en)), some (.int (iN ln)), some (.int (iN nx)), some (.int (iN ot)), some (.int (iN tx)), some (.int (iN told)), none] [.int (iN w), .int (iN told)] := by
    intro u no st en ln nx ot tx told w B G1 hM hw2 hlo hB hN hJo hot hC
    obtain ⟨⟨hu, hst, hen, hln, hnx⟩, hno, hnxe⟩ := id hM
    refine z_icmp_ne cx (tgt := 916) dL_moves_834 (fun h834 => ?_) (fun h834 => ?_)
    · skip
      exfalso; omega
    · skip
      refine z_iload cx dL_moves_837 rfl ?_
      refine z_if_ge cx (tgt := 853) dL_moves_839 (fun h839 => ?_) (fun h839 => ?_)
      · skip
        have hJo2 : JoB A B u told := by
          rcases hJo with w | w
          · omega
          · exact w.2
        obtain ⟨k0, k1, k2, k3, k4, k5, k6⟩ := hJo2
        obtain ⟨-, -, e1, e2, e3⟩ := hno.resolve_left (by omega)
        subst e1
        subst e2
        subst e3
        have hSB := sb_ok hB (x := u) (by omega)
        obtain ⟨hB0, hB1, hB2, hB3⟩ := hSB
        have hB4 := hB3.2.1
        refine z_aload_n cx dL_moves_853 rfl ?_
        refine z_vi cx (c_X4_subtitles hC hB) rfl mv_X4_subtitles ml_L_26 (by omega) (co_main E _) rfl dL_moves_854 (fun z854 G854 hz854 => ?_)
        obtain ⟨hq, hC, -⟩ := hz854
        subst hq
        refine z_iload_n cx dL_moves_857 rfl ?_
        refine z_iconst cx dL_moves_858 ?_
        refine z_isub cx dL_moves_859 ?_
        refine z_icmp_ne cx (tgt := 916) dL_moves_860 (fun h860 => ?_) (fun h860 => ?_)
        · skip
          exfalso; omega
        · skip
          refine z_aload_n cx dL_moves_863 rfl ?_
          refine z_iload cx dL_moves_864 rfl ?_
          refine z_iconst cx dL_moves_866 ?_
          refine z_vi cx (c_X4_subtitle hC hB (by omega) (by omega)) rfl mv_X4_subtitle ml_L_29 (by omega) (co_main E _) rfl dL_moves_867 (fun z867 G867 hz867 => ?_)
          obtain ⟨hq, hC, -⟩ := hz867
          have hq := hq.trans (rs_1 (A := B) (by omega))
          subst hq
          refine z_iload cx dL_moves_870 rfl ?_
          refine z_icmp_ne cx (tgt := 916) dL_moves_872 (fun h872 => ?_) (fun h872 => ?_)
          · skip
            exfalso; omega
          · skip
            refine z_aload_n cx dL_moves_875 rfl ?_
            refine z_iload cx dL_moves_876 rfl ?_
            refine z_iconst cx dL_moves_878 ?_
            refine z_vi cx (c_X4_subtitle hC hB (by omega) (by omega)) rfl mv_X4_subtitle ml_L_29 (by omega) (co_main E _) rfl dL_moves_879 (fun z879 G879 hz879 => ?_)
            obtain ⟨hq, hC, -⟩ := hz879
            have hq := hq.trans (rs_0 (A := B) (by omega))
            subst hq
            refine z_iload cx dL_moves_882 rfl ?_
            refine z_icmp_ne cx (tgt := 916) dL_moves_884 (fun h884 => ?_) (fun h884 => ?_)
            · skip
              exfalso; omega
            · skip
              refine z_aload_n cx dL_moves_887 rfl ?_
              refine z_iload cx dL_moves_888 rfl ?_
              refine z_iload cx dL_moves_890 rfl ?_
              refine z_vi cx (c_X4_character hC hB (by omega) (by omega)) rfl mv_X4_character ml_L_33 (by omega) (co_main E _) rfl dL_moves_892 (fun z892 G892 hz892 => ?_)
              obtain ⟨hq, hC, -⟩ := hz892
              have hq := hq.trans (rc_nat (A := B) (by omega) (by omega))
              subst hq
              refine z_bipush cx dL_moves_895 ?_
              refine z_icmp_ne cx (tgt := 916) dL_moves_897 (fun h897 => ?_) (fun h897 => ?_)
              · skip
                exfalso; omega
              · skip
                refine z_aload_n cx dL_moves_900 rfl ?_
                refine z_iload cx dL_moves_901 rfl ?_
                refine z_iconst cx dL_moves_903 ?_
                refine z_vi cx (c_X4_subtitle hC hB (by omega) (by omega)) rfl mv_X4_subtitle ml_L_29 (by omega) (co_main E _) rfl dL_moves_904 (fun z904 G904 hz904 => ?_)
                obtain ⟨hq, hC, -⟩ := hz904
                have hq := hq.trans (rs_2 (A := B) (by omega))
                subst hq
                refine z_iload cx dL_moves_907 rfl ?_
                refine z_icmp_ne cx (tgt := 916) dL_moves_909 (fun h909 => ?_) (fun h909 => ?_)
                · skip
                  exfalso; omega
                · skip
                  refine z_iconst cx dL_moves_912 ?_
                  refine z_goto cx (tgt := 917) dL_moves_913 ?_
                  refine z_zret cx dL_moves_917 ?_
                  exact ⟨by omega, _, hC, hB, hN⟩
      · skip
        refine z_aload_n cx dL_moves_842 rfl ?_
        refine z_vi cx (c_X4_subtitles hC hB) rfl mv_X4_subtitles ml_L_26 (by omega) (co_main E _) rfl dL_moves_843 (fun z843 G843 hz843 => ?_)
        obtain ⟨hq, hC, -⟩ := hz843
        subst hq
        refine z_iload_n cx dL_moves_846 rfl ?_
        refine z_icmp_ne cx (tgt := 916) dL_moves_847 (fun h847 => ?_) (fun h847 => ?_)
        · skip
          exfalso; omega
        · skip
          refine z_goto cx (tgt := 912) dL_moves_850 ?_
          refine z_iconst cx dL_moves_912 ?_
          refine z_goto cx (tgt := 917) dL_moves_913 ?_
          refine z_zret cx dL_moves_917 ?_
          exact ⟨by omega, _, hC, hB, hN⟩
  have L788 : ∀ (u no st en ln nx ot tx : Int) (G1 : Wd), (MvI A u no st en ln nx) → (((u + 1 < (A.1.2.2.length : Int) ∧ ot = ((sb A (u + 1)).2.2.length : Int) ∧ tx = (sb A (u + 1)).2.1) ∨ ((A.1.2.2.length : Int) ≤ u + 1 ∧ ot = 0 ∧ tx = 0)) ∧ (0 ≤ ot ∧ ot ≤ 40) ∧ 0 ≤ tx ∧ tx ≤ 5000) → (CRel G1 A) → Z p l e (zr 6 137) s m args below meth c 14 0 0 E (Qi_ E below args s (fun z G' => z = 1 ∧ ∃ B, CRel G' B ∧ AOk B ∧ Nx A B)) G1 788 [some (.ref (E.1 0)), some (.int (iN hw)), some (.int (iN y)), some (.int (iN (A.1.2.2.length : Int))), some (.int (iN u)), some (.int (iN no)), some (.int (iN st)), some (.int (iN en)), some (.int (iN ln)), some (.int (iN nx)), some (.int (iN ot)), some (.int (iN tx)), none, none] [] := by
    intro u no st en ln nx ot tx G1 hM hot hC
    obtain ⟨⟨hu, hst, hen, hln, hnx⟩, hno, hnxe⟩ := id hM
    refine z_aload_n cx dL_moves_788 rfl ?_
    refine z_iload cx dL_moves_789 rfl ?_
    refine z_vi cx (c_X4_join hC hA (by omega)) rfl mv_X4_join ml_L_112 (by omega) (co_main E _) rfl dL_moves_791 (fun z791 G791 hz791 => ?_)
    obtain ⟨hq, hC, -⟩ := hz791
    obtain ⟨B, told, hs0, hB, hN, hJo, hP⟩ := jo_post hA hu
    rw [hs0] at hq hC
    dsimp only at hq hC
    subst hq
    refine z_istore cx dL_moves_794 ?_
    refine z_iload cx dL_moves_796 rfl ?_
    refine z_iload cx dL_moves_798 rfl ?_
    refine z_iconst cx dL_moves_800 ?_
    refine z_iadd cx dL_moves_801 ?_
    refine z_iload_n cx dL_moves_802 rfl ?_
    refine z_icmp_lt cx (tgt := 810) dL_moves_803 (fun h803 => ?_) (fun h803 => ?_)
    · skip
      refine z_iload cx dL_moves_810 rfl ?_
      refine z_iconst cx dL_moves_812 ?_
      refine z_iadd cx dL_moves_813 ?_
      refine z_iload cx dL_moves_814 rfl ?_
      refine z_iadd cx dL_moves_816 ?_
      refine z_bipush cx dL_moves_817 ?_
      refine z_icmp_le cx (tgt := 827) dL_moves_819 (fun h819 => ?_) (fun h819 => ?_)
      · skip
        refine z_iload cx dL_moves_827 rfl ?_
        refine z_iconst cx dL_moves_829 ?_
        refine z_iadd cx dL_moves_830 ?_
        refine z_iload cx dL_moves_831 rfl ?_
        refine z_iadd cx dL_moves_833 ?_
        refine Z.locs (L834 _ _ _ _ _ _ _ _ _ _ _ _ hM (by omega) (by omega) hB hN hJo hot hC) ⟨rfl, rfl, rfl, rfl, rfl, rfl, rfl, rfl, rfl, rfl, rfl, rfl, rfl, trivial⟩
      · skip
        refine z_bipush cx dL_moves_822 ?_
        refine z_goto cx (tgt := 834) dL_moves_824 ?_
        refine Z.locs (L834 _ _ _ _ _ _ _ _ _ _ _ _ hM (by omega) (by omega) hB hN hJo hot hC) ⟨rfl, rfl, rfl, rfl, rfl, rfl, rfl, rfl, rfl, rfl, rfl, rfl, rfl, trivial⟩
    · skip
      refine z_iconst cx dL_moves_806 ?_
      refine z_goto cx (tgt := 834) dL_moves_807 ?_
      refine Z.locs (L834 _ _ _ _ _ _ _ _ _ _ _ _ hM (by omega) (by omega) hB hN hJo hot hC) ⟨rfl, rfl, rfl, rfl, rfl, rfl, rfl, rfl, rfl, rfl, rfl, rfl, rfl, trivial⟩
  have L593 : ∀ (u no st en ln nx bk told w : Int) (B : Ast) (G1 : Wd), (MvI A u no st en ln nx) → (w = told) → (-10 ≤ told ∧ told ≤ 5000) → (AOk B) → (Nx A B) → ((told < 0 ∧ B.1.2.2.length = A.1.2.2.length) ∨ (0 ≤ told ∧ SpB A B u told)) → (0 ≤ told → told = bk) → (((no = 1 ∧ bk = -6) ∨ (no = 0 ∧ bk = bBl (sb A u).2.2)) ∧ -6 ≤ bk ∧ bk ≤ 40) → (CRel G1 B) → Z p l e (zr 6 137) s m args below meth c 14 0 0 E (Qi_ E below args s (fun z G' => z = 1 ∧ ∃ B, CRel G' B ∧ AOk B ∧ Nx A B)) G1 593 [some (.ref (E.1 0)), some (.int (iN hw)), some (.int (iN y)), some (.int (iN (A.1.2.2.length : Int))), some (.int (iN u)), some (.int (iN no)), some (.int (iN st)), some (.int (iN en)), some (.int (iN ln)), some (.int (iN nx)), some (.int (iN bk)), some (.int (iN (A.1.1 1))), some (.int (iN told)), none] [.int (iN w), .int (iN told)] := by
    intro u no st en ln nx bk told w B G1 hM hw2 hlo hB hN hSp htb hbk hC
    obtain ⟨⟨hu, hst, hen, hln, hnx⟩, hno, hnxe⟩ := id hM
    refine z_icmp_ne cx (tgt := 735) dL_moves_593 (fun h593 => ?_) (fun h593 => ?_)
    · skip
      exfalso; omega
    · skip
      refine z_iload cx dL_moves_596 rfl ?_
      refine z_if_ge cx (tgt := 612) dL_moves_598 (fun h598 => ?_) (fun h598 => ?_)
      · skip
        have hSp2 : SpB A B u told := by
          rcases hSp with w | w
          · omega
          · exact w.2
        obtain ⟨k0, k1, k2, k3, k4, k5, k6, k7, k8, k9⟩ := hSp2
        obtain ⟨-, -, e1, e2, e3⟩ := hno.resolve_left (by omega)
        have hbt := htb (by omega)
        subst e1
        subst e2
        subst e3
        subst hbt
        have hSB := sb_ok hB (x := u) (by omega)
        obtain ⟨hB0, hB1, hB2, hB3⟩ := hSB
        have hB4 := hB3.2.1
        obtain ⟨hC0, hC1, hC2, hC3⟩ := sb_ok hB (x := u + 1) (by omega)
        have hC4 := hC3.2.1
        refine z_aload_n cx dL_moves_612 rfl ?_
        refine z_vi cx (c_X4_subtitles hC hB) rfl mv_X4_subtitles ml_L_26 (by omega) (co_main E _) rfl dL_moves_613 (fun z613 G613 hz613 => ?_)
        obtain ⟨hq, hC, -⟩ := hz613
        subst hq
        refine z_iload_n cx dL_moves_616 rfl ?_
        refine z_iconst cx dL_moves_617 ?_
        refine z_iadd cx dL_moves_618 ?_
        refine z_icmp_ne cx (tgt := 735) dL_moves_619 (fun h619 => ?_) (fun h619 => ?_)
        · skip
          exfalso; omega
        · skip
          refine z_aload_n cx dL_moves_622 rfl ?_
          refine z_iload cx dL_moves_623 rfl ?_
          refine z_iconst cx dL_moves_625 ?_
          refine z_vi cx (c_X4_subtitle hC hB (by omega) (by omega)) rfl mv_X4_subtitle ml_L_29 (by omega) (co_main E _) rfl dL_moves_626 (fun z626 G626 hz626 => ?_)
          obtain ⟨hq, hC, -⟩ := hz626
          have hq := hq.trans (rs_0 (A := B) (by omega))
          subst hq
          refine z_iload cx dL_moves_629 rfl ?_
          refine z_icmp_ne cx (tgt := 735) dL_moves_631 (fun h631 => ?_) (fun h631 => ?_)
          · skip
            exfalso; omega
          · skip
            refine z_aload_n cx dL_moves_634 rfl ?_
            refine z_iload cx dL_moves_635 rfl ?_
            refine z_iconst cx dL_moves_637 ?_
            refine z_iadd cx dL_moves_638 ?_
            refine z_iconst cx dL_moves_639 ?_
            refine z_vi cx (c_X4_subtitle hC hB (by omega) (by omega)) rfl mv_X4_subtitle ml_L_29 (by omega) (co_main E _) rfl dL_moves_640 (fun z640 G640 hz640 => ?_)
            obtain ⟨hq, hC, -⟩ := hz640
            have hq := hq.trans (rs_1 (A := B) (by omega))
            subst hq
            refine z_iload cx dL_moves_643 rfl ?_
            refine z_icmp_ne cx (tgt := 735) dL_moves_645 (fun h645 => ?_) (fun h645 => ?_)
            · skip
              exfalso; omega
            · skip
              refine z_aload_n cx dL_moves_648 rfl ?_
              refine z_iload cx dL_moves_649 rfl ?_
              refine z_iconst cx dL_moves_651 ?_
              refine z_iadd cx dL_moves_652 ?_
              refine z_iconst cx dL_moves_653 ?_
              refine z_vi cx (c_X4_subtitle hC hB (by omega) (by omega)) rfl mv_X4_subtitle ml_L_29 (by omega) (co_main E _) rfl dL_moves_654 (fun z654 G654 hz654 => ?_)
              obtain ⟨hq, hC, -⟩ := hz654
              have hq := hq.trans (rs_0 (A := B) (by omega))
              subst hq
              refine z_aload_n cx dL_moves_657 rfl ?_
              refine z_iload cx dL_moves_658 rfl ?_
              refine z_iconst cx dL_moves_660 ?_
              refine z_vi cx (c_X4_subtitle hC hB (by omega) (by omega)) rfl mv_X4_subtitle ml_L_29 (by omega) (co_main E _) rfl dL_moves_661 (fun z661 G661 hz661 => ?_)
              obtain ⟨hq, hC, -⟩ := hz661
              have hq := hq.trans (rs_1 (A := B) (by omega))
              subst hq
              refine z_iload cx dL_moves_664 rfl ?_
              refine z_iadd cx dL_moves_666 ?_
              refine z_icmp_ne cx (tgt := 735) dL_moves_667 (fun h667 => ?_) (fun h667 => ?_)
              · skip
                exfalso; omega
              · skip
                refine z_aload_n cx dL_moves_670 rfl ?_
                refine z_iload cx dL_moves_671 rfl ?_
                refine z_iconst cx dL_moves_673 ?_
                refine z_vi cx (c_X4_subtitle hC hB (by omega) (by omega)) rfl mv_X4_subtitle ml_L_29 (by omega) (co_main E _) rfl dL_moves_674 (fun z674 G674 hz674 => ?_)
                obtain ⟨hq, hC, -⟩ := hz674
                have hq := hq.trans (rs_1 (A := B) (by omega))
                subst hq
                refine z_iload cx dL_moves_677 rfl ?_
                refine z_iload cx dL_moves_679 rfl ?_
                refine z_iload cx dL_moves_681 rfl ?_
                refine z_isub cx dL_moves_683 ?_
                refine z_iload cx dL_moves_684 rfl ?_
                refine z_isub cx dL_moves_686 ?_
                refine z_iload cx dL_moves_687 rfl ?_
                refine z_iload cx dL_moves_689 rfl ?_
                refine z_iconst cx dL_moves_691 ?_
                refine z_isub cx dL_moves_692 ?_
                refine z_si cx (c_L_own (by omega) (by omega) (by omega)) rfl ms_L_own ml_L_108 dL_moves_693 (fun z693 G693 hz693 => ?_)
                obtain ⟨hq, hG⟩ := hz693
                subst hG
                subst hq
                refine z_iadd cx dL_moves_696 ?_
                refine z_icmp_ne cx (tgt := 735) dL_moves_697 (fun h697 => ?_) (fun h697 => ?_)
                · skip
                  exfalso; omega
                · skip
                  refine z_aload_n cx dL_moves_700 rfl ?_
                  refine z_iload cx dL_moves_701 rfl ?_
                  refine z_iconst cx dL_moves_703 ?_
                  refine z_vi cx (c_X4_subtitle hC hB (by omega) (by omega)) rfl mv_X4_subtitle ml_L_29 (by omega) (co_main E _) rfl dL_moves_704 (fun z704 G704 hz704 => ?_)
                  obtain ⟨hq, hC, -⟩ := hz704
                  have hq := hq.trans (rs_2 (A := B) (by omega))
                  subst hq
                  refine z_iload cx dL_moves_707 rfl ?_
                  refine z_icmp_ne cx (tgt := 735) dL_moves_709 (fun h709 => ?_) (fun h709 => ?_)
                  · skip
                    exfalso; omega
                  · skip
                    refine z_aload_n cx dL_moves_712 rfl ?_
                    refine z_iload cx dL_moves_713 rfl ?_
                    refine z_iconst cx dL_moves_715 ?_
                    refine z_iadd cx dL_moves_716 ?_
                    refine z_iconst cx dL_moves_717 ?_
                    refine z_vi cx (c_X4_subtitle hC hB (by omega) (by omega)) rfl mv_X4_subtitle ml_L_29 (by omega) (co_main E _) rfl dL_moves_718 (fun z718 G718 hz718 => ?_)
                    obtain ⟨hq, hC, -⟩ := hz718
                    have hq := hq.trans (rs_2 (A := B) (by omega))
                    subst hq
                    refine z_iload cx dL_moves_721 rfl ?_
                    refine z_iconst cx dL_moves_723 ?_
                    refine z_isub cx dL_moves_724 ?_
                    refine z_iload cx dL_moves_725 rfl ?_
                    refine z_isub cx dL_moves_727 ?_
                    refine z_icmp_ne cx (tgt := 735) dL_moves_728 (fun h728 => ?_) (fun h728 => ?_)
                    · skip
                      exfalso; omega
                    · skip
                      refine z_iconst cx dL_moves_731 ?_
                      refine z_goto cx (tgt := 736) dL_moves_732 ?_
                      refine z_zret cx dL_moves_736 ?_
                      exact ⟨by omega, _, hC, hB, hN⟩
      · skip
        refine z_aload_n cx dL_moves_601 rfl ?_
        refine z_vi cx (c_X4_subtitles hC hB) rfl mv_X4_subtitles ml_L_26 (by omega) (co_main E _) rfl dL_moves_602 (fun z602 G602 hz602 => ?_)
        obtain ⟨hq, hC, -⟩ := hz602
        subst hq
        refine z_iload_n cx dL_moves_605 rfl ?_
        refine z_icmp_ne cx (tgt := 735) dL_moves_606 (fun h606 => ?_) (fun h606 => ?_)
        · skip
          exfalso; omega
        · skip
          refine z_goto cx (tgt := 731) dL_moves_609 ?_
          refine z_iconst cx dL_moves_731 ?_
          refine z_goto cx (tgt := 736) dL_moves_732 ?_
          refine z_zret cx dL_moves_736 ?_
          exact ⟨by omega, _, hC, hB, hN⟩
  have L528 : ∀ (u no st en ln nx bk : Int) (G1 : Wd), (MvI A u no st en ln nx) → (((no = 1 ∧ bk = -6) ∨ (no = 0 ∧ bk = bBl (sb A u).2.2)) ∧ -6 ≤ bk ∧ bk ≤ 40) → (CRel G1 A) → Z p l e (zr 6 137) s m args below meth c 14 0 0 E (Qi_ E below args s (fun z G' => z = 1 ∧ ∃ B, CRel G' B ∧ AOk B ∧ Nx A B)) G1 528 [some (.ref (E.1 0)), some (.int (iN hw)), some (.int (iN y)), some (.int (iN (A.1.2.2.length : Int))), some (.int (iN u)), some (.int (iN no)), some (.int (iN st)), some (.int (iN en)), some (.int (iN ln)), some (.int (iN nx)), none, none, none, none] [.int (iN bk)] := by
    intro u no st en ln nx bk G1 hM hbk hC
    obtain ⟨⟨hu, hst, hen, hln, hnx⟩, hno, hnxe⟩ := id hM
    refine z_istore cx dL_moves_528 ?_
    refine z_aload_n cx dL_moves_530 rfl ?_
    refine z_iconst cx dL_moves_531 ?_
    refine z_vi cx (c_X4_setting hC hA (by omega)) rfl mv_X4_setting ml_L_13 (by omega) (co_main E _) rfl dL_moves_532 (fun z532 G532 hz532 => ?_)
    obtain ⟨hq, hC, -⟩ := hz532
    have hq := hq.trans (rv_in 1 rfl (by omega))
    subst hq
    refine z_istore cx dL_moves_535 ?_
    refine z_aload_n cx dL_moves_537 rfl ?_
    refine z_iload cx dL_moves_538 rfl ?_
    refine z_vi cx (c_X4_split hC hA (by omega)) rfl mv_X4_split ml_L_105 (by omega) (co_main E _) rfl dL_moves_540 (fun z540 G540 hz540 => ?_)
    obtain ⟨hq, hC, -⟩ := hz540
    obtain ⟨B, told, hs0, hB, hN, hSp, hP⟩ := sp_post hA hu
    rw [hs0] at hq hC
    dsimp only at hq hC
    subst hq
    have htold9 : z540 ≤ 40 := by omega
    refine z_istore cx dL_moves_543 ?_
    refine z_iload cx dL_moves_545 rfl ?_
    refine z_iload cx dL_moves_547 rfl ?_
    refine z_if_eq cx (tgt := 556) dL_moves_549 (fun h549 => ?_) (fun h549 => ?_)
    · skip
      refine z_iload cx dL_moves_556 rfl ?_
      refine z_bipush cx dL_moves_558 ?_
      refine z_icmp_eq cx (tgt := 575) dL_moves_560 (fun h560 => ?_) (fun h560 => ?_)
      · skip
        refine z_bipush cx dL_moves_575 ?_
        refine z_goto cx (tgt := 593) dL_moves_577 ?_
        refine Z.locs (L593 _ _ _ _ _ _ _ _ _ _ _ hM (by omega) (by omega) hB hN hSp (by omega) hbk hC) ⟨rfl, rfl, rfl, rfl, rfl, rfl, rfl, rfl, rfl, rfl, rfl, rfl, rfl, trivial⟩
      · skip
        refine z_iload cx dL_moves_563 rfl ?_
        refine z_iload cx dL_moves_565 rfl ?_
        refine z_isub cx dL_moves_567 ?_
        refine z_iload cx dL_moves_568 rfl ?_
        refine z_iconst cx dL_moves_570 ?_
        refine z_iadd cx dL_moves_571 ?_
        refine z_icmp_ge cx (tgt := 580) dL_moves_572 (fun h572 => ?_) (fun h572 => ?_)
        · skip
          refine z_iload_n cx dL_moves_580 rfl ?_
          refine z_bipush cx dL_moves_581 ?_
          refine z_icmp_ne cx (tgt := 591) dL_moves_583 (fun h583 => ?_) (fun h583 => ?_)
          · skip
            refine z_iload cx dL_moves_591 rfl ?_
            refine Z.locs (L593 _ _ _ _ _ _ _ _ _ _ _ hM (by omega) (by omega) hB hN hSp (by omega) hbk hC) ⟨rfl, rfl, rfl, rfl, rfl, rfl, rfl, rfl, rfl, rfl, rfl, rfl, rfl, trivial⟩
          · skip
            refine z_bipush cx dL_moves_586 ?_
            refine z_goto cx (tgt := 593) dL_moves_588 ?_
            refine Z.locs (L593 _ _ _ _ _ _ _ _ _ _ _ hM (by omega) (by omega) hB hN hSp (by omega) hbk hC) ⟨rfl, rfl, rfl, rfl, rfl, rfl, rfl, rfl, rfl, rfl, rfl, rfl, rfl, trivial⟩
        · skip
          refine z_bipush cx dL_moves_575 ?_
          refine z_goto cx (tgt := 593) dL_moves_577 ?_
          refine Z.locs (L593 _ _ _ _ _ _ _ _ _ _ _ hM (by omega) (by omega) hB hN hSp (by omega) hbk hC) ⟨rfl, rfl, rfl, rfl, rfl, rfl, rfl, rfl, rfl, rfl, rfl, rfl, rfl, trivial⟩
    · skip
      refine z_iconst cx dL_moves_552 ?_
      refine z_goto cx (tgt := 593) dL_moves_553 ?_
      refine Z.locs (L593 _ _ _ _ _ _ _ _ _ _ _ hM (by omega) (by omega) hB hN hSp (by omega) hbk hC) ⟨rfl, rfl, rfl, rfl, rfl, rfl, rfl, rfl, rfl, rfl, rfl, rfl, rfl, trivial⟩
  have L469 : ∀ (u no st en ln nx tx told w : Int) (B : Ast) (G1 : Wd), (MvI A u no st en ln nx) → (w = told) → (-10 ≤ told ∧ told ≤ 5000) → (AOk B) → (Nx A B) → (B.1.2.2.length = A.1.2.2.length) → ((told < 0 ∧ (sb B u).2.1 = (sb A u).2.1) ∨ (0 ≤ told ∧ (sb B u).2.1 = tx)) → (-1 ≤ tx ∧ tx ≤ 5100) → (CRel G1 B) → Z p l e (zr 6 137) s m args below meth c 14 0 0 E (Qi_ E below args s (fun z G' => z = 1 ∧ ∃ B, CRel G' B ∧ AOk B ∧ Nx A B)) G1 469 [some (.ref (E.1 0)), some (.int (iN hw)), some (.int (iN y)), some (.int (iN (A.1.2.2.length : Int))), some (.int (iN u)), some (.int (iN no)), some (.int (iN st)), some (.int (iN en)), some (.int (iN ln)), some (.int (iN nx)), some (.int (iN tx)), none, none, some (.int (iN told))] [.int (iN w), .int (iN told)] := by
    intro u no st en ln nx tx told w B G1 hM hw2 hlo hB hN hBl hBe htx hC
    obtain ⟨⟨hu, hst, hen, hln, hnx⟩, hno, hnxe⟩ := id hM
    refine z_icmp_ne cx (tgt := 503) dL_moves_469 (fun h469 => ?_) (fun h469 => ?_)
    · skip
      exfalso; omega
    · skip
      refine z_iload cx dL_moves_472 rfl ?_
      refine z_if_ne cx (tgt := 499) dL_moves_474 (fun h474 => ?_) (fun h474 => ?_)
      · skip
        refine z_iconst cx dL_moves_499 ?_
        refine z_goto cx (tgt := 504) dL_moves_500 ?_
        refine z_zret cx dL_moves_504 ?_
        exact ⟨by omega, _, hC, hB, hN⟩
      · skip
        have hSB := sb_ok hB (x := u) (by omega)
        obtain ⟨hB0, hB1, hB2, hB3⟩ := hSB
        have hB4 := hB3.2.1
        refine z_aload_n cx dL_moves_477 rfl ?_
        refine z_iload cx dL_moves_478 rfl ?_
        refine z_iconst cx dL_moves_480 ?_
        refine z_vi cx (c_X4_subtitle hC hB (by omega) (by omega)) rfl mv_X4_subtitle ml_L_29 (by omega) (co_main E _) rfl dL_moves_481 (fun z481 G481 hz481 => ?_)
        obtain ⟨hq, hC, -⟩ := hz481
        have hq := hq.trans (rs_1 (A := B) (by omega))
        subst hq
        refine z_iload cx dL_moves_484 rfl ?_
        refine z_if_ge cx (tgt := 494) dL_moves_486 (fun h486 => ?_) (fun h486 => ?_)
        · skip
          refine z_iload cx dL_moves_494 rfl ?_
          refine z_icmp_ne cx (tgt := 503) dL_moves_496 (fun h496 => ?_) (fun h496 => ?_)
          · skip
            exfalso; omega
          · skip
            refine z_iconst cx dL_moves_499 ?_
            refine z_goto cx (tgt := 504) dL_moves_500 ?_
            refine z_zret cx dL_moves_504 ?_
            exact ⟨by omega, _, hC, hB, hN⟩
        · skip
          refine z_iload cx dL_moves_489 rfl ?_
          refine z_goto cx (tgt := 496) dL_moves_491 ?_
          refine z_icmp_ne cx (tgt := 503) dL_moves_496 (fun h496 => ?_) (fun h496 => ?_)
          · skip
            exfalso; omega
          · skip
            refine z_iconst cx dL_moves_499 ?_
            refine z_goto cx (tgt := 504) dL_moves_500 ?_
            refine z_zret cx dL_moves_504 ?_
            exact ⟨by omega, _, hC, hB, hN⟩
  have L424 : ∀ (u no st en ln nx tx bd cn : Int) (G1 : Wd), (MvI A u no st en ln nx) → (-1 ≤ tx ∧ tx ≤ 5100) → ((bd = 1 ∧ (tx < 0 ∨ 5000 < tx)) ∨ (bd = 0 ∧ 0 ≤ tx ∧ tx ≤ 5000)) → ((cn = 1 ∧ st < tx ∧ tx ≤ nx) ∨ (cn = 0 ∧ (tx ≤ st ∨ nx < tx))) → (CRel G1 A) → Z p l e (zr 6 137) s m args below meth c 14 0 0 E (Qi_ E below args s (fun z G' => z = 1 ∧ ∃ B, CRel G' B ∧ AOk B ∧ Nx A B)) G1 424 [some (.ref (E.1 0)), some (.int (iN hw)), some (.int (iN y)), some (.int (iN (A.1.2.2.length : Int))), some (.int (iN u)), some (.int (iN no)), some (.int (iN st)), some (.int (iN en)), some (.int (iN ln)), some (.int (iN nx)), some (.int (iN tx)), some (.int (iN bd)), none, none] [.int (iN cn)] := by
    intro u no st en ln nx tx bd cn G1 hM htx hbd hcn hC
    obtain ⟨⟨hu, hst, hen, hln, hnx⟩, hno, hnxe⟩ := id hM
    refine z_istore cx dL_moves_424 ?_
    refine z_aload_n cx dL_moves_426 rfl ?_
    refine z_iload cx dL_moves_427 rfl ?_
    refine z_iload cx dL_moves_429 rfl ?_
    refine z_vi cx (c_X4_setEnd hC hA (by omega) (by omega)) rfl mv_X4_setEnd ml_L_102 (by omega) (co_main E _) rfl dL_moves_431 (fun z431 G431 hz431 => ?_)
    obtain ⟨hq, hC, -⟩ := hz431
    obtain ⟨B, told, hs0, hB, hN, hBl, hBe, hP⟩ := se_post hA (to := tx) hu
    rw [hs0] at hq hC
    dsimp only at hq hC
    subst hq
    refine z_istore cx dL_moves_434 ?_
    refine z_iload cx dL_moves_436 rfl ?_
    refine z_iload cx dL_moves_438 rfl ?_
    refine z_if_eq cx (tgt := 447) dL_moves_440 (fun h440 => ?_) (fun h440 => ?_)
    · skip
      refine z_iload cx dL_moves_447 rfl ?_
      refine z_if_eq cx (tgt := 457) dL_moves_449 (fun h449 => ?_) (fun h449 => ?_)
      · skip
        refine z_iload cx dL_moves_457 rfl ?_
        refine z_if_eq cx (tgt := 467) dL_moves_459 (fun h459 => ?_) (fun h459 => ?_)
        · skip
          refine z_bipush cx dL_moves_467 ?_
          refine Z.locs (L469 _ _ _ _ _ _ _ _ _ _ _ hM (by omega) (by omega) hB hN hBl hBe htx hC) ⟨rfl, rfl, rfl, rfl, rfl, rfl, rfl, rfl, rfl, rfl, rfl, rfl, trivial⟩
        · skip
          refine z_iload cx dL_moves_462 rfl ?_
          refine z_goto cx (tgt := 469) dL_moves_464 ?_
          refine Z.locs (L469 _ _ _ _ _ _ _ _ _ _ _ hM (by omega) (by omega) hB hN hBl hBe htx hC) ⟨rfl, rfl, rfl, rfl, rfl, rfl, rfl, rfl, rfl, rfl, rfl, rfl, trivial⟩
      · skip
        refine z_bipush cx dL_moves_452 ?_
        refine z_goto cx (tgt := 469) dL_moves_454 ?_
        refine Z.locs (L469 _ _ _ _ _ _ _ _ _ _ _ hM (by omega) (by omega) hB hN hBl hBe htx hC) ⟨rfl, rfl, rfl, rfl, rfl, rfl, rfl, rfl, rfl, rfl, rfl, rfl, trivial⟩
    · skip
      refine z_iconst cx dL_moves_443 ?_
      refine z_goto cx (tgt := 469) dL_moves_444 ?_
      refine Z.locs (L469 _ _ _ _ _ _ _ _ _ _ _ hM (by omega) (by omega) hB hN hBl hBe htx hC) ⟨rfl, rfl, rfl, rfl, rfl, rfl, rfl, rfl, rfl, rfl, rfl, rfl, trivial⟩
  have L403 : ∀ (u no st en ln nx tx bd : Int) (G1 : Wd), (MvI A u no st en ln nx) → (-1 ≤ tx ∧ tx ≤ 5100) → ((bd = 1 ∧ (tx < 0 ∨ 5000 < tx)) ∨ (bd = 0 ∧ 0 ≤ tx ∧ tx ≤ 5000)) → (CRel G1 A) → Z p l e (zr 6 137) s m args below meth c 14 0 0 E (Qi_ E below args s (fun z G' => z = 1 ∧ ∃ B, CRel G' B ∧ AOk B ∧ Nx A B)) G1 403 [some (.ref (E.1 0)), some (.int (iN hw)), some (.int (iN y)), some (.int (iN (A.1.2.2.length : Int))), some (.int (iN u)), some (.int (iN no)), some (.int (iN st)), some (.int (iN en)), some (.int (iN ln)), some (.int (iN nx)), some (.int (iN tx)), none, none, none] [.int (iN bd)] := by
    intro u no st en ln nx tx bd G1 hM htx hbd hC
    obtain ⟨⟨hu, hst, hen, hln, hnx⟩, hno, hnxe⟩ := id hM
    refine z_istore cx dL_moves_403 ?_
    refine z_iload cx dL_moves_405 rfl ?_
    refine z_iload cx dL_moves_407 rfl ?_
    refine z_icmp_le cx (tgt := 423) dL_moves_409 (fun h409 => ?_) (fun h409 => ?_)
    · skip
      refine z_iconst cx dL_moves_423 ?_
      refine Z.locs (L424 _ _ _ _ _ _ _ _ _ _ hM htx hbd (by omega) hC) ⟨rfl, rfl, rfl, rfl, rfl, rfl, rfl, rfl, rfl, rfl, rfl, rfl, trivial⟩
    · skip
      refine z_iload cx dL_moves_412 rfl ?_
      refine z_iload cx dL_moves_414 rfl ?_
      refine z_icmp_gt cx (tgt := 423) dL_moves_416 (fun h416 => ?_) (fun h416 => ?_)
      · skip
        refine z_iconst cx dL_moves_423 ?_
        refine Z.locs (L424 _ _ _ _ _ _ _ _ _ _ hM htx hbd (by omega) hC) ⟨rfl, rfl, rfl, rfl, rfl, rfl, rfl, rfl, rfl, rfl, rfl, rfl, trivial⟩
      · skip
        refine z_iconst cx dL_moves_419 ?_
        refine z_goto cx (tgt := 424) dL_moves_420 ?_
        refine Z.locs (L424 _ _ _ _ _ _ _ _ _ _ hM htx hbd (by omega) hC) ⟨rfl, rfl, rfl, rfl, rfl, rfl, rfl, rfl, rfl, rfl, rfl, rfl, trivial⟩
  have L383 : ∀ (u no st en ln nx tx : Int) (G1 : Wd), (MvI A u no st en ln nx) → (-1 ≤ tx ∧ tx ≤ 5100) → (CRel G1 A) → Z p l e (zr 6 137) s m args below meth c 14 0 0 E (Qi_ E below args s (fun z G' => z = 1 ∧ ∃ B, CRel G' B ∧ AOk B ∧ Nx A B)) G1 383 [some (.ref (E.1 0)), some (.int (iN hw)), some (.int (iN y)), some (.int (iN (A.1.2.2.length : Int))), some (.int (iN u)), some (.int (iN no)), some (.int (iN st)), some (.int (iN en)), some (.int (iN ln)), some (.int (iN nx)), none, none, none, none] [.int (iN tx)] := by
    intro u no st en ln nx tx G1 hM htx hC
    obtain ⟨⟨hu, hst, hen, hln, hnx⟩, hno, hnxe⟩ := id hM
    refine z_istore cx dL_moves_383 ?_
    refine z_iload cx dL_moves_385 rfl ?_
    refine z_if_lt cx (tgt := 398) dL_moves_387 (fun h387 => ?_) (fun h387 => ?_)
    · skip
      refine z_iconst cx dL_moves_398 ?_
      refine z_goto cx (tgt := 403) dL_moves_399 ?_
      refine Z.locs (L403 _ _ _ _ _ _ _ _ _ hM htx (by omega) hC) ⟨rfl, rfl, rfl, rfl, rfl, rfl, rfl, rfl, rfl, rfl, rfl, trivial⟩
    · skip
      refine z_iload cx dL_moves_390 rfl ?_
      refine z_sipush cx dL_moves_392 ?_
      refine z_icmp_le cx (tgt := 402) dL_moves_395 (fun h395 => ?_) (fun h395 => ?_)
      · skip
        refine z_iconst cx dL_moves_402 ?_
        refine Z.locs (L403 _ _ _ _ _ _ _ _ _ hM htx (by omega) hC) ⟨rfl, rfl, rfl, rfl, rfl, rfl, rfl, rfl, rfl, rfl, rfl, trivial⟩
      · skip
        refine z_iconst cx dL_moves_398 ?_
        refine z_goto cx (tgt := 403) dL_moves_399 ?_
        refine Z.locs (L403 _ _ _ _ _ _ _ _ _ hM htx (by omega) hC) ⟨rfl, rfl, rfl, rfl, rfl, rfl, rfl, rfl, rfl, rfl, rfl, trivial⟩
  have L280 : ∀ (u no st en ln nx bw d told w : Int) (B : Ast) (G1 : Wd), (MvI A u no st en ln nx) → (w = told) → (-10 ≤ told ∧ told ≤ 5000) → (AOk B) → (Nx A B) → (B.1.2.2.length = A.1.2.2.length) → (u < (A.1.2.2.length : Int) → (sb B u).1 = (sb A u).1 + d ∧ (sb B u).2.1 = (sb A u).2.1 + d) → ((told < 0 ∧ d = 0) ∨ (0 ≤ told ∧ d = bw)) → (-1001 ≤ bw ∧ bw ≤ 2003) → (CRel G1 B) → Z p l e (zr 6 137) s m args below meth c 14 0 0 E (Qi_ E below args s (fun z G' => z = 1 ∧ ∃ B, CRel G' B ∧ AOk B ∧ Nx A B)) G1 280 [some (.ref (E.1 0)), some (.int (iN hw)), some (.int (iN y)), some (.int (iN (A.1.2.2.length : Int))), some (.int (iN u)), some (.int (iN no)), some (.int (iN st)), some (.int (iN en)), some (.int (iN ln)), some (.int (iN nx)), some (.int (iN bw)), none, none, some (.int (iN told))] [.int (iN w), .int (iN told)] := by
    intro u no st en ln nx bw d told w B G1 hM hw2 hlo hB hN hBl hBs hd hbw hC
    obtain ⟨⟨hu, hst, hen, hln, hnx⟩, hno, hnxe⟩ := id hM
    refine z_icmp_ne cx (tgt := 340) dL_moves_280 (fun h280 => ?_) (fun h280 => ?_)
    · skip
      exfalso; omega
    · skip
      refine z_iload cx dL_moves_283 rfl ?_
      refine z_if_ne cx (tgt := 336) dL_moves_285 (fun h285 => ?_) (fun h285 => ?_)
      · skip
        refine z_iconst cx dL_moves_336 ?_
        refine z_goto cx (tgt := 341) dL_moves_337 ?_
        refine z_zret cx dL_moves_341 ?_
        exact ⟨by omega, _, hC, hB, hN⟩
      · skip
        obtain ⟨hb1, hb2⟩ := hBs (by omega)
        have hSB := sb_ok hB (x := u) (by omega)
        obtain ⟨hB0, hB1, hB2, hB3⟩ := hSB
        have hB4 := hB3.2.1
        refine z_aload_n cx dL_moves_288 rfl ?_
        refine z_iload cx dL_moves_289 rfl ?_
        refine z_iconst cx dL_moves_291 ?_
        refine z_vi cx (c_X4_subtitle hC hB (by omega) (by omega)) rfl mv_X4_subtitle ml_L_29 (by omega) (co_main E _) rfl dL_moves_292 (fun z292 G292 hz292 => ?_)
        obtain ⟨hq, hC, -⟩ := hz292
        have hq := hq.trans (rs_0 (A := B) (by omega))
        subst hq
        refine z_iload cx dL_moves_295 rfl ?_
        refine z_iload cx dL_moves_297 rfl ?_
        refine z_if_ge cx (tgt := 306) dL_moves_299 (fun h299 => ?_) (fun h299 => ?_)
        · skip
          refine z_iload cx dL_moves_306 rfl ?_
          refine z_iadd cx dL_moves_308 ?_
          refine z_icmp_ne cx (tgt := 340) dL_moves_309 (fun h309 => ?_) (fun h309 => ?_)
          · skip
            exfalso; omega
          · skip
            refine z_aload_n cx dL_moves_312 rfl ?_
            refine z_iload cx dL_moves_313 rfl ?_
            refine z_iconst cx dL_moves_315 ?_
            refine z_vi cx (c_X4_subtitle hC hB (by omega) (by omega)) rfl mv_X4_subtitle ml_L_29 (by omega) (co_main E _) rfl dL_moves_316 (fun z316 G316 hz316 => ?_)
            obtain ⟨hq, hC, -⟩ := hz316
            have hq := hq.trans (rs_1 (A := B) (by omega))
            subst hq
            refine z_iload cx dL_moves_319 rfl ?_
            refine z_iload cx dL_moves_321 rfl ?_
            refine z_if_ge cx (tgt := 330) dL_moves_323 (fun h323 => ?_) (fun h323 => ?_)
            · skip
              refine z_iload cx dL_moves_330 rfl ?_
              refine z_iadd cx dL_moves_332 ?_
              refine z_icmp_ne cx (tgt := 340) dL_moves_333 (fun h333 => ?_) (fun h333 => ?_)
              · skip
                exfalso; omega
              · skip
                refine z_iconst cx dL_moves_336 ?_
                refine z_goto cx (tgt := 341) dL_moves_337 ?_
                refine z_zret cx dL_moves_341 ?_
                exact ⟨by omega, _, hC, hB, hN⟩
            · skip
              refine z_iconst cx dL_moves_326 ?_
              refine z_goto cx (tgt := 332) dL_moves_327 ?_
              refine z_iadd cx dL_moves_332 ?_
              refine z_icmp_ne cx (tgt := 340) dL_moves_333 (fun h333 => ?_) (fun h333 => ?_)
              · skip
                exfalso; omega
              · skip
                refine z_iconst cx dL_moves_336 ?_
                refine z_goto cx (tgt := 341) dL_moves_337 ?_
                refine z_zret cx dL_moves_341 ?_
                exact ⟨by omega, _, hC, hB, hN⟩
        · skip
          refine z_iconst cx dL_moves_302 ?_
          refine z_goto cx (tgt := 308) dL_moves_303 ?_
          refine z_iadd cx dL_moves_308 ?_
          refine z_icmp_ne cx (tgt := 340) dL_moves_309 (fun h309 => ?_) (fun h309 => ?_)
          · skip
            exfalso; omega
          · skip
            refine z_aload_n cx dL_moves_312 rfl ?_
            refine z_iload cx dL_moves_313 rfl ?_
            refine z_iconst cx dL_moves_315 ?_
            refine z_vi cx (c_X4_subtitle hC hB (by omega) (by omega)) rfl mv_X4_subtitle ml_L_29 (by omega) (co_main E _) rfl dL_moves_316 (fun z316 G316 hz316 => ?_)
            obtain ⟨hq, hC, -⟩ := hz316
            have hq := hq.trans (rs_1 (A := B) (by omega))
            subst hq
            refine z_iload cx dL_moves_319 rfl ?_
            refine z_iload cx dL_moves_321 rfl ?_
            refine z_if_ge cx (tgt := 330) dL_moves_323 (fun h323 => ?_) (fun h323 => ?_)
            · skip
              refine z_iload cx dL_moves_330 rfl ?_
              refine z_iadd cx dL_moves_332 ?_
              refine z_icmp_ne cx (tgt := 340) dL_moves_333 (fun h333 => ?_) (fun h333 => ?_)
              · skip
                exfalso; omega
              · skip
                refine z_iconst cx dL_moves_336 ?_
                refine z_goto cx (tgt := 341) dL_moves_337 ?_
                refine z_zret cx dL_moves_341 ?_
                exact ⟨by omega, _, hC, hB, hN⟩
            · skip
              refine z_iconst cx dL_moves_326 ?_
              refine z_goto cx (tgt := 332) dL_moves_327 ?_
              refine z_iadd cx dL_moves_332 ?_
              refine z_icmp_ne cx (tgt := 340) dL_moves_333 (fun h333 => ?_) (fun h333 => ?_)
              · skip
                exfalso; omega
              · skip
                refine z_iconst cx dL_moves_336 ?_
                refine z_goto cx (tgt := 341) dL_moves_337 ?_
                refine z_zret cx dL_moves_341 ?_
                exact ⟨by omega, _, hC, hB, hN⟩
  have L233 : ∀ (u no st en ln nx bw bd cn : Int) (G1 : Wd), (MvI A u no st en ln nx) → (-1001 ≤ bw ∧ bw ≤ 2003) → ((bd = 1 ∧ (bw < -999 ∨ 999 < bw)) ∨ (bd = 0 ∧ -999 ≤ bw ∧ bw ≤ 999)) → ((cn = 1 ∧ no = 0 ∧ pE A u ≤ st + bw ∧ lE A + bw ≤ 5000) ∨ (cn = 0 ∧ (no = 1 ∨ st + bw < pE A u ∨ 5000 < lE A + bw))) → (CRel G1 A) → Z p l e (zr 6 137) s m args below meth c 14 0 0 E (Qi_ E below args s (fun z G' => z = 1 ∧ ∃ B, CRel G' B ∧ AOk B ∧ Nx A B)) G1 233 [some (.ref (E.1 0)), some (.int (iN hw)), some (.int (iN y)), some (.int (iN (A.1.2.2.length : Int))), some (.int (iN u)), some (.int (iN no)), some (.int (iN st)), some (.int (iN en)), some (.int (iN ln)), some (.int (iN nx)), some (.int (iN bw)), some (.int (iN bd)), none, none] [.int (iN cn)] := by
    intro u no st en ln nx bw bd cn G1 hM hbw hbd hcn hC
    obtain ⟨⟨hu, hst, hen, hln, hnx⟩, hno, hnxe⟩ := id hM
    refine z_istore cx dL_moves_233 ?_
    refine z_aload_n cx dL_moves_235 rfl ?_
    refine z_iload cx dL_moves_236 rfl ?_
    refine z_iload cx dL_moves_238 rfl ?_
    refine z_vi cx (c_X4_shift hC hA (by omega) (by omega)) rfl mv_X4_shift ml_L_99 (by omega) (co_main E _) rfl dL_moves_240 (fun z240 G240 hz240 => ?_)
    obtain ⟨hq, hC, -⟩ := hz240
    obtain ⟨B, told, d, hs0, hB, hN, hBl, hBs, hd, hP⟩ := sh_post hA (bw := bw) hu
    rw [hs0] at hq hC
    dsimp only at hq hC
    subst hq
    have hsb9 : ∀ w : u < (A.1.2.2.length : Int), SbOk (sb A u) := fun w => sb_ok hA (by omega)
    refine z_istore cx dL_moves_243 ?_
    refine z_iload cx dL_moves_245 rfl ?_
    refine z_iload cx dL_moves_247 rfl ?_
    refine z_if_eq cx (tgt := 256) dL_moves_249 (fun h249 => ?_) (fun h249 => ?_)
    · skip
      refine z_iload cx dL_moves_256 rfl ?_
      refine z_if_eq cx (tgt := 266) dL_moves_258 (fun h258 => ?_) (fun h258 => ?_)
      · skip
        refine z_iload cx dL_moves_266 rfl ?_
        refine z_if_eq cx (tgt := 278) dL_moves_268 (fun h268 => ?_) (fun h268 => ?_)
        · skip
          refine z_bipush cx dL_moves_278 ?_
          refine Z.locs (L280 _ _ _ _ _ _ _ _ _ _ _ _ hM (by omega) (by omega) hB hN hBl hBs hd hbw hC) ⟨rfl, rfl, rfl, rfl, rfl, rfl, rfl, rfl, rfl, rfl, rfl, rfl, trivial⟩
        · skip
          refine z_iload_n cx dL_moves_271 rfl ?_
          refine z_iload cx dL_moves_272 rfl ?_
          refine z_isub cx dL_moves_274 ?_
          refine z_goto cx (tgt := 280) dL_moves_275 ?_
          refine Z.locs (L280 _ _ _ _ _ _ _ _ _ _ _ _ hM (by omega) (by omega) hB hN hBl hBs hd hbw hC) ⟨rfl, rfl, rfl, rfl, rfl, rfl, rfl, rfl, rfl, rfl, rfl, rfl, trivial⟩
      · skip
        refine z_bipush cx dL_moves_261 ?_
        refine z_goto cx (tgt := 280) dL_moves_263 ?_
        refine Z.locs (L280 _ _ _ _ _ _ _ _ _ _ _ _ hM (by omega) (by omega) hB hN hBl hBs hd hbw hC) ⟨rfl, rfl, rfl, rfl, rfl, rfl, rfl, rfl, rfl, rfl, rfl, rfl, trivial⟩
    · skip
      refine z_iconst cx dL_moves_252 ?_
      refine z_goto cx (tgt := 280) dL_moves_253 ?_
      refine Z.locs (L280 _ _ _ _ _ _ _ _ _ _ _ _ hM (by omega) (by omega) hB hN hBl hBs hd hbw hC) ⟨rfl, rfl, rfl, rfl, rfl, rfl, rfl, rfl, rfl, rfl, rfl, rfl, trivial⟩
  have L178 : ∀ (u no st en ln nx bw bd : Int) (G1 : Wd), (MvI A u no st en ln nx) → (-1001 ≤ bw ∧ bw ≤ 2003) → ((bd = 1 ∧ (bw < -999 ∨ 999 < bw)) ∨ (bd = 0 ∧ -999 ≤ bw ∧ bw ≤ 999)) → (CRel G1 A) → Z p l e (zr 6 137) s m args below meth c 14 0 0 E (Qi_ E below args s (fun z G' => z = 1 ∧ ∃ B, CRel G' B ∧ AOk B ∧ Nx A B)) G1 178 [some (.ref (E.1 0)), some (.int (iN hw)), some (.int (iN y)), some (.int (iN (A.1.2.2.length : Int))), some (.int (iN u)), some (.int (iN no)), some (.int (iN st)), some (.int (iN en)), some (.int (iN ln)), some (.int (iN nx)), some (.int (iN bw)), none, none, none] [.int (iN bd)] := by
    intro u no st en ln nx bw bd G1 hM hbw hbd hC
    obtain ⟨⟨hu, hst, hen, hln, hnx⟩, hno, hnxe⟩ := id hM
    refine z_istore cx dL_moves_178 ?_
    refine z_iload cx dL_moves_180 rfl ?_
    refine z_if_ne cx (tgt := 232) dL_moves_182 (fun h182 => ?_) (fun h182 => ?_)
    · skip
      refine z_iconst cx dL_moves_232 ?_
      refine Z.locs (L233 _ _ _ _ _ _ _ _ _ _ hM hbw hbd (by omega) hC) ⟨rfl, rfl, rfl, rfl, rfl, rfl, rfl, rfl, rfl, rfl, rfl, rfl, trivial⟩
    · skip
      refine z_iload cx dL_moves_185 rfl ?_
      refine z_iload cx dL_moves_187 rfl ?_
      refine z_iadd cx dL_moves_189 ?_
      refine z_iload cx dL_moves_190 rfl ?_
      refine z_if_ne cx (tgt := 199) dL_moves_192 (fun h192 => ?_) (fun h192 => ?_)
      · skip
        refine z_aload_n cx dL_moves_199 rfl ?_
        refine z_iload cx dL_moves_200 rfl ?_
        refine z_iconst cx dL_moves_202 ?_
        refine z_isub cx dL_moves_203 ?_
        refine z_iconst cx dL_moves_204 ?_
        refine z_vi cx (c_X4_subtitle hC hA (by omega) (by omega)) rfl mv_X4_subtitle ml_L_29 (by omega) (co_main E _) rfl dL_moves_205 (fun z205 G205 hz205 => ?_)
        obtain ⟨hq, hC, -⟩ := hz205
        have hq := hq.trans (rs_1 (by omega))
        subst hq
        have hp1 := pE_p (A := A) (u := u) (by omega)
        obtain ⟨hh0, hh1, hh2, hh3⟩ := sb_ok hA (x := u - 1) (by omega)
        refine z_icmp_lt cx (tgt := 232) dL_moves_208 (fun h208 => ?_) (fun h208 => ?_)
        · skip
          refine z_iconst cx dL_moves_232 ?_
          refine Z.locs (L233 _ _ _ _ _ _ _ _ _ _ hM hbw hbd (by omega) hC) ⟨rfl, rfl, rfl, rfl, rfl, rfl, rfl, rfl, rfl, rfl, rfl, rfl, trivial⟩
        · skip
          refine z_aload_n cx dL_moves_211 rfl ?_
          refine z_iload_n cx dL_moves_212 rfl ?_
          refine z_iconst cx dL_moves_213 ?_
          refine z_isub cx dL_moves_214 ?_
          refine z_iconst cx dL_moves_215 ?_
          refine z_vi cx (c_X4_subtitle hC hA (by omega) (by omega)) rfl mv_X4_subtitle ml_L_29 (by omega) (co_main E _) rfl dL_moves_216 (fun z216 G216 hz216 => ?_)
          obtain ⟨hq, hC, -⟩ := hz216
          have hq := hq.trans (rs_1 (by omega))
          subst hq
          have hl1 := lE_e (A := A) (by omega)
          obtain ⟨hk0, hk1, hk2, hk3⟩ := sb_ok hA (x := (A.1.2.2.length : Int) - 1) (by omega)
          refine z_iload cx dL_moves_219 rfl ?_
          refine z_iadd cx dL_moves_221 ?_
          refine z_sipush cx dL_moves_222 ?_
          refine z_icmp_gt cx (tgt := 232) dL_moves_225 (fun h225 => ?_) (fun h225 => ?_)
          · skip
            refine z_iconst cx dL_moves_232 ?_
            refine Z.locs (L233 _ _ _ _ _ _ _ _ _ _ hM hbw hbd (by omega) hC) ⟨rfl, rfl, rfl, rfl, rfl, rfl, rfl, rfl, rfl, rfl, rfl, rfl, trivial⟩
          · skip
            refine z_iconst cx dL_moves_228 ?_
            refine z_goto cx (tgt := 233) dL_moves_229 ?_
            refine Z.locs (L233 _ _ _ _ _ _ _ _ _ _ hM hbw hbd (by omega) hC) ⟨rfl, rfl, rfl, rfl, rfl, rfl, rfl, rfl, rfl, rfl, rfl, rfl, trivial⟩
      · skip
        have hp1 := pE_0 (A := A) (u := u) (by omega)
        refine z_iconst cx dL_moves_195 ?_
        refine z_goto cx (tgt := 208) dL_moves_196 ?_
        refine z_icmp_lt cx (tgt := 232) dL_moves_208 (fun h208 => ?_) (fun h208 => ?_)
        · skip
          refine z_iconst cx dL_moves_232 ?_
          refine Z.locs (L233 _ _ _ _ _ _ _ _ _ _ hM hbw hbd (by omega) hC) ⟨rfl, rfl, rfl, rfl, rfl, rfl, rfl, rfl, rfl, rfl, rfl, rfl, trivial⟩
        · skip
          refine z_aload_n cx dL_moves_211 rfl ?_
          refine z_iload_n cx dL_moves_212 rfl ?_
          refine z_iconst cx dL_moves_213 ?_
          refine z_isub cx dL_moves_214 ?_
          refine z_iconst cx dL_moves_215 ?_
          refine z_vi cx (c_X4_subtitle hC hA (by omega) (by omega)) rfl mv_X4_subtitle ml_L_29 (by omega) (co_main E _) rfl dL_moves_216 (fun z216 G216 hz216 => ?_)
          obtain ⟨hq, hC, -⟩ := hz216
          have hq := hq.trans (rs_1 (by omega))
          subst hq
          have hl1 := lE_e (A := A) (by omega)
          obtain ⟨hk0, hk1, hk2, hk3⟩ := sb_ok hA (x := (A.1.2.2.length : Int) - 1) (by omega)
          refine z_iload cx dL_moves_219 rfl ?_
          refine z_iadd cx dL_moves_221 ?_
          refine z_sipush cx dL_moves_222 ?_
          refine z_icmp_gt cx (tgt := 232) dL_moves_225 (fun h225 => ?_) (fun h225 => ?_)
          · skip
            refine z_iconst cx dL_moves_232 ?_
            refine Z.locs (L233 _ _ _ _ _ _ _ _ _ _ hM hbw hbd (by omega) hC) ⟨rfl, rfl, rfl, rfl, rfl, rfl, rfl, rfl, rfl, rfl, rfl, rfl, trivial⟩
          · skip
            refine z_iconst cx dL_moves_228 ?_
            refine z_goto cx (tgt := 233) dL_moves_229 ?_
            refine Z.locs (L233 _ _ _ _ _ _ _ _ _ _ hM hbw hbd (by omega) hC) ⟨rfl, rfl, rfl, rfl, rfl, rfl, rfl, rfl, rfl, rfl, rfl, rfl, trivial⟩
  have L155 : ∀ (u no st en ln nx bw : Int) (G1 : Wd), (MvI A u no st en ln nx) → (-1001 ≤ bw ∧ bw ≤ 2003) → (CRel G1 A) → Z p l e (zr 6 137) s m args below meth c 14 0 0 E (Qi_ E below args s (fun z G' => z = 1 ∧ ∃ B, CRel G' B ∧ AOk B ∧ Nx A B)) G1 155 [some (.ref (E.1 0)), some (.int (iN hw)), some (.int (iN y)), some (.int (iN (A.1.2.2.length : Int))), some (.int (iN u)), some (.int (iN no)), some (.int (iN st)), some (.int (iN en)), some (.int (iN ln)), some (.int (iN nx)), none, none, none, none] [.int (iN bw)] := by
    intro u no st en ln nx bw G1 hM hbw hC
    obtain ⟨⟨hu, hst, hen, hln, hnx⟩, hno, hnxe⟩ := id hM
    refine z_istore cx dL_moves_155 ?_
    refine z_iload cx dL_moves_157 rfl ?_
    refine z_sipush cx dL_moves_159 ?_
    refine z_icmp_lt cx (tgt := 173) dL_moves_162 (fun h162 => ?_) (fun h162 => ?_)
    · skip
      refine z_iconst cx dL_moves_173 ?_
      refine z_goto cx (tgt := 178) dL_moves_174 ?_
      refine Z.locs (L178 _ _ _ _ _ _ _ _ _ hM hbw (by omega) hC) ⟨rfl, rfl, rfl, rfl, rfl, rfl, rfl, rfl, rfl, rfl, rfl, trivial⟩
    · skip
      refine z_iload cx dL_moves_165 rfl ?_
      refine z_sipush cx dL_moves_167 ?_
      refine z_icmp_le cx (tgt := 177) dL_moves_170 (fun h170 => ?_) (fun h170 => ?_)
      · skip
        refine z_iconst cx dL_moves_177 ?_
        refine Z.locs (L178 _ _ _ _ _ _ _ _ _ hM hbw (by omega) hC) ⟨rfl, rfl, rfl, rfl, rfl, rfl, rfl, rfl, rfl, rfl, rfl, trivial⟩
      · skip
        refine z_iconst cx dL_moves_173 ?_
        refine z_goto cx (tgt := 178) dL_moves_174 ?_
        refine Z.locs (L178 _ _ _ _ _ _ _ _ _ hM hbw (by omega) hC) ⟨rfl, rfl, rfl, rfl, rfl, rfl, rfl, rfl, rfl, rfl, rfl, trivial⟩
  have L106 : ∀ (u no st en ln nx : Int) (G1 : Wd), (MvI A u no st en ln nx) → (CRel G1 A) → Z p l e (zr 6 137) s m args below meth c 14 0 0 E (Qi_ E below args s (fun z G' => z = 1 ∧ ∃ B, CRel G' B ∧ AOk B ∧ Nx A B)) G1 106 [some (.ref (E.1 0)), some (.int (iN hw)), some (.int (iN y)), some (.int (iN (A.1.2.2.length : Int))), some (.int (iN u)), some (.int (iN no)), some (.int (iN st)), some (.int (iN en)), some (.int (iN ln)), some (.int (iN nx)), none, none, none, none] [] := by
    intro u no st en ln nx G1 hM hC
    obtain ⟨⟨hu, hst, hen, hln, hnx⟩, hno, hnxe⟩ := id hM
    refine z_iload_n cx dL_moves_106 rfl ?_
    refine z_if_ne cx (tgt := 342) dL_moves_107 (fun h107 => ?_) (fun h107 => ?_)
    · skip
      refine z_iload_n cx dL_moves_342 rfl ?_
      refine z_iconst cx dL_moves_343 ?_
      refine z_icmp_ne cx (tgt := 505) dL_moves_344 (fun h344 => ?_) (fun h344 => ?_)
      · skip
        refine z_iload_n cx dL_moves_505 rfl ?_
        refine z_iconst cx dL_moves_506 ?_
        refine z_icmp_ne cx (tgt := 737) dL_moves_507 (fun h507 => ?_) (fun h507 => ?_)
        · skip
          refine z_iload_n cx dL_moves_737 rfl ?_
          refine z_iconst cx dL_moves_738 ?_
          refine z_icmp_ne cx (tgt := 918) dL_moves_739 (fun h739 => ?_) (fun h739 => ?_)
          · skip
            refine z_aload_n cx dL_moves_918 rfl ?_
            refine z_iload cx dL_moves_919 rfl ?_
            refine z_vi cx (c_X4_remove hC hA (by omega)) rfl mv_X4_remove ml_L_115 (by omega) (co_main E _) rfl dL_moves_921 (fun z921 G921 hz921 => ?_)
            obtain ⟨hq, hC, -⟩ := hz921
            obtain ⟨B, told, hs0, hB, hN, hP⟩ := rm_post hA hu
            rw [hs0] at hq hC
            dsimp only at hq hC
            subst hq
            refine z_iload cx dL_moves_924 rfl ?_
            refine z_if_eq cx (tgt := 933) dL_moves_926 (fun h926 => ?_) (fun h926 => ?_)
            · skip
              refine z_iload_n cx dL_moves_933 rfl ?_
              refine z_iconst cx dL_moves_934 ?_
              refine z_isub cx dL_moves_935 ?_
              refine z_icmp_ne cx (tgt := 962) dL_moves_936 (fun h936 => ?_) (fun h936 => ?_)
              · skip
                exfalso; omega
              · skip
                refine z_aload_n cx dL_moves_939 rfl ?_
                refine z_vi cx (c_X4_subtitles hC hB) rfl mv_X4_subtitles ml_L_26 (by omega) (co_main E _) rfl dL_moves_940 (fun z940 G940 hz940 => ?_)
                obtain ⟨hq, hC, -⟩ := hz940
                subst hq
                refine z_iload_n cx dL_moves_943 rfl ?_
                refine z_iload cx dL_moves_944 rfl ?_
                refine z_if_eq cx (tgt := 953) dL_moves_946 (fun h946 => ?_) (fun h946 => ?_)
                · skip
                  refine z_iconst cx dL_moves_953 ?_
                  refine z_isub cx dL_moves_954 ?_
                  refine z_icmp_ne cx (tgt := 962) dL_moves_955 (fun h955 => ?_) (fun h955 => ?_)
                  · skip
                    exfalso; omega
                  · skip
                    refine z_iconst cx dL_moves_958 ?_
                    refine z_goto cx (tgt := 963) dL_moves_959 ?_
                    refine z_zret cx dL_moves_963 ?_
                    exact ⟨by omega, _, hC, hB, hN⟩
                · skip
                  refine z_iconst cx dL_moves_949 ?_
                  refine z_goto cx (tgt := 954) dL_moves_950 ?_
                  refine z_isub cx dL_moves_954 ?_
                  refine z_icmp_ne cx (tgt := 962) dL_moves_955 (fun h955 => ?_) (fun h955 => ?_)
                  · skip
                    exfalso; omega
                  · skip
                    refine z_iconst cx dL_moves_958 ?_
                    refine z_goto cx (tgt := 963) dL_moves_959 ?_
                    refine z_zret cx dL_moves_963 ?_
                    exact ⟨by omega, _, hC, hB, hN⟩
            · skip
              refine z_iconst cx dL_moves_929 ?_
              refine z_goto cx (tgt := 936) dL_moves_930 ?_
              refine z_icmp_ne cx (tgt := 962) dL_moves_936 (fun h936 => ?_) (fun h936 => ?_)
              · skip
                exfalso; omega
              · skip
                refine z_aload_n cx dL_moves_939 rfl ?_
                refine z_vi cx (c_X4_subtitles hC hB) rfl mv_X4_subtitles ml_L_26 (by omega) (co_main E _) rfl dL_moves_940 (fun z940 G940 hz940 => ?_)
                obtain ⟨hq, hC, -⟩ := hz940
                subst hq
                refine z_iload_n cx dL_moves_943 rfl ?_
                refine z_iload cx dL_moves_944 rfl ?_
                refine z_if_eq cx (tgt := 953) dL_moves_946 (fun h946 => ?_) (fun h946 => ?_)
                · skip
                  refine z_iconst cx dL_moves_953 ?_
                  refine z_isub cx dL_moves_954 ?_
                  refine z_icmp_ne cx (tgt := 962) dL_moves_955 (fun h955 => ?_) (fun h955 => ?_)
                  · skip
                    exfalso; omega
                  · skip
                    refine z_iconst cx dL_moves_958 ?_
                    refine z_goto cx (tgt := 963) dL_moves_959 ?_
                    refine z_zret cx dL_moves_963 ?_
                    exact ⟨by omega, _, hC, hB, hN⟩
                · skip
                  refine z_iconst cx dL_moves_949 ?_
                  refine z_goto cx (tgt := 954) dL_moves_950 ?_
                  refine z_isub cx dL_moves_954 ?_
                  refine z_icmp_ne cx (tgt := 962) dL_moves_955 (fun h955 => ?_) (fun h955 => ?_)
                  · skip
                    exfalso; omega
                  · skip
                    refine z_iconst cx dL_moves_958 ?_
                    refine z_goto cx (tgt := 963) dL_moves_959 ?_
                    refine z_zret cx dL_moves_963 ?_
                    exact ⟨by omega, _, hC, hB, hN⟩
          · skip
            refine z_iload cx dL_moves_742 rfl ?_
            refine z_iconst cx dL_moves_744 ?_
            refine z_iadd cx dL_moves_745 ?_
            refine z_iload_n cx dL_moves_746 rfl ?_
            refine z_icmp_ge cx (tgt := 762) dL_moves_747 (fun h747 => ?_) (fun h747 => ?_)
            · skip
              refine z_iconst cx dL_moves_762 ?_
              refine z_istore cx dL_moves_763 ?_
              refine z_iload cx dL_moves_765 rfl ?_
              refine z_iconst cx dL_moves_767 ?_
              refine z_iadd cx dL_moves_768 ?_
              refine z_iload_n cx dL_moves_769 rfl ?_
              refine z_icmp_ge cx (tgt := 785) dL_moves_770 (fun h770 => ?_) (fun h770 => ?_)
              · skip
                refine z_iconst cx dL_moves_785 ?_
                refine z_istore cx dL_moves_786 ?_
                refine Z.locs (L788 _ _ _ _ _ _ _ _ _ hM (by omega) hC) ⟨rfl, rfl, rfl, rfl, rfl, rfl, rfl, rfl, rfl, rfl, rfl, rfl, trivial⟩
              · skip
                refine z_aload_n cx dL_moves_773 rfl ?_
                refine z_iload cx dL_moves_774 rfl ?_
                refine z_iconst cx dL_moves_776 ?_
                refine z_iadd cx dL_moves_777 ?_
                refine z_iconst cx dL_moves_778 ?_
                refine z_vi cx (c_X4_subtitle hC hA (by omega) (by omega)) rfl mv_X4_subtitle ml_L_29 (by omega) (co_main E _) rfl dL_moves_779 (fun z779 G779 hz779 => ?_)
                obtain ⟨hq, hC, -⟩ := hz779
                have hq := hq.trans (rs_1 (by omega))
                subst hq
                obtain ⟨hi0, hi1, hi2, hi3⟩ := sb_ok hA (x := u + 1) (by omega)
                have hi4 := hi3.2.1
                refine z_goto cx (tgt := 786) dL_moves_782 ?_
                refine z_istore cx dL_moves_786 ?_
                refine Z.locs (L788 _ _ _ _ _ _ _ _ _ hM (by omega) hC) ⟨rfl, rfl, rfl, rfl, rfl, rfl, rfl, rfl, rfl, rfl, rfl, rfl, trivial⟩
            · skip
              refine z_aload_n cx dL_moves_750 rfl ?_
              refine z_iload cx dL_moves_751 rfl ?_
              refine z_iconst cx dL_moves_753 ?_
              refine z_iadd cx dL_moves_754 ?_
              refine z_iconst cx dL_moves_755 ?_
              refine z_vi cx (c_X4_subtitle hC hA (by omega) (by omega)) rfl mv_X4_subtitle ml_L_29 (by omega) (co_main E _) rfl dL_moves_756 (fun z756 G756 hz756 => ?_)
              obtain ⟨hq, hC, -⟩ := hz756
              have hq := hq.trans (rs_2 (by omega))
              subst hq
              obtain ⟨hh0, hh1, hh2, hh3⟩ := sb_ok hA (x := u + 1) (by omega)
              have hh4 := hh3.2.1
              refine z_goto cx (tgt := 763) dL_moves_759 ?_
              refine z_istore cx dL_moves_763 ?_
              refine z_iload cx dL_moves_765 rfl ?_
              refine z_iconst cx dL_moves_767 ?_
              refine z_iadd cx dL_moves_768 ?_
              refine z_iload_n cx dL_moves_769 rfl ?_
              refine z_icmp_ge cx (tgt := 785) dL_moves_770 (fun h770 => ?_) (fun h770 => ?_)
              · skip
                refine z_iconst cx dL_moves_785 ?_
                refine z_istore cx dL_moves_786 ?_
                refine Z.locs (L788 _ _ _ _ _ _ _ _ _ hM (by omega) hC) ⟨rfl, rfl, rfl, rfl, rfl, rfl, rfl, rfl, rfl, rfl, rfl, rfl, trivial⟩
              · skip
                refine z_aload_n cx dL_moves_773 rfl ?_
                refine z_iload cx dL_moves_774 rfl ?_
                refine z_iconst cx dL_moves_776 ?_
                refine z_iadd cx dL_moves_777 ?_
                refine z_iconst cx dL_moves_778 ?_
                refine z_vi cx (c_X4_subtitle hC hA (by omega) (by omega)) rfl mv_X4_subtitle ml_L_29 (by omega) (co_main E _) rfl dL_moves_779 (fun z779 G779 hz779 => ?_)
                obtain ⟨hq, hC, -⟩ := hz779
                have hq := hq.trans (rs_1 (by omega))
                subst hq
                obtain ⟨hi0, hi1, hi2, hi3⟩ := sb_ok hA (x := u + 1) (by omega)
                have hi4 := hi3.2.1
                refine z_goto cx (tgt := 786) dL_moves_782 ?_
                refine z_istore cx dL_moves_786 ?_
                refine Z.locs (L788 _ _ _ _ _ _ _ _ _ hM (by omega) hC) ⟨rfl, rfl, rfl, rfl, rfl, rfl, rfl, rfl, rfl, rfl, rfl, rfl, trivial⟩
        · skip
          refine z_iload cx dL_moves_510 rfl ?_
          refine z_if_eq cx (tgt := 520) dL_moves_512 (fun h512 => ?_) (fun h512 => ?_)
          · skip
            have hSa := sb_ok hA (x := u) (by omega)
            have hbl := bBl_i hSa.2.2.2
            have h40 := hSa.2.2.2.2.1
            refine z_aload_n cx dL_moves_520 rfl ?_
            refine z_iload cx dL_moves_521 rfl ?_
            refine z_bipush cx dL_moves_523 ?_
            refine z_vi cx (c_X4_subtitle hC hA (by omega) (by omega)) rfl mv_X4_subtitle ml_L_29 (by omega) (co_main E _) rfl dL_moves_525 (fun z525 G525 hz525 => ?_)
            obtain ⟨hq, hC, -⟩ := hz525
            have hq := hq.trans (rs_6 (by omega))
            subst hq
            refine Z.locs (L528 _ _ _ _ _ _ _ _ hM (by omega) hC) ⟨rfl, rfl, rfl, rfl, rfl, rfl, rfl, rfl, rfl, rfl, trivial⟩
          · skip
            refine z_bipush cx dL_moves_515 ?_
            refine z_goto cx (tgt := 528) dL_moves_517 ?_
            refine Z.locs (L528 _ _ _ _ _ _ _ _ hM (by omega) hC) ⟨rfl, rfl, rfl, rfl, rfl, rfl, rfl, rfl, rfl, rfl, trivial⟩
      · skip
        refine z_iload_n cx dL_moves_347 rfl ?_
        refine z_bipush cx dL_moves_348 ?_
        refine z_ishr cx dL_moves_350 (fun z350 hs350 => ?_)
        refine z_iconst cx dL_moves_351 ?_
        refine z_si cx (c_L_low (by omega)) rfl ms_L_low ml_L_58 dL_moves_352 (fun z352 G352 hz352 => ?_)
        obtain ⟨hq352, hl352, hu352, hG⟩ := hz352
        subst hG
        refine z_if_ne cx (tgt := 372) dL_moves_355 (fun h355 => ?_) (fun h355 => ?_)
        · skip
          refine z_iload cx dL_moves_372 rfl ?_
          refine z_iload_n cx dL_moves_374 rfl ?_
          refine z_iconst cx dL_moves_375 ?_
          refine z_ishr cx dL_moves_376 (fun z376 hs376 => ?_)
          refine z_bipush cx dL_moves_377 ?_
          refine z_si cx (c_L_low (by omega)) rfl ms_L_low ml_L_58 dL_moves_379 (fun z379 G379 hz379 => ?_)
          obtain ⟨hq379, hl379, hu379, hG⟩ := hz379
          subst hG
          refine z_iadd cx dL_moves_382 ?_
          refine Z.locs (L383 _ _ _ _ _ _ _ _ hM (by omega) hC) ⟨rfl, rfl, rfl, rfl, rfl, rfl, rfl, rfl, rfl, rfl, trivial⟩
        · skip
          refine z_iload_n cx dL_moves_358 rfl ?_
          refine z_iconst cx dL_moves_359 ?_
          refine z_ishr cx dL_moves_360 (fun z360 hs360 => ?_)
          refine z_sipush cx dL_moves_361 ?_
          refine z_si cx (c_L_low (by omega)) rfl ms_L_low ml_L_58 dL_moves_364 (fun z364 G364 hz364 => ?_)
          obtain ⟨hq364, hl364, hu364, hG⟩ := hz364
          subst hG
          refine z_iconst cx dL_moves_367 ?_
          refine z_isub cx dL_moves_368 ?_
          refine z_goto cx (tgt := 383) dL_moves_369 ?_
          refine Z.locs (L383 _ _ _ _ _ _ _ _ hM (by omega) hC) ⟨rfl, rfl, rfl, rfl, rfl, rfl, rfl, rfl, rfl, rfl, trivial⟩
    · skip
      refine z_iload_n cx dL_moves_110 rfl ?_
      refine z_iconst cx dL_moves_111 ?_
      refine z_ishr cx dL_moves_112 (fun z112 hs112 => ?_)
      refine z_iload_n cx dL_moves_113 rfl ?_
      refine z_bipush cx dL_moves_114 ?_
      refine z_ishr cx dL_moves_116 (fun z116 hs116 => ?_)
      refine z_iconst cx dL_moves_117 ?_
      refine z_si cx (c_L_low (by omega)) rfl ms_L_low ml_L_58 dL_moves_118 (fun z118 G118 hz118 => ?_)
      obtain ⟨hq118, hl118, hu118, hG⟩ := hz118
      subst hG
      refine z_if_ne cx (tgt := 130) dL_moves_121 (fun h121 => ?_) (fun h121 => ?_)
      · skip
        refine z_bipush cx dL_moves_130 ?_
        refine z_si cx (c_L_low (by omega)) rfl ms_L_low ml_L_58 dL_moves_132 (fun z132 G132 hz132 => ?_)
        obtain ⟨hq132, hl132, hu132, hG⟩ := hz132
        subst hG
        refine z_iload_n cx dL_moves_135 rfl ?_
        refine z_bipush cx dL_moves_136 ?_
        refine z_ishr cx dL_moves_138 (fun z138 hs138 => ?_)
        refine z_iconst cx dL_moves_139 ?_
        refine z_si cx (c_L_low (by omega)) rfl ms_L_low ml_L_58 dL_moves_140 (fun z140 G140 hz140 => ?_)
        obtain ⟨hq140, hl140, hu140, hG⟩ := hz140
        subst hG
        refine z_if_ne cx (tgt := 152) dL_moves_143 (fun h143 => ?_) (fun h143 => ?_)
        · skip
          refine z_bipush cx dL_moves_152 ?_
          refine z_isub cx dL_moves_154 ?_
          refine Z.locs (L155 _ _ _ _ _ _ _ _ hM (by omega) hC) ⟨rfl, rfl, rfl, rfl, rfl, rfl, rfl, rfl, rfl, rfl, trivial⟩
        · skip
          refine z_sipush cx dL_moves_146 ?_
          refine z_goto cx (tgt := 154) dL_moves_149 ?_
          refine z_isub cx dL_moves_154 ?_
          refine Z.locs (L155 _ _ _ _ _ _ _ _ hM (by omega) hC) ⟨rfl, rfl, rfl, rfl, rfl, rfl, rfl, rfl, rfl, rfl, trivial⟩
      · skip
        refine z_sipush cx dL_moves_124 ?_
        refine z_goto cx (tgt := 132) dL_moves_127 ?_
        refine z_si cx (c_L_low (by omega)) rfl ms_L_low ml_L_58 dL_moves_132 (fun z132 G132 hz132 => ?_)
        obtain ⟨hq132, hl132, hu132, hG⟩ := hz132
        subst hG
        refine z_iload_n cx dL_moves_135 rfl ?_
        refine z_bipush cx dL_moves_136 ?_
        refine z_ishr cx dL_moves_138 (fun z138 hs138 => ?_)
        refine z_iconst cx dL_moves_139 ?_
        refine z_si cx (c_L_low (by omega)) rfl ms_L_low ml_L_58 dL_moves_140 (fun z140 G140 hz140 => ?_)
        obtain ⟨hq140, hl140, hu140, hG⟩ := hz140
        subst hG
        refine z_if_ne cx (tgt := 152) dL_moves_143 (fun h143 => ?_) (fun h143 => ?_)
        · skip
          refine z_bipush cx dL_moves_152 ?_
          refine z_isub cx dL_moves_154 ?_
          refine Z.locs (L155 _ _ _ _ _ _ _ _ hM (by omega) hC) ⟨rfl, rfl, rfl, rfl, rfl, rfl, rfl, rfl, rfl, rfl, trivial⟩
        · skip
          refine z_sipush cx dL_moves_146 ?_
          refine z_goto cx (tgt := 154) dL_moves_149 ?_
          refine z_isub cx dL_moves_154 ?_
          refine Z.locs (L155 _ _ _ _ _ _ _ _ hM (by omega) hC) ⟨rfl, rfl, rfl, rfl, rfl, rfl, rfl, rfl, rfl, rfl, trivial⟩
  have L79 : ∀ (u no st en ln : Int) (G1 : Wd), (0 ≤ u ∧ u ≤ (A.1.2.2.length : Int)) → (((no = 1 ∧ u = (A.1.2.2.length : Int)) ∨ (no = 0 ∧ u < (A.1.2.2.length : Int)))) → (((no = 1 ∧ u = (A.1.2.2.length : Int) ∧ st = 0) ∨ (no = 0 ∧ u < (A.1.2.2.length : Int) ∧ st = (sb A u).1)) ∧ 0 ≤ st ∧ st ≤ 5000) → (((no = 1 ∧ u = (A.1.2.2.length : Int) ∧ en = 0) ∨ (no = 0 ∧ u < (A.1.2.2.length : Int) ∧ en = (sb A u).2.1)) ∧ 0 ≤ en ∧ en ≤ 5000) → (((no = 1 ∧ u = (A.1.2.2.length : Int) ∧ ln = 0) ∨ (no = 0 ∧ u < (A.1.2.2.length : Int) ∧ ln = ((sb A u).2.2.length : Int))) ∧ 0 ≤ ln ∧ ln ≤ 40) → (CRel G1 A) → Z p l e (zr 6 137) s m args below meth c 14 0 0 E (Qi_ E below args s (fun z G' => z = 1 ∧ ∃ B, CRel G' B ∧ AOk B ∧ Nx A B)) G1 79 [some (.ref (E.1 0)), some (.int (iN hw)), some (.int (iN y)), some (.int (iN (A.1.2.2.length : Int))), some (.int (iN u)), some (.int (iN no)), some (.int (iN st)), some (.int (iN en)), none, none, none, none, none, none] [.int (iN ln)] := by
    intro u no st en ln G1 hu hn0 hs1 he1 hl1 hC
    have hsbu : ∀ w : u < (A.1.2.2.length : Int), SbOk (sb A u) := fun w => sb_ok hA (by omega)
    refine z_istore cx dL_moves_79 ?_
    refine z_iload cx dL_moves_81 rfl ?_
    refine z_iconst cx dL_moves_83 ?_
    refine z_iadd cx dL_moves_84 ?_
    refine z_iload_n cx dL_moves_85 rfl ?_
    refine z_icmp_ge cx (tgt := 101) dL_moves_86 (fun h86 => ?_) (fun h86 => ?_)
    · skip
      have hnxs := nX_e (A := A) (u := u) hu.1 (by omega)
      refine z_sipush cx dL_moves_101 ?_
      refine z_istore cx dL_moves_104 ?_
      refine Z.locs (L106 _ _ _ _ _ _ _ ⟨⟨hu, hs1.2, he1.2, hl1.2, by omega⟩, (by omega), (by omega)⟩ hC) ⟨rfl, rfl, rfl, rfl, rfl, rfl, rfl, rfl, rfl, rfl, trivial⟩
    · skip
      have hnxs := nX_s (A := A) (u := u) hu.1 (by omega)
      obtain ⟨hh0, hh1, hh2, hh3⟩ := sb_ok hA (x := u + 1) (by omega)
      refine z_aload_n cx dL_moves_89 rfl ?_
      refine z_iload cx dL_moves_90 rfl ?_
      refine z_iconst cx dL_moves_92 ?_
      refine z_iadd cx dL_moves_93 ?_
      refine z_iconst cx dL_moves_94 ?_
      refine z_vi cx (c_X4_subtitle hC hA (by omega) (by omega)) rfl mv_X4_subtitle ml_L_29 (by omega) (co_main E _) rfl dL_moves_95 (fun z95 G95 hz95 => ?_)
      obtain ⟨hq, hC, -⟩ := hz95
      have hq := hq.trans (rs_0 (by omega))
      subst hq
      refine z_goto cx (tgt := 104) dL_moves_98 ?_
      refine z_istore cx dL_moves_104 ?_
      refine Z.locs (L106 _ _ _ _ _ _ _ ⟨⟨hu, hs1.2, he1.2, hl1.2, by omega⟩, (by omega), (by omega)⟩ hC) ⟨rfl, rfl, rfl, rfl, rfl, rfl, rfl, rfl, rfl, rfl, trivial⟩
  have L61 : ∀ (u no st en : Int) (G1 : Wd), (0 ≤ u ∧ u ≤ (A.1.2.2.length : Int)) → (((no = 1 ∧ u = (A.1.2.2.length : Int)) ∨ (no = 0 ∧ u < (A.1.2.2.length : Int)))) → (((no = 1 ∧ u = (A.1.2.2.length : Int) ∧ st = 0) ∨ (no = 0 ∧ u < (A.1.2.2.length : Int) ∧ st = (sb A u).1)) ∧ 0 ≤ st ∧ st ≤ 5000) → (((no = 1 ∧ u = (A.1.2.2.length : Int) ∧ en = 0) ∨ (no = 0 ∧ u < (A.1.2.2.length : Int) ∧ en = (sb A u).2.1)) ∧ 0 ≤ en ∧ en ≤ 5000) → (CRel G1 A) → Z p l e (zr 6 137) s m args below meth c 14 0 0 E (Qi_ E below args s (fun z G' => z = 1 ∧ ∃ B, CRel G' B ∧ AOk B ∧ Nx A B)) G1 61 [some (.ref (E.1 0)), some (.int (iN hw)), some (.int (iN y)), some (.int (iN (A.1.2.2.length : Int))), some (.int (iN u)), some (.int (iN no)), some (.int (iN st)), none, none, none, none, none, none, none] [.int (iN en)] := by
    intro u no st en G1 hu hn0 hs1 he1 hC
    have hsbu : ∀ w : u < (A.1.2.2.length : Int), SbOk (sb A u) := fun w => sb_ok hA (by omega)
    refine z_istore cx dL_moves_61 ?_
    refine z_iload cx dL_moves_63 rfl ?_
    refine z_if_eq cx (tgt := 72) dL_moves_65 (fun h65 => ?_) (fun h65 => ?_)
    · skip
      refine z_aload_n cx dL_moves_72 rfl ?_
      refine z_iload cx dL_moves_73 rfl ?_
      refine z_iconst cx dL_moves_75 ?_
      refine z_vi cx (c_X4_subtitle hC hA (by omega) (by omega)) rfl mv_X4_subtitle ml_L_29 (by omega) (co_main E _) rfl dL_moves_76 (fun z76 G76 hz76 => ?_)
      obtain ⟨hq, hC, -⟩ := hz76
      have hq := hq.trans (rs_2 (by omega))
      subst hq
      obtain ⟨hg0, hg1, hg2, hg3⟩ := hsbu (by omega)
      have hg4 := hg3.2.1
      refine Z.locs (L79 _ _ _ _ _ _ hu hn0 hs1 he1 (by omega) hC) ⟨rfl, rfl, rfl, rfl, rfl, rfl, rfl, rfl, trivial⟩
    · skip
      refine z_iconst cx dL_moves_68 ?_
      refine z_goto cx (tgt := 79) dL_moves_69 ?_
      refine Z.locs (L79 _ _ _ _ _ _ hu hn0 hs1 he1 (by omega) hC) ⟨rfl, rfl, rfl, rfl, rfl, rfl, rfl, rfl, trivial⟩
  have L43 : ∀ (u no st : Int) (G1 : Wd), (0 ≤ u ∧ u ≤ (A.1.2.2.length : Int)) → (((no = 1 ∧ u = (A.1.2.2.length : Int)) ∨ (no = 0 ∧ u < (A.1.2.2.length : Int)))) → (((no = 1 ∧ u = (A.1.2.2.length : Int) ∧ st = 0) ∨ (no = 0 ∧ u < (A.1.2.2.length : Int) ∧ st = (sb A u).1)) ∧ 0 ≤ st ∧ st ≤ 5000) → (CRel G1 A) → Z p l e (zr 6 137) s m args below meth c 14 0 0 E (Qi_ E below args s (fun z G' => z = 1 ∧ ∃ B, CRel G' B ∧ AOk B ∧ Nx A B)) G1 43 [some (.ref (E.1 0)), some (.int (iN hw)), some (.int (iN y)), some (.int (iN (A.1.2.2.length : Int))), some (.int (iN u)), some (.int (iN no)), none, none, none, none, none, none, none, none] [.int (iN st)] := by
    intro u no st G1 hu hn0 hs1 hC
    have hsbu : ∀ w : u < (A.1.2.2.length : Int), SbOk (sb A u) := fun w => sb_ok hA (by omega)
    refine z_istore cx dL_moves_43 ?_
    refine z_iload cx dL_moves_45 rfl ?_
    refine z_if_eq cx (tgt := 54) dL_moves_47 (fun h47 => ?_) (fun h47 => ?_)
    · skip
      refine z_aload_n cx dL_moves_54 rfl ?_
      refine z_iload cx dL_moves_55 rfl ?_
      refine z_iconst cx dL_moves_57 ?_
      refine z_vi cx (c_X4_subtitle hC hA (by omega) (by omega)) rfl mv_X4_subtitle ml_L_29 (by omega) (co_main E _) rfl dL_moves_58 (fun z58 G58 hz58 => ?_)
      obtain ⟨hq, hC, -⟩ := hz58
      have hq := hq.trans (rs_1 (by omega))
      subst hq
      obtain ⟨hg0, hg1, hg2, hg3⟩ := hsbu (by omega)
      have hg4 := hg3.2.1
      refine Z.locs (L61 _ _ _ _ _ hu hn0 hs1 (by omega) hC) ⟨rfl, rfl, rfl, rfl, rfl, rfl, rfl, trivial⟩
    · skip
      refine z_iconst cx dL_moves_50 ?_
      refine z_goto cx (tgt := 61) dL_moves_51 ?_
      refine Z.locs (L61 _ _ _ _ _ hu hn0 hs1 (by omega) hC) ⟨rfl, rfl, rfl, rfl, rfl, rfl, rfl, trivial⟩
  have L25 : ∀ (u no : Int) (G1 : Wd), (0 ≤ u ∧ u ≤ (A.1.2.2.length : Int)) → (((no = 1 ∧ u = (A.1.2.2.length : Int)) ∨ (no = 0 ∧ u < (A.1.2.2.length : Int)))) → (CRel G1 A) → Z p l e (zr 6 137) s m args below meth c 14 0 0 E (Qi_ E below args s (fun z G' => z = 1 ∧ ∃ B, CRel G' B ∧ AOk B ∧ Nx A B)) G1 25 [some (.ref (E.1 0)), some (.int (iN hw)), some (.int (iN y)), some (.int (iN (A.1.2.2.length : Int))), some (.int (iN u)), none, none, none, none, none, none, none, none, none] [.int (iN no)] := by
    intro u no G1 hu hn0 hC
    have hsbu : ∀ w : u < (A.1.2.2.length : Int), SbOk (sb A u) := fun w => sb_ok hA (by omega)
    refine z_istore cx dL_moves_25 ?_
    refine z_iload cx dL_moves_27 rfl ?_
    refine z_if_eq cx (tgt := 36) dL_moves_29 (fun h29 => ?_) (fun h29 => ?_)
    · skip
      refine z_aload_n cx dL_moves_36 rfl ?_
      refine z_iload cx dL_moves_37 rfl ?_
      refine z_iconst cx dL_moves_39 ?_
      refine z_vi cx (c_X4_subtitle hC hA (by omega) (by omega)) rfl mv_X4_subtitle ml_L_29 (by omega) (co_main E _) rfl dL_moves_40 (fun z40 G40 hz40 => ?_)
      obtain ⟨hq, hC, -⟩ := hz40
      have hq := hq.trans (rs_0 (by omega))
      subst hq
      obtain ⟨hg0, hg1, hg2, hg3⟩ := hsbu (by omega)
      have hg4 := hg3.2.1
      refine Z.locs (L43 _ _ _ _ hu hn0 (by omega) hC) ⟨rfl, rfl, rfl, rfl, rfl, rfl, trivial⟩
    · skip
      refine z_iconst cx dL_moves_32 ?_
      refine z_goto cx (tgt := 43) dL_moves_33 ?_
      refine Z.locs (L43 _ _ _ _ hu hn0 (by omega) hC) ⟨rfl, rfl, rfl, rfl, rfl, rfl, trivial⟩
  refine z_aload_n cx dL_moves_0 rfl ?_
  refine z_vi cx (c_X4_subtitles hC hA) rfl mv_X4_subtitles ml_L_26 (by omega) (co_main E _) rfl dL_moves_1 (fun z1 G1 hz1 => ?_)
  obtain ⟨hq, hC, -⟩ := hz1
  subst hq
  refine z_istore_n cx dL_moves_4 ?_
  refine z_iload_n cx dL_moves_5 rfl ?_
  refine z_iload_n cx dL_moves_6 rfl ?_
  refine z_iconst cx dL_moves_7 ?_
  refine z_iadd cx dL_moves_8 ?_
  refine z_si cx (c_L_low (by omega)) rfl ms_L_low ml_L_58 dL_moves_9 (fun z9 G9 hz9 => ?_)
  obtain ⟨hq9, hl9, hu9, hG⟩ := hz9
  subst hG
  refine z_istore cx dL_moves_12 ?_
  refine z_iload cx dL_moves_14 rfl ?_
  refine z_iload_n cx dL_moves_16 rfl ?_
  refine z_icmp_ne cx (tgt := 24) dL_moves_17 (fun h17 => ?_) (fun h17 => ?_)
  · skip
    refine z_iconst cx dL_moves_24 ?_
    refine Z.locs (L25 _ _ _ (by omega) (by omega) hC) ⟨rfl, rfl, rfl, rfl, rfl, trivial⟩
  · skip
    refine z_iconst cx dL_moves_20 ?_
    refine z_goto cx (tgt := 25) dL_moves_21 ?_
    refine Z.locs (L25 _ _ _ (by omega) (by omega) hC) ⟨rfl, rfl, rfl, rfl, rfl, trivial⟩
