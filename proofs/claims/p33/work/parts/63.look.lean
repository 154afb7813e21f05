/-! ===== the law's small methods ===== -/
theorem rk_nat {A : Ast} {i : Nat} (h : i < A.1.2.1.length) : r_cutAt A (i : Int) = A.1.2.1.getD i 0 := by
  rw [rk_in (by omega), Int.toNat_natCast]
theorem rs_k3 {A : Ast} {n k : Nat} (h : n < A.1.2.2.length) (hk : k < 3) : r_subtitle A (n : Int) (k : Int) = (fun i : Nat => if i = 0 then (sb A (n : Int)).1 else if i = 1 then (sb A (n : Int)).2.1 else ((sb A (n : Int)).2.2.length : Int)) k := by
  rcases (show k = 0 ∨ k = 1 ∨ k = 2 by omega) with rfl | rfl | rfl
  · exact rs_0 (by omega)
  · exact rs_1 (by omega)
  · exact rs_2 (by omega)
theorem rc_nat {A : Ast} {x : Int} {j : Nat} (h : 0 ≤ x ∧ x < (A.1.2.2.length : Int)) (hj : j < (sb A x).2.2.length) : r_character A x (j : Int) = (sb A x).2.2.getD j 0 := by
  rw [rc_in h (by omega), Int.toNat_natCast]
theorem rl_nat {A : Ast} {x : Int} {j : Nat} (h : 0 ≤ x ∧ x < (A.1.2.2.length : Int)) (hj : j < (lns (sb A x).2.2 (A.1.1 4)).length) : r_line A x (j : Int) = (lns (sb A x).2.2 (A.1.1 4)).getD j 0 := by
  rw [rl_in h (by omega), Int.toNat_natCast]
theorem c_L_low {E : En} {G : Wd} {v n : Int} (hn : 0 < n ∧ n < 2147483648) : Cti E yL_low cL_low 2 .int 0 0 [.int (iN v), .int (iN n)] G (fun z G' => z = lowV v n ∧ 0 ≤ z ∧ z < n ∧ G' = G) := by
  refine Cti.mk [some (.int (iN v)), some (.int (iN n))] (by decide) rfl (by intro v hv; simp only [List.mem_cons, List.not_mem_nil, or_false] at hv; rcases hv with rfl | rfl <;> rfl) (Nat.le_of_ble_eq_true rfl) ?_
  intro p l e s m args below meth c cx
  have hv : 0 ≤ v % 2147483648 ∧ v % 2147483648 < 2147483648 := ⟨Int.emod_nonneg _ (by decide), Int.emod_lt_of_pos _ (by decide)⟩
  refine z_iload_n cx dL_low_0 rfl ?_
  refine z_ldc cx ct_L_8 dL_low_1 ?_
  refine z_and32 cx dL_low_3 ?_
  rw [iN_and31]
  refine z_iload_n cx dL_low_4 rfl ?_
  refine z_irem cx dL_low_5 ?_
  have e : v % 2147483648 - v % 2147483648 / n * n = lowV v n := by
    unfold lowV
    rw [Int.emod_def (v % 2147483648) n, Int.mul_comm]
  rw [e]
  have hb := lowV_b (v := v) (n := n) hn.1
  exact z_iret cx dL_low_6 ⟨rfl, hb.1, hb.2, rfl⟩
set_option maxRecDepth 100000 in
set_option maxHeartbeats 4000000 in
theorem c_L_look {E : En} {G : Wd} {A : Ast} (hC : CRel G A) (hA : AOk A) : Ctl E yL_look cL_look 5 5 118 [.ref (E.1 0)] G (fun z G' => z = dgF A.1 ∧ CRel G' A) := by
  obtain ⟨hv0, hv1, hv2, hv3, hv4, hv5a, hv5b⟩ := id hA.1.1
  have hcl := hA.1.2.1.1
  have hsl := hA.1.2.2.1
  refine Ctl.mk [some (.ref (E.1 0)), none, none, none, none] (by decide) rfl (by intro v hv; simp only [List.mem_cons, List.not_mem_nil, or_false] at hv; subst hv; rfl) (Nat.le_of_ble_eq_true rfl) ?_
  intro p l e s m args below meth c cx
  have L62 : ∀ (n : Nat) (u : Nat) (G1 : Wd), (A.1.2.2.length - u) < n → (u ≤ A.1.2.2.length) → (CRel G1 A) → Z p l e (zr 5 118) s m args below meth c 5 0 0 E (Ql_ E below args s (fun z G' => z = dgF A.1 ∧ CRel G' A)) G1 62 [some (.ref (E.1 0)), some (.long (dgL A.1.2.2 u (dgs (fun i => A.1.2.1.getD i 0) A.1.2.1.length (dgs A.1.1 6 461)))), none, some (.int (iN (u : Int))), none] [] := by
    intro n
    induction n with
    | zero =>
      intro u G1 hmu
      exact absurd hmu (Nat.not_lt_zero _)
    | succ n ih62 =>
      intro u G1 hmu hn hC
      have L103 : ∀ (n : Nat) (k : Nat) (G1 : Wd), ((sb A (u : Int)).2.2.length - k) < n → (k ≤ (sb A (u : Int)).2.2.length) → (u < A.1.2.2.length) → (CRel G1 A) → Z p l e (zr 5 118) s m args below meth c 5 0 0 E (Ql_ E below args s (fun z G' => z = dgF A.1 ∧ CRel G' A)) G1 103 [some (.ref (E.1 0)), some (.long (dgs (fun j => (sb A (u : Int)).2.2.getD j 0) k (dgs (fun i => if i = 0 then (sb A (u : Int)).1 else if i = 1 then (sb A (u : Int)).2.1 else ((sb A (u : Int)).2.2.length : Int)) 3 (dgL A.1.2.2 u (dgs (fun i => A.1.2.1.getD i 0) A.1.2.1.length (dgs A.1.1 6 461)))))), none, some (.int (iN (u : Int))), some (.int (iN (k : Int)))] [] := by
        intro n
        induction n with
        | zero =>
          intro k G1 hmu
          exact absurd hmu (Nat.not_lt_zero _)
        | succ n ih103 =>
          intro k G1 hmu hk hn2 hC
          have hS := sb_ok hA (x := (u : Int)) (by omega)
          have h40 := hS.2.2.2.2.1
          refine z_iload cx dL_look_103 rfl ?_
          refine z_aload_n cx dL_look_105 rfl ?_
          refine z_iload_n cx dL_look_106 rfl ?_
          refine z_iconst cx dL_look_107 ?_
          refine z_vi cx (c_X4_subtitle hC hA (by omega) (by omega)) rfl mv_X4_subtitle ml_L_29 (by omega) (co_main E _) rfl dL_look_108 (fun z108 G108 hz108 => ?_)
          obtain ⟨hq, hC, -⟩ := hz108
          have hq := hq.trans (rs_2 (by omega))
          subst hq
          refine z_icmp_ge cx (tgt := 135) dL_look_111 (fun h111 => ?_) (fun h111 => ?_)
          · skip
            obtain rfl : k = (sb A (u : Int)).2.2.length := by omega
            refine z_iinc cx dL_look_135 rfl ?_
            refine z_goto cx (tgt := 62) dL_look_138 ?_
            refine Z.locs (ih62 (u + 1) _ (by omega) (by omega) hC) ⟨rfl, rfl, rfl, trivial⟩
          · skip
            refine z_ldc2 cx ct_L_11 dL_look_114 ?_
            refine z_lload_n cx dL_look_117 rfl ?_
            refine z_lmul cx dL_look_118 ?_
            refine z_aload_n cx dL_look_119 rfl ?_
            refine z_iload_n cx dL_look_120 rfl ?_
            refine z_iload cx dL_look_121 rfl ?_
            refine z_vi cx (c_X4_character hC hA (by omega) (by omega)) rfl mv_X4_character ml_L_33 (by omega) (co_main E _) rfl dL_look_123 (fun z123 G123 hz123 => ?_)
            obtain ⟨hq, hC, -⟩ := hz123
            have hq := hq.trans (rc_nat (by omega) (by omega))
            subst hq
            refine z_i2l cx dL_look_126 ?_
            refine z_ladd cx dL_look_127 ?_
            refine z_lstore_n cx dL_look_128 ?_
            refine z_iinc cx dL_look_129 rfl ?_
            refine z_goto cx (tgt := 103) dL_look_132 ?_
            refine Z.locs (ih103 (k + 1) _ (by omega) (by omega) (by omega) hC) ⟨rfl, rfl, rfl, rfl, trivial⟩
      have L73 : ∀ (n : Nat) (k : Nat) (G1 : Wd), (3 - k) < n → (k ≤ 3) → (u < A.1.2.2.length) → (CRel G1 A) → Z p l e (zr 5 118) s m args below meth c 5 0 0 E (Ql_ E below args s (fun z G' => z = dgF A.1 ∧ CRel G' A)) G1 73 [some (.ref (E.1 0)), some (.long (dgs (fun i => if i = 0 then (sb A (u : Int)).1 else if i = 1 then (sb A (u : Int)).2.1 else ((sb A (u : Int)).2.2.length : Int)) k (dgL A.1.2.2 u (dgs (fun i => A.1.2.1.getD i 0) A.1.2.1.length (dgs A.1.1 6 461))))), none, some (.int (iN (u : Int))), some (.int (iN (k : Int)))] [] := by
        intro n
        induction n with
        | zero =>
          intro k G1 hmu
          exact absurd hmu (Nat.not_lt_zero _)
        | succ n ih73 =>
          intro k G1 hmu hk hn2 hC
          refine z_iload cx dL_look_73 rfl ?_
          refine z_iconst cx dL_look_75 ?_
          refine z_icmp_ge cx (tgt := 100) dL_look_76 (fun h76 => ?_) (fun h76 => ?_)
          · skip
            obtain rfl : k = 3 := by omega
            refine z_iconst cx dL_look_100 ?_
            refine z_istore cx dL_look_101 ?_
            refine Z.locs (L103 _ (0) _ (Nat.lt_succ_self _) (by omega) (by omega) hC) ⟨rfl, rfl, rfl, rfl, trivial⟩
          · skip
            refine z_ldc2 cx ct_L_11 dL_look_79 ?_
            refine z_lload_n cx dL_look_82 rfl ?_
            refine z_lmul cx dL_look_83 ?_
            refine z_aload_n cx dL_look_84 rfl ?_
            refine z_iload_n cx dL_look_85 rfl ?_
            refine z_iload cx dL_look_86 rfl ?_
            refine z_vi cx (c_X4_subtitle hC hA (by omega) (by omega)) rfl mv_X4_subtitle ml_L_29 (by omega) (co_main E _) rfl dL_look_88 (fun z88 G88 hz88 => ?_)
            obtain ⟨hq, hC, -⟩ := hz88
            have hq := hq.trans (rs_k3 (by omega) (by omega))
            subst hq
            refine z_i2l cx dL_look_91 ?_
            refine z_ladd cx dL_look_92 ?_
            refine z_lstore_n cx dL_look_93 ?_
            refine z_iinc cx dL_look_94 rfl ?_
            refine z_goto cx (tgt := 73) dL_look_97 ?_
            refine Z.locs (ih73 (k + 1) _ (by omega) (by omega) (by omega) hC) ⟨rfl, rfl, rfl, rfl, trivial⟩
      refine z_iload_n cx dL_look_62 rfl ?_
      refine z_aload_n cx dL_look_63 rfl ?_
      refine z_vi cx (c_X4_subtitles hC hA) rfl mv_X4_subtitles ml_L_26 (by omega) (co_main E _) rfl dL_look_64 (fun z64 G64 hz64 => ?_)
      obtain ⟨hq, hC, -⟩ := hz64
      subst hq
      refine z_icmp_ge cx (tgt := 141) dL_look_67 (fun h67 => ?_) (fun h67 => ?_)
      · skip
        obtain rfl : u = A.1.2.2.length := by omega
        refine z_lload_n cx dL_look_141 rfl ?_
        refine z_lret cx dL_look_142 ?_
        exact ⟨rfl, hC⟩
      · skip
        refine z_iconst cx dL_look_70 ?_
        refine z_istore cx dL_look_71 ?_
        refine Z.locs (L73 _ (0) _ (Nat.lt_succ_self _) (by omega) (by omega) hC) ⟨rfl, rfl, rfl, rfl, trivial⟩
  have L33 : ∀ (n : Nat) (k : Nat) (G1 : Wd), (A.1.2.1.length - k) < n → (k ≤ A.1.2.1.length) → (CRel G1 A) → Z p l e (zr 5 118) s m args below meth c 5 0 0 E (Ql_ E below args s (fun z G' => z = dgF A.1 ∧ CRel G' A)) G1 33 [some (.ref (E.1 0)), some (.long (dgs (fun i => A.1.2.1.getD i 0) k (dgs A.1.1 6 461))), none, some (.int (iN (k : Int))), none] [] := by
    intro n
    induction n with
    | zero =>
      intro k G1 hmu
      exact absurd hmu (Nat.not_lt_zero _)
    | succ n ih33 =>
      intro k G1 hmu hk hC
      refine z_iload_n cx dL_look_33 rfl ?_
      refine z_aload_n cx dL_look_34 rfl ?_
      refine z_vi cx (c_X4_cuts hC hA) rfl mv_X4_cuts ml_L_19 (by omega) (co_main E _) rfl dL_look_35 (fun z35 G35 hz35 => ?_)
      obtain ⟨hq, hC, -⟩ := hz35
      subst hq
      refine z_icmp_ge cx (tgt := 60) dL_look_38 (fun h38 => ?_) (fun h38 => ?_)
      · skip
        obtain rfl : k = A.1.2.1.length := by omega
        refine z_iconst cx dL_look_60 ?_
        refine z_istore_n cx dL_look_61 ?_
        refine Z.locs (L62 _ (0) _ (Nat.lt_succ_self _) (by omega) hC) ⟨rfl, rfl, rfl, trivial⟩
      · skip
        refine z_ldc2 cx ct_L_11 dL_look_41 ?_
        refine z_lload_n cx dL_look_44 rfl ?_
        refine z_lmul cx dL_look_45 ?_
        refine z_aload_n cx dL_look_46 rfl ?_
        refine z_iload_n cx dL_look_47 rfl ?_
        refine z_vi cx (c_X4_cutAt hC hA (by omega)) rfl mv_X4_cutAt ml_L_23 (by omega) (co_main E _) rfl dL_look_48 (fun z48 G48 hz48 => ?_)
        obtain ⟨hq, hC, -⟩ := hz48
        have hq := hq.trans (rk_nat (by omega))
        subst hq
        refine z_i2l cx dL_look_51 ?_
        refine z_ladd cx dL_look_52 ?_
        refine z_lstore_n cx dL_look_53 ?_
        refine z_iinc cx dL_look_54 rfl ?_
        refine z_goto cx (tgt := 33) dL_look_57 ?_
        refine Z.locs (ih33 (k + 1) _ (by omega) (by omega) hC) ⟨rfl, rfl, rfl, trivial⟩
  have L6 : ∀ (n : Nat) (k : Nat) (G1 : Wd), (6 - k) < n → (k ≤ 6) → (CRel G1 A) → Z p l e (zr 5 118) s m args below meth c 5 0 0 E (Ql_ E below args s (fun z G' => z = dgF A.1 ∧ CRel G' A)) G1 6 [some (.ref (E.1 0)), some (.long (dgs A.1.1 k 461)), none, some (.int (iN (k : Int))), none] [] := by
    intro n
    induction n with
    | zero =>
      intro k G1 hmu
      exact absurd hmu (Nat.not_lt_zero _)
    | succ n ih6 =>
      intro k G1 hmu hk hC
      refine z_iload_n cx dL_look_6 rfl ?_
      refine z_bipush cx dL_look_7 ?_
      refine z_icmp_ge cx (tgt := 31) dL_look_9 (fun h9 => ?_) (fun h9 => ?_)
      · skip
        obtain rfl : k = 6 := by omega
        refine z_iconst cx dL_look_31 ?_
        refine z_istore_n cx dL_look_32 ?_
        refine Z.locs (L33 _ (0) _ (Nat.lt_succ_self _) (by omega) hC) ⟨rfl, rfl, rfl, trivial⟩
      · skip
        refine z_ldc2 cx ct_L_11 dL_look_12 ?_
        refine z_lload_n cx dL_look_15 rfl ?_
        refine z_lmul cx dL_look_16 ?_
        refine z_aload_n cx dL_look_17 rfl ?_
        refine z_iload_n cx dL_look_18 rfl ?_
        refine z_vi cx (c_X4_setting hC hA (by omega)) rfl mv_X4_setting ml_L_13 (by omega) (co_main E _) rfl dL_look_19 (fun z19 G19 hz19 => ?_)
        obtain ⟨hq, hC, -⟩ := hz19
        have hq := hq.trans (rv_in k rfl (by omega))
        subst hq
        refine z_i2l cx dL_look_22 ?_
        refine z_ladd cx dL_look_23 ?_
        refine z_lstore_n cx dL_look_24 ?_
        refine z_iinc cx dL_look_25 rfl ?_
        refine z_goto cx (tgt := 6) dL_look_28 ?_
        refine Z.locs (ih6 (k + 1) _ (by omega) (by omega) hC) ⟨rfl, rfl, rfl, trivial⟩
  refine z_ldc2 cx ct_L_9 dL_look_0 ?_
  refine z_lstore_n cx dL_look_3 ?_
  refine z_iconst cx dL_look_4 ?_
  refine z_istore_n cx dL_look_5 ?_
  refine Z.locs (L6 _ (0) _ (Nat.lt_succ_self _) (by omega) hC) ⟨rfl, rfl, rfl, trivial⟩
set_option maxRecDepth 100000 in
set_option maxHeartbeats 4000000 in
theorem c_L_faults {E : En} {G : Wd} {A : Ast} (hC : CRel G A) (hA : AOk A) {x : Int} (hx : 0 ≤ x ∧ x < (A.1.2.2.length : Int)) : Cti E yL_faults cL_faults 9 .int 5 118 [.ref (E.1 0), .int (iN x)] G (fun z G' => z = flt A.1 x.toNat ∧ CRel G' A) := by
  obtain ⟨hv0, hv1, hv2, hv3, hv4, hv5a, hv5b⟩ := id hA.1.1
  have hcl := hA.1.2.1.1
  have hsl := hA.1.2.2.1
  have hS := sb_ok hA hx
  obtain ⟨hs0, hs1, hs2, hst⟩ := id hS
  have h40 := hst.2.1
  have hln := lns_len (A.1.1 4) h40
  have hnb : ∀ h : x + 1 < (A.1.2.2.length : Int), SbOk (sb A (x + 1)) := fun h => sb_ok hA (by omega)
  have htn : (x + 1).toNat = x.toNat + 1 := by omega
  have hm0 : 0 ≤ A.1.1 0 * ((sb A x).2.1 - (sb A x).1) ∧ A.1.1 0 * ((sb A x).2.1 - (sb A x).1) ≤ 40 * 5000 := ⟨Int.mul_nonneg (by omega) (by omega), Int.mul_le_mul (by omega) (by omega) (by omega) (by omega)⟩
  refine Cti.mk [some (.ref (E.1 0)), some (.int (iN x)), none, none, none, none, none, none, none] (by decide) rfl (by intro v hv; simp only [List.mem_cons, List.not_mem_nil, or_false] at hv; rcases hv with rfl | rfl <;> rfl) (Nat.le_of_ble_eq_true rfl) ?_
  intro p l e s m args below meth c cx
  have L273 : ∀ (w5 w6 : Int) (v1 v2 v3 v4 v5 v6 : Int) (G1 : Wd), (w5 = bit (wide (A.1.1 4) (sb A x).2.2) 1) → (w6 = bit (nearC A.1 (sb A x)) 1) → (v1 = bit (fast (sb A x) (A.1.1 0)) 1) → (v2 = bit ((sb A x).2.1 - (sb A x).1 < A.1.1 2) 2) → (v3 = bit ((sb A x).2.1 - (sb A x).1 > A.1.1 3) 4) → (v4 = bit (x.toNat + 1 < A.1.2.2.length ∧ (A.1.2.2.getD (x.toNat + 1) dS).1 - (A.1.2.2.getD x.toNat dS).2.1 < A.1.1 1) 8) → (v5 = bit (nearC A.1 (sb A x)) 16) → (v6 = bit (wide (A.1.1 4) (sb A x).2.2) 32) → (CRel G1 A) → Z p l e (zr 5 118) s m args below meth c 9 0 0 E (Qi_ E below args s (fun z G' => z = flt A.1 x.toNat ∧ CRel G' A)) G1 273 [some (.ref (E.1 0)), some (.int (iN x)), some (.int (iN (sb A x).1)), some (.int (iN (sb A x).2.1)), some (.int (iN ((lns (sb A x).2.2 (A.1.1 4)).length : Int))), some (.int (iN w5)), some (.int (iN w6)), none, none] [.int (iN v6), .int (iN (v1 + v2 + v3 + v4 + v5))] := by
    intro w5 w6 v1 v2 v3 v4 v5 v6 G1 hwx hnx h1 h2 h3 h4 h5 h6 hC
    refine z_iadd cx dL_faults_273 ?_
    refine z_iret cx dL_faults_274 ?_
    exact ⟨by rw [h1, h2, h3, h4, h5, h6]; rfl, hC⟩
  have L261 : ∀ (w5 w6 : Int) (v1 v2 v3 v4 v5 : Int) (G1 : Wd), (w5 = bit (wide (A.1.1 4) (sb A x).2.2) 1) → (w6 = bit (nearC A.1 (sb A x)) 1) → (v1 = bit (fast (sb A x) (A.1.1 0)) 1) → (v2 = bit ((sb A x).2.1 - (sb A x).1 < A.1.1 2) 2) → (v3 = bit ((sb A x).2.1 - (sb A x).1 > A.1.1 3) 4) → (v4 = bit (x.toNat + 1 < A.1.2.2.length ∧ (A.1.2.2.getD (x.toNat + 1) dS).1 - (A.1.2.2.getD x.toNat dS).2.1 < A.1.1 1) 8) → (v5 = bit (nearC A.1 (sb A x)) 16) → (CRel G1 A) → Z p l e (zr 5 118) s m args below meth c 9 0 0 E (Qi_ E below args s (fun z G' => z = flt A.1 x.toNat ∧ CRel G' A)) G1 261 [some (.ref (E.1 0)), some (.int (iN x)), some (.int (iN (sb A x).1)), some (.int (iN (sb A x).2.1)), some (.int (iN ((lns (sb A x).2.2 (A.1.1 4)).length : Int))), some (.int (iN w5)), some (.int (iN w6)), none, none] [.int (iN v5), .int (iN (v1 + v2 + v3 + v4))] := by
    intro w5 w6 v1 v2 v3 v4 v5 G1 hwx hnx h1 h2 h3 h4 h5 hC
    refine z_iadd cx dL_faults_261 ?_
    have hw01 := bit_01 (wide (A.1.1 4) (sb A x).2.2)
    rw [← hwx] at hw01
    refine z_iload cx dL_faults_262 rfl ?_
    refine z_if_eq cx (tgt := 272) dL_faults_264 (fun h264 => ?_) (fun h264 => ?_)
    · skip
      refine z_iconst cx dL_faults_272 ?_
      refine Z.locs (L273 _ _ _ _ _ _ _ _ _ hwx hnx h1 h2 h3 h4 h5 (by first | exact (bit_mul _ 32 _ hwx).1 h264 | exact (bit_mul _ 32 _ hwx).2 h264) hC) ⟨rfl, rfl, rfl, rfl, rfl, rfl, rfl, trivial⟩
    · skip
      refine z_bipush cx dL_faults_267 ?_
      refine z_goto cx (tgt := 273) dL_faults_269 ?_
      refine Z.locs (L273 _ _ _ _ _ _ _ _ _ hwx hnx h1 h2 h3 h4 h5 (by first | exact (bit_mul _ 32 _ hwx).1 h264 | exact (bit_mul _ 32 _ hwx).2 h264) hC) ⟨rfl, rfl, rfl, rfl, rfl, rfl, rfl, trivial⟩
  have L249 : ∀ (w5 w6 : Int) (v1 v2 v3 v4 : Int) (G1 : Wd), (w5 = bit (wide (A.1.1 4) (sb A x).2.2) 1) → (w6 = bit (nearC A.1 (sb A x)) 1) → (v1 = bit (fast (sb A x) (A.1.1 0)) 1) → (v2 = bit ((sb A x).2.1 - (sb A x).1 < A.1.1 2) 2) → (v3 = bit ((sb A x).2.1 - (sb A x).1 > A.1.1 3) 4) → (v4 = bit (x.toNat + 1 < A.1.2.2.length ∧ (A.1.2.2.getD (x.toNat + 1) dS).1 - (A.1.2.2.getD x.toNat dS).2.1 < A.1.1 1) 8) → (CRel G1 A) → Z p l e (zr 5 118) s m args below meth c 9 0 0 E (Qi_ E below args s (fun z G' => z = flt A.1 x.toNat ∧ CRel G' A)) G1 249 [some (.ref (E.1 0)), some (.int (iN x)), some (.int (iN (sb A x).1)), some (.int (iN (sb A x).2.1)), some (.int (iN ((lns (sb A x).2.2 (A.1.1 4)).length : Int))), some (.int (iN w5)), some (.int (iN w6)), none, none] [.int (iN v4), .int (iN (v1 + v2 + v3))] := by
    intro w5 w6 v1 v2 v3 v4 G1 hwx hnx h1 h2 h3 h4 hC
    refine z_iadd cx dL_faults_249 ?_
    have hw01 := bit_01 (nearC A.1 (sb A x))
    rw [← hnx] at hw01
    refine z_iload cx dL_faults_250 rfl ?_
    refine z_if_eq cx (tgt := 260) dL_faults_252 (fun h252 => ?_) (fun h252 => ?_)
    · skip
      refine z_iconst cx dL_faults_260 ?_
      refine Z.locs (L261 _ _ _ _ _ _ _ _ hwx hnx h1 h2 h3 h4 (by first | exact (bit_mul _ 16 _ hnx).1 h252 | exact (bit_mul _ 16 _ hnx).2 h252) hC) ⟨rfl, rfl, rfl, rfl, rfl, rfl, rfl, trivial⟩
    · skip
      refine z_bipush cx dL_faults_255 ?_
      refine z_goto cx (tgt := 261) dL_faults_257 ?_
      refine Z.locs (L261 _ _ _ _ _ _ _ _ hwx hnx h1 h2 h3 h4 (by first | exact (bit_mul _ 16 _ hnx).1 h252 | exact (bit_mul _ 16 _ hnx).2 h252) hC) ⟨rfl, rfl, rfl, rfl, rfl, rfl, rfl, trivial⟩
  have L214 : ∀ (w5 w6 : Int) (v1 v2 v3 : Int) (G1 : Wd), (w5 = bit (wide (A.1.1 4) (sb A x).2.2) 1) → (w6 = bit (nearC A.1 (sb A x)) 1) → (v1 = bit (fast (sb A x) (A.1.1 0)) 1) → (v2 = bit ((sb A x).2.1 - (sb A x).1 < A.1.1 2) 2) → (v3 = bit ((sb A x).2.1 - (sb A x).1 > A.1.1 3) 4) → (CRel G1 A) → Z p l e (zr 5 118) s m args below meth c 9 0 0 E (Qi_ E below args s (fun z G' => z = flt A.1 x.toNat ∧ CRel G' A)) G1 214 [some (.ref (E.1 0)), some (.int (iN x)), some (.int (iN (sb A x).1)), some (.int (iN (sb A x).2.1)), some (.int (iN ((lns (sb A x).2.2 (A.1.1 4)).length : Int))), some (.int (iN w5)), some (.int (iN w6)), none, none] [.int (iN v3), .int (iN (v1 + v2))] := by
    intro w5 w6 v1 v2 v3 G1 hwx hnx h1 h2 h3 hC
    have hb1 := bit_b (p := fast (sb A x) (A.1.1 0)) (v := 1) (by omega)
    rw [← h1] at hb1
    refine z_iadd cx dL_faults_214 ?_
    refine z_iload_n cx dL_faults_215 rfl ?_
    refine z_iconst cx dL_faults_216 ?_
    refine z_iadd cx dL_faults_217 ?_
    refine z_aload_n cx dL_faults_218 rfl ?_
    refine z_vi cx (c_X4_subtitles hC hA) rfl mv_X4_subtitles ml_L_26 (by omega) (co_main E _) rfl dL_faults_219 (fun z219 G219 hz219 => ?_)
    obtain ⟨hq, hC, -⟩ := hz219
    subst hq
    refine z_icmp_ge cx (tgt := 248) dL_faults_222 (fun h222 => ?_) (fun h222 => ?_)
    · skip
      refine z_iconst cx dL_faults_248 ?_
      refine Z.locs (L249 _ _ _ _ _ _ _ hwx hnx h1 h2 h3 (by first | exact (bit_f (fun w : _ ∧ _ => by have w1 := w.1; omega)).symm | exact (bit_t ⟨by omega, by unfold sb at h240; rw [htn] at h240; exact h240⟩).symm | exact (bit_f (fun w : _ ∧ _ => by have w2 := w.2; unfold sb at h240; rw [htn] at h240; omega)).symm) hC) ⟨rfl, rfl, rfl, rfl, rfl, rfl, rfl, trivial⟩
    · skip
      refine z_aload_n cx dL_faults_225 rfl ?_
      refine z_iload_n cx dL_faults_226 rfl ?_
      refine z_iconst cx dL_faults_227 ?_
      refine z_iadd cx dL_faults_228 ?_
      refine z_iconst cx dL_faults_229 ?_
      refine z_vi cx (c_X4_subtitle hC hA (by omega) (by omega)) rfl mv_X4_subtitle ml_L_29 (by omega) (co_main E _) rfl dL_faults_230 (fun z230 G230 hz230 => ?_)
      obtain ⟨hq, hC, -⟩ := hz230
      have hq := hq.trans (rs_0 (by omega))
      subst hq
      have hnb2 := hnb (by omega)
      have hnb3 := hnb2.1
      have hnb4 := hnb2.2.1
      have hnb5 := hnb2.2.2.1
      refine z_iload_n cx dL_faults_233 rfl ?_
      refine z_isub cx dL_faults_234 ?_
      refine z_aload_n cx dL_faults_235 rfl ?_
      refine z_iconst cx dL_faults_236 ?_
      refine z_vi cx (c_X4_setting hC hA (by omega)) rfl mv_X4_setting ml_L_13 (by omega) (co_main E _) rfl dL_faults_237 (fun z237 G237 hz237 => ?_)
      obtain ⟨hq, hC, -⟩ := hz237
      have hq := hq.trans (rv_in 1 rfl (by omega))
      subst hq
      refine z_icmp_ge cx (tgt := 248) dL_faults_240 (fun h240 => ?_) (fun h240 => ?_)
      · skip
        refine z_iconst cx dL_faults_248 ?_
        refine Z.locs (L249 _ _ _ _ _ _ _ hwx hnx h1 h2 h3 (by first | exact (bit_f (fun w : _ ∧ _ => by have w1 := w.1; omega)).symm | exact (bit_t ⟨by omega, by unfold sb at h240; rw [htn] at h240; exact h240⟩).symm | exact (bit_f (fun w : _ ∧ _ => by have w2 := w.2; unfold sb at h240; rw [htn] at h240; omega)).symm) hC) ⟨rfl, rfl, rfl, rfl, rfl, rfl, rfl, trivial⟩
      · skip
        refine z_bipush cx dL_faults_243 ?_
        refine z_goto cx (tgt := 249) dL_faults_245 ?_
        refine Z.locs (L249 _ _ _ _ _ _ _ hwx hnx h1 h2 h3 (by first | exact (bit_f (fun w : _ ∧ _ => by have w1 := w.1; omega)).symm | exact (bit_t ⟨by omega, by unfold sb at h240; rw [htn] at h240; exact h240⟩).symm | exact (bit_f (fun w : _ ∧ _ => by have w2 := w.2; unfold sb at h240; rw [htn] at h240; omega)).symm) hC) ⟨rfl, rfl, rfl, rfl, rfl, rfl, rfl, trivial⟩
  have L197 : ∀ (w5 w6 : Int) (v1 v2 : Int) (G1 : Wd), (w5 = bit (wide (A.1.1 4) (sb A x).2.2) 1) → (w6 = bit (nearC A.1 (sb A x)) 1) → (v1 = bit (fast (sb A x) (A.1.1 0)) 1) → (v2 = bit ((sb A x).2.1 - (sb A x).1 < A.1.1 2) 2) → (CRel G1 A) → Z p l e (zr 5 118) s m args below meth c 9 0 0 E (Qi_ E below args s (fun z G' => z = flt A.1 x.toNat ∧ CRel G' A)) G1 197 [some (.ref (E.1 0)), some (.int (iN x)), some (.int (iN (sb A x).1)), some (.int (iN (sb A x).2.1)), some (.int (iN ((lns (sb A x).2.2 (A.1.1 4)).length : Int))), some (.int (iN w5)), some (.int (iN w6)), none, none] [.int (iN v2), .int (iN v1)] := by
    intro w5 w6 v1 v2 G1 hwx hnx h1 h2 hC
    have hb1 := bit_b (p := fast (sb A x) (A.1.1 0)) (v := 1) (by omega)
    rw [← h1] at hb1
    refine z_iadd cx dL_faults_197 ?_
    refine z_iload_n cx dL_faults_198 rfl ?_
    refine z_iload_n cx dL_faults_199 rfl ?_
    refine z_isub cx dL_faults_200 ?_
    refine z_aload_n cx dL_faults_201 rfl ?_
    refine z_iconst cx dL_faults_202 ?_
    refine z_vi cx (c_X4_setting hC hA (by omega)) rfl mv_X4_setting ml_L_13 (by omega) (co_main E _) rfl dL_faults_203 (fun z203 G203 hz203 => ?_)
    obtain ⟨hq, hC, -⟩ := hz203
    have hq := hq.trans (rv_in 3 rfl (by omega))
    subst hq
    refine z_icmp_le cx (tgt := 213) dL_faults_206 (fun h206 => ?_) (fun h206 => ?_)
    · skip
      refine z_iconst cx dL_faults_213 ?_
      refine Z.locs (L214 _ _ _ _ _ _ hwx hnx h1 h2 (by first | exact (bit_t (by omega)).symm | exact (bit_f (by omega)).symm) hC) ⟨rfl, rfl, rfl, rfl, rfl, rfl, rfl, trivial⟩
    · skip
      refine z_iconst cx dL_faults_209 ?_
      refine z_goto cx (tgt := 214) dL_faults_210 ?_
      refine Z.locs (L214 _ _ _ _ _ _ hwx hnx h1 h2 (by first | exact (bit_t (by omega)).symm | exact (bit_f (by omega)).symm) hC) ⟨rfl, rfl, rfl, rfl, rfl, rfl, rfl, trivial⟩
  have L181 : ∀ (w5 w6 : Int) (v1 : Int) (G1 : Wd), (w5 = bit (wide (A.1.1 4) (sb A x).2.2) 1) → (w6 = bit (nearC A.1 (sb A x)) 1) → (v1 = bit (fast (sb A x) (A.1.1 0)) 1) → (CRel G1 A) → Z p l e (zr 5 118) s m args below meth c 9 0 0 E (Qi_ E below args s (fun z G' => z = flt A.1 x.toNat ∧ CRel G' A)) G1 181 [some (.ref (E.1 0)), some (.int (iN x)), some (.int (iN (sb A x).1)), some (.int (iN (sb A x).2.1)), some (.int (iN ((lns (sb A x).2.2 (A.1.1 4)).length : Int))), some (.int (iN w5)), some (.int (iN w6)), none, none] [.int (iN v1)] := by
    intro w5 w6 v1 G1 hwx hnx h1 hC
    skip
    refine z_iload_n cx dL_faults_181 rfl ?_
    refine z_iload_n cx dL_faults_182 rfl ?_
    refine z_isub cx dL_faults_183 ?_
    refine z_aload_n cx dL_faults_184 rfl ?_
    refine z_iconst cx dL_faults_185 ?_
    refine z_vi cx (c_X4_setting hC hA (by omega)) rfl mv_X4_setting ml_L_13 (by omega) (co_main E _) rfl dL_faults_186 (fun z186 G186 hz186 => ?_)
    obtain ⟨hq, hC, -⟩ := hz186
    have hq := hq.trans (rv_in 2 rfl (by omega))
    subst hq
    refine z_icmp_ge cx (tgt := 196) dL_faults_189 (fun h189 => ?_) (fun h189 => ?_)
    · skip
      refine z_iconst cx dL_faults_196 ?_
      refine Z.locs (L197 _ _ _ _ _ hwx hnx h1 (by first | exact (bit_t (by omega)).symm | exact (bit_f (by omega)).symm) hC) ⟨rfl, rfl, rfl, rfl, rfl, rfl, rfl, trivial⟩
    · skip
      refine z_iconst cx dL_faults_192 ?_
      refine z_goto cx (tgt := 197) dL_faults_193 ?_
      refine Z.locs (L197 _ _ _ _ _ hwx hnx h1 (by first | exact (bit_t (by omega)).symm | exact (bit_f (by omega)).symm) hC) ⟨rfl, rfl, rfl, rfl, rfl, rfl, rfl, trivial⟩
  have L84 : ∀ (n : Nat) (k : Nat) (w5 w6 : Int) (G1 : Wd), (A.1.2.1.length - k) < n → (k ≤ A.1.2.1.length) → (w5 = bit (wide (A.1.1 4) (sb A x).2.2) 1) → (w6 = bit (nearP A.1 (sb A x) k) 1) → (CRel G1 A) → Z p l e (zr 5 118) s m args below meth c 9 0 0 E (Qi_ E below args s (fun z G' => z = flt A.1 x.toNat ∧ CRel G' A)) G1 84 [some (.ref (E.1 0)), some (.int (iN x)), some (.int (iN (sb A x).1)), some (.int (iN (sb A x).2.1)), some (.int (iN ((lns (sb A x).2.2 (A.1.1 4)).length : Int))), some (.int (iN w5)), some (.int (iN w6)), some (.int (iN (k : Int))), none] [] := by
    intro n
    induction n with
    | zero =>
      intro k w5 w6 G1 hmu
      exact absurd hmu (Nat.not_lt_zero _)
    | succ n ih =>
      intro k w5 w6 G1 hmu hk hwx hn hC
      have hw01 := bit_01 (nearP A.1 (sb A x) k)
      rw [← hn] at hw01
      have hcb : ∀ h : k < A.1.2.1.length, 1 ≤ A.1.2.1.getD k 0 ∧ A.1.2.1.getD k 0 ≤ 4999 := fun h => hA.1.2.1.2.1 k h
      skip
      refine z_iload cx dL_faults_84 rfl ?_
      refine z_aload_n cx dL_faults_86 rfl ?_
      refine z_vi cx (c_X4_cuts hC hA) rfl mv_X4_cuts ml_L_19 (by omega) (co_main E _) rfl dL_faults_87 (fun z87 G87 hz87 => ?_)
      obtain ⟨hq, hC, -⟩ := hz87
      subst hq
      refine z_icmp_ge cx (tgt := 155) dL_faults_90 (fun h90 => ?_) (fun h90 => ?_)
      · skip
        refine z_bipush cx dL_faults_155 ?_
        refine z_aload_n cx dL_faults_157 rfl ?_
        refine z_iload_n cx dL_faults_158 rfl ?_
        refine z_iconst cx dL_faults_159 ?_
        refine z_vi cx (c_X4_subtitle hC hA (by omega) (by omega)) rfl mv_X4_subtitle ml_L_29 (by omega) (co_main E _) rfl dL_faults_160 (fun z160 G160 hz160 => ?_)
        obtain ⟨hq, hC, -⟩ := hz160
        have hq := hq.trans (rs_2 (by omega))
        subst hq
        refine z_imul cx dL_faults_163 ?_
        refine z_aload_n cx dL_faults_164 rfl ?_
        refine z_iconst cx dL_faults_165 ?_
        refine z_vi cx (c_X4_setting hC hA (by omega)) rfl mv_X4_setting ml_L_13 (by omega) (co_main E _) rfl dL_faults_166 (fun z166 G166 hz166 => ?_)
        obtain ⟨hq, hC, -⟩ := hz166
        have hq := hq.trans (rv_in 0 rfl (by omega))
        subst hq
        refine z_iload_n cx dL_faults_169 rfl ?_
        refine z_iload_n cx dL_faults_170 rfl ?_
        refine z_isub cx dL_faults_171 ?_
        refine z_imul cx dL_faults_172 ?_
        refine z_icmp_le cx (tgt := 180) dL_faults_173 (fun h173 => ?_) (fun h173 => ?_)
        · skip
          refine z_iconst cx dL_faults_180 ?_
          refine Z.locs (L181 _ _ _ _ hwx (hn.trans (by rw [show k = A.1.2.1.length by omega]; rfl)) (by first | exact (bit_t (show 25 * ((sb A x).2.2.length : Int) > A.1.1 0 * ((sb A x).2.1 - (sb A x).1) by omega)).symm | exact (bit_f (show ¬ 25 * ((sb A x).2.2.length : Int) > A.1.1 0 * ((sb A x).2.1 - (sb A x).1) by omega)).symm) hC) ⟨rfl, rfl, rfl, rfl, rfl, rfl, rfl, trivial⟩
        · skip
          refine z_iconst cx dL_faults_176 ?_
          refine z_goto cx (tgt := 181) dL_faults_177 ?_
          refine Z.locs (L181 _ _ _ _ hwx (hn.trans (by rw [show k = A.1.2.1.length by omega]; rfl)) (by first | exact (bit_t (show 25 * ((sb A x).2.2.length : Int) > A.1.1 0 * ((sb A x).2.1 - (sb A x).1) by omega)).symm | exact (bit_f (show ¬ 25 * ((sb A x).2.2.length : Int) > A.1.1 0 * ((sb A x).2.1 - (sb A x).1) by omega)).symm) hC) ⟨rfl, rfl, rfl, rfl, rfl, rfl, rfl, trivial⟩
      · skip
        refine z_aload_n cx dL_faults_93 rfl ?_
        refine z_iload cx dL_faults_94 rfl ?_
        refine z_vi cx (c_X4_cutAt hC hA (by omega)) rfl mv_X4_cutAt ml_L_23 (by omega) (co_main E _) rfl dL_faults_96 (fun z96 G96 hz96 => ?_)
        obtain ⟨hq, hC, -⟩ := hz96
        have hq := hq.trans (rk_nat (by omega))
        subst hq
        have hcb2 := hcb (by omega)
        refine z_istore cx dL_faults_99 ?_
        refine z_iload cx dL_faults_101 rfl ?_
        refine z_if_ne cx (tgt := 142) dL_faults_103 (fun h103 => ?_) (fun h103 => ?_)
        · skip
          refine z_iconst cx dL_faults_142 ?_
          refine z_goto cx (tgt := 147) dL_faults_143 ?_
          refine z_istore cx dL_faults_147 ?_
          refine z_iinc cx dL_faults_149 rfl ?_
          refine z_goto cx (tgt := 84) dL_faults_152 ?_
          refine Z.locs (ih (k + 1) _ _ _ (by omega) (by omega) hwx (by first | exact near_1 hn h103 | exact near_2 ⟨by omega, by omega, by omega⟩ | exact near_3 hn h103 (by omega)) hC) ⟨rfl, rfl, rfl, rfl, rfl, rfl, rfl, rfl, trivial⟩
        · skip
          refine z_iload cx dL_faults_106 rfl ?_
          refine z_iload_n cx dL_faults_108 rfl ?_
          refine z_icmp_le cx (tgt := 146) dL_faults_109 (fun h109 => ?_) (fun h109 => ?_)
          · skip
            refine z_iconst cx dL_faults_146 ?_
            refine z_istore cx dL_faults_147 ?_
            refine z_iinc cx dL_faults_149 rfl ?_
            refine z_goto cx (tgt := 84) dL_faults_152 ?_
            refine Z.locs (ih (k + 1) _ _ _ (by omega) (by omega) hwx (by first | exact near_1 hn h103 | exact near_2 ⟨by omega, by omega, by omega⟩ | exact near_3 hn h103 (by omega)) hC) ⟨rfl, rfl, rfl, rfl, rfl, rfl, rfl, rfl, trivial⟩
          · skip
            refine z_iload cx dL_faults_112 rfl ?_
            refine z_iload_n cx dL_faults_114 rfl ?_
            refine z_icmp_ge cx (tgt := 146) dL_faults_115 (fun h115 => ?_) (fun h115 => ?_)
            · skip
              refine z_iconst cx dL_faults_146 ?_
              refine z_istore cx dL_faults_147 ?_
              refine z_iinc cx dL_faults_149 rfl ?_
              refine z_goto cx (tgt := 84) dL_faults_152 ?_
              refine Z.locs (ih (k + 1) _ _ _ (by omega) (by omega) hwx (by first | exact near_1 hn h103 | exact near_2 ⟨by omega, by omega, by omega⟩ | exact near_3 hn h103 (by omega)) hC) ⟨rfl, rfl, rfl, rfl, rfl, rfl, rfl, rfl, trivial⟩
            · skip
              refine z_iload cx dL_faults_118 rfl ?_
              refine z_iload_n cx dL_faults_120 rfl ?_
              refine z_isub cx dL_faults_121 ?_
              refine z_aload_n cx dL_faults_122 rfl ?_
              refine z_iconst cx dL_faults_123 ?_
              refine z_vi cx (c_X4_setting hC hA (by omega)) rfl mv_X4_setting ml_L_13 (by omega) (co_main E _) rfl dL_faults_124 (fun z124 G124 hz124 => ?_)
              obtain ⟨hq, hC, -⟩ := hz124
              have hq := hq.trans (rv_in 5 rfl (by omega))
              subst hq
              refine z_icmp_lt cx (tgt := 142) dL_faults_127 (fun h127 => ?_) (fun h127 => ?_)
              · skip
                refine z_iconst cx dL_faults_142 ?_
                refine z_goto cx (tgt := 147) dL_faults_143 ?_
                refine z_istore cx dL_faults_147 ?_
                refine z_iinc cx dL_faults_149 rfl ?_
                refine z_goto cx (tgt := 84) dL_faults_152 ?_
                refine Z.locs (ih (k + 1) _ _ _ (by omega) (by omega) hwx (by first | exact near_1 hn h103 | exact near_2 ⟨by omega, by omega, by omega⟩ | exact near_3 hn h103 (by omega)) hC) ⟨rfl, rfl, rfl, rfl, rfl, rfl, rfl, rfl, trivial⟩
              · skip
                refine z_iload_n cx dL_faults_130 rfl ?_
                refine z_iload cx dL_faults_131 rfl ?_
                refine z_isub cx dL_faults_133 ?_
                refine z_aload_n cx dL_faults_134 rfl ?_
                refine z_iconst cx dL_faults_135 ?_
                refine z_vi cx (c_X4_setting hC hA (by omega)) rfl mv_X4_setting ml_L_13 (by omega) (co_main E _) rfl dL_faults_136 (fun z136 G136 hz136 => ?_)
                obtain ⟨hq, hC, -⟩ := hz136
                have hq := hq.trans (rv_in 5 rfl (by omega))
                subst hq
                refine z_icmp_ge cx (tgt := 146) dL_faults_139 (fun h139 => ?_) (fun h139 => ?_)
                · skip
                  refine z_iconst cx dL_faults_146 ?_
                  refine z_istore cx dL_faults_147 ?_
                  refine z_iinc cx dL_faults_149 rfl ?_
                  refine z_goto cx (tgt := 84) dL_faults_152 ?_
                  refine Z.locs (ih (k + 1) _ _ _ (by omega) (by omega) hwx (by first | exact near_1 hn h103 | exact near_2 ⟨by omega, by omega, by omega⟩ | exact near_3 hn h103 (by omega)) hC) ⟨rfl, rfl, rfl, rfl, rfl, rfl, rfl, rfl, trivial⟩
                · skip
                  refine z_iconst cx dL_faults_142 ?_
                  refine z_goto cx (tgt := 147) dL_faults_143 ?_
                  refine z_istore cx dL_faults_147 ?_
                  refine z_iinc cx dL_faults_149 rfl ?_
                  refine z_goto cx (tgt := 84) dL_faults_152 ?_
                  refine Z.locs (ih (k + 1) _ _ _ (by omega) (by omega) hwx (by first | exact near_1 hn h103 | exact near_2 ⟨by omega, by omega, by omega⟩ | exact near_3 hn h103 (by omega)) hC) ⟨rfl, rfl, rfl, rfl, rfl, rfl, rfl, rfl, trivial⟩
  have L41 : ∀ (n : Nat) (k : Nat) (w5 : Int) (G1 : Wd), ((lns (sb A x).2.2 (A.1.1 4)).length - k) < n → (k ≤ (lns (sb A x).2.2 (A.1.1 4)).length) → (w5 = bit (wideP (sb A x).2.2 (A.1.1 4) k) 1) → (CRel G1 A) → Z p l e (zr 5 118) s m args below meth c 9 0 0 E (Qi_ E below args s (fun z G' => z = flt A.1 x.toNat ∧ CRel G' A)) G1 41 [some (.ref (E.1 0)), some (.int (iN x)), some (.int (iN (sb A x).1)), some (.int (iN (sb A x).2.1)), some (.int (iN ((lns (sb A x).2.2 (A.1.1 4)).length : Int))), some (.int (iN w5)), some (.int (iN 0)), some (.int (iN (k : Int))), none] [] := by
    intro n
    induction n with
    | zero =>
      intro k w5 G1 hmu
      exact absurd hmu (Nat.not_lt_zero _)
    | succ n ih =>
      intro k w5 G1 hmu hk hw hC
      have hw01 := bit_01 (wideP (sb A x).2.2 (A.1.1 4) k)
      rw [← hw] at hw01
      refine z_iload cx dL_faults_41 rfl ?_
      refine z_iload cx dL_faults_43 rfl ?_
      refine z_icmp_ge cx (tgt := 81) dL_faults_45 (fun h45 => ?_) (fun h45 => ?_)
      · skip
        refine z_iconst cx dL_faults_81 ?_
        refine z_istore cx dL_faults_82 ?_
        refine Z.locs (L84 _ (0) _ _ _ (Nat.lt_succ_self _) (by omega) (hw.trans (by rw [show k = (lns (sb A x).2.2 (A.1.1 4)).length by omega]; exact bit_iff (wide_iff _ _))) (near_0 _ _) hC) ⟨rfl, rfl, rfl, rfl, rfl, rfl, rfl, rfl, trivial⟩
      · skip
        refine z_iload cx dL_faults_48 rfl ?_
        refine z_if_ne cx (tgt := 68) dL_faults_50 (fun h50 => ?_) (fun h50 => ?_)
        · skip
          refine z_iconst cx dL_faults_68 ?_
          refine z_goto cx (tgt := 73) dL_faults_69 ?_
          refine z_istore cx dL_faults_73 ?_
          refine z_iinc cx dL_faults_75 rfl ?_
          refine z_goto cx (tgt := 41) dL_faults_78 ?_
          refine Z.locs (ih (k + 1) _ _ (by omega) (by omega) (by first | exact wide_1 hw h50 | exact wide_2 (by omega) | exact wide_3 hw h50 (by omega)) hC) ⟨rfl, rfl, rfl, rfl, rfl, rfl, rfl, rfl, trivial⟩
        · skip
          refine z_aload_n cx dL_faults_53 rfl ?_
          refine z_iload_n cx dL_faults_54 rfl ?_
          refine z_iload cx dL_faults_55 rfl ?_
          refine z_vi cx (c_X4_line hC hA (by omega) (by omega)) rfl mv_X4_line ml_L_36 (by omega) (co_main E _) rfl dL_faults_57 (fun z57 G57 hz57 => ?_)
          obtain ⟨hq, hC, -⟩ := hz57
          have hq := hq.trans (rl_nat (by omega) (by omega))
          subst hq
          have hlb := lns_b (A.1.1 4) h40 (i := k) (by omega)
          refine z_aload_n cx dL_faults_60 rfl ?_
          refine z_iconst cx dL_faults_61 ?_
          refine z_vi cx (c_X4_setting hC hA (by omega)) rfl mv_X4_setting ml_L_13 (by omega) (co_main E _) rfl dL_faults_62 (fun z62 G62 hz62 => ?_)
          obtain ⟨hq, hC, -⟩ := hz62
          have hq := hq.trans (rv_in 4 rfl (by omega))
          subst hq
          refine z_icmp_le cx (tgt := 72) dL_faults_65 (fun h65 => ?_) (fun h65 => ?_)
          · skip
            refine z_iconst cx dL_faults_72 ?_
            refine z_istore cx dL_faults_73 ?_
            refine z_iinc cx dL_faults_75 rfl ?_
            refine z_goto cx (tgt := 41) dL_faults_78 ?_
            refine Z.locs (ih (k + 1) _ _ (by omega) (by omega) (by first | exact wide_1 hw h50 | exact wide_2 (by omega) | exact wide_3 hw h50 (by omega)) hC) ⟨rfl, rfl, rfl, rfl, rfl, rfl, rfl, rfl, trivial⟩
          · skip
            refine z_iconst cx dL_faults_68 ?_
            refine z_goto cx (tgt := 73) dL_faults_69 ?_
            refine z_istore cx dL_faults_73 ?_
            refine z_iinc cx dL_faults_75 rfl ?_
            refine z_goto cx (tgt := 41) dL_faults_78 ?_
            refine Z.locs (ih (k + 1) _ _ (by omega) (by omega) (by first | exact wide_1 hw h50 | exact wide_2 (by omega) | exact wide_3 hw h50 (by omega)) hC) ⟨rfl, rfl, rfl, rfl, rfl, rfl, rfl, rfl, trivial⟩
  refine z_aload_n cx dL_faults_0 rfl ?_
  refine z_iload_n cx dL_faults_1 rfl ?_
  refine z_iconst cx dL_faults_2 ?_
  refine z_vi cx (c_X4_subtitle hC hA (by omega) (by omega)) rfl mv_X4_subtitle ml_L_29 (by omega) (co_main E _) rfl dL_faults_3 (fun z3 G3 hz3 => ?_)
  obtain ⟨hq, hC, -⟩ := hz3
  have hq := hq.trans (rs_0 (by omega))
  subst hq
  refine z_istore_n cx dL_faults_6 ?_
  refine z_aload_n cx dL_faults_7 rfl ?_
  refine z_iload_n cx dL_faults_8 rfl ?_
  refine z_iconst cx dL_faults_9 ?_
  refine z_vi cx (c_X4_subtitle hC hA (by omega) (by omega)) rfl mv_X4_subtitle ml_L_29 (by omega) (co_main E _) rfl dL_faults_10 (fun z10 G10 hz10 => ?_)
  obtain ⟨hq, hC, -⟩ := hz10
  have hq := hq.trans (rs_1 (by omega))
  subst hq
  refine z_istore_n cx dL_faults_13 ?_
  refine z_aload_n cx dL_faults_14 rfl ?_
  refine z_iload_n cx dL_faults_15 rfl ?_
  refine z_iconst cx dL_faults_16 ?_
  refine z_vi cx (c_X4_subtitle hC hA (by omega) (by omega)) rfl mv_X4_subtitle ml_L_29 (by omega) (co_main E _) rfl dL_faults_17 (fun z17 G17 hz17 => ?_)
  obtain ⟨hq, hC, -⟩ := hz17
  have hq := hq.trans (rs_5 (by omega))
  subst hq
  refine z_istore cx dL_faults_20 ?_
  refine z_iload cx dL_faults_22 rfl ?_
  refine z_iconst cx dL_faults_24 ?_
  refine z_icmp_le cx (tgt := 32) dL_faults_25 (fun h25 => ?_) (fun h25 => ?_)
  · skip
    refine z_iconst cx dL_faults_32 ?_
    refine z_istore cx dL_faults_33 ?_
    refine z_iconst cx dL_faults_35 ?_
    refine z_istore cx dL_faults_36 ?_
    refine z_iconst cx dL_faults_38 ?_
    refine z_istore cx dL_faults_39 ?_
    refine Z.locs (L41 _ (0) _ _ (Nat.lt_succ_self _) (by omega) (wide_0 (by first | rw [if_pos (by omega)] | rw [if_neg (by omega)])) hC) ⟨rfl, rfl, rfl, rfl, rfl, rfl, rfl, rfl, trivial⟩
  · skip
    refine z_iconst cx dL_faults_28 ?_
    refine z_goto cx (tgt := 33) dL_faults_29 ?_
    refine z_istore cx dL_faults_33 ?_
    refine z_iconst cx dL_faults_35 ?_
    refine z_istore cx dL_faults_36 ?_
    refine z_iconst cx dL_faults_38 ?_
    refine z_istore cx dL_faults_39 ?_
    refine Z.locs (L41 _ (0) _ _ (Nat.lt_succ_self _) (by omega) (wide_0 (by first | rw [if_pos (by omega)] | rw [if_neg (by omega)])) hC) ⟨rfl, rfl, rfl, rfl, rfl, rfl, rfl, rfl, trivial⟩
