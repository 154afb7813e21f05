/-! ===== what is typed ===== -/
def sA (A : Ast) (sc : List Int) : Ast := (A.1, A.2.1, sc, A.2.2.2)
def DgO (ds : List Int) (k : Nat) : Prop := ds.length ≤ k ∧ ∀ c ∈ ds, 48 ≤ c ∧ c ≤ 57
theorem DgO.nil : DgO [] 0 := ⟨Nat.le_refl _, fun c h => absurd h List.not_mem_nil⟩
theorem DgO.mono {ds : List Int} {k k' : Nat} (h : DgO ds k) (hk : k ≤ k') : DgO ds k' := ⟨Nat.le_trans h.1 hk, h.2⟩
theorem DgO.snoc {ds : List Int} {k : Nat} {x : Int} (h : DgO ds k) (hx : 48 ≤ x ∧ x ≤ 57) : DgO (ds ++ [x]) (k + 1) := by
  refine ⟨by rw [List.length_append, List.length_singleton]; have := h.1; omega, fun c hc => ?_⟩
  rcases List.mem_append.mp hc with q | q
  · exact h.2 c q
  · rw [List.mem_singleton.mp q]; exact hx
def ChO (sc : List Int) (b : Nat) : Prop := (∀ c ∈ sc, 32 ≤ c ∧ c ≤ 126) ∧ sc.length ≤ b
theorem ChO.mono {sc : List Int} {b b' : Nat} (h : ChO sc b) (hb : b ≤ b') : ChO sc b' := ⟨h.1, Nat.le_trans h.2 hb⟩
theorem ChO.ok {sc : List Int} {b : Nat} (h : ChO sc b) (hb : b ≤ 80) : ScOk sc := by
  refine ⟨Nat.le_trans h.2 hb, fun i hi => ?_⟩
  rw [List.getD_eq_getElem?_getD, List.getElem?_eq_getElem hi]
  exact h.1 _ (List.getElem_mem hi)
theorem ChO.aok {A : Ast} {sc : List Int} {b : Nat} (h : ChO sc b) (hA : AOk A) (hb : b ≤ 80) : AOk (sA A sc) := ⟨hA.1, hA.2.1, hA.2.2.1, h.ok hb, hA.2.2.2.2⟩
theorem ChO.app {sc ds : List Int} {b k : Nat} (h : ChO sc b) (hd : DgO ds k) : ChO (sc ++ ds) (b + k) := by
  refine ⟨fun c hc => ?_, by rw [List.length_append]; have := h.2; have := hd.1; omega⟩
  rcases List.mem_append.mp hc with q | q
  · exact h.1 c q
  · have := hd.2 c q; omega
theorem ChO.snoc {sc : List Int} {b : Nat} {x : Int} (h : ChO sc b) (hx : 32 ≤ x ∧ x ≤ 126) : ChO (sc ++ [x]) (b + 1) := by
  refine ⟨fun c hc => ?_, by rw [List.length_append, List.length_singleton]; have := h.2; omega⟩
  rcases List.mem_append.mp hc with q | q
  · exact h.1 c q
  · rw [List.mem_singleton.mp q]; exact hx
theorem sA_app {A : Ast} {sc : List Int} {b : Nat} (h : ChO sc b) (hb : b < 80) {x : Int} (hx : 32 ≤ x ∧ x ≤ 126) : s_append (sA A sc) x = ((sc.length : Int) + 1, sA A (sc ++ [x])) := by
  unfold s_append
  rw [if_pos hx, if_pos (show (sA A sc).2.2.1.length < 80 from Nat.lt_of_le_of_lt h.2 hb)]
  rfl
/-- the script so far: at most b characters, j bars -/
def ScN (sc : List Int) (b j : Nat) : Prop := ChO sc b ∧ sc.count 124 = j
theorem ScN.nil : ScN [] 0 0 := ⟨⟨fun c h => absurd h List.not_mem_nil, Nat.le_refl _⟩, rfl⟩
theorem ScN.mono {sc : List Int} {b b' j j' : Nat} (h : ScN sc b j) (hb : b ≤ b') (hj : j = j') : ScN sc b' j' := ⟨h.1.mono hb, hj ▸ h.2⟩
theorem ScN.snoc {sc : List Int} {b j : Nat} {x : Int} (h : ScN sc b j) (hx : 32 ≤ x ∧ x ≤ 126) (hn : x ≠ 124) : ScN (sc ++ [x]) (b + 1) j := by
  refine ⟨h.1.snoc hx, ?_⟩
  rw [List.count_append, h.2, List.count_singleton]
  simp [hn]
theorem ScN.bar {sc : List Int} {b j : Nat} (h : ScN sc b j) : ScN (sc ++ [124]) (b + 1) (j + 1) := by
  refine ⟨h.1.snoc (by decide), ?_⟩
  rw [List.count_append, h.2]
  rfl
theorem ScN.app {sc ds : List Int} {b j k : Nat} (h : ScN sc b j) (hd : DgO ds k) : ScN (sc ++ ds) (b + k) j := by
  refine ⟨h.1.app hd, ?_⟩
  rw [List.count_append, h.2, List.count_eq_zero.mpr (fun w => by have := hd.2 _ w; omega)]
  rfl
def TyS (n : Int) (sc : List Int) : Prop := ChO sc 80 ∧ ((1 ≤ n ∧ (sc.count 124 : Int) = n - 1) ∨ (∃ s0, sc = s0 ++ [124]) ∨ (n = 0 ∧ sc = []))
theorem TyS.plain {n : Int} {sc : List Int} {k : Nat} (h : ScN sc (23 * k) (k - 1)) (hk : (k : Int) = n) (h3 : n ≤ 3) : TyS n sc := by
  refine ⟨h.1.mono (by omega), ?_⟩
  by_cases h0 : k = 0
  · refine Or.inr (Or.inr ⟨by omega, ?_⟩)
    have := h.1.2
    exact List.eq_nil_of_length_eq_zero (by omega)
  · refine Or.inl ⟨by omega, ?_⟩
    rw [h.2]
    omega
theorem TyS.bar {n : Int} {sc : List Int} {k : Nat} (h : ScN sc (23 * k) (k - 1)) (hk : (k : Int) = n) (h3 : n ≤ 3) : TyS n (sc ++ [124]) :=
  ⟨h.bar.1.mono (by omega), Or.inr (Or.inl ⟨sc, rfl⟩)⟩
theorem c_L_own {E : En} {G : Wd} {d m0 a0 : Int} (hd : 2 ≤ d ∧ d ≤ 5000) (hm : 0 ≤ m0 ∧ m0 ≤ 40) (ha : 1 ≤ a0 ∧ a0 ≤ 40) : Cti E yL_own cL_own 4 .int 0 0 [.int (iN d), .int (iN m0), .int (iN a0)] G (fun z G' => z = max 1 (min (d * m0 / a0) (d - 1)) ∧ G' = G) := by
  refine Cti.mk [some (.int (iN d)), some (.int (iN m0)), some (.int (iN a0)), none] (by decide) rfl (by intro v hv; simp only [List.mem_cons, List.not_mem_nil, or_false] at hv; rcases hv with rfl | rfl | rfl <;> rfl) (Nat.le_of_ble_eq_true rfl) ?_
  intro p l e s m args below meth c cx
  have h1 : 0 ≤ d * m0 := Int.mul_nonneg (by omega) (by omega)
  have h2 : d * m0 ≤ 5000 * 40 := Int.mul_le_mul hd.2 hm.2 hm.1 (by decide)
  have h3 : 0 ≤ d * m0 / a0 := Int.ediv_nonneg h1 (by omega)
  have h4 : d * m0 / a0 ≤ d * m0 := Int.ediv_le_self _ h1
  refine z_iload_n cx dL_own_0 rfl ?_
  refine z_iload_n cx dL_own_1 rfl ?_
  refine z_imul cx dL_own_2 ?_
  refine z_iload_n cx dL_own_3 rfl ?_
  refine z_idiv cx dL_own_4 ?_
  refine z_istore_n cx dL_own_5 ?_
  refine z_iload_n cx dL_own_6 rfl ?_
  refine z_iconst cx dL_own_7 ?_
  refine z_icmp_ge cx (tgt := 15) dL_own_8 (fun h8 => ?_) (fun h8 => ?_)
  · refine z_iload_n cx dL_own_15 rfl ?_
    refine z_iload_n cx dL_own_16 rfl ?_
    refine z_icmp_ge cx (tgt := 24) dL_own_17 (fun h17 => ?_) (fun h17 => ?_)
    · refine z_iload_n cx dL_own_24 rfl ?_
      refine z_iconst cx dL_own_25 ?_
      refine z_isub cx dL_own_26 ?_
      exact z_iret cx dL_own_27 ⟨by omega, rfl⟩
    · refine z_iload_n cx dL_own_20 rfl ?_
      refine z_goto cx (tgt := 27) dL_own_21 ?_
      exact z_iret cx dL_own_27 ⟨by omega, rfl⟩
  · refine z_iconst cx dL_own_11 ?_
    refine z_goto cx (tgt := 27) dL_own_12 ?_
    exact z_iret cx dL_own_27 ⟨by omega, rfl⟩
set_option maxRecDepth 100000 in
set_option maxHeartbeats 4000000 in
theorem c_L_digits {E : En} {G : Wd} {A : Ast} {sc : List Int} {b : Nat} {v : Int} (hC : CRel G (sA A sc)) (hA : AOk A) (hs : ChO sc b) (hb : b + 4 ≤ 80) (hv : 0 ≤ v ∧ v < 10000) : Cti E yL_digits cL_digits 2 .boolean 1 21 [.ref (E.1 0), .int (iN v)] G (fun z G' => z = 1 ∧ ∃ ds, DgO ds 4 ∧ CRel G' (sA A (sc ++ ds))) := by
  have hds := DgO.nil
  have hC : CRel G (sA A (sc ++ [])) := by rw [List.append_nil]; exact hC
  have hcs := hs.app hds
  refine Cti.mk [some (.ref (E.1 0)), some (.int (iN v))] (by decide) rfl (by intro v hv; simp only [List.mem_cons, List.not_mem_nil, or_false] at hv; rcases hv with rfl | rfl <;> rfl) (Nat.le_of_ble_eq_true rfl) ?_
  intro p l e s m args below meth c cx
  have L68 : ∀ (ds : List Int) (G1 : Wd), (DgO ds 3) → (CRel G1 (sA A (sc ++ ds))) → Z p l e (zr 1 21) s m args below meth c 2 0 0 E (Qi_ E below args s (fun z G' => z = 1 ∧ ∃ ds, DgO ds 4 ∧ CRel G' (sA A (sc ++ ds)))) G1 68 [some (.ref (E.1 0)), some (.int (iN v))] [] := by
    intro ds G1 hds hC
    have hcs := hs.app hds
    refine z_aload_n cx dL_digits_68 rfl ?_
    refine z_bipush cx dL_digits_69 ?_
    refine z_iload_n cx dL_digits_71 rfl ?_
    refine z_bipush cx dL_digits_72 ?_
    refine z_irem cx dL_digits_74 ?_
    refine z_iadd cx dL_digits_75 ?_
    refine z_vi cx (c_X4_append (x := 48 + (v - v / 10 * 10)) hC (hcs.aok hA (by omega)) (by omega)) rfl mv_X4_append ml_L_73 (by omega) (co_main E _) rfl dL_digits_76 (fun z76 G76 hz76 => ?_)
    obtain ⟨hq, hC, -⟩ := hz76
    rw [sA_app (A := A) (sc := sc ++ ds) (x := 48 + (v - v / 10 * 10)) hcs (by omega) (by omega)] at hq hC
    dsimp only at hq hC
    have hln76 := (hcs).2
    rw [List.append_assoc] at hC
    have hdn := hds.snoc (x := 48 + (v - v / 10 * 10)) (by omega)
    refine z_if_le cx (tgt := 86) dL_digits_79 (fun h79 => ?_) (fun h79 => ?_)
    · skip
      exfalso; omega
    · skip
      refine z_iconst cx dL_digits_82 ?_
      refine z_goto cx (tgt := 87) dL_digits_83 ?_
      refine z_zret cx dL_digits_87 ?_
      exact ⟨rfl, _, hdn, hC⟩
  have L45 : ∀ (ds : List Int) (G1 : Wd), (DgO ds 2) → (CRel G1 (sA A (sc ++ ds))) → Z p l e (zr 1 21) s m args below meth c 2 0 0 E (Qi_ E below args s (fun z G' => z = 1 ∧ ∃ ds, DgO ds 4 ∧ CRel G' (sA A (sc ++ ds)))) G1 45 [some (.ref (E.1 0)), some (.int (iN v))] [] := by
    intro ds G1 hds hC
    have hcs := hs.app hds
    refine z_iload_n cx dL_digits_45 rfl ?_
    refine z_bipush cx dL_digits_46 ?_
    refine z_icmp_lt cx (tgt := 68) dL_digits_48 (fun h48 => ?_) (fun h48 => ?_)
    · skip
      have hdn := hds.mono (k' := 3) (by omega)
      refine Z.locs (L68 _ _ hdn hC) ⟨rfl, rfl, trivial⟩
    · skip
      refine z_aload_n cx dL_digits_51 rfl ?_
      refine z_bipush cx dL_digits_52 ?_
      refine z_iload_n cx dL_digits_54 rfl ?_
      refine z_bipush cx dL_digits_55 ?_
      refine z_idiv cx dL_digits_57 ?_
      refine z_bipush cx dL_digits_58 ?_
      refine z_irem cx dL_digits_60 ?_
      refine z_iadd cx dL_digits_61 ?_
      refine z_vi cx (c_X4_append (x := 48 + (v / 10 - v / 10 / 10 * 10)) hC (hcs.aok hA (by omega)) (by omega)) rfl mv_X4_append ml_L_73 (by omega) (co_main E _) rfl dL_digits_62 (fun z62 G62 hz62 => ?_)
      obtain ⟨hq, hC, -⟩ := hz62
      rw [sA_app (A := A) (sc := sc ++ ds) (x := 48 + (v / 10 - v / 10 / 10 * 10)) hcs (by omega) (by omega)] at hq hC
      dsimp only at hq hC
      have hln62 := (hcs).2
      rw [List.append_assoc] at hC
      have hdn := hds.snoc (x := 48 + (v / 10 - v / 10 / 10 * 10)) (by omega)
      refine z_if_le cx (tgt := 86) dL_digits_65 (fun h65 => ?_) (fun h65 => ?_)
      · skip
        exfalso; omega
      · skip
        refine Z.locs (L68 _ _ hdn hC) ⟨rfl, rfl, trivial⟩
  have L22 : ∀ (ds : List Int) (G1 : Wd), (DgO ds 1) → (CRel G1 (sA A (sc ++ ds))) → Z p l e (zr 1 21) s m args below meth c 2 0 0 E (Qi_ E below args s (fun z G' => z = 1 ∧ ∃ ds, DgO ds 4 ∧ CRel G' (sA A (sc ++ ds)))) G1 22 [some (.ref (E.1 0)), some (.int (iN v))] [] := by
    intro ds G1 hds hC
    have hcs := hs.app hds
    refine z_iload_n cx dL_digits_22 rfl ?_
    refine z_bipush cx dL_digits_23 ?_
    refine z_icmp_lt cx (tgt := 45) dL_digits_25 (fun h25 => ?_) (fun h25 => ?_)
    · skip
      have hdn := hds.mono (k' := 2) (by omega)
      refine Z.locs (L45 _ _ hdn hC) ⟨rfl, rfl, trivial⟩
    · skip
      refine z_aload_n cx dL_digits_28 rfl ?_
      refine z_bipush cx dL_digits_29 ?_
      refine z_iload_n cx dL_digits_31 rfl ?_
      refine z_bipush cx dL_digits_32 ?_
      refine z_idiv cx dL_digits_34 ?_
      refine z_bipush cx dL_digits_35 ?_
      refine z_irem cx dL_digits_37 ?_
      refine z_iadd cx dL_digits_38 ?_
      refine z_vi cx (c_X4_append (x := 48 + (v / 100 - v / 100 / 10 * 10)) hC (hcs.aok hA (by omega)) (by omega)) rfl mv_X4_append ml_L_73 (by omega) (co_main E _) rfl dL_digits_39 (fun z39 G39 hz39 => ?_)
      obtain ⟨hq, hC, -⟩ := hz39
      rw [sA_app (A := A) (sc := sc ++ ds) (x := 48 + (v / 100 - v / 100 / 10 * 10)) hcs (by omega) (by omega)] at hq hC
      dsimp only at hq hC
      have hln39 := (hcs).2
      rw [List.append_assoc] at hC
      have hdn := hds.snoc (x := 48 + (v / 100 - v / 100 / 10 * 10)) (by omega)
      refine z_if_le cx (tgt := 86) dL_digits_42 (fun h42 => ?_) (fun h42 => ?_)
      · skip
        exfalso; omega
      · skip
        refine Z.locs (L45 _ _ hdn hC) ⟨rfl, rfl, trivial⟩
  refine z_iload_n cx dL_digits_0 rfl ?_
  refine z_sipush cx dL_digits_1 ?_
  refine z_icmp_lt cx (tgt := 22) dL_digits_4 (fun h4 => ?_) (fun h4 => ?_)
  · skip
    have hdn := hds.mono (k' := 1) (by omega)
    refine Z.locs (L22 _ _ hdn hC) ⟨rfl, rfl, trivial⟩
  · skip
    refine z_aload_n cx dL_digits_7 rfl ?_
    refine z_bipush cx dL_digits_8 ?_
    refine z_iload_n cx dL_digits_10 rfl ?_
    refine z_sipush cx dL_digits_11 ?_
    refine z_idiv cx dL_digits_14 ?_
    refine z_iadd cx dL_digits_15 ?_
    refine z_vi cx (c_X4_append (x := 48 + v / 1000) hC (hcs.aok hA (by omega)) (by omega)) rfl mv_X4_append ml_L_73 (by omega) (co_main E _) rfl dL_digits_16 (fun z16 G16 hz16 => ?_)
    obtain ⟨hq, hC, -⟩ := hz16
    rw [sA_app (A := A) (sc := sc ++ []) (x := 48 + v / 1000) hcs (by omega) (by omega)] at hq hC
    dsimp only at hq hC
    have hln16 := (hcs).2
    rw [List.append_assoc] at hC
    have hdn := hds.snoc (x := 48 + v / 1000) (by omega)
    refine z_if_le cx (tgt := 86) dL_digits_19 (fun h19 => ?_) (fun h19 => ?_)
    · skip
      exfalso; omega
    · skip
      refine Z.locs (L22 _ _ hdn hC) ⟨rfl, rfl, trivial⟩
set_option maxRecDepth 100000 in
set_option maxHeartbeats 4000000 in
theorem c_L_types {E : En} {G : Wd} {A : Ast} (hC : CRel G A) (hA : AOk A) {x : Int} : Cti E yL_types cL_types 11 .boolean 2 42 [.ref (E.1 0), .int (iN x)] G (fun z G' => z = 1 ∧ ∃ sc, TyS (lowV x 4) sc ∧ CRel G' (sA A sc)) := by
  skip
  refine Cti.mk [some (.ref (E.1 0)), some (.int (iN x)), none, none, none, none, none, none, none, none, none] (by decide) rfl (by intro v hv; simp only [List.mem_cons, List.not_mem_nil, or_false] at hv; rcases hv with rfl | rfl <;> rfl) (Nat.le_of_ble_eq_true rfl) ?_
  intro p l e s m args below meth c cx
  have L22 : ∀ (n : Nat) (nn : Int) (k : Nat) (sc : List Int) (G1 : Wd), (4 - k) < n → (nn = lowV x 4 ∧ 0 ≤ nn ∧ nn ≤ 3) → ((k : Int) ≤ nn) → (ScN sc (23 * k) (k - 1)) → (CRel G1 (sA A sc)) → Z p l e (zr 2 42) s m args below meth c 11 0 0 E (Qi_ E below args s (fun z G' => z = 1 ∧ ∃ sc, TyS (lowV x 4) sc ∧ CRel G' (sA A sc))) G1 22 [some (.ref (E.1 0)), some (.int (iN x)), some (.int (iN nn)), some (.int (iN 1)), some (.int (iN (k : Int))), none, none, none, none, none, none] [] := by
    intro n
    induction n with
    | zero =>
      intro nn k sc G1 hmu
      exact absurd hmu (Nat.not_lt_zero _)
    | succ n ih22 =>
      intro nn k sc G1 hmu hn hk hSc hC
      have L175 : ∀ (n : Nat) (y lc : Int) (i : Nat) (sc : List Int) (G1 : Wd), (13 - i) < n → ((k : Int) < nn) → (i ≤ 12) → (0 ≤ lc ∧ lc ≤ 126) → (ScN sc (23 * k + 11 + i) k) → (CRel G1 (sA A sc)) → Z p l e (zr 2 42) s m args below meth c 11 0 0 E (Qi_ E below args s (fun z G' => z = 1 ∧ ∃ sc, TyS (lowV x 4) sc ∧ CRel G' (sA A sc))) G1 175 [some (.ref (E.1 0)), some (.int (iN x)), some (.int (iN nn)), some (.int (iN 1)), some (.int (iN (k : Int))), some (.int (iN y)), none, none, some (.int (iN lc)), some (.int (iN (i : Int))), none] [] := by
        intro n
        induction n with
        | zero =>
          intro y lc i sc G1 hmu
          exact absurd hmu (Nat.not_lt_zero _)
        | succ n ih175 =>
          intro y lc i sc G1 hmu hk2 hi hlc hSc hC
          have L274 : ∀ (ch : Int) (G1 : Wd), (i < 12) → (ch = 32 ∨ ch = 44 ∨ ch = 46 ∨ (97 ≤ ch ∧ ch ≤ 122)) → (CRel G1 (sA A sc)) → Z p l e (zr 2 42) s m args below meth c 11 0 0 E (Qi_ E below args s (fun z G' => z = 1 ∧ ∃ sc, TyS (lowV x 4) sc ∧ CRel G' (sA A sc))) G1 274 [some (.ref (E.1 0)), some (.int (iN x)), some (.int (iN nn)), some (.int (iN 1)), some (.int (iN (k : Int))), some (.int (iN y)), none, none, none, some (.int (iN (i : Int))), none] [.int (iN ch)] := by
            intro ch G1 hil hch hC
            refine z_istore cx dL_types_274 ?_
            refine z_aload_n cx dL_types_276 rfl ?_
            refine z_iload cx dL_types_277 rfl ?_
            refine z_vi cx (c_X4_append hC (hSc.1.aok hA (by omega)) (by omega)) rfl mv_X4_append ml_L_73 (by omega) (co_main E _) rfl dL_types_279 (fun z279 G279 hz279 => ?_)
            obtain ⟨hq, hC, -⟩ := hz279
            rw [sA_app (A := A) (sc := _) (x := ch) hSc.1 (by omega) (by omega)] at hq hC
            dsimp only at hq hC
            have hln279 := (hSc.1).2
            have hSc := hSc.snoc (x := ch) (by omega) (by omega)
            refine z_if_le cx (tgt := 289) dL_types_282 (fun h282 => ?_) (fun h282 => ?_)
            · skip
              exfalso; omega
            · skip
              refine z_iconst cx dL_types_285 ?_
              refine z_goto cx (tgt := 290) dL_types_286 ?_
              refine z_istore_n cx dL_types_290 ?_
              refine z_iinc cx dL_types_291 rfl ?_
              refine z_goto cx (tgt := 175) dL_types_294 ?_
              refine Z.locs (ih175 _ _ (i + 1) _ _ (by omega) hk2 (by omega) (by omega) (hSc.mono (by omega) rfl) hC) ⟨rfl, rfl, rfl, rfl, rfl, rfl, rfl, rfl, trivial⟩
          refine z_iload cx dL_types_175 rfl ?_
          refine z_iconst cx dL_types_177 ?_
          refine z_iload cx dL_types_178 rfl ?_
          refine z_bipush cx dL_types_180 ?_
          refine z_ishr cx dL_types_182 (fun z182 hs182 => ?_)
          refine z_bipush cx dL_types_183 ?_
          refine z_si cx (c_L_low (by omega)) rfl ms_L_low ml_L_58 dL_types_185 (fun z185 G185 hz185 => ?_)
          obtain ⟨hq185, hl185, hu185, hG⟩ := hz185
          subst hG
          refine z_iadd cx dL_types_188 ?_
          refine z_icmp_ge cx (tgt := 297) dL_types_189 (fun h189 => ?_) (fun h189 => ?_)
          · skip
            refine z_iinc cx dL_types_297 rfl ?_
            refine z_goto cx (tgt := 22) dL_types_300 ?_
            refine Z.locs (ih22 _ (k + 1) _ _ (by omega) hn (by omega) (hSc.mono (by omega) (by omega)) hC) ⟨rfl, rfl, rfl, rfl, rfl, trivial⟩
          · skip
            refine z_iload_n cx dL_types_192 rfl ?_
            refine z_if_eq cx (tgt := 297) dL_types_193 (fun h193 => ?_) (fun h193 => ?_)
            · skip
              exfalso; omega
            · skip
              refine z_iload cx dL_types_196 rfl ?_
              refine z_iload cx dL_types_198 rfl ?_
              refine z_ishr cx dL_types_200 (fun z200 hs200 => ?_)
              refine z_bipush cx dL_types_201 ?_
              refine z_si cx (c_L_low (by omega)) rfl ms_L_low ml_L_58 dL_types_203 (fun z203 G203 hz203 => ?_)
              obtain ⟨hq203, hl203, hu203, hG⟩ := hz203
              subst hG
              refine z_istore cx dL_types_206 ?_
              refine z_iload cx dL_types_208 rfl ?_
              refine z_if_ne cx (tgt := 237) dL_types_210 (fun h210 => ?_) (fun h210 => ?_)
              · skip
                refine z_iload cx dL_types_237 rfl ?_
                refine z_iconst cx dL_types_239 ?_
                refine z_icmp_ne cx (tgt := 248) dL_types_240 (fun h240 => ?_) (fun h240 => ?_)
                · skip
                  refine z_iload cx dL_types_248 rfl ?_
                  refine z_iconst cx dL_types_250 ?_
                  refine z_icmp_ne cx (tgt := 259) dL_types_251 (fun h251 => ?_) (fun h251 => ?_)
                  · skip
                    refine z_bipush cx dL_types_259 ?_
                    refine z_iload cx dL_types_261 rfl ?_
                    refine z_iload cx dL_types_263 rfl ?_
                    refine z_iconst cx dL_types_265 ?_
                    refine z_iadd cx dL_types_266 ?_
                    refine z_ishr cx dL_types_267 (fun z267 hs267 => ?_)
                    refine z_bipush cx dL_types_268 ?_
                    refine z_si cx (c_L_low (by omega)) rfl ms_L_low ml_L_58 dL_types_270 (fun z270 G270 hz270 => ?_)
                    obtain ⟨hq270, hl270, hu270, hG⟩ := hz270
                    subst hG
                    refine z_iadd cx dL_types_273 ?_
                    refine Z.locs (L274 _ _ (by omega) (by omega) hC) ⟨rfl, rfl, rfl, rfl, rfl, rfl, rfl, trivial⟩
                  · skip
                    refine z_bipush cx dL_types_254 ?_
                    refine z_goto cx (tgt := 274) dL_types_256 ?_
                    refine Z.locs (L274 _ _ (by omega) (by omega) hC) ⟨rfl, rfl, rfl, rfl, rfl, rfl, rfl, trivial⟩
                · skip
                  refine z_bipush cx dL_types_243 ?_
                  refine z_goto cx (tgt := 274) dL_types_245 ?_
                  refine Z.locs (L274 _ _ (by omega) (by omega) hC) ⟨rfl, rfl, rfl, rfl, rfl, rfl, rfl, trivial⟩
              · skip
                refine z_iload cx dL_types_213 rfl ?_
                refine z_bipush cx dL_types_215 ?_
                refine z_icmp_ne cx (tgt := 232) dL_types_217 (fun h217 => ?_) (fun h217 => ?_)
                · skip
                  refine z_bipush cx dL_types_232 ?_
                  refine z_goto cx (tgt := 274) dL_types_234 ?_
                  refine Z.locs (L274 _ _ (by omega) (by omega) hC) ⟨rfl, rfl, rfl, rfl, rfl, rfl, rfl, trivial⟩
                · skip
                  refine z_iload_n cx dL_types_220 rfl ?_
                  refine z_bipush cx dL_types_221 ?_
                  refine z_ishr cx dL_types_223 (fun z223 hs223 => ?_)
                  refine z_bipush cx dL_types_224 ?_
                  refine z_si cx (c_L_low (by omega)) rfl ms_L_low ml_L_58 dL_types_226 (fun z226 G226 hz226 => ?_)
                  obtain ⟨hq226, hl226, hu226, hG⟩ := hz226
                  subst hG
                  refine z_if_ne cx (tgt := 237) dL_types_229 (fun h229 => ?_) (fun h229 => ?_)
                  · skip
                    refine z_iload cx dL_types_237 rfl ?_
                    refine z_iconst cx dL_types_239 ?_
                    refine z_icmp_ne cx (tgt := 248) dL_types_240 (fun h240 => ?_) (fun h240 => ?_)
                    · skip
                      refine z_iload cx dL_types_248 rfl ?_
                      refine z_iconst cx dL_types_250 ?_
                      refine z_icmp_ne cx (tgt := 259) dL_types_251 (fun h251 => ?_) (fun h251 => ?_)
                      · skip
                        refine z_bipush cx dL_types_259 ?_
                        refine z_iload cx dL_types_261 rfl ?_
                        refine z_iload cx dL_types_263 rfl ?_
                        refine z_iconst cx dL_types_265 ?_
                        refine z_iadd cx dL_types_266 ?_
                        refine z_ishr cx dL_types_267 (fun z267 hs267 => ?_)
                        refine z_bipush cx dL_types_268 ?_
                        refine z_si cx (c_L_low (by omega)) rfl ms_L_low ml_L_58 dL_types_270 (fun z270 G270 hz270 => ?_)
                        obtain ⟨hq270, hl270, hu270, hG⟩ := hz270
                        subst hG
                        refine z_iadd cx dL_types_273 ?_
                        refine Z.locs (L274 _ _ (by omega) (by omega) hC) ⟨rfl, rfl, rfl, rfl, rfl, rfl, rfl, trivial⟩
                      · skip
                        refine z_bipush cx dL_types_254 ?_
                        refine z_goto cx (tgt := 274) dL_types_256 ?_
                        refine Z.locs (L274 _ _ (by omega) (by omega) hC) ⟨rfl, rfl, rfl, rfl, rfl, rfl, rfl, trivial⟩
                    · skip
                      refine z_bipush cx dL_types_243 ?_
                      refine z_goto cx (tgt := 274) dL_types_245 ?_
                      refine Z.locs (L274 _ _ (by omega) (by omega) hC) ⟨rfl, rfl, rfl, rfl, rfl, rfl, rfl, trivial⟩
                  · skip
                    refine z_bipush cx dL_types_232 ?_
                    refine z_goto cx (tgt := 274) dL_types_234 ?_
                    refine Z.locs (L274 _ _ (by omega) (by omega) hC) ⟨rfl, rfl, rfl, rfl, rfl, rfl, rfl, trivial⟩
      have L121 : ∀ (y st en : Int) (sc : List Int) (G1 : Wd), ((k : Int) < nn) → (0 ≤ st ∧ st ≤ 5050) → (-20 ≤ en ∧ en ≤ 5200) → (ScN sc (23 * k + 1) k) → (CRel G1 (sA A sc)) → Z p l e (zr 2 42) s m args below meth c 11 0 0 E (Qi_ E below args s (fun z G' => z = 1 ∧ ∃ sc, TyS (lowV x 4) sc ∧ CRel G' (sA A sc))) G1 121 [some (.ref (E.1 0)), some (.int (iN x)), some (.int (iN nn)), some (.int (iN 1)), some (.int (iN (k : Int))), some (.int (iN y)), some (.int (iN st)), some (.int (iN en)), some (.int (iN 32)), none, none] [] := by
        intro y st en sc G1 hk2 hst hen hSc hC
        refine z_aload_n cx dL_types_121 rfl ?_
        refine z_iload cx dL_types_122 rfl ?_
        refine z_si cx (c_L_digits hC hA hSc.1 (by omega) (by omega)) rfl ms_L_digits ml_L_79 dL_types_124 (fun z124 G124 hz124 => ?_)
        obtain ⟨hq, ds124, hds, hC⟩ := hz124
        have hSc := hSc.app hds
        refine z_if_eq cx (tgt := 170) dL_types_127 (fun h127 => ?_) (fun h127 => ?_)
        · skip
          exfalso; omega
        · skip
          refine z_aload_n cx dL_types_130 rfl ?_
          refine z_bipush cx dL_types_131 ?_
          refine z_vi cx (c_X4_append hC (hSc.1.aok hA (by omega)) (by omega)) rfl mv_X4_append ml_L_73 (by omega) (co_main E _) rfl dL_types_133 (fun z133 G133 hz133 => ?_)
          obtain ⟨hq, hC, -⟩ := hz133
          rw [sA_app (A := A) (sc := _) (x := 45) hSc.1 (by omega) (by omega)] at hq hC
          dsimp only at hq hC
          have hln133 := (hSc.1).2
          have hSc := hSc.snoc (x := 45) (by omega) (by omega)
          refine z_if_le cx (tgt := 170) dL_types_136 (fun h136 => ?_) (fun h136 => ?_)
          · skip
            exfalso; omega
          · skip
            refine z_aload_n cx dL_types_139 rfl ?_
            refine z_iload cx dL_types_140 rfl ?_
            refine z_if_ge cx (tgt := 149) dL_types_142 (fun h142 => ?_) (fun h142 => ?_)
            · skip
              refine z_iload cx dL_types_149 rfl ?_
              refine z_si cx (c_L_digits hC hA hSc.1 (by omega) (by omega)) rfl ms_L_digits ml_L_79 dL_types_151 (fun z151 G151 hz151 => ?_)
              obtain ⟨hq, ds151, hds, hC⟩ := hz151
              have hSc := hSc.app hds
              refine z_if_eq cx (tgt := 170) dL_types_154 (fun h154 => ?_) (fun h154 => ?_)
              · skip
                exfalso; omega
              · skip
                refine z_aload_n cx dL_types_157 rfl ?_
                refine z_bipush cx dL_types_158 ?_
                refine z_vi cx (c_X4_append hC (hSc.1.aok hA (by omega)) (by omega)) rfl mv_X4_append ml_L_73 (by omega) (co_main E _) rfl dL_types_160 (fun z160 G160 hz160 => ?_)
                obtain ⟨hq, hC, -⟩ := hz160
                rw [sA_app (A := A) (sc := _) (x := 58) hSc.1 (by omega) (by omega)] at hq hC
                dsimp only at hq hC
                have hln160 := (hSc.1).2
                have hSc := hSc.snoc (x := 58) (by omega) (by omega)
                refine z_if_le cx (tgt := 170) dL_types_163 (fun h163 => ?_) (fun h163 => ?_)
                · skip
                  exfalso; omega
                · skip
                  refine z_iconst cx dL_types_166 ?_
                  refine z_goto cx (tgt := 171) dL_types_167 ?_
                  refine z_istore_n cx dL_types_171 ?_
                  refine z_iconst cx dL_types_172 ?_
                  refine z_istore cx dL_types_173 ?_
                  refine Z.locs (L175 _ _ _ (0) _ _ (Nat.lt_succ_self _) hk2 (by omega) (by omega) (hSc.mono (by omega) rfl) hC) ⟨rfl, rfl, rfl, rfl, rfl, rfl, rfl, rfl, trivial⟩
            · skip
              refine z_iconst cx dL_types_145 ?_
              refine z_goto cx (tgt := 151) dL_types_146 ?_
              refine z_si cx (c_L_digits hC hA hSc.1 (by omega) (by omega)) rfl ms_L_digits ml_L_79 dL_types_151 (fun z151 G151 hz151 => ?_)
              obtain ⟨hq, ds151, hds, hC⟩ := hz151
              have hSc := hSc.app hds
              refine z_if_eq cx (tgt := 170) dL_types_154 (fun h154 => ?_) (fun h154 => ?_)
              · skip
                exfalso; omega
              · skip
                refine z_aload_n cx dL_types_157 rfl ?_
                refine z_bipush cx dL_types_158 ?_
                refine z_vi cx (c_X4_append hC (hSc.1.aok hA (by omega)) (by omega)) rfl mv_X4_append ml_L_73 (by omega) (co_main E _) rfl dL_types_160 (fun z160 G160 hz160 => ?_)
                obtain ⟨hq, hC, -⟩ := hz160
                rw [sA_app (A := A) (sc := _) (x := 58) hSc.1 (by omega) (by omega)] at hq hC
                dsimp only at hq hC
                have hln160 := (hSc.1).2
                have hSc := hSc.snoc (x := 58) (by omega) (by omega)
                refine z_if_le cx (tgt := 170) dL_types_163 (fun h163 => ?_) (fun h163 => ?_)
                · skip
                  exfalso; omega
                · skip
                  refine z_iconst cx dL_types_166 ?_
                  refine z_goto cx (tgt := 171) dL_types_167 ?_
                  refine z_istore_n cx dL_types_171 ?_
                  refine z_iconst cx dL_types_172 ?_
                  refine z_istore cx dL_types_173 ?_
                  refine Z.locs (L175 _ _ _ (0) _ _ (Nat.lt_succ_self _) hk2 (by omega) (by omega) (hSc.mono (by omega) rfl) hC) ⟨rfl, rfl, rfl, rfl, rfl, rfl, rfl, rfl, trivial⟩
      have L97 : ∀ (y st en : Int) (G1 : Wd), ((k : Int) < nn) → (0 ≤ st ∧ st ≤ 5050) → (-20 ≤ en ∧ en ≤ 5200) → (CRel G1 (sA A sc)) → Z p l e (zr 2 42) s m args below meth c 11 0 0 E (Qi_ E below args s (fun z G' => z = 1 ∧ ∃ sc, TyS (lowV x 4) sc ∧ CRel G' (sA A sc))) G1 97 [some (.ref (E.1 0)), some (.int (iN x)), some (.int (iN nn)), some (.int (iN 1)), some (.int (iN (k : Int))), some (.int (iN y)), some (.int (iN st)), none, none, none, none] [.int (iN en)] := by
        intro y st en G1 hk2 hst hen hC
        refine z_istore cx dL_types_97 ?_
        refine z_bipush cx dL_types_99 ?_
        refine z_istore cx dL_types_101 ?_
        refine z_iload_n cx dL_types_103 rfl ?_
        refine z_if_eq cx (tgt := 170) dL_types_104 (fun h104 => ?_) (fun h104 => ?_)
        · skip
          exfalso; omega
        · skip
          refine z_iload cx dL_types_107 rfl ?_
          refine z_if_eq cx (tgt := 121) dL_types_109 (fun h109 => ?_) (fun h109 => ?_)
          · skip
            refine Z.locs (L121 _ _ _ _ _ hk2 hst hen (hSc.mono (by omega) (by omega)) hC) ⟨rfl, rfl, rfl, rfl, rfl, rfl, rfl, rfl, rfl, trivial⟩
          · skip
            refine z_aload_n cx dL_types_112 rfl ?_
            refine z_bipush cx dL_types_113 ?_
            refine z_vi cx (c_X4_append hC (hSc.1.aok hA (by omega)) (by omega)) rfl mv_X4_append ml_L_73 (by omega) (co_main E _) rfl dL_types_115 (fun z115 G115 hz115 => ?_)
            obtain ⟨hq, hC, -⟩ := hz115
            rw [sA_app (A := A) (sc := _) (x := 124) hSc.1 (by omega) (by omega)] at hq hC
            dsimp only at hq hC
            have hln115 := (hSc.1).2
            have hSc := hSc.bar
            refine z_if_le cx (tgt := 170) dL_types_118 (fun h118 => ?_) (fun h118 => ?_)
            · skip
              exfalso; omega
            · skip
              refine Z.locs (L121 _ _ _ _ _ hk2 hst hen (hSc.mono (by omega) (by omega)) hC) ⟨rfl, rfl, rfl, rfl, rfl, rfl, rfl, rfl, rfl, trivial⟩
      refine z_iload cx dL_types_22 rfl ?_
      refine z_iload_n cx dL_types_24 rfl ?_
      refine z_icmp_ge cx (tgt := 303) dL_types_25 (fun h25 => ?_) (fun h25 => ?_)
      · skip
        have hkn : (k : Int) = nn := by omega
        refine z_iload_n cx dL_types_303 rfl ?_
        refine z_if_eq cx (tgt := 332) dL_types_304 (fun h304 => ?_) (fun h304 => ?_)
        · skip
          exfalso; omega
        · skip
          refine z_iload_n cx dL_types_307 rfl ?_
          refine z_bipush cx dL_types_308 ?_
          refine z_ishr cx dL_types_310 (fun z310 hs310 => ?_)
          refine z_bipush cx dL_types_311 ?_
          refine z_si cx (c_L_low (by omega)) rfl ms_L_low ml_L_58 dL_types_313 (fun z313 G313 hz313 => ?_)
          obtain ⟨hq313, hl313, hu313, hG⟩ := hz313
          subst hG
          refine z_if_gt cx (tgt := 328) dL_types_316 (fun h316 => ?_) (fun h316 => ?_)
          · skip
            have hTy : TyS (lowV x 4) sc := hn.1 ▸ TyS.plain hSc hkn (by omega)
            refine z_iconst cx dL_types_328 ?_
            refine z_goto cx (tgt := 333) dL_types_329 ?_
            refine z_zret cx dL_types_333 ?_
            exact ⟨rfl, _, hTy, hC⟩
          · skip
            refine z_aload_n cx dL_types_319 rfl ?_
            refine z_bipush cx dL_types_320 ?_
            refine z_vi cx (c_X4_append hC (hSc.1.aok hA (by omega)) (by omega)) rfl mv_X4_append ml_L_73 (by omega) (co_main E _) rfl dL_types_322 (fun z322 G322 hz322 => ?_)
            obtain ⟨hq, hC, -⟩ := hz322
            rw [sA_app (A := A) (sc := sc) (x := 124) hSc.1 (by omega) (by omega)] at hq hC
            dsimp only at hq hC
            have hln322 := (hSc.1).2
            have hTy : TyS (lowV x 4) (sc ++ [124]) := hn.1 ▸ TyS.bar hSc hkn (by omega)
            refine z_if_le cx (tgt := 332) dL_types_325 (fun h325 => ?_) (fun h325 => ?_)
            · skip
              exfalso; omega
            · skip
              refine z_iconst cx dL_types_328 ?_
              refine z_goto cx (tgt := 333) dL_types_329 ?_
              refine z_zret cx dL_types_333 ?_
              exact ⟨rfl, _, hTy, hC⟩
      · skip
        refine z_iload_n cx dL_types_28 rfl ?_
        refine z_iconst cx dL_types_29 ?_
        refine z_iconst cx dL_types_30 ?_
        refine z_iload cx dL_types_31 rfl ?_
        refine z_imul cx dL_types_33 ?_
        refine z_iadd cx dL_types_34 ?_
        refine z_ishr cx dL_types_35 (fun z35 hs35 => ?_)
        refine z_istore cx dL_types_36 ?_
        refine z_iload cx dL_types_38 rfl ?_
        refine z_iload_n cx dL_types_40 rfl ?_
        refine z_bipush cx dL_types_41 ?_
        refine z_ishr cx dL_types_43 (fun z43 hs43 => ?_)
        refine z_iconst cx dL_types_44 ?_
        refine z_si cx (c_L_low (by omega)) rfl ms_L_low ml_L_58 dL_types_45 (fun z45 G45 hz45 => ?_)
        obtain ⟨hq45, hl45, hu45, hG⟩ := hz45
        subst hG
        refine z_if_ne cx (tgt := 57) dL_types_48 (fun h48 => ?_) (fun h48 => ?_)
        · skip
          refine z_sipush cx dL_types_57 ?_
          refine z_si cx (c_L_low (by omega)) rfl ms_L_low ml_L_58 dL_types_60 (fun z60 G60 hz60 => ?_)
          obtain ⟨hq60, hl60, hu60, hG⟩ := hz60
          subst hG
          refine z_istore cx dL_types_63 ?_
          refine z_iload cx dL_types_65 rfl ?_
          refine z_iload cx dL_types_67 rfl ?_
          refine z_iconst cx dL_types_69 ?_
          refine z_ishr cx dL_types_70 (fun z70 hs70 => ?_)
          refine z_bipush cx dL_types_71 ?_
          refine z_si cx (c_L_low (by omega)) rfl ms_L_low ml_L_58 dL_types_73 (fun z73 G73 hz73 => ?_)
          obtain ⟨hq73, hl73, hu73, hG⟩ := hz73
          subst hG
          refine z_iadd cx dL_types_76 ?_
          refine z_iload cx dL_types_77 rfl ?_
          refine z_bipush cx dL_types_79 ?_
          refine z_ishr cx dL_types_81 (fun z81 hs81 => ?_)
          refine z_bipush cx dL_types_82 ?_
          refine z_si cx (c_L_low (by omega)) rfl ms_L_low ml_L_58 dL_types_84 (fun z84 G84 hz84 => ?_)
          obtain ⟨hq84, hl84, hu84, hG⟩ := hz84
          subst hG
          refine z_if_ne cx (tgt := 95) dL_types_87 (fun h87 => ?_) (fun h87 => ?_)
          · skip
            refine z_iconst cx dL_types_95 ?_
            refine z_isub cx dL_types_96 ?_
            refine Z.locs (L97 _ _ _ _ (by omega) (by omega) (by omega) hC) ⟨rfl, rfl, rfl, rfl, rfl, rfl, rfl, trivial⟩
          · skip
            refine z_bipush cx dL_types_90 ?_
            refine z_goto cx (tgt := 96) dL_types_92 ?_
            refine z_isub cx dL_types_96 ?_
            refine Z.locs (L97 _ _ _ _ (by omega) (by omega) (by omega) hC) ⟨rfl, rfl, rfl, rfl, rfl, rfl, rfl, trivial⟩
        · skip
          refine z_sipush cx dL_types_51 ?_
          refine z_goto cx (tgt := 60) dL_types_54 ?_
          refine z_si cx (c_L_low (by omega)) rfl ms_L_low ml_L_58 dL_types_60 (fun z60 G60 hz60 => ?_)
          obtain ⟨hq60, hl60, hu60, hG⟩ := hz60
          subst hG
          refine z_istore cx dL_types_63 ?_
          refine z_iload cx dL_types_65 rfl ?_
          refine z_iload cx dL_types_67 rfl ?_
          refine z_iconst cx dL_types_69 ?_
          refine z_ishr cx dL_types_70 (fun z70 hs70 => ?_)
          refine z_bipush cx dL_types_71 ?_
          refine z_si cx (c_L_low (by omega)) rfl ms_L_low ml_L_58 dL_types_73 (fun z73 G73 hz73 => ?_)
          obtain ⟨hq73, hl73, hu73, hG⟩ := hz73
          subst hG
          refine z_iadd cx dL_types_76 ?_
          refine z_iload cx dL_types_77 rfl ?_
          refine z_bipush cx dL_types_79 ?_
          refine z_ishr cx dL_types_81 (fun z81 hs81 => ?_)
          refine z_bipush cx dL_types_82 ?_
          refine z_si cx (c_L_low (by omega)) rfl ms_L_low ml_L_58 dL_types_84 (fun z84 G84 hz84 => ?_)
          obtain ⟨hq84, hl84, hu84, hG⟩ := hz84
          subst hG
          refine z_if_ne cx (tgt := 95) dL_types_87 (fun h87 => ?_) (fun h87 => ?_)
          · skip
            refine z_iconst cx dL_types_95 ?_
            refine z_isub cx dL_types_96 ?_
            refine Z.locs (L97 _ _ _ _ (by omega) (by omega) (by omega) hC) ⟨rfl, rfl, rfl, rfl, rfl, rfl, rfl, trivial⟩
          · skip
            refine z_bipush cx dL_types_90 ?_
            refine z_goto cx (tgt := 96) dL_types_92 ?_
            refine z_isub cx dL_types_96 ?_
            refine Z.locs (L97 _ _ _ _ (by omega) (by omega) (by omega) hC) ⟨rfl, rfl, rfl, rfl, rfl, rfl, rfl, trivial⟩
  refine z_iload_n cx dL_types_0 rfl ?_
  refine z_iconst cx dL_types_1 ?_
  refine z_si cx (c_L_low (by omega)) rfl ms_L_low ml_L_58 dL_types_2 (fun z2 G2 hz2 => ?_)
  obtain ⟨hq2, hl2, hu2, hG⟩ := hz2
  subst hG
  refine z_istore_n cx dL_types_5 ?_
  refine z_aload_n cx dL_types_6 rfl ?_
  refine z_vi cx (c_X4_clearScript hC hA) rfl mv_X4_clearScript ml_L_76 (by omega) (co_main E _) rfl dL_types_7 (fun z7 G7 hz7 => ?_)
  obtain ⟨hq, hC, -⟩ := hz7
  have hC : CRel G7 (sA A []) := hC
  have hq : z7 = (A.2.2.1.length : Int) := hq
  have hl80 := hA.2.2.2.1.1
  refine z_if_lt cx (tgt := 17) dL_types_10 (fun h10 => ?_) (fun h10 => ?_)
  · skip
    exfalso; omega
  · skip
    refine z_iconst cx dL_types_13 ?_
    refine z_goto cx (tgt := 18) dL_types_14 ?_
    refine z_istore_n cx dL_types_18 ?_
    refine z_iconst cx dL_types_19 ?_
    refine z_istore cx dL_types_20 ?_
    refine Z.locs (L22 _ _ (0) _ _ (Nat.lt_succ_self _) ⟨hq2, by omega, by omega⟩ (by omega) ScN.nil hC) ⟨rfl, rfl, rfl, rfl, rfl, trivial⟩
