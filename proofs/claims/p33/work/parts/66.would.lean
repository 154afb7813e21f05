/-! ===== would ===== -/
def KnF (f : Int) : Prop := f = 0 ∨ f = 1 ∨ f = 2 ∨ f = 4 ∨ f = 8 ∨ f = 16 ∨ f = 32
theorem wd_un {A : Ast} (hA : AOk A) {q : Int} : ((q = 0 ∨ q = 61) → r_unread A q = -2) ∧ (1 ≤ q → q ≤ 60 → 0 ≤ r_unread A q ∧ r_unread A q ≤ (A.1.2.2.length : Int) ∧ (lpF A.1 = -6 ∨ (1 ≤ lpF A.1 ∧ lpF A.1 ≤ 60 ∧ (q < lpF A.1 → 0 < r_unread A q) ∧ (lpF A.1 ≤ q → r_unread A q = 0)))) := by
  constructor
  · intro h
    unfold r_unread
    rw [if_neg (by omega)]
  · intro h1 h2
    have e : r_unread A q = unr A.1 q := by
      unfold r_unread
      rw [if_pos ⟨h1, h2⟩]
    rw [e]
    have hb := unr_b A.1 q
    refine ⟨hb.1, hb.2, ?_⟩
    rcases lp_is hA.1 with h | ⟨a, b, c, d⟩
    · exact Or.inl h.1
    · refine Or.inr ⟨a, b, fun w => ?_, fun w => c q w⟩
      have := d q h1 w
      omega
theorem wd_lp {A : Ast} (hA : AOk A) : -6 ≤ lpF A.1 ∧ lpF A.1 ≤ 60 := by
  rcases lp_is hA.1 with h | ⟨a, b, c, d⟩
  · have := h.1
    omega
  · omega
theorem wd_if {A : Ast} (hA : AOk A) {w : Int} : ((w < 0 ∨ 2 < w) → r_ifSeated A w = -2) ∧ (0 ≤ w → w < 2 → 0 ≤ r_ifSeated A w ∧ r_ifSeated A w ≤ (A.1.2.2.length : Int)) ∧ (w = 2 → (A.1.2.2.length : Int) ≤ r_ifSeated A w ∧ r_ifSeated A w ≤ 5000) :=
  ⟨fun h => ifs_bad (by omega), fun h1 h2 => (ifs_b hA ⟨h1, by omega⟩).1 h2, fun h => (ifs_b hA (w := w) (by omega)).2 h⟩
theorem wd_at {A : Ast} (hA : AOk A) {f : Int} : ((f < 0 ∨ f = 5000) → r_at A f = -2) ∧ (0 ≤ f → f ≤ 4999 → r_at A f = -6 ∨ (0 ≤ r_at A f ∧ r_at A f < (A.1.2.2.length : Int) ∧ (sb A (r_at A f)).1 ≤ f ∧ f < (sb A (r_at A f)).2.1)) :=
  ⟨fun h => rt_bad (by omega), fun h1 h2 => rt_any hA ⟨h1, h2⟩⟩
theorem wd_fy {A : Ast} {f : Int} : (KnF f → 0 ≤ r_faulty A f ∧ r_faulty A f ≤ r_faulty A 0) ∧ (¬ KnF f → r_faulty A f = -2) ∧ 0 ≤ r_faulty A 0 ∧ r_faulty A 0 ≤ (A.1.2.2.length : Int) :=
  ⟨fun h => ⟨(fy_b A h).1, (fy_b A h).2.1⟩, fun h => fy_bad A h, (fy_b A (Or.inl rfl)).1, (fy_b A (f := 0) (Or.inl rfl)).2.2⟩
def WUn (A : Ast) (pa to le : Int) : Prop := ((pa = 0 ∨ pa = 61) → to = -2) ∧ (1 ≤ pa → pa ≤ 60 → 0 ≤ to ∧ to ≤ (A.1.2.2.length : Int) ∧ (le = -6 ∨ (1 ≤ le ∧ le ≤ 60 ∧ (pa < le → 0 < to) ∧ (le ≤ pa → to = 0))))
def WIf (A : Ast) (wh th : Int) : Prop := ((wh < 0 ∨ 2 < wh) → th = -2) ∧ (0 ≤ wh → wh < 2 → 0 ≤ th ∧ th ≤ (A.1.2.2.length : Int)) ∧ (wh = 2 → (A.1.2.2.length : Int) ≤ th ∧ th ≤ 5000)
def WAt (A : Ast) (fr aa : Int) : Prop := ((fr < 0 ∨ fr = 5000) → aa = -2) ∧ (0 ≤ fr → fr ≤ 4999 → aa = -6 ∨ (0 ≤ aa ∧ aa < (A.1.2.2.length : Int) ∧ (sb A aa).1 ≤ fr ∧ fr < (sb A aa).2.1))
def WFy (A : Ast) (ft fy : Int) : Prop := (KnF ft → 0 ≤ fy ∧ fy ≤ r_faulty A 0) ∧ (¬ KnF ft → fy = -2) ∧ 0 ≤ r_faulty A 0 ∧ r_faulty A 0 ≤ (A.1.2.2.length : Int)
def WdI (A : Ast) (pa to le wh th ga fr aa ft fy : Int) : Prop :=
  ((0 ≤ pa ∧ pa ≤ 61) ∧ (-6 ≤ le ∧ le ≤ 60) ∧ (-1 ≤ wh ∧ wh ≤ 3) ∧ (0 ≤ ga ∧ ga ≤ 20) ∧ (-1 ≤ fr ∧ fr ≤ 5000) ∧ (-1 ≤ ft ∧ ft ≤ 64)) ∧ WUn A pa to le ∧ WIf A wh th ∧ WAt A fr aa ∧ WFy A ft fy
set_option maxRecDepth 100000 in
set_option maxHeartbeats 4000000 in
theorem c_L_would {E : En} {G : Wd} {A : Ast} (hC : CRel G A) (hA : AOk A) {x : Int} : Cti E yL_would cL_would 15 .boolean 6 140 [.ref (E.1 0), .int (iN x)] G (fun z G' => z = 1 ∧ CRel G' A) := by
  obtain ⟨hv0, hv1, hv2, hv3, hv4, hv5a, hv5b⟩ := id hA.1.1
  have hcl := hA.1.2.1.1
  have hsl := hA.1.2.2.1
  refine Cti.mk [some (.ref (E.1 0)), some (.int (iN x)), none, none, none, none, none, none, none, none, none, none, none, none, none] (by decide) rfl (by intro v hv; simp only [List.mem_cons, List.not_mem_nil, or_false] at hv; rcases hv with rfl | rfl <;> rfl) (Nat.le_of_ble_eq_true rfl) ?_
  intro p l e s m args below meth c cx
  have L354 : ∀ (pa to le wh th ga fr aa ft fy : Int) (kn : Int) (G1 : Wd), (WdI A pa to le wh th ga fr aa ft fy) → ((kn = 1 ∧ KnF ft) ∨ (kn = 0 ∧ ¬ KnF ft)) → (CRel G1 A) → Z p l e (zr 6 140) s m args below meth c 15 0 0 E (Qi_ E below args s (fun z G' => z = 1 ∧ CRel G' A)) G1 354 [some (.ref (E.1 0)), some (.int (iN x)), some (.int (iN (A.1.2.2.length : Int))), some (.int (iN pa)), some (.int (iN to)), some (.int (iN le)), some (.int (iN wh)), some (.int (iN th)), some (.int (iN ga)), some (.int (iN fr)), some (.int (iN aa)), some (.int (iN ft)), some (.int (iN fy)), some (.int (iN kn)), none] [] := by
    intro pa to le wh th ga fr aa ft fy kn G1 hI hkn hC
    obtain ⟨⟨j1, j2, j3, j4, j5, j6⟩, iun, iif, iat, ify⟩ := id hI
    obtain ⟨i10a, i10b, i10c, i10d⟩ := ify
    unfold KnF at i10a i10b hkn
    refine z_iload cx dL_would_354 rfl ?_
    refine z_if_eq cx (tgt := 377) dL_would_356 (fun h356 => ?_) (fun h356 => ?_)
    · skip
      refine z_iload cx dL_would_377 rfl ?_
      refine z_bipush cx dL_would_379 ?_
      refine z_icmp_ne cx (tgt := 388) dL_would_381 (fun h381 => ?_) (fun h381 => ?_)
      · skip
        exfalso; omega
      · skip
        refine z_iconst cx dL_would_384 ?_
        refine z_goto cx (tgt := 389) dL_would_385 ?_
        refine z_zret cx dL_would_389 ?_
        exact ⟨by omega, hC⟩
    · skip
      refine z_iload cx dL_would_359 rfl ?_
      refine z_if_lt cx (tgt := 388) dL_would_361 (fun h361 => ?_) (fun h361 => ?_)
      · skip
        exfalso; omega
      · skip
        refine z_iload cx dL_would_364 rfl ?_
        refine z_aload_n cx dL_would_366 rfl ?_
        refine z_iconst cx dL_would_367 ?_
        refine z_vi cx (c_X4_faulty hC hA (by omega)) rfl mv_X4_faulty ml_L_48 (by omega) (co_main E _) rfl dL_would_368 (fun z368 G368 hz368 => ?_)
        obtain ⟨hq, hC, -⟩ := hz368
        subst hq
        refine z_icmp_gt cx (tgt := 388) dL_would_371 (fun h371 => ?_) (fun h371 => ?_)
        · skip
          exfalso; omega
        · skip
          refine z_goto cx (tgt := 384) dL_would_374 ?_
          refine z_iconst cx dL_would_384 ?_
          refine z_goto cx (tgt := 389) dL_would_385 ?_
          refine z_zret cx dL_would_389 ?_
          exact ⟨by omega, hC⟩
  have L265 : ∀ (pa to le wh th ga fr aa ft fy : Int) (kn : Int) (G1 : Wd), (WdI A pa to le wh th ga fr aa ft fy) → ((kn = 1 ∧ KnF ft) ∨ (kn = 0 ∧ ¬ KnF ft)) → (CRel G1 A) → Z p l e (zr 6 140) s m args below meth c 15 0 0 E (Qi_ E below args s (fun z G' => z = 1 ∧ CRel G' A)) G1 265 [some (.ref (E.1 0)), some (.int (iN x)), some (.int (iN (A.1.2.2.length : Int))), some (.int (iN pa)), some (.int (iN to)), some (.int (iN le)), some (.int (iN wh)), some (.int (iN th)), some (.int (iN ga)), some (.int (iN fr)), some (.int (iN aa)), some (.int (iN ft)), some (.int (iN fy)), some (.int (iN kn)), none] [] := by
    intro pa to le wh th ga fr aa ft fy kn G1 hI hkn hC
    obtain ⟨⟨j1, j2, j3, j4, j5, j6⟩, iun, iif, iat, ify⟩ := id hI
    obtain ⟨i8a, i8b⟩ := iat
    refine z_iload cx dL_would_265 rfl ?_
    refine z_if_lt cx (tgt := 281) dL_would_267 (fun h267 => ?_) (fun h267 => ?_)
    · skip
      exfalso; omega
    · skip
      refine z_iload cx dL_would_270 rfl ?_
      refine z_bipush cx dL_would_272 ?_
      refine z_icmp_gt cx (tgt := 281) dL_would_274 (fun h274 => ?_) (fun h274 => ?_)
      · skip
        exfalso; omega
      · skip
        refine z_iconst cx dL_would_277 ?_
        refine z_goto cx (tgt := 282) dL_would_278 ?_
        refine z_istore cx dL_would_282 ?_
        refine z_iload cx dL_would_284 rfl ?_
        refine z_if_eq cx (tgt := 388) dL_would_286 (fun h286 => ?_) (fun h286 => ?_)
        · skip
          exfalso; omega
        · skip
          refine z_iload cx dL_would_289 rfl ?_
          refine z_if_lt cx (tgt := 302) dL_would_291 (fun h291 => ?_) (fun h291 => ?_)
          · skip
            refine z_iload cx dL_would_302 rfl ?_
            refine z_bipush cx dL_would_304 ?_
            refine z_icmp_ne cx (tgt := 388) dL_would_306 (fun h306 => ?_) (fun h306 => ?_)
            · skip
              exfalso; omega
            · skip
              refine z_goto cx (tgt := 354) dL_would_309 ?_
              refine Z.locs (L354 _ _ _ _ _ _ _ _ _ _ _ _ hI hkn hC) ⟨rfl, rfl, rfl, rfl, rfl, rfl, rfl, rfl, rfl, rfl, rfl, rfl, rfl, rfl, trivial⟩
          · skip
            refine z_iload cx dL_would_294 rfl ?_
            refine z_sipush cx dL_would_296 ?_
            refine z_icmp_ne cx (tgt := 312) dL_would_299 (fun h299 => ?_) (fun h299 => ?_)
            · skip
              refine z_iload cx dL_would_312 rfl ?_
              refine z_bipush cx dL_would_314 ?_
              refine z_icmp_eq cx (tgt := 354) dL_would_316 (fun h316 => ?_) (fun h316 => ?_)
              · skip
                refine Z.locs (L354 _ _ _ _ _ _ _ _ _ _ _ _ hI hkn hC) ⟨rfl, rfl, rfl, rfl, rfl, rfl, rfl, rfl, rfl, rfl, rfl, rfl, rfl, rfl, trivial⟩
              · skip
                refine z_iload cx dL_would_319 rfl ?_
                refine z_if_lt cx (tgt := 388) dL_would_321 (fun h321 => ?_) (fun h321 => ?_)
                · skip
                  exfalso; omega
                · skip
                  refine z_iload cx dL_would_324 rfl ?_
                  refine z_iload_n cx dL_would_326 rfl ?_
                  refine z_icmp_ge cx (tgt := 388) dL_would_327 (fun h327 => ?_) (fun h327 => ?_)
                  · skip
                    exfalso; omega
                  · skip
                    have hS := sb_ok hA (x := aa) (by omega)
                    obtain ⟨hs0, hs1, hs2, hst⟩ := id hS
                    refine z_aload_n cx dL_would_330 rfl ?_
                    refine z_iload cx dL_would_331 rfl ?_
                    refine z_iconst cx dL_would_333 ?_
                    refine z_vi cx (c_X4_subtitle hC hA (by omega) (by omega)) rfl mv_X4_subtitle ml_L_29 (by omega) (co_main E _) rfl dL_would_334 (fun z334 G334 hz334 => ?_)
                    obtain ⟨hq, hC, -⟩ := hz334
                    have hq := hq.trans (rs_0 (by omega))
                    subst hq
                    refine z_iload cx dL_would_337 rfl ?_
                    refine z_icmp_gt cx (tgt := 388) dL_would_339 (fun h339 => ?_) (fun h339 => ?_)
                    · skip
                      exfalso; omega
                    · skip
                      refine z_aload_n cx dL_would_342 rfl ?_
                      refine z_iload cx dL_would_343 rfl ?_
                      refine z_iconst cx dL_would_345 ?_
                      refine z_vi cx (c_X4_subtitle hC hA (by omega) (by omega)) rfl mv_X4_subtitle ml_L_29 (by omega) (co_main E _) rfl dL_would_346 (fun z346 G346 hz346 => ?_)
                      obtain ⟨hq, hC, -⟩ := hz346
                      have hq := hq.trans (rs_1 (by omega))
                      subst hq
                      refine z_iload cx dL_would_349 rfl ?_
                      refine z_icmp_le cx (tgt := 388) dL_would_351 (fun h351 => ?_) (fun h351 => ?_)
                      · skip
                        exfalso; omega
                      · skip
                        refine Z.locs (L354 _ _ _ _ _ _ _ _ _ _ _ _ hI hkn hC) ⟨rfl, rfl, rfl, rfl, rfl, rfl, rfl, rfl, rfl, rfl, rfl, rfl, rfl, rfl, trivial⟩
            · skip
              refine z_iload cx dL_would_302 rfl ?_
              refine z_bipush cx dL_would_304 ?_
              refine z_icmp_ne cx (tgt := 388) dL_would_306 (fun h306 => ?_) (fun h306 => ?_)
              · skip
                exfalso; omega
              · skip
                refine z_goto cx (tgt := 354) dL_would_309 ?_
                refine Z.locs (L354 _ _ _ _ _ _ _ _ _ _ _ _ hI hkn hC) ⟨rfl, rfl, rfl, rfl, rfl, rfl, rfl, rfl, rfl, rfl, rfl, rfl, rfl, rfl, trivial⟩
  have L210 : ∀ (pa to le wh th ga fr aa ft fy : Int) (kn : Int) (G1 : Wd), (WdI A pa to le wh th ga fr aa ft fy) → ((kn = 1 ∧ KnF ft) ∨ (kn = 0 ∧ ¬ KnF ft)) → (CRel G1 A) → Z p l e (zr 6 140) s m args below meth c 15 0 0 E (Qi_ E below args s (fun z G' => z = 1 ∧ CRel G' A)) G1 210 [some (.ref (E.1 0)), some (.int (iN x)), some (.int (iN (A.1.2.2.length : Int))), some (.int (iN pa)), some (.int (iN to)), some (.int (iN le)), some (.int (iN wh)), some (.int (iN th)), some (.int (iN ga)), some (.int (iN fr)), some (.int (iN aa)), some (.int (iN ft)), some (.int (iN fy)), some (.int (iN kn)), none] [] := by
    intro pa to le wh th ga fr aa ft fy kn G1 hI hkn hC
    obtain ⟨⟨j1, j2, j3, j4, j5, j6⟩, iun, iif, iat, ify⟩ := id hI
    obtain ⟨i5a, i5b, i5c⟩ := iif
    refine z_iload cx dL_would_210 rfl ?_
    refine z_if_lt cx (tgt := 221) dL_would_212 (fun h212 => ?_) (fun h212 => ?_)
    · skip
      refine z_iload cx dL_would_221 rfl ?_
      refine z_bipush cx dL_would_223 ?_
      refine z_icmp_ne cx (tgt := 281) dL_would_225 (fun h225 => ?_) (fun h225 => ?_)
      · skip
        exfalso; omega
      · skip
        refine z_goto cx (tgt := 265) dL_would_228 ?_
        refine Z.locs (L265 _ _ _ _ _ _ _ _ _ _ _ _ hI hkn hC) ⟨rfl, rfl, rfl, rfl, rfl, rfl, rfl, rfl, rfl, rfl, rfl, rfl, rfl, rfl, trivial⟩
    · skip
      refine z_iload cx dL_would_215 rfl ?_
      refine z_iconst cx dL_would_217 ?_
      refine z_icmp_le cx (tgt := 231) dL_would_218 (fun h218 => ?_) (fun h218 => ?_)
      · skip
        refine z_iload cx dL_would_231 rfl ?_
        refine z_iconst cx dL_would_233 ?_
        refine z_icmp_ge cx (tgt := 251) dL_would_234 (fun h234 => ?_) (fun h234 => ?_)
        · skip
          refine z_iload cx dL_would_251 rfl ?_
          refine z_iload_n cx dL_would_253 rfl ?_
          refine z_icmp_lt cx (tgt := 281) dL_would_254 (fun h254 => ?_) (fun h254 => ?_)
          · skip
            exfalso; omega
          · skip
            refine z_iload cx dL_would_257 rfl ?_
            refine z_sipush cx dL_would_259 ?_
            refine z_icmp_gt cx (tgt := 281) dL_would_262 (fun h262 => ?_) (fun h262 => ?_)
            · skip
              exfalso; omega
            · skip
              refine Z.locs (L265 _ _ _ _ _ _ _ _ _ _ _ _ hI hkn hC) ⟨rfl, rfl, rfl, rfl, rfl, rfl, rfl, rfl, rfl, rfl, rfl, rfl, rfl, rfl, trivial⟩
        · skip
          refine z_iload cx dL_would_237 rfl ?_
          refine z_if_lt cx (tgt := 281) dL_would_239 (fun h239 => ?_) (fun h239 => ?_)
          · skip
            exfalso; omega
          · skip
            refine z_iload cx dL_would_242 rfl ?_
            refine z_iload_n cx dL_would_244 rfl ?_
            refine z_icmp_gt cx (tgt := 281) dL_would_245 (fun h245 => ?_) (fun h245 => ?_)
            · skip
              exfalso; omega
            · skip
              refine z_goto cx (tgt := 265) dL_would_248 ?_
              refine Z.locs (L265 _ _ _ _ _ _ _ _ _ _ _ _ hI hkn hC) ⟨rfl, rfl, rfl, rfl, rfl, rfl, rfl, rfl, rfl, rfl, rfl, rfl, rfl, rfl, trivial⟩
      · skip
        refine z_iload cx dL_would_221 rfl ?_
        refine z_bipush cx dL_would_223 ?_
        refine z_icmp_ne cx (tgt := 281) dL_would_225 (fun h225 => ?_) (fun h225 => ?_)
        · skip
          exfalso; omega
        · skip
          refine z_goto cx (tgt := 265) dL_would_228 ?_
          refine Z.locs (L265 _ _ _ _ _ _ _ _ _ _ _ _ hI hkn hC) ⟨rfl, rfl, rfl, rfl, rfl, rfl, rfl, rfl, rfl, rfl, rfl, rfl, rfl, rfl, trivial⟩
  have L144 : ∀ (pa to le wh th ga fr aa ft fy : Int) (kn : Int) (G1 : Wd), (WdI A pa to le wh th ga fr aa ft fy) → ((kn = 1 ∧ KnF ft) ∨ (kn = 0 ∧ ¬ KnF ft)) → (CRel G1 A) → Z p l e (zr 6 140) s m args below meth c 15 0 0 E (Qi_ E below args s (fun z G' => z = 1 ∧ CRel G' A)) G1 144 [some (.ref (E.1 0)), some (.int (iN x)), some (.int (iN (A.1.2.2.length : Int))), some (.int (iN pa)), some (.int (iN to)), some (.int (iN le)), some (.int (iN wh)), some (.int (iN th)), some (.int (iN ga)), some (.int (iN fr)), some (.int (iN aa)), some (.int (iN ft)), some (.int (iN fy)), some (.int (iN kn)), none] [] := by
    intro pa to le wh th ga fr aa ft fy kn G1 hI hkn hC
    obtain ⟨⟨j1, j2, j3, j4, j5, j6⟩, iun, iif, iat, ify⟩ := id hI
    obtain ⟨i2a, i2b⟩ := iun
    refine z_iload_n cx dL_would_144 rfl ?_
    refine z_if_eq cx (tgt := 154) dL_would_145 (fun h145 => ?_) (fun h145 => ?_)
    · skip
      refine z_iload cx dL_would_154 rfl ?_
      refine z_bipush cx dL_would_156 ?_
      refine z_icmp_ne cx (tgt := 281) dL_would_158 (fun h158 => ?_) (fun h158 => ?_)
      · skip
        exfalso; omega
      · skip
        refine z_goto cx (tgt := 210) dL_would_161 ?_
        refine Z.locs (L210 _ _ _ _ _ _ _ _ _ _ _ _ hI hkn hC) ⟨rfl, rfl, rfl, rfl, rfl, rfl, rfl, rfl, rfl, rfl, rfl, rfl, rfl, rfl, trivial⟩
    · skip
      refine z_iload_n cx dL_would_148 rfl ?_
      refine z_bipush cx dL_would_149 ?_
      refine z_icmp_ne cx (tgt := 164) dL_would_151 (fun h151 => ?_) (fun h151 => ?_)
      · skip
        refine z_iload cx dL_would_164 rfl ?_
        refine z_if_lt cx (tgt := 281) dL_would_166 (fun h166 => ?_) (fun h166 => ?_)
        · skip
          exfalso; omega
        · skip
          refine z_iload cx dL_would_169 rfl ?_
          refine z_iload_n cx dL_would_171 rfl ?_
          refine z_icmp_gt cx (tgt := 281) dL_would_172 (fun h172 => ?_) (fun h172 => ?_)
          · skip
            exfalso; omega
          · skip
            refine z_iload cx dL_would_175 rfl ?_
            refine z_bipush cx dL_would_177 ?_
            refine z_icmp_ne cx (tgt := 191) dL_would_179 (fun h179 => ?_) (fun h179 => ?_)
            · skip
              refine z_iload_n cx dL_would_191 rfl ?_
              refine z_iload cx dL_would_192 rfl ?_
              refine z_icmp_ge cx (tgt := 205) dL_would_194 (fun h194 => ?_) (fun h194 => ?_)
              · skip
                refine z_iload cx dL_would_205 rfl ?_
                refine z_if_ne cx (tgt := 281) dL_would_207 (fun h207 => ?_) (fun h207 => ?_)
                · skip
                  exfalso; omega
                · skip
                  refine Z.locs (L210 _ _ _ _ _ _ _ _ _ _ _ _ hI hkn hC) ⟨rfl, rfl, rfl, rfl, rfl, rfl, rfl, rfl, rfl, rfl, rfl, rfl, rfl, rfl, trivial⟩
              · skip
                refine z_iload cx dL_would_197 rfl ?_
                refine z_if_le cx (tgt := 281) dL_would_199 (fun h199 => ?_) (fun h199 => ?_)
                · skip
                  exfalso; omega
                · skip
                  refine z_goto cx (tgt := 210) dL_would_202 ?_
                  refine Z.locs (L210 _ _ _ _ _ _ _ _ _ _ _ _ hI hkn hC) ⟨rfl, rfl, rfl, rfl, rfl, rfl, rfl, rfl, rfl, rfl, rfl, rfl, rfl, rfl, trivial⟩
            · skip
              refine z_iload_n cx dL_would_182 rfl ?_
              refine z_bipush cx dL_would_183 ?_
              refine z_icmp_ge cx (tgt := 281) dL_would_185 (fun h185 => ?_) (fun h185 => ?_)
              · skip
                exfalso; omega
              · skip
                refine z_goto cx (tgt := 210) dL_would_188 ?_
                refine Z.locs (L210 _ _ _ _ _ _ _ _ _ _ _ _ hI hkn hC) ⟨rfl, rfl, rfl, rfl, rfl, rfl, rfl, rfl, rfl, rfl, rfl, rfl, rfl, rfl, trivial⟩
      · skip
        refine z_iload cx dL_would_154 rfl ?_
        refine z_bipush cx dL_would_156 ?_
        refine z_icmp_ne cx (tgt := 281) dL_would_158 (fun h158 => ?_) (fun h158 => ?_)
        · skip
          exfalso; omega
        · skip
          refine z_goto cx (tgt := 210) dL_would_161 ?_
          refine Z.locs (L210 _ _ _ _ _ _ _ _ _ _ _ _ hI hkn hC) ⟨rfl, rfl, rfl, rfl, rfl, rfl, rfl, rfl, rfl, rfl, rfl, rfl, rfl, rfl, trivial⟩
  have L142 : ∀ (pa to le wh th ga fr aa ft fy : Int) (kn : Int) (G1 : Wd), (WdI A pa to le wh th ga fr aa ft fy) → ((kn = 1 ∧ KnF ft) ∨ (kn = 0 ∧ ¬ KnF ft)) → (CRel G1 A) → Z p l e (zr 6 140) s m args below meth c 15 0 0 E (Qi_ E below args s (fun z G' => z = 1 ∧ CRel G' A)) G1 142 [some (.ref (E.1 0)), some (.int (iN x)), some (.int (iN (A.1.2.2.length : Int))), some (.int (iN pa)), some (.int (iN to)), some (.int (iN le)), some (.int (iN wh)), some (.int (iN th)), some (.int (iN ga)), some (.int (iN fr)), some (.int (iN aa)), some (.int (iN ft)), some (.int (iN fy)), none, none] [.int (iN kn)] := by
    intro pa to le wh th ga fr aa ft fy kn G1 hI hkn hC
    skip
    refine z_istore cx dL_would_142 ?_
    refine Z.locs (L144 _ _ _ _ _ _ _ _ _ _ _ _ hI hkn hC) ⟨rfl, rfl, rfl, rfl, rfl, rfl, rfl, rfl, rfl, rfl, rfl, rfl, rfl, rfl, trivial⟩
  refine z_aload_n cx dL_would_0 rfl ?_
  refine z_vi cx (c_X4_subtitles hC hA) rfl mv_X4_subtitles ml_L_26 (by omega) (co_main E _) rfl dL_would_1 (fun z1 G1 hz1 => ?_)
  obtain ⟨hq, hC, -⟩ := hz1
  subst hq
  refine z_istore_n cx dL_would_4 ?_
  refine z_iload_n cx dL_would_5 rfl ?_
  refine z_bipush cx dL_would_6 ?_
  refine z_si cx (c_L_low (by omega)) rfl ms_L_low ml_L_58 dL_would_8 (fun z8 G8 hz8 => ?_)
  obtain ⟨hq8, hl8, hu8, hG⟩ := hz8
  subst hG
  refine z_istore_n cx dL_would_11 ?_
  refine z_aload_n cx dL_would_12 rfl ?_
  refine z_iload_n cx dL_would_13 rfl ?_
  refine z_vi cx (c_X4_unread hC hA (by omega)) rfl mv_X4_unread ml_L_61 (by omega) (co_main E _) rfl dL_would_14 (fun z14 G14 hz14 => ?_)
  obtain ⟨hq14, hC, -⟩ := hz14
  have f14 : WUn A z8 z14 (lpF A.1) := by rw [hq14]; exact wd_un hA
  refine z_istore cx dL_would_17 ?_
  refine z_aload_n cx dL_would_19 rfl ?_
  refine z_vi cx (c_X4_leastPace hC hA) rfl mv_X4_leastPace ml_L_64 (by omega) (co_main E _) rfl dL_would_20 (fun z20 G20 hz20 => ?_)
  obtain ⟨hq20, hC, -⟩ := hz20
  have f20 := wd_lp hA
  rw [← hq20] at f20 f14
  refine z_istore cx dL_would_23 ?_
  refine z_iload_n cx dL_would_25 rfl ?_
  refine z_bipush cx dL_would_26 ?_
  refine z_ishr cx dL_would_28 (fun z28 hs28 => ?_)
  refine z_iconst cx dL_would_29 ?_
  refine z_si cx (c_L_low (by omega)) rfl ms_L_low ml_L_58 dL_would_30 (fun z30 G30 hz30 => ?_)
  obtain ⟨hq30, hl30, hu30, hG⟩ := hz30
  subst hG
  refine z_iconst cx dL_would_33 ?_
  refine z_isub cx dL_would_34 ?_
  refine z_istore cx dL_would_35 ?_
  refine z_aload_n cx dL_would_37 rfl ?_
  refine z_iload cx dL_would_38 rfl ?_
  refine z_vi cx (c_X4_ifSeated hC hA (by omega)) rfl mv_X4_ifSeated ml_L_67 (by omega) (co_main E _) rfl dL_would_40 (fun z40 G40 hz40 => ?_)
  obtain ⟨hq40, hC, -⟩ := hz40
  have f40 : WIf A (z30 - 1) z40 := by rw [hq40]; exact wd_if hA
  refine z_istore cx dL_would_43 ?_
  refine z_aload_n cx dL_would_45 rfl ?_
  refine z_vi cx (c_X4_bestGap hC hA) rfl mv_X4_bestGap ml_L_70 (by omega) (co_main E _) rfl dL_would_46 (fun z46 G46 hz46 => ?_)
  obtain ⟨hq46, hC, -⟩ := hz46
  have f46 : 0 ≤ z46 ∧ z46 ≤ 20 := by rw [hq46]; exact bg_b A.1 20
  refine z_istore cx dL_would_49 ?_
  refine z_iload_n cx dL_would_51 rfl ?_
  refine z_iconst cx dL_would_52 ?_
  refine z_ishr cx dL_would_53 (fun z53 hs53 => ?_)
  refine z_sipush cx dL_would_54 ?_
  refine z_si cx (c_L_low (by omega)) rfl ms_L_low ml_L_58 dL_would_57 (fun z57 G57 hz57 => ?_)
  obtain ⟨hq57, hl57, hu57, hG⟩ := hz57
  subst hG
  refine z_iconst cx dL_would_60 ?_
  refine z_isub cx dL_would_61 ?_
  refine z_istore cx dL_would_62 ?_
  refine z_aload_n cx dL_would_64 rfl ?_
  refine z_iload cx dL_would_65 rfl ?_
  refine z_vi cx (c_X4_at hC hA (by omega)) rfl mv_X4_at ml_L_45 (by omega) (co_main E _) rfl dL_would_67 (fun z67 G67 hz67 => ?_)
  obtain ⟨hq67, hC, -⟩ := hz67
  have f67 : WAt A (z57 - 1) z67 := by rw [hq67]; exact wd_at hA
  refine z_istore cx dL_would_70 ?_
  refine z_iload_n cx dL_would_72 rfl ?_
  refine z_bipush cx dL_would_73 ?_
  refine z_ishr cx dL_would_75 (fun z75 hs75 => ?_)
  refine z_bipush cx dL_would_76 ?_
  refine z_si cx (c_L_low (by omega)) rfl ms_L_low ml_L_58 dL_would_78 (fun z78 G78 hz78 => ?_)
  obtain ⟨hq78, hl78, hu78, hG⟩ := hz78
  subst hG
  refine z_iconst cx dL_would_81 ?_
  refine z_isub cx dL_would_82 ?_
  refine z_istore cx dL_would_83 ?_
  refine z_aload_n cx dL_would_85 rfl ?_
  refine z_iload cx dL_would_86 rfl ?_
  refine z_vi cx (c_X4_faulty hC hA (by omega)) rfl mv_X4_faulty ml_L_48 (by omega) (co_main E _) rfl dL_would_88 (fun z88 G88 hz88 => ?_)
  obtain ⟨hq88, hC, -⟩ := hz88
  have f88 : WFy A (z78 - 1) z88 := by rw [hq88]; exact wd_fy
  have hI : WdI A z8 z14 z20 (z30 - 1) z40 z46 (z57 - 1) z67 (z78 - 1) z88 := ⟨⟨by omega, by omega, by omega, by omega, by omega, by omega⟩, f14, f40, f67, f88⟩
  refine z_istore cx dL_would_91 ?_
  refine z_iload cx dL_would_93 rfl ?_
  refine z_if_eq cx (tgt := 137) dL_would_95 (fun h95 => ?_) (fun h95 => ?_)
  · skip
    refine z_iconst cx dL_would_137 ?_
    refine z_goto cx (tgt := 142) dL_would_138 ?_
    refine Z.locs (L142 _ _ _ _ _ _ _ _ _ _ _ _ hI (by unfold KnF; omega) hC) ⟨rfl, rfl, rfl, rfl, rfl, rfl, rfl, rfl, rfl, rfl, rfl, rfl, rfl, trivial⟩
  · skip
    refine z_iload cx dL_would_98 rfl ?_
    refine z_iconst cx dL_would_100 ?_
    refine z_icmp_eq cx (tgt := 137) dL_would_101 (fun h101 => ?_) (fun h101 => ?_)
    · skip
      refine z_iconst cx dL_would_137 ?_
      refine z_goto cx (tgt := 142) dL_would_138 ?_
      refine Z.locs (L142 _ _ _ _ _ _ _ _ _ _ _ _ hI (by unfold KnF; omega) hC) ⟨rfl, rfl, rfl, rfl, rfl, rfl, rfl, rfl, rfl, rfl, rfl, rfl, rfl, trivial⟩
    · skip
      refine z_iload cx dL_would_104 rfl ?_
      refine z_iconst cx dL_would_106 ?_
      refine z_icmp_eq cx (tgt := 137) dL_would_107 (fun h107 => ?_) (fun h107 => ?_)
      · skip
        refine z_iconst cx dL_would_137 ?_
        refine z_goto cx (tgt := 142) dL_would_138 ?_
        refine Z.locs (L142 _ _ _ _ _ _ _ _ _ _ _ _ hI (by unfold KnF; omega) hC) ⟨rfl, rfl, rfl, rfl, rfl, rfl, rfl, rfl, rfl, rfl, rfl, rfl, rfl, trivial⟩
      · skip
        refine z_iload cx dL_would_110 rfl ?_
        refine z_iconst cx dL_would_112 ?_
        refine z_icmp_eq cx (tgt := 137) dL_would_113 (fun h113 => ?_) (fun h113 => ?_)
        · skip
          refine z_iconst cx dL_would_137 ?_
          refine z_goto cx (tgt := 142) dL_would_138 ?_
          refine Z.locs (L142 _ _ _ _ _ _ _ _ _ _ _ _ hI (by unfold KnF; omega) hC) ⟨rfl, rfl, rfl, rfl, rfl, rfl, rfl, rfl, rfl, rfl, rfl, rfl, rfl, trivial⟩
        · skip
          refine z_iload cx dL_would_116 rfl ?_
          refine z_bipush cx dL_would_118 ?_
          refine z_icmp_eq cx (tgt := 137) dL_would_120 (fun h120 => ?_) (fun h120 => ?_)
          · skip
            refine z_iconst cx dL_would_137 ?_
            refine z_goto cx (tgt := 142) dL_would_138 ?_
            refine Z.locs (L142 _ _ _ _ _ _ _ _ _ _ _ _ hI (by unfold KnF; omega) hC) ⟨rfl, rfl, rfl, rfl, rfl, rfl, rfl, rfl, rfl, rfl, rfl, rfl, rfl, trivial⟩
          · skip
            refine z_iload cx dL_would_123 rfl ?_
            refine z_bipush cx dL_would_125 ?_
            refine z_icmp_eq cx (tgt := 137) dL_would_127 (fun h127 => ?_) (fun h127 => ?_)
            · skip
              refine z_iconst cx dL_would_137 ?_
              refine z_goto cx (tgt := 142) dL_would_138 ?_
              refine Z.locs (L142 _ _ _ _ _ _ _ _ _ _ _ _ hI (by unfold KnF; omega) hC) ⟨rfl, rfl, rfl, rfl, rfl, rfl, rfl, rfl, rfl, rfl, rfl, rfl, rfl, trivial⟩
            · skip
              refine z_iload cx dL_would_130 rfl ?_
              refine z_bipush cx dL_would_132 ?_
              refine z_icmp_ne cx (tgt := 141) dL_would_134 (fun h134 => ?_) (fun h134 => ?_)
              · skip
                refine z_iconst cx dL_would_141 ?_
                refine Z.locs (L142 _ _ _ _ _ _ _ _ _ _ _ _ hI (by unfold KnF; omega) hC) ⟨rfl, rfl, rfl, rfl, rfl, rfl, rfl, rfl, rfl, rfl, rfl, rfl, rfl, trivial⟩
              · skip
                refine z_iconst cx dL_would_137 ?_
                refine z_goto cx (tgt := 142) dL_would_138 ?_
                refine Z.locs (L142 _ _ _ _ _ _ _ _ _ _ _ _ hI (by unfold KnF; omega) hC) ⟨rfl, rfl, rfl, rfl, rfl, rfl, rfl, rfl, rfl, rfl, rfl, rfl, rfl, trivial⟩
