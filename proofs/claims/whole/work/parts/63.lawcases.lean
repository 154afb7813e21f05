/-! ===== the law's loop: rows of its own, and its cases ===== -/
def sx_ (xs : Nat → Int32) (j : Nat) : Int := (xs j).toInt
theorem sx_r (xs : Nat → Int32) (j : Nat) : -2147483648 ≤ sx_ xs j ∧ sx_ xs j < 2147483648 := by
  have h1 := (xs j).le_toInt
  have h2 := (xs j).toInt_lt
  unfold sx_
  exact ⟨by omega, by omega⟩
theorem sx_i (xs : Nat → Int32) (j : Nat) : xs j = iN (sx_ xs j) := (Int32.ofInt_toInt (xs j)).symm
/-- the script, out of our cells' reach -/
def Sx_ (E : En) (s : State) (b L : Nat) (xs : Nat → Int32) : Prop := va_X b L xs s s.heap ∧ b < s.heap.size ∧ (∀ q, AE E q → s.heap.size ≤ q) ∧ L ≤ 1536
theorem Sx_.nb {E : En} {s : State} {b L : Nat} {xs : Nat → Int32} (h : Sx_ E s b L xs) : ¬ AE E b := fun q => by
  have h1 := h.2.2.1 b q
  have h2 := h.2.1
  omega
def vL (b : Nat) (E : En) (i : Nat) : List (Option Value) := [some (.ref b), some (.ref (E.1 0)), some (.ref (E.1 6)), some (.int (iN (i : Int)))]
theorem and31 (x : Int32) : ∃ z : Int, 0 ≤ z ∧ z ≤ 31 ∧ x &&& iN 31 = iN z := by
  have h0 : (x &&& iN 31).toBitVec = x.toBitVec &&& 31#32 := rfl
  have h1 : (x &&& iN 31).toBitVec.toNat ≤ 31 := by
    rw [h0, BitVec.toNat_and]
    exact Nat.and_le_right
  have h2 : (x &&& iN 31).toInt = ((x &&& iN 31).toBitVec.toNat : Int) := by
    show (x &&& iN 31).toBitVec.toInt = _
    rw [BitVec.toInt_eq_toNat_of_lt (by omega)]
  exact ⟨(x &&& iN 31).toInt, by omega, by omega, (Int32.ofInt_toInt _).symm⟩
section LW
variable {p : Program} {l : Launch} {e : Env} {s : State} {m : MethodId} {args : Array Value} {below : List Frame} {meth : Method} {c : Code} {own : String} {cc : ByteArray} {nL ce sl : Nat} {rt : Option FieldType} {E : En} {b L : Nat} {xs : Nat → Int32}
variable {R : Room} {Q : State → Prop} {G : Wd} {pc : Nat} {vs : List (Option Value)} {st : List Value}
theorem z_slen (cx : Cx p s m args meth c own cc nL rt E) (hX : Sx_ E s b L xs) (hd : decode cc pc = .ok (.arraylength, 1)) (K : Z p l e R s m args below meth c nL ce sl E Q G (pc + 1) vs (.int (iN (L : Int)) :: st)) : Z p l e R s m args below meth c nL ce sl E Q G pc vs (.ref b :: st) :=
  fun H locs ls hP hS hL => va_slen cx.1 cx.2.1 hX.1 hX.2.1 hX.nb hS hd (by rw [← Int32.ofInt_eq_ofNat]; exact K H locs ls hP hS hL)
theorem z_sld (cx : Cx p s m args meth c own cc nL rt E) (hX : Sx_ E s b L xs) {x : Int} (j : Nat) (hj : x = (j : Int)) (hd : decode cc pc = .ok (.iaload, 1)) (h : j < L) (K : Z p l e R s m args below meth c nL ce sl E Q G (pc + 1) vs (.int (iN (sx_ xs j)) :: st)) : Z p l e R s m args below meth c nL ce sl E Q G pc vs (.int (iN x) :: .ref b :: st) :=
  fun H locs ls hP hS hL => va_sld cx.1 cx.2.1 hX.1 hX.2.1 hX.nb hS (iN_in (by omega) (by have := hX.2.2.2; omega)) hd (by
    have h9 := hX.2.2.2
    rw [iN_clamp (by omega), hj, Int.toNat_natCast, sx_i xs j]
    exact K H locs ls hP hS hL)
theorem z_same (cx : Cx p s m args meth c own cc nL rt E) {x : Int32} {off : Int} {tgt : Nat} (hd : decode cc pc = .ok (.if_icmp .eq off, 3)) (K : Z p l e R s m args below meth c nL ce sl E Q G tgt vs st) (ht : (pc : Int) + off = (tgt : Int) := by decide) : Z p l e R s m args below meth c nL ce sl E Q G pc vs (.int x :: .int x :: st) :=
  fun H locs ls hP hS hL => lv_icmp_eq cx.1 cx.2.1 hd ht (fun _ => K H locs ls hP hS hL) (fun q => absurd rfl q)
end LW
section LC
variable {p : Program} {l : Launch} {e : Env} {s : State} {m : MethodId} {args : Array Value} {below : List Frame} {meth : Method} {c : Code} {E : En} {b L i : Nat} {xs : Nat → Int32}
variable {Q : State → Prop} {G : Wd} {A : Ast}
/-- what is wanted behind a case: any world of the same kind -/
abbrev ZL (p : Program) (l : Launch) (e : Env) (s : State) (m : MethodId) (args : Array Value) (below : List Frame) (meth : Method) (c : Code) (E : En) (Q : State → Prop) (b i : Nat) (pc : Nat) (G : Wd) : Prop := Z p l e room_1 s m args below meth c 8 278 11940 E Q G pc (vL b E i) []
set_option maxRecDepth 20000 in
theorem lc_append (cx : Cx p s m args meth c "SubtitleSeatsLaw" code 8 ret E) (hX : Sx_ E s b L xs) (hi : i + 3 ≤ L) (hB : Both G A) (K : ∀ (G' : Wd) (B : Ast), Both G' B → ZL p l e s m args below meth c E Q b i 838 G') : ZL p l e s m args below meth c E Q b i 168 G := by
  refine z_aload_n cx dL_law_168 rfl ?_
  refine z_aload_n cx dL_law_169 rfl ?_
  refine z_iload_n cx dL_law_170 rfl ?_
  refine z_iconst cx dL_law_171 ?_
  refine z_iadd cx dL_law_172 ?_
  refine z_sld cx hX (i + 1) rfl dL_law_173 (by omega) ?_
  refine z_vi cx (cn := 0) (c_X4_append hB.1 hB.2.2 (sx_r xs _)) rfl mv_X4_append ml_L_13 (by decide) (co_main E G) rfl dL_law_174 (fun z1 G1 h1 => ?_)
  obtain ⟨rfl, hC1, hM1⟩ := h1
  refine z_aload_n cx dL_law_177 rfl ?_
  refine z_aload_n cx dL_law_178 rfl ?_
  refine z_iload_n cx dL_law_179 rfl ?_
  refine z_iconst cx dL_law_180 ?_
  refine z_iadd cx dL_law_181 ?_
  refine z_sld cx hX (i + 1) rfl dL_law_182 (by omega) ?_
  refine z_vi cx (cn := 6) (c_X5_append (hB.2.1.mfx hM1) hB.2.2 (sx_r xs _)) rfl mv_X5_append ml_L_17 (by decide) (co_mod E G1) rfl dL_law_183 (fun z2 G2 h2 => ?_)
  obtain ⟨rfl, hM2, hC2⟩ := h2
  exact z_same cx (tgt := 838) dL_law_186 (K G2 _ ⟨hC1.cfx (ok_append hB.2.2 _) hC2, hM2, (ok_append hB.2.2 _)⟩)
set_option maxRecDepth 20000 in
theorem lc_clearScript (cx : Cx p s m args meth c "SubtitleSeatsLaw" code 8 ret E) (hX : Sx_ E s b L xs) (hi : i + 3 ≤ L) (hB : Both G A) (K : ∀ (G' : Wd) (B : Ast), Both G' B → ZL p l e s m args below meth c E Q b i 838 G') : ZL p l e s m args below meth c E Q b i 191 G := by
  refine z_aload_n cx dL_law_191 rfl ?_
  refine z_vi cx (cn := 0) (c_X4_clearScript hB.1 hB.2.2) rfl mv_X4_clearScript ml_L_18 (by decide) (co_main E G) rfl dL_law_192 (fun z1 G1 h1 => ?_)
  obtain ⟨rfl, hC1, hM1⟩ := h1
  refine z_aload_n cx dL_law_195 rfl ?_
  refine z_vi cx (cn := 6) (c_X5_clearScript (hB.2.1.mfx hM1) hB.2.2) rfl mv_X5_clearScript ml_L_22 (by decide) (co_mod E G1) rfl dL_law_196 (fun z2 G2 h2 => ?_)
  obtain ⟨rfl, hM2, hC2⟩ := h2
  exact z_same cx (tgt := 838) dL_law_199 (K G2 _ ⟨hC1.cfx (ok_clear hB.2.2) hC2, hM2, (ok_clear hB.2.2)⟩)
set_option maxRecDepth 20000 in
theorem lc_fault (cx : Cx p s m args meth c "SubtitleSeatsLaw" code 8 ret E) (hX : Sx_ E s b L xs) (hi : i + 3 ≤ L) (hB : Both G A) (K : ∀ (G' : Wd) (B : Ast), Both G' B → ZL p l e s m args below meth c E Q b i 838 G') : ZL p l e s m args below meth c E Q b i 204 G := by
  refine z_aload_n cx dL_law_204 rfl ?_
  refine z_vi cx (cn := 0) (c_X4_fault hB.1 hB.2.2) rfl mv_X4_fault ml_L_23 (by decide) (co_main E G) rfl dL_law_205 (fun z1 G1 h1 => ?_)
  obtain ⟨rfl, hC1, hM1⟩ := h1
  refine z_aload_n cx dL_law_208 rfl ?_
  refine z_vi cx (cn := 6) (c_X5_fault (hB.2.1.mfx hM1) hB.2.2) rfl mv_X5_fault ml_L_26 (by decide) (co_mod E G1) rfl dL_law_209 (fun z2 G2 h2 => ?_)
  obtain ⟨rfl, hM2, hC2⟩ := h2
  exact z_same cx (tgt := 838) dL_law_212 (K G2 _ ⟨hC1.cfx (ok_fault hB.2.2) hC2, hM2, (ok_fault hB.2.2)⟩)
set_option maxRecDepth 20000 in
theorem lc_load (cx : Cx p s m args meth c "SubtitleSeatsLaw" code 8 ret E) (hX : Sx_ E s b L xs) (hi : i + 3 ≤ L) (hB : Both G A) (K : ∀ (G' : Wd) (B : Ast), Both G' B → ZL p l e s m args below meth c E Q b i 838 G') : ZL p l e s m args below meth c E Q b i 217 G := by
  refine z_aload_n cx dL_law_217 rfl ?_
  refine z_vi cx (cn := 0) (c_X4_load hB.1 hB.2.2) rfl mv_X4_load ml_L_27 (by decide) (co_main E G) rfl dL_law_218 (fun z1 G1 h1 => ?_)
  obtain ⟨rfl, hC1, hM1⟩ := h1
  refine z_aload_n cx dL_law_221 rfl ?_
  refine z_vi cx (cn := 6) (c_X5_load (hB.2.1.mfx hM1) hB.2.2) rfl mv_X5_load ml_L_30 (by decide) (co_mod E G1) rfl dL_law_222 (fun z2 G2 h2 => ?_)
  obtain ⟨rfl, hM2, hC2⟩ := h2
  exact z_same cx (tgt := 838) dL_law_225 (K G2 _ ⟨hC1.cfx (ok_load hB.2.2) hC2, hM2, (ok_load hB.2.2)⟩)
set_option maxRecDepth 20000 in
theorem lc_why (cx : Cx p s m args meth c "SubtitleSeatsLaw" code 8 ret E) (hX : Sx_ E s b L xs) (hi : i + 3 ≤ L) (hB : Both G A) (K : ∀ (G' : Wd) (B : Ast), Both G' B → ZL p l e s m args below meth c E Q b i 838 G') : ZL p l e s m args below meth c E Q b i 230 G := by
  refine z_aload_n cx dL_law_230 rfl ?_
  refine z_aload_n cx dL_law_231 rfl ?_
  refine z_iload_n cx dL_law_232 rfl ?_
  refine z_iconst cx dL_law_233 ?_
  refine z_iadd cx dL_law_234 ?_
  refine z_sld cx hX (i + 1) rfl dL_law_235 (by omega) ?_
  refine z_vi cx (cn := 0) (c_X4_why hB.1 hB.2.2 (sx_r xs _)) rfl mv_X4_why ml_L_31 (by decide) (co_main E G) rfl dL_law_236 (fun z1 G1 h1 => ?_)
  obtain ⟨rfl, hC1, hM1⟩ := h1
  refine z_aload_n cx dL_law_239 rfl ?_
  refine z_aload_n cx dL_law_240 rfl ?_
  refine z_iload_n cx dL_law_241 rfl ?_
  refine z_iconst cx dL_law_242 ?_
  refine z_iadd cx dL_law_243 ?_
  refine z_sld cx hX (i + 1) rfl dL_law_244 (by omega) ?_
  refine z_vi cx (cn := 6) (c_X5_why (hB.2.1.mfx hM1) hB.2.2 (sx_r xs _)) rfl mv_X5_why ml_L_34 (by decide) (co_mod E G1) rfl dL_law_245 (fun z2 G2 h2 => ?_)
  obtain ⟨rfl, hM2, hC2⟩ := h2
  exact z_same cx (tgt := 838) dL_law_248 (K G2 _ ⟨hC1.cfx (ok_why hB.2.2 _) hC2, hM2, (ok_why hB.2.2 _)⟩)
set_option maxRecDepth 20000 in
theorem lc_undo (cx : Cx p s m args meth c "SubtitleSeatsLaw" code 8 ret E) (hX : Sx_ E s b L xs) (hi : i + 3 ≤ L) (hB : Both G A) (K : ∀ (G' : Wd) (B : Ast), Both G' B → ZL p l e s m args below meth c E Q b i 838 G') : ZL p l e s m args below meth c E Q b i 253 G := by
  refine z_aload_n cx dL_law_253 rfl ?_
  refine z_vi cx (cn := 0) (c_X4_undo hB.1 hB.2.2) rfl mv_X4_undo ml_L_35 (by decide) (co_main E G) rfl dL_law_254 (fun z1 G1 h1 => ?_)
  obtain ⟨rfl, hC1, hM1⟩ := h1
  refine z_aload_n cx dL_law_257 rfl ?_
  refine z_vi cx (cn := 6) (c_X5_undo (hB.2.1.mfx hM1) hB.2.2) rfl mv_X5_undo ml_L_38 (by decide) (co_mod E G1) rfl dL_law_258 (fun z2 G2 h2 => ?_)
  obtain ⟨rfl, hM2, hC2⟩ := h2
  exact z_same cx (tgt := 838) dL_law_261 (K G2 _ ⟨hC1.cfx (ok_undo hB.2.2) hC2, hM2, (ok_undo hB.2.2)⟩)
set_option maxRecDepth 20000 in
theorem lc_remove (cx : Cx p s m args meth c "SubtitleSeatsLaw" code 8 ret E) (hX : Sx_ E s b L xs) (hi : i + 3 ≤ L) (hB : Both G A) (K : ∀ (G' : Wd) (B : Ast), Both G' B → ZL p l e s m args below meth c E Q b i 838 G') : ZL p l e s m args below meth c E Q b i 266 G := by
  refine z_aload_n cx dL_law_266 rfl ?_
  refine z_aload_n cx dL_law_267 rfl ?_
  refine z_iload_n cx dL_law_268 rfl ?_
  refine z_iconst cx dL_law_269 ?_
  refine z_iadd cx dL_law_270 ?_
  refine z_sld cx hX (i + 1) rfl dL_law_271 (by omega) ?_
  refine z_vi cx (cn := 0) (c_X4_remove hB.1 hB.2.2 (sx_r xs _)) rfl mv_X4_remove ml_L_39 (by decide) (co_main E G) rfl dL_law_272 (fun z1 G1 h1 => ?_)
  obtain ⟨rfl, hC1, hM1⟩ := h1
  refine z_aload_n cx dL_law_275 rfl ?_
  refine z_aload_n cx dL_law_276 rfl ?_
  refine z_iload_n cx dL_law_277 rfl ?_
  refine z_iconst cx dL_law_278 ?_
  refine z_iadd cx dL_law_279 ?_
  refine z_sld cx hX (i + 1) rfl dL_law_280 (by omega) ?_
  refine z_vi cx (cn := 6) (c_X5_remove (hB.2.1.mfx hM1) hB.2.2 (sx_r xs _)) rfl mv_X5_remove ml_L_42 (by decide) (co_mod E G1) rfl dL_law_281 (fun z2 G2 h2 => ?_)
  obtain ⟨rfl, hM2, hC2⟩ := h2
  exact z_same cx (tgt := 838) dL_law_284 (K G2 _ ⟨hC1.cfx (ok_remove hB.2.2 _) hC2, hM2, (ok_remove hB.2.2 _)⟩)
set_option maxRecDepth 20000 in
theorem lc_shift (cx : Cx p s m args meth c "SubtitleSeatsLaw" code 8 ret E) (hX : Sx_ E s b L xs) (hi : i + 3 ≤ L) (hB : Both G A) (K : ∀ (G' : Wd) (B : Ast), Both G' B → ZL p l e s m args below meth c E Q b i 838 G') : ZL p l e s m args below meth c E Q b i 289 G := by
  refine z_aload_n cx dL_law_289 rfl ?_
  refine z_aload_n cx dL_law_290 rfl ?_
  refine z_iload_n cx dL_law_291 rfl ?_
  refine z_iconst cx dL_law_292 ?_
  refine z_iadd cx dL_law_293 ?_
  refine z_sld cx hX (i + 1) rfl dL_law_294 (by omega) ?_
  refine z_aload_n cx dL_law_295 rfl ?_
  refine z_iload_n cx dL_law_296 rfl ?_
  refine z_iconst cx dL_law_297 ?_
  refine z_iadd cx dL_law_298 ?_
  refine z_sld cx hX (i + 2) rfl dL_law_299 (by omega) ?_
  refine z_vi cx (cn := 0) (c_X4_shift hB.1 hB.2.2 (sx_r xs _) (sx_r xs _)) rfl mv_X4_shift ml_L_43 (by decide) (co_main E G) rfl dL_law_300 (fun z1 G1 h1 => ?_)
  obtain ⟨rfl, hC1, hM1⟩ := h1
  refine z_aload_n cx dL_law_303 rfl ?_
  refine z_aload_n cx dL_law_304 rfl ?_
  refine z_iload_n cx dL_law_305 rfl ?_
  refine z_iconst cx dL_law_306 ?_
  refine z_iadd cx dL_law_307 ?_
  refine z_sld cx hX (i + 1) rfl dL_law_308 (by omega) ?_
  refine z_aload_n cx dL_law_309 rfl ?_
  refine z_iload_n cx dL_law_310 rfl ?_
  refine z_iconst cx dL_law_311 ?_
  refine z_iadd cx dL_law_312 ?_
  refine z_sld cx hX (i + 2) rfl dL_law_313 (by omega) ?_
  refine z_vi cx (cn := 6) (c_X5_shift (hB.2.1.mfx hM1) hB.2.2 (sx_r xs _) (sx_r xs _)) rfl mv_X5_shift ml_L_47 (by decide) (co_mod E G1) rfl dL_law_314 (fun z2 G2 h2 => ?_)
  obtain ⟨rfl, hM2, hC2⟩ := h2
  exact z_same cx (tgt := 838) dL_law_317 (K G2 _ ⟨hC1.cfx (ok_shift hB.2.2 _ _) hC2, hM2, (ok_shift hB.2.2 _ _)⟩)
set_option maxRecDepth 20000 in
theorem lc_setEnd (cx : Cx p s m args meth c "SubtitleSeatsLaw" code 8 ret E) (hX : Sx_ E s b L xs) (hi : i + 3 ≤ L) (hB : Both G A) (K : ∀ (G' : Wd) (B : Ast), Both G' B → ZL p l e s m args below meth c E Q b i 838 G') : ZL p l e s m args below meth c E Q b i 322 G := by
  refine z_aload_n cx dL_law_322 rfl ?_
  refine z_aload_n cx dL_law_323 rfl ?_
  refine z_iload_n cx dL_law_324 rfl ?_
  refine z_iconst cx dL_law_325 ?_
  refine z_iadd cx dL_law_326 ?_
  refine z_sld cx hX (i + 1) rfl dL_law_327 (by omega) ?_
  refine z_aload_n cx dL_law_328 rfl ?_
  refine z_iload_n cx dL_law_329 rfl ?_
  refine z_iconst cx dL_law_330 ?_
  refine z_iadd cx dL_law_331 ?_
  refine z_sld cx hX (i + 2) rfl dL_law_332 (by omega) ?_
  refine z_vi cx (cn := 0) (c_X4_setEnd hB.1 hB.2.2 (sx_r xs _) (sx_r xs _)) rfl mv_X4_setEnd ml_L_48 (by decide) (co_main E G) rfl dL_law_333 (fun z1 G1 h1 => ?_)
  obtain ⟨rfl, hC1, hM1⟩ := h1
  refine z_aload_n cx dL_law_336 rfl ?_
  refine z_aload_n cx dL_law_337 rfl ?_
  refine z_iload_n cx dL_law_338 rfl ?_
  refine z_iconst cx dL_law_339 ?_
  refine z_iadd cx dL_law_340 ?_
  refine z_sld cx hX (i + 1) rfl dL_law_341 (by omega) ?_
  refine z_aload_n cx dL_law_342 rfl ?_
  refine z_iload_n cx dL_law_343 rfl ?_
  refine z_iconst cx dL_law_344 ?_
  refine z_iadd cx dL_law_345 ?_
  refine z_sld cx hX (i + 2) rfl dL_law_346 (by omega) ?_
  refine z_vi cx (cn := 6) (c_X5_setEnd (hB.2.1.mfx hM1) hB.2.2 (sx_r xs _) (sx_r xs _)) rfl mv_X5_setEnd ml_L_51 (by decide) (co_mod E G1) rfl dL_law_347 (fun z2 G2 h2 => ?_)
  obtain ⟨rfl, hM2, hC2⟩ := h2
  exact z_same cx (tgt := 838) dL_law_350 (K G2 _ ⟨hC1.cfx (ok_setEnd hB.2.2 _ _) hC2, hM2, (ok_setEnd hB.2.2 _ _)⟩)
set_option maxRecDepth 20000 in
theorem lc_split (cx : Cx p s m args meth c "SubtitleSeatsLaw" code 8 ret E) (hX : Sx_ E s b L xs) (hi : i + 3 ≤ L) (hB : Both G A) (K : ∀ (G' : Wd) (B : Ast), Both G' B → ZL p l e s m args below meth c E Q b i 838 G') : ZL p l e s m args below meth c E Q b i 355 G := by
  refine z_aload_n cx dL_law_355 rfl ?_
  refine z_aload_n cx dL_law_356 rfl ?_
  refine z_iload_n cx dL_law_357 rfl ?_
  refine z_iconst cx dL_law_358 ?_
  refine z_iadd cx dL_law_359 ?_
  refine z_sld cx hX (i + 1) rfl dL_law_360 (by omega) ?_
  refine z_vi cx (cn := 0) (c_X4_split hB.1 hB.2.2 (sx_r xs _)) rfl mv_X4_split ml_L_52 (by decide) (co_main E G) rfl dL_law_361 (fun z1 G1 h1 => ?_)
  obtain ⟨rfl, hC1, hM1⟩ := h1
  refine z_aload_n cx dL_law_364 rfl ?_
  refine z_aload_n cx dL_law_365 rfl ?_
  refine z_iload_n cx dL_law_366 rfl ?_
  refine z_iconst cx dL_law_367 ?_
  refine z_iadd cx dL_law_368 ?_
  refine z_sld cx hX (i + 1) rfl dL_law_369 (by omega) ?_
  refine z_vi cx (cn := 6) (c_X5_split (hB.2.1.mfx hM1) hB.2.2 (sx_r xs _)) rfl mv_X5_split ml_L_55 (by decide) (co_mod E G1) rfl dL_law_370 (fun z2 G2 h2 => ?_)
  obtain ⟨rfl, hM2, hC2⟩ := h2
  exact z_same cx (tgt := 838) dL_law_373 (K G2 _ ⟨hC1.cfx (ok_split hB.2.2 _) hC2, hM2, (ok_split hB.2.2 _)⟩)
set_option maxRecDepth 20000 in
theorem lc_join (cx : Cx p s m args meth c "SubtitleSeatsLaw" code 8 ret E) (hX : Sx_ E s b L xs) (hi : i + 3 ≤ L) (hB : Both G A) (K : ∀ (G' : Wd) (B : Ast), Both G' B → ZL p l e s m args below meth c E Q b i 838 G') : ZL p l e s m args below meth c E Q b i 378 G := by
  refine z_aload_n cx dL_law_378 rfl ?_
  refine z_aload_n cx dL_law_379 rfl ?_
  refine z_iload_n cx dL_law_380 rfl ?_
  refine z_iconst cx dL_law_381 ?_
  refine z_iadd cx dL_law_382 ?_
  refine z_sld cx hX (i + 1) rfl dL_law_383 (by omega) ?_
  refine z_vi cx (cn := 0) (c_X4_join hB.1 hB.2.2 (sx_r xs _)) rfl mv_X4_join ml_L_56 (by decide) (co_main E G) rfl dL_law_384 (fun z1 G1 h1 => ?_)
  obtain ⟨rfl, hC1, hM1⟩ := h1
  refine z_aload_n cx dL_law_387 rfl ?_
  refine z_aload_n cx dL_law_388 rfl ?_
  refine z_iload_n cx dL_law_389 rfl ?_
  refine z_iconst cx dL_law_390 ?_
  refine z_iadd cx dL_law_391 ?_
  refine z_sld cx hX (i + 1) rfl dL_law_392 (by omega) ?_
  refine z_vi cx (cn := 6) (c_X5_join (hB.2.1.mfx hM1) hB.2.2 (sx_r xs _)) rfl mv_X5_join ml_L_59 (by decide) (co_mod E G1) rfl dL_law_393 (fun z2 G2 h2 => ?_)
  obtain ⟨rfl, hM2, hC2⟩ := h2
  exact z_same cx (tgt := 838) dL_law_396 (K G2 _ ⟨hC1.cfx (ok_join hB.2.2 _) hC2, hM2, (ok_join hB.2.2 _)⟩)
set_option maxRecDepth 20000 in
theorem lc_seat (cx : Cx p s m args meth c "SubtitleSeatsLaw" code 8 ret E) (hX : Sx_ E s b L xs) (hi : i + 3 ≤ L) (hB : Both G A) (K : ∀ (G' : Wd) (B : Ast), Both G' B → ZL p l e s m args below meth c E Q b i 838 G') : ZL p l e s m args below meth c E Q b i 401 G := by
  refine z_aload_n cx dL_law_401 rfl ?_
  refine z_vi cx (cn := 0) (c_X4_seat hB.1 hB.2.2) rfl mv_X4_seat ml_L_60 (by decide) (co_main E G) rfl dL_law_402 (fun z1 G1 h1 => ?_)
  obtain ⟨rfl, hC1, hM1⟩ := h1
  refine z_aload_n cx dL_law_405 rfl ?_
  refine z_vi cx (cn := 6) (c_X5_seat (hB.2.1.mfx hM1) hB.2.2) rfl mv_X5_seat ml_L_63 (by decide) (co_mod E G1) rfl dL_law_406 (fun z2 G2 h2 => ?_)
  obtain ⟨rfl, hM2, hC2⟩ := h2
  exact z_same cx (tgt := 838) dL_law_409 (K G2 _ ⟨hC1.cfx (ok_seat hB.2.2) hC2, hM2, (ok_seat hB.2.2)⟩)
set_option maxRecDepth 20000 in
theorem lc_cut (cx : Cx p s m args meth c "SubtitleSeatsLaw" code 8 ret E) (hX : Sx_ E s b L xs) (hi : i + 3 ≤ L) (hB : Both G A) (K : ∀ (G' : Wd) (B : Ast), Both G' B → ZL p l e s m args below meth c E Q b i 838 G') : ZL p l e s m args below meth c E Q b i 414 G := by
  refine z_aload_n cx dL_law_414 rfl ?_
  refine z_aload_n cx dL_law_415 rfl ?_
  refine z_iload_n cx dL_law_416 rfl ?_
  refine z_iconst cx dL_law_417 ?_
  refine z_iadd cx dL_law_418 ?_
  refine z_sld cx hX (i + 1) rfl dL_law_419 (by omega) ?_
  refine z_vi cx (cn := 0) (c_X4_cut hB.1 hB.2.2 (sx_r xs _)) rfl mv_X4_cut ml_L_64 (by decide) (co_main E G) rfl dL_law_420 (fun z1 G1 h1 => ?_)
  obtain ⟨rfl, hC1, hM1⟩ := h1
  refine z_aload_n cx dL_law_423 rfl ?_
  refine z_aload_n cx dL_law_424 rfl ?_
  refine z_iload_n cx dL_law_425 rfl ?_
  refine z_iconst cx dL_law_426 ?_
  refine z_iadd cx dL_law_427 ?_
  refine z_sld cx hX (i + 1) rfl dL_law_428 (by omega) ?_
  refine z_vi cx (cn := 6) (c_X5_cut (hB.2.1.mfx hM1) hB.2.2 (sx_r xs _)) rfl mv_X5_cut ml_L_67 (by decide) (co_mod E G1) rfl dL_law_429 (fun z2 G2 h2 => ?_)
  obtain ⟨rfl, hM2, hC2⟩ := h2
  exact z_same cx (tgt := 838) dL_law_432 (K G2 _ ⟨hC1.cfx (ok_cut hB.2.2 _) hC2, hM2, (ok_cut hB.2.2 _)⟩)
set_option maxRecDepth 20000 in
theorem lc_uncut (cx : Cx p s m args meth c "SubtitleSeatsLaw" code 8 ret E) (hX : Sx_ E s b L xs) (hi : i + 3 ≤ L) (hB : Both G A) (K : ∀ (G' : Wd) (B : Ast), Both G' B → ZL p l e s m args below meth c E Q b i 838 G') : ZL p l e s m args below meth c E Q b i 437 G := by
  refine z_aload_n cx dL_law_437 rfl ?_
  refine z_aload_n cx dL_law_438 rfl ?_
  refine z_iload_n cx dL_law_439 rfl ?_
  refine z_iconst cx dL_law_440 ?_
  refine z_iadd cx dL_law_441 ?_
  refine z_sld cx hX (i + 1) rfl dL_law_442 (by omega) ?_
  refine z_vi cx (cn := 0) (c_X4_uncut hB.1 hB.2.2 (sx_r xs _)) rfl mv_X4_uncut ml_L_68 (by decide) (co_main E G) rfl dL_law_443 (fun z1 G1 h1 => ?_)
  obtain ⟨rfl, hC1, hM1⟩ := h1
  refine z_aload_n cx dL_law_446 rfl ?_
  refine z_aload_n cx dL_law_447 rfl ?_
  refine z_iload_n cx dL_law_448 rfl ?_
  refine z_iconst cx dL_law_449 ?_
  refine z_iadd cx dL_law_450 ?_
  refine z_sld cx hX (i + 1) rfl dL_law_451 (by omega) ?_
  refine z_vi cx (cn := 6) (c_X5_uncut (hB.2.1.mfx hM1) hB.2.2 (sx_r xs _)) rfl mv_X5_uncut ml_L_71 (by decide) (co_mod E G1) rfl dL_law_452 (fun z2 G2 h2 => ?_)
  obtain ⟨rfl, hM2, hC2⟩ := h2
  exact z_same cx (tgt := 838) dL_law_455 (K G2 _ ⟨hC1.cfx (ok_uncut hB.2.2 _) hC2, hM2, (ok_uncut hB.2.2 _)⟩)
set_option maxRecDepth 20000 in
theorem lc_set (cx : Cx p s m args meth c "SubtitleSeatsLaw" code 8 ret E) (hX : Sx_ E s b L xs) (hi : i + 3 ≤ L) (hB : Both G A) (K : ∀ (G' : Wd) (B : Ast), Both G' B → ZL p l e s m args below meth c E Q b i 838 G') : ZL p l e s m args below meth c E Q b i 460 G := by
  refine z_aload_n cx dL_law_460 rfl ?_
  refine z_aload_n cx dL_law_461 rfl ?_
  refine z_iload_n cx dL_law_462 rfl ?_
  refine z_iconst cx dL_law_463 ?_
  refine z_iadd cx dL_law_464 ?_
  refine z_sld cx hX (i + 1) rfl dL_law_465 (by omega) ?_
  refine z_aload_n cx dL_law_466 rfl ?_
  refine z_iload_n cx dL_law_467 rfl ?_
  refine z_iconst cx dL_law_468 ?_
  refine z_iadd cx dL_law_469 ?_
  refine z_sld cx hX (i + 2) rfl dL_law_470 (by omega) ?_
  refine z_vi cx (cn := 0) (c_X4_set hB.1 hB.2.2 (sx_r xs _) (sx_r xs _)) rfl mv_X4_set ml_L_72 (by decide) (co_main E G) rfl dL_law_471 (fun z1 G1 h1 => ?_)
  obtain ⟨rfl, hC1, hM1⟩ := h1
  refine z_aload_n cx dL_law_474 rfl ?_
  refine z_aload_n cx dL_law_475 rfl ?_
  refine z_iload_n cx dL_law_476 rfl ?_
  refine z_iconst cx dL_law_477 ?_
  refine z_iadd cx dL_law_478 ?_
  refine z_sld cx hX (i + 1) rfl dL_law_479 (by omega) ?_
  refine z_aload_n cx dL_law_480 rfl ?_
  refine z_iload_n cx dL_law_481 rfl ?_
  refine z_iconst cx dL_law_482 ?_
  refine z_iadd cx dL_law_483 ?_
  refine z_sld cx hX (i + 2) rfl dL_law_484 (by omega) ?_
  refine z_vi cx (cn := 6) (c_X5_set (hB.2.1.mfx hM1) hB.2.2 (sx_r xs _) (sx_r xs _)) rfl mv_X5_set ml_L_75 (by decide) (co_mod E G1) rfl dL_law_485 (fun z2 G2 h2 => ?_)
  obtain ⟨rfl, hM2, hC2⟩ := h2
  exact z_same cx (tgt := 838) dL_law_488 (K G2 _ ⟨hC1.cfx (ok_set hB.2.2 _ _) hC2, hM2, (ok_set hB.2.2 _ _)⟩)
set_option maxRecDepth 20000 in
theorem lc_subtitles (cx : Cx p s m args meth c "SubtitleSeatsLaw" code 8 ret E) (hX : Sx_ E s b L xs) (hi : i + 3 ≤ L) (hB : Both G A) (K : ∀ (G' : Wd) (B : Ast), Both G' B → ZL p l e s m args below meth c E Q b i 838 G') : ZL p l e s m args below meth c E Q b i 493 G := by
  refine z_aload_n cx dL_law_493 rfl ?_
  refine z_vi cx (cn := 0) (c_X4_subtitles hB.1 hB.2.2) rfl mv_X4_subtitles ml_L_76 (by decide) (co_main E G) rfl dL_law_494 (fun z1 G1 h1 => ?_)
  obtain ⟨rfl, hC1, hM1⟩ := h1
  refine z_aload_n cx dL_law_497 rfl ?_
  refine z_vi cx (cn := 6) (c_X5_subtitles (hB.2.1.mfx hM1) hB.2.2) rfl mv_X5_subtitles ml_L_79 (by decide) (co_mod E G1) rfl dL_law_498 (fun z2 G2 h2 => ?_)
  obtain ⟨rfl, hM2, hC2⟩ := h2
  exact z_same cx (tgt := 838) dL_law_501 (K G2 _ ⟨hC1.cfx hB.2.2 hC2, hM2, hB.2.2⟩)
set_option maxRecDepth 20000 in
theorem lc_subtitle (cx : Cx p s m args meth c "SubtitleSeatsLaw" code 8 ret E) (hX : Sx_ E s b L xs) (hi : i + 3 ≤ L) (hB : Both G A) (K : ∀ (G' : Wd) (B : Ast), Both G' B → ZL p l e s m args below meth c E Q b i 838 G') : ZL p l e s m args below meth c E Q b i 506 G := by
  refine z_aload_n cx dL_law_506 rfl ?_
  refine z_aload_n cx dL_law_507 rfl ?_
  refine z_iload_n cx dL_law_508 rfl ?_
  refine z_iconst cx dL_law_509 ?_
  refine z_iadd cx dL_law_510 ?_
  refine z_sld cx hX (i + 1) rfl dL_law_511 (by omega) ?_
  refine z_aload_n cx dL_law_512 rfl ?_
  refine z_iload_n cx dL_law_513 rfl ?_
  refine z_iconst cx dL_law_514 ?_
  refine z_iadd cx dL_law_515 ?_
  refine z_sld cx hX (i + 2) rfl dL_law_516 (by omega) ?_
  refine z_vi cx (cn := 0) (c_X4_subtitle hB.1 hB.2.2 (sx_r xs _) (sx_r xs _)) rfl mv_X4_subtitle ml_L_80 (by decide) (co_main E G) rfl dL_law_517 (fun z1 G1 h1 => ?_)
  obtain ⟨rfl, hC1, hM1⟩ := h1
  refine z_aload_n cx dL_law_520 rfl ?_
  refine z_aload_n cx dL_law_521 rfl ?_
  refine z_iload_n cx dL_law_522 rfl ?_
  refine z_iconst cx dL_law_523 ?_
  refine z_iadd cx dL_law_524 ?_
  refine z_sld cx hX (i + 1) rfl dL_law_525 (by omega) ?_
  refine z_aload_n cx dL_law_526 rfl ?_
  refine z_iload_n cx dL_law_527 rfl ?_
  refine z_iconst cx dL_law_528 ?_
  refine z_iadd cx dL_law_529 ?_
  refine z_sld cx hX (i + 2) rfl dL_law_530 (by omega) ?_
  refine z_vi cx (cn := 6) (c_X5_subtitle (hB.2.1.mfx hM1) hB.2.2 (sx_r xs _) (sx_r xs _)) rfl mv_X5_subtitle ml_L_83 (by decide) (co_mod E G1) rfl dL_law_531 (fun z2 G2 h2 => ?_)
  obtain ⟨rfl, hM2, hC2⟩ := h2
  exact z_same cx (tgt := 838) dL_law_534 (K G2 _ ⟨hC1.cfx hB.2.2 hC2, hM2, hB.2.2⟩)
set_option maxRecDepth 20000 in
theorem lc_character (cx : Cx p s m args meth c "SubtitleSeatsLaw" code 8 ret E) (hX : Sx_ E s b L xs) (hi : i + 3 ≤ L) (hB : Both G A) (K : ∀ (G' : Wd) (B : Ast), Both G' B → ZL p l e s m args below meth c E Q b i 838 G') : ZL p l e s m args below meth c E Q b i 539 G := by
  refine z_aload_n cx dL_law_539 rfl ?_
  refine z_aload_n cx dL_law_540 rfl ?_
  refine z_iload_n cx dL_law_541 rfl ?_
  refine z_iconst cx dL_law_542 ?_
  refine z_iadd cx dL_law_543 ?_
  refine z_sld cx hX (i + 1) rfl dL_law_544 (by omega) ?_
  refine z_aload_n cx dL_law_545 rfl ?_
  refine z_iload_n cx dL_law_546 rfl ?_
  refine z_iconst cx dL_law_547 ?_
  refine z_iadd cx dL_law_548 ?_
  refine z_sld cx hX (i + 2) rfl dL_law_549 (by omega) ?_
  refine z_vi cx (cn := 0) (c_X4_character hB.1 hB.2.2 (sx_r xs _) (sx_r xs _)) rfl mv_X4_character ml_L_84 (by decide) (co_main E G) rfl dL_law_550 (fun z1 G1 h1 => ?_)
  obtain ⟨rfl, hC1, hM1⟩ := h1
  refine z_aload_n cx dL_law_553 rfl ?_
  refine z_aload_n cx dL_law_554 rfl ?_
  refine z_iload_n cx dL_law_555 rfl ?_
  refine z_iconst cx dL_law_556 ?_
  refine z_iadd cx dL_law_557 ?_
  refine z_sld cx hX (i + 1) rfl dL_law_558 (by omega) ?_
  refine z_aload_n cx dL_law_559 rfl ?_
  refine z_iload_n cx dL_law_560 rfl ?_
  refine z_iconst cx dL_law_561 ?_
  refine z_iadd cx dL_law_562 ?_
  refine z_sld cx hX (i + 2) rfl dL_law_563 (by omega) ?_
  refine z_vi cx (cn := 6) (c_X5_character (hB.2.1.mfx hM1) hB.2.2 (sx_r xs _) (sx_r xs _)) rfl mv_X5_character ml_L_87 (by decide) (co_mod E G1) rfl dL_law_564 (fun z2 G2 h2 => ?_)
  obtain ⟨rfl, hM2, hC2⟩ := h2
  exact z_same cx (tgt := 838) dL_law_567 (K G2 _ ⟨hC1.cfx hB.2.2 hC2, hM2, hB.2.2⟩)
set_option maxRecDepth 20000 in
theorem lc_line (cx : Cx p s m args meth c "SubtitleSeatsLaw" code 8 ret E) (hX : Sx_ E s b L xs) (hi : i + 3 ≤ L) (hB : Both G A) (K : ∀ (G' : Wd) (B : Ast), Both G' B → ZL p l e s m args below meth c E Q b i 838 G') : ZL p l e s m args below meth c E Q b i 572 G := by
  refine z_aload_n cx dL_law_572 rfl ?_
  refine z_aload_n cx dL_law_573 rfl ?_
  refine z_iload_n cx dL_law_574 rfl ?_
  refine z_iconst cx dL_law_575 ?_
  refine z_iadd cx dL_law_576 ?_
  refine z_sld cx hX (i + 1) rfl dL_law_577 (by omega) ?_
  refine z_aload_n cx dL_law_578 rfl ?_
  refine z_iload_n cx dL_law_579 rfl ?_
  refine z_iconst cx dL_law_580 ?_
  refine z_iadd cx dL_law_581 ?_
  refine z_sld cx hX (i + 2) rfl dL_law_582 (by omega) ?_
  refine z_vi cx (cn := 0) (c_X4_line hB.1 hB.2.2 (sx_r xs _) (sx_r xs _)) rfl mv_X4_line ml_L_88 (by decide) (co_main E G) rfl dL_law_583 (fun z1 G1 h1 => ?_)
  obtain ⟨rfl, hC1, hM1⟩ := h1
  refine z_aload_n cx dL_law_586 rfl ?_
  refine z_aload_n cx dL_law_587 rfl ?_
  refine z_iload_n cx dL_law_588 rfl ?_
  refine z_iconst cx dL_law_589 ?_
  refine z_iadd cx dL_law_590 ?_
  refine z_sld cx hX (i + 1) rfl dL_law_591 (by omega) ?_
  refine z_aload_n cx dL_law_592 rfl ?_
  refine z_iload_n cx dL_law_593 rfl ?_
  refine z_iconst cx dL_law_594 ?_
  refine z_iadd cx dL_law_595 ?_
  refine z_sld cx hX (i + 2) rfl dL_law_596 (by omega) ?_
  refine z_vi cx (cn := 6) (c_X5_line (hB.2.1.mfx hM1) hB.2.2 (sx_r xs _) (sx_r xs _)) rfl mv_X5_line ml_L_91 (by decide) (co_mod E G1) rfl dL_law_597 (fun z2 G2 h2 => ?_)
  obtain ⟨rfl, hM2, hC2⟩ := h2
  exact z_same cx (tgt := 838) dL_law_600 (K G2 _ ⟨hC1.cfx hB.2.2 hC2, hM2, hB.2.2⟩)
set_option maxRecDepth 20000 in
theorem lc_at (cx : Cx p s m args meth c "SubtitleSeatsLaw" code 8 ret E) (hX : Sx_ E s b L xs) (hi : i + 3 ≤ L) (hB : Both G A) (K : ∀ (G' : Wd) (B : Ast), Both G' B → ZL p l e s m args below meth c E Q b i 838 G') : ZL p l e s m args below meth c E Q b i 605 G := by
  refine z_aload_n cx dL_law_605 rfl ?_
  refine z_aload_n cx dL_law_606 rfl ?_
  refine z_iload_n cx dL_law_607 rfl ?_
  refine z_iconst cx dL_law_608 ?_
  refine z_iadd cx dL_law_609 ?_
  refine z_sld cx hX (i + 1) rfl dL_law_610 (by omega) ?_
  refine z_vi cx (cn := 0) (c_X4_at hB.1 hB.2.2 (sx_r xs _)) rfl mv_X4_at ml_L_92 (by decide) (co_main E G) rfl dL_law_611 (fun z1 G1 h1 => ?_)
  obtain ⟨rfl, hC1, hM1⟩ := h1
  refine z_aload_n cx dL_law_614 rfl ?_
  refine z_aload_n cx dL_law_615 rfl ?_
  refine z_iload_n cx dL_law_616 rfl ?_
  refine z_iconst cx dL_law_617 ?_
  refine z_iadd cx dL_law_618 ?_
  refine z_sld cx hX (i + 1) rfl dL_law_619 (by omega) ?_
  refine z_vi cx (cn := 6) (c_X5_at (hB.2.1.mfx hM1) hB.2.2 (sx_r xs _)) rfl mv_X5_at ml_L_95 (by decide) (co_mod E G1) rfl dL_law_620 (fun z2 G2 h2 => ?_)
  obtain ⟨rfl, hM2, hC2⟩ := h2
  exact z_same cx (tgt := 838) dL_law_623 (K G2 _ ⟨hC1.cfx hB.2.2 hC2, hM2, hB.2.2⟩)
set_option maxRecDepth 20000 in
theorem lc_cuts (cx : Cx p s m args meth c "SubtitleSeatsLaw" code 8 ret E) (hX : Sx_ E s b L xs) (hi : i + 3 ≤ L) (hB : Both G A) (K : ∀ (G' : Wd) (B : Ast), Both G' B → ZL p l e s m args below meth c E Q b i 838 G') : ZL p l e s m args below meth c E Q b i 628 G := by
  refine z_aload_n cx dL_law_628 rfl ?_
  refine z_vi cx (cn := 0) (c_X4_cuts hB.1 hB.2.2) rfl mv_X4_cuts ml_L_96 (by decide) (co_main E G) rfl dL_law_629 (fun z1 G1 h1 => ?_)
  obtain ⟨rfl, hC1, hM1⟩ := h1
  refine z_aload_n cx dL_law_632 rfl ?_
  refine z_vi cx (cn := 6) (c_X5_cuts (hB.2.1.mfx hM1) hB.2.2) rfl mv_X5_cuts ml_L_99 (by decide) (co_mod E G1) rfl dL_law_633 (fun z2 G2 h2 => ?_)
  obtain ⟨rfl, hM2, hC2⟩ := h2
  exact z_same cx (tgt := 838) dL_law_636 (K G2 _ ⟨hC1.cfx hB.2.2 hC2, hM2, hB.2.2⟩)
set_option maxRecDepth 20000 in
theorem lc_cutAt (cx : Cx p s m args meth c "SubtitleSeatsLaw" code 8 ret E) (hX : Sx_ E s b L xs) (hi : i + 3 ≤ L) (hB : Both G A) (K : ∀ (G' : Wd) (B : Ast), Both G' B → ZL p l e s m args below meth c E Q b i 838 G') : ZL p l e s m args below meth c E Q b i 641 G := by
  refine z_aload_n cx dL_law_641 rfl ?_
  refine z_aload_n cx dL_law_642 rfl ?_
  refine z_iload_n cx dL_law_643 rfl ?_
  refine z_iconst cx dL_law_644 ?_
  refine z_iadd cx dL_law_645 ?_
  refine z_sld cx hX (i + 1) rfl dL_law_646 (by omega) ?_
  refine z_vi cx (cn := 0) (c_X4_cutAt hB.1 hB.2.2 (sx_r xs _)) rfl mv_X4_cutAt ml_L_100 (by decide) (co_main E G) rfl dL_law_647 (fun z1 G1 h1 => ?_)
  obtain ⟨rfl, hC1, hM1⟩ := h1
  refine z_aload_n cx dL_law_650 rfl ?_
  refine z_aload_n cx dL_law_651 rfl ?_
  refine z_iload_n cx dL_law_652 rfl ?_
  refine z_iconst cx dL_law_653 ?_
  refine z_iadd cx dL_law_654 ?_
  refine z_sld cx hX (i + 1) rfl dL_law_655 (by omega) ?_
  refine z_vi cx (cn := 6) (c_X5_cutAt (hB.2.1.mfx hM1) hB.2.2 (sx_r xs _)) rfl mv_X5_cutAt ml_L_103 (by decide) (co_mod E G1) rfl dL_law_656 (fun z2 G2 h2 => ?_)
  obtain ⟨rfl, hM2, hC2⟩ := h2
  exact z_same cx (tgt := 838) dL_law_659 (K G2 _ ⟨hC1.cfx hB.2.2 hC2, hM2, hB.2.2⟩)
set_option maxRecDepth 20000 in
theorem lc_setting (cx : Cx p s m args meth c "SubtitleSeatsLaw" code 8 ret E) (hX : Sx_ E s b L xs) (hi : i + 3 ≤ L) (hB : Both G A) (K : ∀ (G' : Wd) (B : Ast), Both G' B → ZL p l e s m args below meth c E Q b i 838 G') : ZL p l e s m args below meth c E Q b i 664 G := by
  refine z_aload_n cx dL_law_664 rfl ?_
  refine z_aload_n cx dL_law_665 rfl ?_
  refine z_iload_n cx dL_law_666 rfl ?_
  refine z_iconst cx dL_law_667 ?_
  refine z_iadd cx dL_law_668 ?_
  refine z_sld cx hX (i + 1) rfl dL_law_669 (by omega) ?_
  refine z_vi cx (cn := 0) (c_X4_setting hB.1 hB.2.2 (sx_r xs _)) rfl mv_X4_setting ml_L_104 (by decide) (co_main E G) rfl dL_law_670 (fun z1 G1 h1 => ?_)
  obtain ⟨rfl, hC1, hM1⟩ := h1
  refine z_aload_n cx dL_law_673 rfl ?_
  refine z_aload_n cx dL_law_674 rfl ?_
  refine z_iload_n cx dL_law_675 rfl ?_
  refine z_iconst cx dL_law_676 ?_
  refine z_iadd cx dL_law_677 ?_
  refine z_sld cx hX (i + 1) rfl dL_law_678 (by omega) ?_
  refine z_vi cx (cn := 6) (c_X5_setting (hB.2.1.mfx hM1) hB.2.2 (sx_r xs _)) rfl mv_X5_setting ml_L_107 (by decide) (co_mod E G1) rfl dL_law_679 (fun z2 G2 h2 => ?_)
  obtain ⟨rfl, hM2, hC2⟩ := h2
  exact z_same cx (tgt := 838) dL_law_682 (K G2 _ ⟨hC1.cfx hB.2.2 hC2, hM2, hB.2.2⟩)
set_option maxRecDepth 20000 in
theorem lc_faulty (cx : Cx p s m args meth c "SubtitleSeatsLaw" code 8 ret E) (hX : Sx_ E s b L xs) (hi : i + 3 ≤ L) (hB : Both G A) (K : ∀ (G' : Wd) (B : Ast), Both G' B → ZL p l e s m args below meth c E Q b i 838 G') : ZL p l e s m args below meth c E Q b i 687 G := by
  refine z_aload_n cx dL_law_687 rfl ?_
  refine z_aload_n cx dL_law_688 rfl ?_
  refine z_iload_n cx dL_law_689 rfl ?_
  refine z_iconst cx dL_law_690 ?_
  refine z_iadd cx dL_law_691 ?_
  refine z_sld cx hX (i + 1) rfl dL_law_692 (by omega) ?_
  refine z_vi cx (cn := 0) (c_X4_faulty hB.1 hB.2.2 (sx_r xs _)) rfl mv_X4_faulty ml_L_108 (by decide) (co_main E G) rfl dL_law_693 (fun z1 G1 h1 => ?_)
  obtain ⟨rfl, hC1, hM1⟩ := h1
  refine z_aload_n cx dL_law_696 rfl ?_
  refine z_aload_n cx dL_law_697 rfl ?_
  refine z_iload_n cx dL_law_698 rfl ?_
  refine z_iconst cx dL_law_699 ?_
  refine z_iadd cx dL_law_700 ?_
  refine z_sld cx hX (i + 1) rfl dL_law_701 (by omega) ?_
  refine z_vi cx (cn := 6) (c_X5_faulty (hB.2.1.mfx hM1) hB.2.2 (sx_r xs _)) rfl mv_X5_faulty ml_L_111 (by decide) (co_mod E G1) rfl dL_law_702 (fun z2 G2 h2 => ?_)
  obtain ⟨rfl, hM2, hC2⟩ := h2
  exact z_same cx (tgt := 838) dL_law_705 (K G2 _ ⟨hC1.cfx hB.2.2 hC2, hM2, hB.2.2⟩)
set_option maxRecDepth 20000 in
theorem lc_shown (cx : Cx p s m args meth c "SubtitleSeatsLaw" code 8 ret E) (hX : Sx_ E s b L xs) (hi : i + 3 ≤ L) (hB : Both G A) (K : ∀ (G' : Wd) (B : Ast), Both G' B → ZL p l e s m args below meth c E Q b i 838 G') : ZL p l e s m args below meth c E Q b i 710 G := by
  refine z_aload_n cx dL_law_710 rfl ?_
  refine z_vi cx (cn := 0) (c_X4_shown hB.1 hB.2.2) rfl mv_X4_shown ml_L_112 (by decide) (co_main E G) rfl dL_law_711 (fun z1 G1 h1 => ?_)
  obtain ⟨rfl, hC1, hM1⟩ := h1
  refine z_aload_n cx dL_law_714 rfl ?_
  refine z_vi cx (cn := 6) (c_X5_shown (hB.2.1.mfx hM1) hB.2.2) rfl mv_X5_shown ml_L_115 (by decide) (co_mod E G1) rfl dL_law_715 (fun z2 G2 h2 => ?_)
  obtain ⟨rfl, hM2, hC2⟩ := h2
  exact z_same cx (tgt := 838) dL_law_718 (K G2 _ ⟨hC1.cfx hB.2.2 hC2, hM2, hB.2.2⟩)
set_option maxRecDepth 20000 in
theorem lc_unread (cx : Cx p s m args meth c "SubtitleSeatsLaw" code 8 ret E) (hX : Sx_ E s b L xs) (hi : i + 3 ≤ L) (hB : Both G A) (K : ∀ (G' : Wd) (B : Ast), Both G' B → ZL p l e s m args below meth c E Q b i 838 G') : ZL p l e s m args below meth c E Q b i 766 G := by
  refine z_aload_n cx dL_law_766 rfl ?_
  refine z_aload_n cx dL_law_767 rfl ?_
  refine z_iload_n cx dL_law_768 rfl ?_
  refine z_iconst cx dL_law_769 ?_
  refine z_iadd cx dL_law_770 ?_
  refine z_sld cx hX (i + 1) rfl dL_law_771 (by omega) ?_
  refine z_vi cx (cn := 0) (c_X4_unread hB.1 hB.2.2 (sx_r xs _)) rfl mv_X4_unread ml_L_121 (by decide) (co_main E G) rfl dL_law_772 (fun z1 G1 h1 => ?_)
  obtain ⟨rfl, hC1, hM1⟩ := h1
  refine z_aload_n cx dL_law_775 rfl ?_
  refine z_aload_n cx dL_law_776 rfl ?_
  refine z_iload_n cx dL_law_777 rfl ?_
  refine z_iconst cx dL_law_778 ?_
  refine z_iadd cx dL_law_779 ?_
  refine z_sld cx hX (i + 1) rfl dL_law_780 (by omega) ?_
  refine z_vi cx (cn := 6) (c_X5_unread (hB.2.1.mfx hM1) hB.2.2 (sx_r xs _)) rfl mv_X5_unread ml_L_124 (by decide) (co_mod E G1) rfl dL_law_781 (fun z2 G2 h2 => ?_)
  obtain ⟨rfl, hM2, hC2⟩ := h2
  exact z_same cx (tgt := 838) dL_law_784 (K G2 _ ⟨hC1.cfx hB.2.2 hC2, hM2, hB.2.2⟩)
set_option maxRecDepth 20000 in
theorem lc_leastPace (cx : Cx p s m args meth c "SubtitleSeatsLaw" code 8 ret E) (hX : Sx_ E s b L xs) (hi : i + 3 ≤ L) (hB : Both G A) (K : ∀ (G' : Wd) (B : Ast), Both G' B → ZL p l e s m args below meth c E Q b i 838 G') : ZL p l e s m args below meth c E Q b i 789 G := by
  refine z_aload_n cx dL_law_789 rfl ?_
  refine z_vi cx (cn := 0) (c_X4_leastPace hB.1 hB.2.2) rfl mv_X4_leastPace ml_L_125 (by decide) (co_main E G) rfl dL_law_790 (fun z1 G1 h1 => ?_)
  obtain ⟨rfl, hC1, hM1⟩ := h1
  refine z_aload_n cx dL_law_793 rfl ?_
  refine z_vi cx (cn := 6) (c_X5_leastPace (hB.2.1.mfx hM1) hB.2.2) rfl mv_X5_leastPace ml_L_128 (by decide) (co_mod E G1) rfl dL_law_794 (fun z2 G2 h2 => ?_)
  obtain ⟨rfl, hM2, hC2⟩ := h2
  exact z_same cx (tgt := 838) dL_law_797 (K G2 _ ⟨hC1.cfx hB.2.2 hC2, hM2, hB.2.2⟩)
set_option maxRecDepth 20000 in
theorem lc_ifSeated (cx : Cx p s m args meth c "SubtitleSeatsLaw" code 8 ret E) (hX : Sx_ E s b L xs) (hi : i + 3 ≤ L) (hB : Both G A) (K : ∀ (G' : Wd) (B : Ast), Both G' B → ZL p l e s m args below meth c E Q b i 838 G') : ZL p l e s m args below meth c E Q b i 802 G := by
  refine z_aload_n cx dL_law_802 rfl ?_
  refine z_aload_n cx dL_law_803 rfl ?_
  refine z_iload_n cx dL_law_804 rfl ?_
  refine z_iconst cx dL_law_805 ?_
  refine z_iadd cx dL_law_806 ?_
  refine z_sld cx hX (i + 1) rfl dL_law_807 (by omega) ?_
  refine z_vi cx (cn := 0) (c_X4_ifSeated hB.1 hB.2.2 (sx_r xs _)) rfl mv_X4_ifSeated ml_L_129 (by decide) (co_main E G) rfl dL_law_808 (fun z1 G1 h1 => ?_)
  obtain ⟨rfl, hC1, hM1⟩ := h1
  refine z_aload_n cx dL_law_811 rfl ?_
  refine z_aload_n cx dL_law_812 rfl ?_
  refine z_iload_n cx dL_law_813 rfl ?_
  refine z_iconst cx dL_law_814 ?_
  refine z_iadd cx dL_law_815 ?_
  refine z_sld cx hX (i + 1) rfl dL_law_816 (by omega) ?_
  refine z_vi cx (cn := 6) (c_X5_ifSeated (hB.2.1.mfx hM1) hB.2.2 (sx_r xs _)) rfl mv_X5_ifSeated ml_L_132 (by decide) (co_mod E G1) rfl dL_law_817 (fun z2 G2 h2 => ?_)
  obtain ⟨rfl, hM2, hC2⟩ := h2
  exact z_same cx (tgt := 838) dL_law_820 (K G2 _ ⟨hC1.cfx hB.2.2 hC2, hM2, hB.2.2⟩)
set_option maxRecDepth 20000 in
theorem lc_bestGap (cx : Cx p s m args meth c "SubtitleSeatsLaw" code 8 ret E) (hX : Sx_ E s b L xs) (hi : i + 3 ≤ L) (hB : Both G A) (K : ∀ (G' : Wd) (B : Ast), Both G' B → ZL p l e s m args below meth c E Q b i 838 G') : ZL p l e s m args below meth c E Q b i 825 G := by
  refine z_aload_n cx dL_law_825 rfl ?_
  refine z_vi cx (cn := 0) (c_X4_bestGap hB.1 hB.2.2) rfl mv_X4_bestGap ml_L_133 (by decide) (co_main E G) rfl dL_law_826 (fun z1 G1 h1 => ?_)
  obtain ⟨rfl, hC1, hM1⟩ := h1
  refine z_aload_n cx dL_law_829 rfl ?_
  refine z_vi cx (cn := 6) (c_X5_bestGap (hB.2.1.mfx hM1) hB.2.2) rfl mv_X5_bestGap ml_L_136 (by decide) (co_mod E G1) rfl dL_law_830 (fun z2 G2 h2 => ?_)
  obtain ⟨rfl, hM2, hC2⟩ := h2
  exact z_same cx (tgt := 838) dL_law_833 (K G2 _ ⟨hC1.cfx hB.2.2 hC2, hM2, hB.2.2⟩)
theorem n64_f2d {x : UInt32} (h : vf_n32 x) : vf_n64 (FP.f2d x) := (nf64 _).mpr (by
  rw [show FP.Core.dIsNaN (FP.f2d x) = FP.Core.fIsNaN x from FP.f2d_nan x]
  exact (nf32 x).mp h)
theorem dcmp_same {y : UInt64} (h : vf_n64 y) : FP.dcmp y y = some .eq := FP.Core.dcmp_self ((FP.Core.notNaN_iff y).mp ((nf64 y).mp h))
set_option maxRecDepth 20000 in
theorem lc_meanSpeed (cx : Cx p s m args meth c "SubtitleSeatsLaw" code 8 ret E) (hX : Sx_ E s b L xs) (hi : i + 3 ≤ L) (hB : Both G A) (K : ∀ (G' : Wd) (B : Ast), Both G' B → ZL p l e s m args below meth c E Q b i 838 G') : ZL p l e s m args below meth c E Q b i 723 G := by
  have hm := (meanV_ok hB.2.2.1).1
  have hm2 := n64_f2d hm
  refine z_aload_n cx dL_law_723 rfl ?_
  refine z_vf cx (cn := 0) (c_X4_meanSpeed hB.1 hB.2.2) rfl mv_X4_meanSpeed ml_L_116 (by decide) (co_main E G) rfl dL_law_724 (fun z1 G1 h1 => ?_)
  obtain ⟨rfl, hC1, hM1⟩ := h1
  -- the first double; the walk goes on by the kit's rows, for it lies in two places
  intro H locs ls hP hS hL
  refine lv_f2d cx.1 cx.2.1 dL_law_727 hm2 ?_
  have hl0 : lv_has ls 8 [(0, .ref b), (1, .ref (E.1 0)), (2, .ref (E.1 6)), (3, .int (iN (i : Int)))] := hL.1.mono (fun q hq => by
    simp only [List.mem_cons, List.not_mem_nil, or_false] at hq
    rcases hq with rfl | rfl | rfl | rfl <;> exact la_mem.mpr rfl)
  refine lv_dstore (lv' := [(4, .double (FP.f2d (meanV A.1))), (0, .ref b), (1, .ref (E.1 0)), (2, .ref (E.1 6)), (3, .int (iN (i : Int)))]) cx.1 cx.2.1 dL_law_728 hl0 (by decide) rfl (fun ls hl => ?_)
  refine lv_aload_n cx.1 cx.2.1 dL_law_730 rfl (lv_at hl 3 rfl) ?_
  have hav : ([] : List Value).length = 0 := rfl
  refine va_callf (va_runV (As := []) (rest := []) ⟨cx.1, cx.2.1, cx.2.2.1, cx.2.2.2.1, cx.2.2.2.2.1⟩ (c_X5_meanSpeed (E := E) (hB.2.1.mfx hM1) hB.2.2 l) (cwV (C := yX5_meanSpeed.cls) 0 cx.2.2.2.2.1 (mv_X5_meanSpeed.good ml_L_120) rfl rfl rfl ⟨rfl, mv_X5_meanSpeed.2.2.2.2⟩ ⟨Nat.le_of_ble_eq_true rfl, Nat.le_of_ble_eq_true rfl⟩) ⟨Ok_blind, ?_, fun U hU hW => ⟨rfl, Ok_at cx hP hS hU hW⟩⟩ rfl hav hl.1 rfl (Nat.le_of_ble_eq_true rfl) dL_law_731 ⟨Nat.le_of_ble_eq_true rfl, Nat.le_of_ble_eq_true rfl⟩) hS (fun _ _ h => h) (fun _ h => h) (fun r u t H1 locs1 ht hvm hp hB1 hz hk hS1 => ?_)
  · exact va_recv cx.K hP (q0 := 6) (q := (RX5, TX5, 16)) rfl (by rw [ws_get E G1 (by decide), co_mod])
  · obtain ⟨rfl, hM2, hC2⟩ := hp
    unfold Wv at hB1
    rw [ht] at hB1
    refine lv_f2d cx.1 cx.2.1 dL_law_734 hm2 ?_
    refine lv_dstore (lv' := [(6, .double (FP.f2d (meanV A.1))), (4, .double (FP.f2d (meanV A.1))), (0, .ref b), (1, .ref (E.1 0)), (2, .ref (E.1 6)), (3, .int (iN (i : Int)))]) cx.1 cx.2.1 dL_law_735 hl (by decide) rfl (fun ls hl => ?_)
    refine lv_dload cx.1 cx.2.1 dL_law_737 (lv_at hl 1 rfl) ?_
    refine lv_dload cx.1 cx.2.1 dL_law_739 (lv_at hl 0 rfl) ?_
    refine lv_dcmp cx.1 cx.2.1 dL_law_741 ?_
    rw [dcmp_same hm2]
    refine lv_if_eq (tgt := 763) cx.1 cx.2.1 dL_law_742 (by decide) (fun _ => ?_) (fun q => absurd rfl q)
    refine lv_goto (tgt := 838) cx.1 cx.2.1 dL_law_763 (by decide) ?_
    refine K u A ⟨hC1.cfx hB.2.2 hC2, hM2, hB.2.2⟩ H1 locs1 ls hB1 hS1 ⟨hl.mono (fun q hq => ?_), fun j v hv => ?_⟩
    · obtain ⟨j, v⟩ := q
      rw [la_mem] at hq
      have hj : j < 4 := (List.getElem?_eq_some_iff.mp hq).1
      rcases (show j = 0 ∨ j = 1 ∨ j = 2 ∨ j = 3 by omega) with rfl | rfl | rfl | rfl <;> (cases hq; simp)
    · have hj : j < 4 := (List.getElem?_eq_some_iff.mp hv).1
      rcases (show j = 0 ∨ j = 1 ∨ j = 2 ∨ j = 3 by omega) with rfl | rfl | rfl | rfl <;> (cases hv; rfl)
end LC
