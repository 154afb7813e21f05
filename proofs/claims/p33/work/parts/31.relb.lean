/-! ===== more of lists and numbers for the calls ===== -/
theorem shL_len {L : List Sb} {i : Nat} {f : Int} : (shL L i f).length = L.length := by
  unfold shL
  rw [List.length_append, List.length_map, List.length_take, List.length_drop]
  omega
theorem shL_lt {L : List Sb} {i j : Nat} {f : Int} (h : j < i) (hj : j < L.length) : (shL L i f).getD j dS = L.getD j dS := by
  unfold shL
  rw [List.getD_eq_getElem?_getD, List.getD_eq_getElem?_getD, List.getElem?_append_left (by rw [List.length_take]; omega), List.getElem?_take_of_lt h]
theorem shL_ge {L : List Sb} {i j : Nat} {f : Int} (h : i ≤ j) (hj : j < L.length) : (shL L i f).getD j dS = ((L.getD j dS).1 + f, (L.getD j dS).2.1 + f, (L.getD j dS).2.2) := by
  unfold shL
  rw [List.getD_eq_getElem?_getD, List.getElem?_append_right (by rw [List.length_take]; omega), List.getElem?_map, List.getElem?_drop, List.length_take, show i + (j - min i L.length) = j by omega, List.getD_eq_getElem?_getD, List.getElem?_eq_getElem hj]
  rfl
theorem mixL_same {L M : List Sb} {k : Nat} (hl : L.length = M.length) (hk : k ≤ L.length) (h : ∀ i, i < k → L.getD i dS = M.getD i dS) : mixL L M k = L := by
  apply ext_d dS (by rw [mixL_len])
  intro i hi
  rw [mixL_len] at hi
  by_cases q : i < k
  · rw [mixL_lo L M q hi, h i q]
  · rw [mixL_hi L M (by omega)]
theorem unr_b (F : Fm) (p : Int) : 0 ≤ unr F p ∧ unr F p ≤ F.2.2.length := cnt_b _ _
theorem FilmIs.hn {G : Wd} {q : Nat} {F : Fm} (h : FilmIs G q F) : G 0 q 0 = (F.2.2.length : Int) := h.2.2.2.2.1
theorem FilmIs.hcc {G : Wd} {q : Nat} {F : Fm} (h : FilmIs G q F) : G 1 q 0 = (F.2.1.length : Int) := h.2.2.1
/-- the settings changed -/
theorem film_val {G G1 : Wd} {q k : Nat} {v : Int} {F : Fm} (hF : FilmIs G q F) (hk : k < 6) (h : G1 = gup G 3 q k v) : FilmIs G1 q (updV1 F.1 k v, F.2) ∧ FrF q G G1 := by
  subst h
  obtain ⟨hR, hV, hcc, hcu, hc, hs⟩ := hF
  refine ⟨⟨hR.same (fun i => gup_f _ _ _ _ _ _ _ (by decide)), fun i hi => ?_, (gup_f _ _ _ _ _ _ _ (by decide)).trans hcc, fun i hi => (gup_f _ _ _ _ _ _ _ (by decide)).trans (hcu i hi), (gup_f _ _ _ _ _ _ _ (by decide)).trans hc, fun i hi => ?_⟩, FrF.rf.up (by unfold inF; omega)⟩
  · unfold updV1
    dsimp only
    by_cases hik : i = k
    · subst hik; rw [gup_s, if_pos rfl]
    · rw [gup_i _ _ _ _ _ hik, if_neg hik]; exact hV i hi
  · have e : gup G 3 q k v 4 q i = G 4 q i := gup_f _ _ _ _ _ _ _ (by decide)
    rw [e]
    exact (hs i hi).of (fun f j h5 h8 => gup_f _ _ _ _ _ _ _ (by omega))
theorem cidx_of {L : List Int} (h : CuOk L) {f : Int} {i : Nat} (hi : i < L.length) (he : L.getD i 0 = f) : cidx L f = i := by
  have w : cidx L f < L.length ∧ L.getD (cidx L f) 0 = f := Classical.epsilon_spec (p := fun i => i < L.length ∧ L.getD i 0 = f) ⟨i, hi, he⟩
  rcases Nat.lt_trichotomy (cidx L f) i with q | q | q
  · have := h.2.2 _ _ q hi; omega
  · exact q
  · have := h.2.2 _ _ q w.1; omega
section ZB
variable {p : Program} {l : Launch} {e : Env} {s : State} {m : MethodId} {args : Array Value} {below : List Frame} {meth : Method} {c : Code} {own : String} {cc : ByteArray} {nL fr lo ce sl : Nat} {rt : Option FieldType} {E : En}
variable {R : Room} {Q : State → Prop} {G : Wd} {pc : Nat} {vs : List (Option Value)} {st : List Value}
theorem z_ushr32 (cx : Cx p s m args meth c own cc nL rt E) {x y : Int32} (hd : decode cc pc = .ok (.iushr, 1)) (K : Z p l e R s m args below meth c nL ce sl E Q G (pc + 1) vs (.int ((x.toUInt32 >>> (y.toUInt32 &&& Int32.toUInt32 31)).toInt32) :: st)) : Z p l e R s m args below meth c nL ce sl E Q G pc vs (.int y :: .int x :: st) :=
  fun H locs ls hP hS hL => lv_iushr cx.1 cx.2.1 hd rfl (K H locs ls hP hS hL)
theorem z_and32 (cx : Cx p s m args meth c own cc nL rt E) {x y : Int32} (hd : decode cc pc = .ok (.iand, 1)) (K : Z p l e R s m args below meth c nL ce sl E Q G (pc + 1) vs (.int (x &&& y) :: st)) : Z p l e R s m args below meth c nL ce sl E Q G pc vs (.int y :: .int x :: st) :=
  fun H locs ls hP hS hL => lv_iand cx.1 cx.2.1 hd (K H locs ls hP hS hL)
theorem z_add32 (cx : Cx p s m args meth c own cc nL rt E) {x y : Int32} (hd : decode cc pc = .ok (.iadd, 1)) (K : Z p l e R s m args below meth c nL ce sl E Q G (pc + 1) vs (.int (x + y) :: st)) : Z p l e R s m args below meth c nL ce sl E Q G pc vs (.int y :: .int x :: st) :=
  fun H locs ls hP hS hL => lv_iadd cx.1 cx.2.1 hd (K H locs ls hP hS hL)
theorem z_sub32 (cx : Cx p s m args meth c own cc nL rt E) {x y : Int32} (hd : decode cc pc = .ok (.isub, 1)) (K : Z p l e R s m args below meth c nL ce sl E Q G (pc + 1) vs (.int (x - y) :: st)) : Z p l e R s m args below meth c nL ce sl E Q G pc vs (.int y :: .int x :: st) :=
  fun H locs ls hP hS hL => lv_isub cx.1 cx.2.1 hd (K H locs ls hP hS hL)
theorem z_ldcw (cx : Cx p s m args meth c own cc nL rt E) {idx : Nat} {v : Int32} (hl : Cond.constant own idx v ∈ zWL) (hd : decode cc pc = .ok (.ldc_w idx, 3)) (K : Z p l e R s m args below meth c nL ce sl E Q G (pc + 3) vs (.int v :: st)) : Z p l e R s m args below meth c nL ce sl E Q G pc vs st :=
  fun H locs ls hP hS hL => lv_ldcw cx.1 cx.2.1 cx.2.2.2.1 (cx.hts hl) hd (K H locs ls hP hS hL)
theorem z_alen (cx : Cx p s m args meth c own cc nL rt E) {cn n : Nat} {f : Nat → Int32} (hn : (cn < 278 ∧ (cn < 6 ∨ 14 ≤ cn))) (hc : cont E G cn = ci_ E 0 n f) (hd : decode cc pc = .ok (.arraylength, 1)) (K : Z p l e R s m args below meth c nL ce sl E Q G (pc + 1) vs (.int (iN (n : Int)) :: st)) : Z p l e R s m args below meth c nL ce sl E Q G pc vs (.ref (E.1 cn) :: st) :=
  fun H locs ls hP hS hL => va_alen cx.1 cx.2.1 cx.K hP (px_ cn) 0 (by rw [ws_get E G hn, hc]) rfl (v := iN (n : Int)) (Int32.ofInt_eq_ofNat).symm hd (K H locs ls hP hS hL)
end ZB
def bcw (x : Int32) : Int32 :=
  let a := x - ((x.toUInt32 >>> ((iN 1).toUInt32 &&& Int32.toUInt32 31)).toInt32 &&& 1431655765)
  let b := (a &&& 858993459) + ((a.toUInt32 >>> ((iN 2).toUInt32 &&& Int32.toUInt32 31)).toInt32 &&& 858993459)
  let d := (b + (b.toUInt32 >>> ((iN 4).toUInt32 &&& Int32.toUInt32 31)).toInt32) &&& 252645135
  let g := d + (d.toUInt32 >>> ((iN 8).toUInt32 &&& Int32.toUInt32 31)).toInt32
  let h := g + (g.toUInt32 >>> ((iN 16).toUInt32 &&& Int32.toUInt32 31)).toInt32
  h &&& iN 63
def bcn (n : Nat) : Nat := (n % 2) + (n / 2 % 2) + (n / 4 % 2) + (n / 8 % 2) + (n / 16 % 2) + (n / 32 % 2)
theorem bcw_n : ∀ n, n < 33 → bcw (iN ((n : Nat) : Int)) = iN ((bcn n : Nat) : Int) := by decide +kernel
theorem bcn_p : ∀ n, n < 33 → (bcn n ≤ 1 ↔ (n = 0 ∨ n = 1 ∨ n = 2 ∨ n = 4 ∨ n = 8 ∨ n = 16 ∨ n = 32)) ∧ bcn n ≤ 6 := by decide +kernel
theorem CP_ex {L : List Int} (h : CuOk L) {x : Int} (hn : ∀ i, i < L.length → L.getD i 0 ≠ x) : CP L x (cpos L x) := by
  have key : ∀ n, n ≤ L.length → ∃ p, p ≤ n ∧ (∀ i, i < p → L.getD i 0 < x) ∧ ∀ i, p ≤ i → i < n → x < L.getD i 0 := by
    intro n
    induction n with
    | zero => intro _; exact ⟨0, Nat.le_refl _, fun i hi => by omega, fun i _ hi => by omega⟩
    | succ n ih =>
      intro hl
      obtain ⟨p, h1, h2, h3⟩ := ih (by omega)
      by_cases hx : L.getD n 0 < x
      · have hp : p = n := by
          rcases Nat.lt_or_ge p n with q | q
          · have a := h3 p (Nat.le_refl _) q
            have b := h.2.2 p n q (by omega)
            omega
          · omega
        subst hp
        refine ⟨p + 1, Nat.le_refl _, fun i hi => ?_, fun i _ _ => by omega⟩
        rcases Nat.lt_succ_iff_lt_or_eq.mp hi with q | rfl
        · exact h2 i q
        · exact hx
      · refine ⟨p, by omega, h2, fun i h5 h6 => ?_⟩
        rcases Nat.lt_succ_iff_lt_or_eq.mp h6 with q | rfl
        · exact h3 i h5 q
        · have := hn i (by omega); omega
  obtain ⟨p, h1, h2, h3⟩ := key L.length (Nat.le_refl _)
  have hcp : CP L x p := ⟨h1, h2, h3⟩
  rw [cpos_of hcp]
  exact hcp
