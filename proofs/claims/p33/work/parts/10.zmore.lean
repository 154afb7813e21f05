/-! ===== copies, tables, Math, switches ===== -/
def gcp (G : Wd) (f a f0 a0 sp dp n : Nat) : Wd := fun f' a' i' => if f' = f ∧ a' = a ∧ dp ≤ i' ∧ i' < dp + n then G f0 a0 (sp + (i' - dp)) else G f' a' i'
theorem gcp_eq (G : Wd) (f a f0 a0 sp dp n f' a' i' : Nat) : gcp G f a f0 a0 sp dp n f' a' i' = if f' = f ∧ a' = a ∧ dp ≤ i' ∧ i' < dp + n then G f0 a0 (sp + (i' - dp)) else G f' a' i' := rfl
theorem cont_gcp (E : En) (G : Wd) {f a f0 a0 sp dp n c : Nat} (h : c ≠ cel f a) : cont E (gcp G f a f0 a0 sp dp n) c = cont E G c :=
  cont_congr E (fun f' a' i' h2 => by
    rw [gcp_eq, if_neg]
    rintro ⟨rfl, rfl, -⟩
    exact h h2.symm)
section ZM
variable {p : Program} {l : Launch} {e : Env} {s : State} {m : MethodId} {args : Array Value} {below : List Frame} {meth : Method} {c : Code} {own : String} {cc : ByteArray} {nL fr lo ce sl : Nat} {rt : Option FieldType} {E : En}
variable {R : Room} {Q : State → Prop} {G : Wd} {pc : Nat} {vs : List (Option Value)} {st : List Value}
theorem z_copy (cx : Cx p s m args meth c own cc nL rt E) {idx c0 c1 n0 n1 f0 a0 f a k : Nat} {ty : FieldType} {sp dp n : Int} (hn0 : (c0 < 278 ∧ (c0 < 6 ∨ 14 ≤ c0))) (hn1 : (c1 < 278 ∧ (c1 < 6 ∨ 14 ≤ c1))) (hcel : cel f a = c1) (hc0 : cont E G c0 = ci_ E k n0 (fun i => iN (G f0 a0 i))) (hc1 : ∀ G : Wd, cont E G c1 = ci_ E k n1 (fun i => iN (G f a i))) (ht : (tyE E)[k]? = some (E.2.2.1 k, ty)) (hprim : refKind ty = false) (hfit : ∀ i, i < n.toNat → fits ty (.int (iN (G f0 a0 (sp.toNat + i)))) = true)
    (hl : Cond.methodLink own idx arraycopyName ∈ zWL) (hd : decode cc pc = .ok (.invokestatic idx, 3)) (K : Z p l e R s m args below meth c nL ce sl E Q (gcp G f a f0 a0 sp.toNat dp.toNat n.toNat) (pc + 3) vs st)
    (h : 0 ≤ sp ∧ 0 ≤ dp ∧ 0 ≤ n ∧ sp + n ≤ n0 ∧ dp + n ≤ n1 ∧ (n0 : Int) < 2147483648 ∧ (n1 : Int) < 2147483648 := by omega) (hfr : 1 ≤ R.frames := by exact Nat.le_of_ble_eq_true rfl) (hlo : (st.map fun v => v.category).sum + (nativeFrameWords "java/lang/System" "arraycopy" 5 + 11) ≤ R.locals := by exact Nat.le_of_ble_eq_true rfl) : Z p l e R s m args below meth c nL ce sl E Q G pc vs (.int (iN n) :: .int (iN dp) :: .ref (E.1 c1) :: .int (iN sp) :: .ref (E.1 c0) :: st) := by
  intro H locs ls hP hS hL
  refine va_copyi cx.1 cx.2.1 (cx.2.2.1.trans hL.size.symm) cx.2.2.2.1 (cx.hts hl) (cx.hts nt_javalangSystemarraycopy) (cx.hts sc_javalangSystemarraycopy) (cx.hts ii_J10) cx.K hP (cx.ok.D G) hS (px_ c0) (px_ c1) k k (by rw [ws_get E G hn0, hc0]) (by rw [ws_get E G hn1, hc1 G]) ht ht hprim ?_ ?_ ?_ ?_ ?_ ?_ hfr hlo hd (fun H1 locs1 hP1 _ hS1 => ?_)
  · rw [iN_zero, iN_lt (by omega)]; omega
  · rw [iN_zero, iN_lt (by omega)]; omega
  · rw [iN_zero, iN_lt (by omega)]; omega
  · rw [iN_clamp (by omega), iN_clamp (by omega)]; omega
  · rw [iN_clamp (by omega), iN_clamp (by omega)]; omega
  · rw [iN_clamp (by omega), iN_clamp (by omega)]; exact hfit
  · rw [iN_clamp (by omega), iN_clamp (by omega), iN_clamp (by omega), ws_set E (G' := gcp G f a f0 a0 sp.toNat dp.toNat n.toNat) hn1 ?_ ?_] at hP1
    · exact K H1 locs1 ls hP1 hS1 hL
    · rw [hc1]
      congr 4
      funext j
      unfold va_cpy
      rw [gcp_eq]
      by_cases hj : dp.toNat ≤ j ∧ j < dp.toNat + n.toNat
      · rw [if_pos hj, if_pos ⟨rfl, rfl, hj⟩]
      · rw [if_neg hj, if_neg (fun q => hj q.2.2)]
    · intro c' h2
      exact cont_gcp E G (by rw [hcel]; exact h2)
theorem iN_fits_char {v : Int} (h : 0 ≤ v ∧ v < 65536) : fits .char (.int (iN v)) = true := by
  obtain ⟨k, rfl⟩ : ∃ k : Nat, v = k := ⟨v.toNat, by omega⟩
  have h1 : iN (k : Int) = nI k := Int32.ofInt_eq_ofNat
  rw [h1]
  exact (pk_charN (by omega)).2
theorem z_gets (cx : Cx p s m args meth c own cc nL rt E) {idx : Nat} {nm : String} (k : Nat) (hk : (k = 0 ∧ nm = "LOWEST") ∨ (k = 1 ∧ nm = "HIGHEST")) (hl : Cond.fieldLink own idx "SubtitleSeats" nm "[I" ∈ zWL) (hd : decode cc pc = .ok (.getstatic idx, 3)) (K : Z p l e R s m args below meth c nL ce sl E Q G (pc + 3) vs (.ref (E.2.2.2 k) :: st)) : Z p l e R s m args below meth c nL ce sl E Q G pc vs st := by
  intro H locs ls hP hS hL
  rcases hk with ⟨rfl, rfl⟩ | ⟨rfl, rfl⟩
  · exact va_gets cx.1 cx.2.1 cx.ke.2.2.1 hS cx.2.2.2.1 (cx.hts hl) (fun _ h => h) hd (K H locs ls hP hS hL)
  · exact va_gets cx.1 cx.2.1 cx.ke.2.2.2.2.1 hS cx.2.2.2.1 (cx.hts hl) (fun _ h => h) hd (K H locs ls hP hS hL)
theorem z_tlow (cx : Cx p s m args meth c own cc nL rt E) {x : Int} (j : Nat) (hj : x = (j : Int)) (hd : decode cc pc = .ok (.iaload, 1)) (K : Z p l e R s m args below meth c nL ce sl E Q G (pc + 1) vs (.int (iN (lowT j)) :: st)) (h : j < 6 := by omega) : Z p l e R s m args below meth c nL ce sl E Q G pc vs (.int (iN x) :: .ref (E.2.2.2 0) :: st) :=
  fun H locs ls hP hS hL => va_ti cx.1 cx.2.1 cx.ke.2.2.2.1 hS (iN_in (by omega) (by decide)) rfl hd (by rw [iN_clamp (by omega), hj, Int.toNat_natCast]; exact K H locs ls hP hS hL)
theorem z_thig (cx : Cx p s m args meth c own cc nL rt E) {x : Int} (j : Nat) (hj : x = (j : Int)) (hd : decode cc pc = .ok (.iaload, 1)) (K : Z p l e R s m args below meth c nL ce sl E Q G (pc + 1) vs (.int (iN (higT j)) :: st)) (h : j < 6 := by omega) : Z p l e R s m args below meth c nL ce sl E Q G pc vs (.int (iN x) :: .ref (E.2.2.2 1) :: st) :=
  fun H locs ls hP hS hL => va_ti cx.1 cx.2.1 cx.ke.2.2.2.2.2 hS (iN_in (by omega) (by decide)) rfl hd (by rw [iN_clamp (by omega), hj, Int.toNat_natCast]; exact K H locs ls hP hS hL)
theorem z_max (cx : Cx p s m args meth c own cc nL rt E) {idx : Nat} {x y : Int} (hl : Cond.methodLink own idx Lib.Math.max.name ∈ zWL) (hd : decode cc pc = .ok (.invokestatic idx, 3)) (K : Z p l e R s m args below meth c nL ce sl E Q G (pc + 3) vs (.int (iN (max x y)) :: st)) (h : -2147483648 ≤ x ∧ x < 2147483648 ∧ -2147483648 ≤ y ∧ y < 2147483648 := by omega) (hfr : 1 ≤ R.frames := by exact Nat.le_of_ble_eq_true rfl) (hlo : (st.map fun v => v.category).sum + 13 ≤ R.locals := by exact Nat.le_of_ble_eq_true rfl) (hces : ce ≤ R.cells ∧ sl ≤ R.slots := by exact ⟨Nat.le_of_ble_eq_true rfl, Nat.le_of_ble_eq_true rfl⟩) : Z p l e R s m args below meth c nL ce sl E Q G pc vs (.int (iN y) :: .int (iN x) :: st) := by
  intro H locs ls hP hS hL
  refine va_mmax cx.1 cx.2.1 (cx.2.2.1.trans hL.size.symm) cx.2.2.2.1 (cx.hts hl) (cx.hts sc_J9_max_7cf53) (cx.hts ii_J9) (cx.hts cd_J9_max_7cf53) hfr hlo hces.1 hces.2 hd ?_
  have e1 : (if iN x < iN y then iN y else iN x) = iN (max x y) := by
    by_cases hxy : x < y
    · rw [if_pos ((iN_lt h).mpr hxy), show max x y = y by omega]
    · rw [if_neg (fun q => hxy ((iN_lt h).mp q)), show max x y = x by omega]
  rw [e1]
  exact K H locs ls hP hS hL
theorem z_min (cx : Cx p s m args meth c own cc nL rt E) {idx : Nat} {x y : Int} (hl : Cond.methodLink own idx Lib.Math.min.name ∈ zWL) (hd : decode cc pc = .ok (.invokestatic idx, 3)) (K : Z p l e R s m args below meth c nL ce sl E Q G (pc + 3) vs (.int (iN (min x y)) :: st)) (h : -2147483648 ≤ x ∧ x < 2147483648 ∧ -2147483648 ≤ y ∧ y < 2147483648 := by omega) (hfr : 1 ≤ R.frames := by exact Nat.le_of_ble_eq_true rfl) (hlo : (st.map fun v => v.category).sum + 13 ≤ R.locals := by exact Nat.le_of_ble_eq_true rfl) (hces : ce ≤ R.cells ∧ sl ≤ R.slots := by exact ⟨Nat.le_of_ble_eq_true rfl, Nat.le_of_ble_eq_true rfl⟩) : Z p l e R s m args below meth c nL ce sl E Q G pc vs (.int (iN y) :: .int (iN x) :: st) := by
  intro H locs ls hP hS hL
  refine va_mmin cx.1 cx.2.1 (cx.2.2.1.trans hL.size.symm) cx.2.2.2.1 (cx.hts hl) (cx.hts sc_J9_min_7cf53) (cx.hts ii_J9) (cx.hts cd_J9_min_7cf53) hfr hlo hces.1 hces.2 hd ?_
  have h2 : -2147483648 ≤ y ∧ y < 2147483648 ∧ -2147483648 ≤ x ∧ x < 2147483648 := ⟨h.2.2.1, h.2.2.2, h.1, h.2.1⟩
  have e1 : (if iN y < iN x then iN y else iN x) = iN (min x y) := by
    by_cases hxy : y < x
    · rw [if_pos ((iN_lt h2).mpr hxy), show min x y = y by omega]
    · rw [if_neg (fun q => hxy ((iN_lt h2).mp q)), show min x y = x by omega]
  rw [e1]
  exact K H locs ls hP hS hL
theorem z_abs (cx : Cx p s m args meth c own cc nL rt E) {idx : Nat} {x : Int} (hl : Cond.methodLink own idx Lib.Math.abs.name ∈ zWL) (hd : decode cc pc = .ok (.invokestatic idx, 3)) (K : Z p l e R s m args below meth c nL ce sl E Q G (pc + 3) vs (.int (iN (x.natAbs : Int)) :: st)) (h : -2147483648 ≤ x ∧ x < 2147483648 := by omega) (hfr : 1 ≤ R.frames := by exact Nat.le_of_ble_eq_true rfl) (hlo : (st.map fun v => v.category).sum + 13 ≤ R.locals := by exact Nat.le_of_ble_eq_true rfl) (hces : ce ≤ R.cells ∧ sl ≤ R.slots := by exact ⟨Nat.le_of_ble_eq_true rfl, Nat.le_of_ble_eq_true rfl⟩) : Z p l e R s m args below meth c nL ce sl E Q G pc vs (.int (iN x) :: st) := by
  intro H locs ls hP hS hL
  refine va_mabs cx.1 cx.2.1 (cx.2.2.1.trans hL.size.symm) cx.2.2.2.1 (cx.hts hl) (cx.hts sc_J9_abs_0f7a4) (cx.hts ii_J9) (cx.hts cd_J9_abs_0f7a4) hfr hlo hces.1 hces.2 hd ?_
  have e1 : (if (0 : Int32) ≤ iN x then iN x else 0 - iN x) = iN (x.natAbs : Int) := by
    by_cases hxy : 0 ≤ x
    · rw [if_pos (by rw [iN_zero, iN_le (by omega)]; exact hxy), show (x.natAbs : Int) = x by omega]
    · rw [if_neg (by rw [iN_zero, iN_le (by omega)]; exact hxy), iN_zero, iN_sub, show (x.natAbs : Int) = 0 - x by omega]
  rw [e1]
  exact K H locs ls hP hS hL
theorem z_tblIn (cx : Cx p s m args meth c own cc nL rt E) {dflt lo hi : Int} {offs : Array Int} {len : Nat} {x off : Int} {tgt : Nat} (hd : decode cc pc = .ok (.tableswitch dflt lo hi offs, len)) (ho : offs[(x - lo).toNat]? = some off) (ht : (pc : Int) + off = (tgt : Int)) (K : Z p l e R s m args below meth c nL ce sl E Q G tgt vs st) (h : lo ≤ x ∧ x ≤ hi ∧ -2147483648 ≤ x ∧ x < 2147483648 := by omega) : Z p l e R s m args below meth c nL ce sl E Q G pc vs (.int (iN x) :: st) :=
  fun H locs ls hP hS hL => lv_tableIn cx.1 cx.2.1 hd (by rw [iN_toInt (by omega)]; omega) (by rw [iN_toInt (by omega)]; omega) (by rw [iN_toInt (by omega)]; exact ho) ht (K H locs ls hP hS hL)
theorem z_tblOut (cx : Cx p s m args meth c own cc nL rt E) {dflt lo hi : Int} {offs : Array Int} {len : Nat} {x : Int} {tgt : Nat} (hd : decode cc pc = .ok (.tableswitch dflt lo hi offs, len)) (ht : (pc : Int) + dflt = (tgt : Int)) (K : Z p l e R s m args below meth c nL ce sl E Q G tgt vs st) (h : (x < lo ∨ hi < x) ∧ -2147483648 ≤ x ∧ x < 2147483648 := by omega) : Z p l e R s m args below meth c nL ce sl E Q G pc vs (.int (iN x) :: st) :=
  fun H locs ls hP hS hL => lv_tableOut cx.1 cx.2.1 hd (by rw [iN_toInt h.2]; exact h.1) ht (K H locs ls hP hS hL)
theorem z_i2c (cx : Cx p s m args meth c own cc nL rt E) {x : Int} (hd : decode cc pc = .ok (.i2c, 1)) (K : Z p l e R s m args below meth c nL ce sl E Q G (pc + 1) vs (.int (iN x) :: st)) (h : 0 ≤ x ∧ x < 65536 := by omega) : Z p l e R s m args below meth c nL ce sl E Q G pc vs (.int (iN x) :: st) :=
  fun H locs ls hP hS hL => lv_i2c cx.1 cx.2.1 hd (by
    have h1 : iN x = nI x.toNat := by
      have h2 : iN ((x.toNat : Nat) : Int) = nI x.toNat := Int32.ofInt_eq_ofNat
      rwa [Int.toNat_of_nonneg h.1] at h2
    have h4 := pk_char (iN x)
    rw [h4]
    rw [h1, pk_tn (by omega), Nat.mod_eq_of_lt (by omega)]) (K H locs ls hP hS hL)
end ZM
