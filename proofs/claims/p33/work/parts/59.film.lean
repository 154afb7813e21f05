/-! ===== a film as it is made ===== -/
def pl_ (K : Nat → ClassId) (us : List (Nat × Nat)) : va_W := us.flatMap (fun x => su_ K x.1 x.2)
theorem pl_len (K : Nat → ClassId) (us : List (Nat × Nat)) : (pl_ K us).length = 2 * us.length := by
  induction us with
  | nil => rfl
  | cons x us ih =>
    show (su_ K x.1 x.2 ++ pl_ K us).length = _
    rw [List.length_append, ih, List.length_cons]
    show 2 + _ = _
    omega
theorem pl_add (K : Nat → ClassId) (us : List (Nat × Nat)) (q t : Nat) : pl_ K (us ++ [(q, t)]) = pl_ K us ++ su_ K q t := by
  unfold pl_
  rw [List.flatMap_append]
  simp
theorem pl_get (K : Nat → ClassId) : ∀ (us : List (Nat × Nat)) (k : Nat), k < us.length → (pl_ K us)[2 * k]? = some ((us.getD k (0, 0)).1, .inr (3, [i0_, i0_, i0_, .ref (us.getD k (0, 0)).2])) ∧ (pl_ K us)[2 * k + 1]? = some ((us.getD k (0, 0)).2, ia_ K 1 40 (fun _ => 0))
  | [], k, h => absurd h (Nat.not_lt_zero _)
  | x :: us, 0, _ => ⟨rfl, rfl⟩
  | x :: us, k + 1, h => by
    have h2 := pl_get K us k (by simpa using h)
    rw [show 2 * (k + 1) = 2 * k + 2 by omega, show 2 * k + 2 + 1 = (2 * k + 1) + 2 by omega]
    exact h2
def rf_ (us : List (Nat × Nat)) : Nat → Option Nat := fun j => (us[j]?).map (fun x => x.1)
theorem rf_add (us : List (Nat × Nat)) (q t : Nat) : va_up (rf_ us) us.length (some q) = rf_ (us ++ [(q, t)]) := by
  funext j
  unfold va_up rf_
  by_cases hj : j = us.length
  · subst hj
    simp
  · rw [if_neg hj]
    by_cases hl : j < us.length
    · rw [List.getElem?_append_left hl]
    · rw [List.getElem?_eq_none (by omega), List.getElem?_eq_none (by simp; omega)]
abbrev ra_ (K : Nat → ClassId) (k n : Nat) (f : Nat → Option Nat) : va_E := .inl (K k, n, .inr (.inr (.inr (.inr f))))
def fl_ (K : Nat → ClassId) (h0 r : Nat) (cv xv : Value) (us : List (Nat × Nat)) : va_W := (h0, .inr (0, [.ref r, i0_, cv, i0_, xv])) :: (r, ra_ K 2 20 (rf_ us)) :: pl_ K us
theorem fl_len (K : Nat → ClassId) (h0 r : Nat) (cv xv : Value) (us : List (Nat × Nat)) : (fl_ K h0 r cv xv us).length = 2 + 2 * us.length := by
  unfold fl_
  rw [List.length_cons, List.length_cons, pl_len]
  omega
theorem fl_new (K : Nat → ClassId) (h0 r : Nat) (cv xv : Value) (us : List (Nat × Nat)) (q t : Nat) : (fl_ K h0 r cv xv us ++ su_ K q t)[2 + 2 * us.length]? = some (q, .inr (3, [i0_, i0_, i0_, .ref t])) := by
  rw [List.getElem?_append_right (by rw [fl_len]; omega), fl_len, Nat.sub_self]
  rfl
theorem fl_add (K : Nat → ClassId) (h0 r : Nat) (cv xv : Value) (us : List (Nat × Nat)) (q t : Nat) : (fl_ K h0 r cv xv us ++ su_ K q t).set 1 (r, ra_ K 2 20 (va_up (rf_ us) us.length (some q))) = fl_ K h0 r cv xv (us ++ [(q, t)]) := by
  rw [rf_add us q t]
  show (h0, _) :: (r, _) :: (pl_ K us ++ su_ K q t) = _
  rw [← pl_add]
  rfl
def fw_ (K : Nat → ClassId) (h0 r cu x : Nat) (us : List (Nat × Nat)) : va_W := fl_ K h0 r (.ref cu) (.ref x) us ++ [(cu, ia_ K 0 12 (fun _ => 0)), (x, ia_ K 0 6 (fun j => iN (v0_ j)))]
/-- its cells, by number: the film, rows, cuts, values, twenty subtitles, twenty texts -/
def ij_ (j : Nat) : Nat := if j < 2 then j else if j < 4 then 40 + j else if j < 24 then 2 + 2 * (j - 4) else 3 + 2 * (j - 24)
def fc_ (K : Nat → ClassId) (a : Nat → Nat) (j : Nat) : va_E :=
  if j = 0 then .inr (0, [.ref (a 1), i0_, .ref (a 2), i0_, .ref (a 3)])
  else if j = 1 then ra_ K 2 20 (fun i => if i < 20 then some (a (4 + i)) else none)
  else if j = 2 then ia_ K 0 12 (fun _ => 0)
  else if j = 3 then ia_ K 0 6 (fun i => iN (v0_ i))
  else if j < 24 then .inr (3, [i0_, i0_, i0_, .ref (a (20 + j))])
  else ia_ K 1 40 (fun _ => 0)
def FB_ (K : Nat → ClassId) (a : Nat → Nat) (w : va_W) : Prop := w.length = 44 ∧ ∀ j, j < 44 → w[ij_ j]? = some (a j, fc_ K a j)
def ad_ (h0 r cu x : Nat) (us : List (Nat × Nat)) : Nat → Nat := fun j => if j = 0 then h0 else if j = 1 then r else if j = 2 then cu else if j = 3 then x else if j < 24 then (us.getD (j - 4) (0, 0)).1 else (us.getD (j - 24) (0, 0)).2
theorem fw_FB (K : Nat → ClassId) (h0 r cu x : Nat) (us : List (Nat × Nat)) (h : us.length = 20) : FB_ K (ad_ h0 r cu x us) (fw_ K h0 r cu x us) := by
  have hl : (fl_ K h0 r (.ref cu) (.ref x) us).length = 42 := by rw [fl_len, h]
  refine ⟨by unfold fw_; rw [List.length_append, hl]; rfl, fun j hj => ?_⟩
  have hrf : rf_ us = fun i => if i < 20 then some (ad_ h0 r cu x us (4 + i)) else none := by
    funext i
    unfold rf_ ad_
    by_cases hi : i < 20
    · rw [if_pos hi, List.getElem?_eq_getElem (by omega), if_neg (by omega), if_neg (by omega), if_neg (by omega), if_neg (by omega), if_pos (by omega), show 4 + i - 4 = i by omega, List.getD_eq_getElem?_getD, List.getElem?_eq_getElem (by omega)]
      rfl
    · rw [if_neg hi, List.getElem?_eq_none (by omega)]
      rfl
  by_cases j0 : j = 0
  · subst j0; rfl
  by_cases j1 : j = 1
  · subst j1
    show some (r, ra_ K 2 20 (rf_ us)) = _
    rw [hrf]
    rfl
  by_cases j2 : j = 2
  · subst j2
    show (fw_ K h0 r cu x us)[42]? = _
    unfold fw_
    rw [List.getElem?_append_right (by omega), hl]
    rfl
  by_cases j3 : j = 3
  · subst j3
    show (fw_ K h0 r cu x us)[43]? = _
    unfold fw_
    rw [List.getElem?_append_right (by omega), hl]
    rfl
  by_cases j4 : j < 24
  · obtain ⟨k, rfl⟩ : ∃ k, j = 4 + k := ⟨j - 4, by omega⟩
    have e1 : ij_ (4 + k) = 2 * k + 2 := by
      unfold ij_
      rw [if_neg (by omega), if_neg (by omega), if_pos j4]
      omega
    have e2 : ad_ h0 r cu x us (4 + k) = (us.getD k (0, 0)).1 := by
      unfold ad_
      rw [if_neg (by omega), if_neg (by omega), if_neg (by omega), if_neg (by omega), if_pos j4, show 4 + k - 4 = k by omega]
    have e3 : fc_ K (ad_ h0 r cu x us) (4 + k) = .inr (3, [i0_, i0_, i0_, .ref (us.getD k (0, 0)).2]) := by
      unfold fc_
      rw [if_neg (by omega), if_neg (by omega), if_neg (by omega), if_neg (by omega), if_pos j4]
      unfold ad_
      rw [if_neg (by omega), if_neg (by omega), if_neg (by omega), if_neg (by omega), if_neg (by omega), show 20 + (4 + k) - 24 = k by omega]
    rw [e1, e2, e3]
    unfold fw_
    rw [List.getElem?_append_left (by omega)]
    exact (pl_get K us k (by omega)).1
  · obtain ⟨k, rfl⟩ : ∃ k, j = 24 + k := ⟨j - 24, by omega⟩
    have e1 : ij_ (24 + k) = (2 * k + 1) + 2 := by
      unfold ij_
      rw [if_neg (by omega), if_neg (by omega), if_neg (by omega)]
      omega
    have e2 : ad_ h0 r cu x us (24 + k) = (us.getD k (0, 0)).2 := by
      unfold ad_
      rw [if_neg (by omega), if_neg (by omega), if_neg (by omega), if_neg (by omega), if_neg (by omega), show 24 + k - 24 = k by omega]
    have e3 : fc_ K (ad_ h0 r cu x us) (24 + k) = ia_ K 1 40 (fun _ => 0) := by
      unfold fc_
      rw [if_neg (by omega), if_neg (by omega), if_neg (by omega), if_neg (by omega), if_neg (by omega)]
    rw [e1, e2, e3]
    unfold fw_
    rw [List.getElem?_append_left (by omega)]
    exact (pl_get K us k (by omega)).2
set_option maxRecDepth 100000 in
set_option maxHeartbeats 4000000 in
theorem k_X0 (g : Ga) : Cn_ g yX0_init cX0_init 2 2 40 43 918 0 [.null, i0_, .null, i0_, .null] (fun h0 w1 => ∃ a, a 0 = h0 ∧ FB_ g.2.1 a w1) := by
  refine Cn_.mk (by decide) rfl (by decide) ?_
  intro p l e s m args below meth c h0 A cx hr hlk hi
  refine y_aload_n cx dX0_init_0 rfl ?_
  refine y_objinit cx ml_X0_3 dX0_init_1 ?_
  refine y_aload_n cx dX0_init_4 rfl ?_
  refine y_bipush cx dX0_init_5 ?_
  refine y_newq cx 20 2 (C := "SubtitleSeats$Subtitle") rfl cx.2.2.2.2.2.1.2.2.1 rfl cl_X0_9 dX0_init_7 (fun r => ?_)
  refine y_putF cx 0 0 0 (fs := [.null, i0_, .null, i0_, .null]) (ty := .array (.object "SubtitleSeats$Subtitle")) rfl rfl ziX0 tyX0_ok nmX0 (by decide) rfl hi rfl rfl rfl rfl (Nat.le_of_ble_eq_true rfl) fl_X0_11 dX0_init_10 ?_
  refine Y.to (ws' := fl_ g.2.1 h0 r .null .null []) ?_ rfl
  refine y_iconst cx dX0_init_13 ?_
  refine y_istore_n cx dX0_init_14 ?_
  -- behind the loop
  have h40 : ∀ us : List (Nat × Nat), us.length = 20 → Y p l e ({ frames := 2, cells := 43, slots := 918, locals := 40 }) s m args below meth c 2 41 900 g A (MQ below (va_Qv (fun w1 => ∃ a, a 0 = h0 ∧ FB_ g.2.1 a w1) (Bw_ g A) A) args s 43 918 A) (fl_ g.2.1 h0 r .null .null us) 40 [some (.ref h0)] [] := by
    intro us hus
    have hl : (fl_ g.2.1 h0 r .null .null us).length = 42 := by rw [fl_len, hus]
    refine y_aload_n cx dX0_init_40 rfl ?_
    refine y_bipush cx dX0_init_41 ?_
    refine y_newi cx 12 rfl dX0_init_43 (fun cu => ?_)
    refine y_putF cx 0 2 0 (fs := [.ref r, i0_, .null, i0_, .null]) (ty := .array .int) rfl rfl ziX0 tyX0_ok nmX0 (by decide) rfl hi rfl rfl rfl rfl (Nat.le_of_ble_eq_true rfl) fl_X0_18 dX0_init_45 ?_
    refine Y.to (ws' := fl_ g.2.1 h0 r (.ref cu) .null us ++ [(cu, ia_ g.2.1 0 12 (fun _ => 0))]) ?_ rfl
    refine y_aload_n cx dX0_init_48 rfl ?_
    refine y_bipush cx dX0_init_49 ?_
    refine y_newi cx 6 rfl dX0_init_51 (fun x => ?_)
    refine y_putF cx 0 4 0 (fs := [.ref r, i0_, .ref cu, i0_, .null]) (ty := .array .int) rfl rfl ziX0 tyX0_ok nmX0 (by decide) rfl hi rfl rfl rfl rfl (Nat.le_of_ble_eq_true rfl) fl_X0_22 dX0_init_53 ?_
    have hl2 : (fl_ g.2.1 h0 r (.ref cu) (.ref x) us ++ [(cu, ia_ g.2.1 0 12 (fun _ => 0))]).length = 43 := by rw [List.length_append, fl_len, hus]; rfl
    refine Y.to (ws' := (fl_ g.2.1 h0 r (.ref cu) (.ref x) us ++ [(cu, ia_ g.2.1 0 12 (fun _ => 0))]) ++ [(x, ia_ g.2.1 0 6 (fun _ => 0))]) ?_ rfl
    refine y_getT cx dX0_init_56 ?_
    refine y_iconst cx dX0_init_59 ?_
    refine y_aload_n cx dX0_init_60 rfl ?_
    refine y_get cx 0 4 0 (fs := [.ref r, i0_, .ref cu, i0_, .ref x]) (v := .ref x) rfl rfl ziX0 (by decide) rfl fl_X0_22 dX0_init_61 ?_
    refine y_iconst cx dX0_init_64 ?_
    refine y_bipush cx dX0_init_65 ?_
    refine y_cpyT cx 43 (by rw [List.getElem?_append_right (by omega), hl2]; rfl) ml_X0_28 dX0_init_67 ?_ (by decide) (Nat.le_of_ble_eq_true rfl)
    refine Y.to (ws' := fw_ g.2.1 h0 r cu x us) ?_ (by unfold fw_; rw [List.set_append_right _ _ (by omega), hl2, List.append_assoc]; rfl)
    exact y_vret cx hr hlk dX0_init_70 ⟨_, rfl, fw_FB g.2.1 h0 r cu x us hus⟩ (by decide) (by decide)
  have loop : ∀ (k : Nat) (us : List (Nat × Nat)), us.length + k = 20 → Y p l e ({ frames := 2, cells := 43, slots := 918, locals := 40 }) s m args below meth c 2 (1 + 2 * us.length) (20 + 44 * us.length) g A (MQ below (va_Qv (fun w1 => ∃ a, a 0 = h0 ∧ FB_ g.2.1 a w1) (Bw_ g A) A) args s 43 918 A) (fl_ g.2.1 h0 r .null .null us) 15 [some (.ref h0), some (.int (iN us.length))] [] := by
    intro k
    induction k with
    | zero =>
      intro us hus
      refine y_iload_n cx dX0_init_15 rfl ?_
      refine y_bipush cx dX0_init_16 ?_
      refine y_icmp_ge cx (tgt := 40) dX0_init_18 (fun _ => ?_) (fun h => absurd h (by omega))
      have e1 : us.length = 20 := by omega
      exact ((h40 us e1).wide (by omega) (by omega)).loc ⟨rfl, trivial⟩
    | succ k ih =>
      intro us hus
      refine y_iload_n cx dX0_init_15 rfl ?_
      refine y_bipush cx dX0_init_16 ?_
      refine y_icmp_ge cx (tgt := 40) dX0_init_18 (fun h => absurd h (by omega)) (fun _ => ?_)
      refine y_aload_n cx dX0_init_21 rfl ?_
      refine y_get cx 0 0 0 (fs := [.ref r, i0_, .null, i0_, .null]) (v := .ref r) rfl rfl ziX0 (by decide) rfl fl_X0_11 dX0_init_22 ?_
      refine y_iload_n cx dX0_init_25 rfl ?_
      refine y_mk cx (C := RX3) (T := TX3) (N := 4) (ty := tyX3) (k_X3 g) mi_X3 ml_X0_17 rfl ziX3 tyX3_ok cl_X0_9 in_X3 ii_X3 (fun j hj => by rcases (show j = 0 ∨ j = 1 ∨ j = 2 ∨ j = 3 by omega) with rfl | rfl | rfl | rfl <;> rfl) dX0_init_26 dX0_init_29 dX0_init_30 (fun q w1 hw => ?_) (Nat.le_of_ble_eq_true rfl) (by show 1 + 2 * us.length + 1 + 1 ≤ 43 ∧ 20 + 44 * us.length + 4 + 40 ≤ 918; omega) ⟨Nat.le_of_ble_eq_true rfl, Nat.le_of_ble_eq_true rfl⟩
      obtain ⟨t, rfl⟩ := hw
      refine y_astq cx 1 2 (2 + 2 * us.length) 3 us.length (r := (RX3, TX3, 4)) (f := rf_ us) rfl rfl rfl (fl_new _ _ _ _ _ us q t) rfl dX0_init_33 (N := 20) (by omega) (by decide) ?_
      refine Y.to (ws' := fl_ g.2.1 h0 r .null .null (us ++ [(q, t)])) ?_ (fl_add _ _ _ _ _ us q t)
      refine y_iinc cx (k := 1) dX0_init_34 rfl ?_
      refine y_goto cx (tgt := 15) dX0_init_37 ?_
      have h2 := ih (us ++ [(q, t)]) (by rw [List.length_append]; show us.length + 1 + k = 20; omega)
      rw [List.length_append, show us.length + [(q, t)].length = us.length + 1 from rfl, Int.natCast_add] at h2
      exact h2.wide (by omega) (by omega)
  exact (loop 20 [] rfl).wide (by decide) (by decide)
