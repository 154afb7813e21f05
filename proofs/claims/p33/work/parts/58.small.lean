/-! ===== the small constructors ===== -/
theorem mi_X3 : MI yX3_init cX3_init 1 := ⟨im_X3_init, ii_X3, cd_X3_init, rfl, by decide +kernel⟩
theorem mi_X2 : MI yX2_init cX2_init 1 := ⟨im_X2_init, ii_X2, cd_X2_init, rfl, by decide +kernel⟩
theorem mi_X0 : MI yX0_init cX0_init 2 := ⟨im_X0_init, ii_X0, cd_X0_init, rfl, by decide +kernel⟩
theorem mi_X1 : MI yX1_init cX1_init 2 := ⟨im_X1_init, ii_X1, cd_X1_init, rfl, by decide +kernel⟩
theorem mi_X4 : MI yX4_init cX4_init 1 := ⟨im_X4_init, ii_X4, cd_X4_init, rfl, by decide +kernel⟩
abbrev ia_ (K : Nat → ClassId) (k n : Nat) (f : Nat → Int32) : va_E := .inl (K k, n, .inl f)
abbrev i0_ : Value := .int 0
/-- a subtitle as it is made -/
def su_ (K : Nat → ClassId) (h0 t : Nat) : va_W := [(h0, .inr (3, [i0_, i0_, i0_, .ref t])), (t, ia_ K 1 40 (fun _ => 0))]
def sc_ (K : Nat → ClassId) (h0 t : Nat) : va_W := [(h0, .inr (2, [.ref t, i0_, i0_, i0_, i0_, i0_, i0_, i0_])), (t, ia_ K 1 80 (fun _ => 0))]
set_option maxRecDepth 100000 in
theorem k_X3 (g : Ga) : Cn_ g yX3_init cX3_init 1 1 12 1 40 3 [i0_, i0_, i0_, .null] (fun h0 w1 => ∃ t, w1 = su_ g.2.1 h0 t) := by
  refine Cn_.mk (by decide) rfl (by decide) ?_
  intro p l e s m args below meth c h0 A cx hr hlk hi
  refine y_aload_n cx dX3_init_0 rfl ?_
  refine y_objinit cx ml_X3_3 dX3_init_1 ?_
  refine y_aload_n cx dX3_init_4 rfl ?_
  refine y_bipush cx dX3_init_5 ?_
  refine y_newc cx 40 rfl dX3_init_7 (fun t => ?_)
  refine y_putF cx 0 3 3 (fs := [i0_, i0_, i0_, .null]) (ty := .array .char) rfl rfl ziX3 tyX3_ok nmX3 (by decide) rfl hi rfl rfl rfl rfl (Nat.le_of_ble_eq_true rfl) fl_X3_9 dX3_init_9 ?_
  exact y_vret cx hr hlk dX3_init_12 ⟨t, rfl⟩ (by decide) (by decide)
set_option maxRecDepth 100000 in
theorem k_X2 (g : Ga) : Cn_ g yX2_init cX2_init 1 1 12 1 80 2 [.null, i0_, i0_, i0_, i0_, i0_, i0_, i0_] (fun h0 w1 => ∃ t, w1 = sc_ g.2.1 h0 t) := by
  refine Cn_.mk (by decide) rfl (by decide) ?_
  intro p l e s m args below meth c h0 A cx hr hlk hi
  refine y_aload_n cx dX2_init_0 rfl ?_
  refine y_objinit cx ml_X2_3 dX2_init_1 ?_
  refine y_aload_n cx dX2_init_4 rfl ?_
  refine y_bipush cx dX2_init_5 ?_
  refine y_newc cx 80 rfl dX2_init_7 (fun t => ?_)
  refine y_putF cx 0 0 2 (fs := [.null, i0_, i0_, i0_, i0_, i0_, i0_, i0_]) (ty := .array .char) rfl rfl ziX2 tyX2_ok nmX2 (by decide) rfl hi rfl rfl rfl rfl (Nat.le_of_ble_eq_true rfl) fl_X2_9 dX2_init_9 ?_
  exact y_vret cx hr hlk dX2_init_12 ⟨t, rfl⟩ (by decide) (by decide)
