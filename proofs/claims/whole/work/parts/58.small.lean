/-! ===== the small constructors ===== -/
theorem mi_X3 : MI yX3_init cX3_init 1 := ⟨im_X3_init, ii_X3, cd_X3_init, rfl, by decide +kernel⟩
theorem mi_X2 : MI yX2_init cX2_init 1 := ⟨im_X2_init, ii_X2, cd_X2_init, rfl, by decide +kernel⟩
theorem mi_X5 : MI yX5_init cX5_init 1 := ⟨im_X5_init, ii_X5, cd_X5_init, rfl, by decide +kernel⟩
theorem mi_X0 : MI yX0_init cX0_init 2 := ⟨im_X0_init, ii_X0, cd_X0_init, rfl, by decide +kernel⟩
theorem mi_X1 : MI yX1_init cX1_init 2 := ⟨im_X1_init, ii_X1, cd_X1_init, rfl, by decide +kernel⟩
theorem mi_X4 : MI yX4_init cX4_init 1 := ⟨im_X4_init, ii_X4, cd_X4_init, rfl, by decide +kernel⟩
abbrev ia_ (K : Nat → ClassId) (k n : Nat) (f : Nat → Int32) : va_E := .inl (K k, n, .inl f)
abbrev i0_ : Value := .int 0
/-- a subtitle as it is made -/
def su_ (K : Nat → ClassId) (h0 t : Nat) : va_W := [(h0, .inr (3, [i0_, i0_, i0_, .ref t])), (t, ia_ K 1 40 (fun _ => 0))]
def sc_ (K : Nat → ClassId) (h0 t : Nat) : va_W := [(h0, .inr (2, [.ref t, i0_, i0_, i0_, i0_, i0_, i0_, i0_])), (t, ia_ K 1 80 (fun _ => 0))]
set_option maxRecDepth 100000 in
theorem k_X3 (g : Ga) : Cn_ g yX3_init cX3_init 1 1 12 1 40 3 [i0_, i0_, i0_, .null] (fun h0 w1 => ∃ t, w1 = su_ g.2.1 h0 t) := by
  refine Cn_.mk (by decide) rfl (by decide) ?_
  intro p l e s m args below meth c h0 A cx hr hlk hi
  refine y_aload_n cx dX3_init_0 rfl ?_
  refine y_objinit cx ml_X3_3 dX3_init_1 ?_
  refine y_aload_n cx dX3_init_4 rfl ?_
  refine y_bipush cx dX3_init_5 ?_
  refine y_newc cx 40 rfl dX3_init_7 (fun t => ?_)
  refine y_putF cx 0 3 3 (fs := [i0_, i0_, i0_, .null]) (ty := .array .char) rfl rfl ziX3 tyX3_ok nmX3 (by decide) rfl hi rfl rfl rfl rfl (Nat.le_of_ble_eq_true rfl) fl_X3_9 dX3_init_9 ?_
  exact y_vret cx hr hlk dX3_init_12 ⟨t, rfl⟩ (by decide) (by decide)
set_option maxRecDepth 100000 in
theorem k_X2 (g : Ga) : Cn_ g yX2_init cX2_init 1 1 12 1 80 2 [.null, i0_, i0_, i0_, i0_, i0_, i0_, i0_] (fun h0 w1 => ∃ t, w1 = sc_ g.2.1 h0 t) := by
  refine Cn_.mk (by decide) rfl (by decide) ?_
  intro p l e s m args below meth c h0 A cx hr hlk hi
  refine y_aload_n cx dX2_init_0 rfl ?_
  refine y_objinit cx ml_X2_3 dX2_init_1 ?_
  refine y_aload_n cx dX2_init_4 rfl ?_
  refine y_bipush cx dX2_init_5 ?_
  refine y_newc cx 80 rfl dX2_init_7 (fun t => ?_)
  refine y_putF cx 0 0 2 (fs := [.null, i0_, i0_, i0_, i0_, i0_, i0_, i0_]) (ty := .array .char) rfl rfl ziX2 tyX2_ok nmX2 (by decide) rfl hi rfl rfl rfl rfl (Nat.le_of_ble_eq_true rfl) fl_X2_9 dX2_init_9 ?_
  exact y_vret cx hr hlk dX2_init_12 ⟨t, rfl⟩ (by decide) (by decide)
def s0_ : Nat → Int32 := upd (upd (upd (upd (upd (upd (fun _ => 0) 1 (iN 17)) 2 (iN 2)) 3 (iN 25)) 4 (iN 150)) 5 (iN 20)) 6 (iN 6)
def mo_ (K : Nat → ClassId) (h0 a0 a1 a2 a3 a4 a5 a6 : Nat) : va_W := [(h0, .inr (5, [.ref a0, .ref a1, .ref a2, .ref a3, i0_, .ref a4, i0_, .ref a5, i0_, i0_, i0_, i0_, i0_, i0_, i0_, .ref a6])), (a0, ia_ K 0 880 s0_), (a1, ia_ K 0 880 (fun _ => 0)), (a2, ia_ K 0 880 (fun _ => 0)), (a3, ia_ K 0 3520 (fun _ => 0)), (a4, ia_ K 0 80 (fun _ => 0)), (a5, ia_ K 0 40 (fun _ => 0)), (a6, ia_ K 0 3 (fun _ => 0))]
set_option maxRecDepth 100000 in
set_option maxHeartbeats 4000000 in
theorem k_X5 (g : Ga) : Cn_ g yX5_init cX5_init 1 1 12 7 6283 5 [.null, .null, .null, .null, i0_, .null, i0_, .null, i0_, i0_, i0_, i0_, i0_, i0_, i0_, .null] (fun h0 w1 => ∃ a0 a1 a2 a3 a4 a5 a6, w1 = mo_ g.2.1 h0 a0 a1 a2 a3 a4 a5 a6) := by
  refine Cn_.mk (by decide) rfl (by decide) ?_
  intro p l e s m args below meth c h0 A cx hr hlk hi
  refine y_aload_n cx dX5_init_0 rfl ?_
  refine y_objinit cx ml_X5_1 dX5_init_1 ?_
  refine y_aload_n cx dX5_init_4 rfl ?_
  refine y_sipush cx dX5_init_5 ?_
  refine y_newi cx 880 rfl dX5_init_8 (fun a0 => ?_)
  refine Y.wide (ce' := 1) (sl' := 880) ?_ (Nat.le_of_ble_eq_true rfl) (Nat.le_of_ble_eq_true rfl)
  refine Y.to (ws' := [(h0, .inr (5, [.null, .null, .null, .null, i0_, .null, i0_, .null, i0_, i0_, i0_, i0_, i0_, i0_, i0_, .null])), (a0, ia_ g.2.1 0 880 (fun _ => 0))]) ?_ rfl
  refine y_putF cx 0 0 5 (fs := [.null, .null, .null, .null, i0_, .null, i0_, .null, i0_, i0_, i0_, i0_, i0_, i0_, i0_, .null]) (ty := .array .int) rfl rfl ziX5 tyX5_ok nmX5 (by decide) rfl hi rfl rfl rfl rfl (Nat.le_of_ble_eq_true rfl) fl_X5_7 dX5_init_10 ?_
  refine Y.to (ws' := [(h0, .inr (5, [.ref a0, .null, .null, .null, i0_, .null, i0_, .null, i0_, i0_, i0_, i0_, i0_, i0_, i0_, .null])), (a0, ia_ g.2.1 0 880 (fun _ => 0))]) ?_ rfl
  refine y_aload_n cx dX5_init_13 rfl ?_
  refine y_sipush cx dX5_init_14 ?_
  refine y_newi cx 880 rfl dX5_init_17 (fun a1 => ?_)
  refine Y.wide (ce' := 2) (sl' := 1760) ?_ (Nat.le_of_ble_eq_true rfl) (Nat.le_of_ble_eq_true rfl)
  refine Y.to (ws' := [(h0, .inr (5, [.ref a0, .null, .null, .null, i0_, .null, i0_, .null, i0_, i0_, i0_, i0_, i0_, i0_, i0_, .null])), (a0, ia_ g.2.1 0 880 (fun _ => 0)), (a1, ia_ g.2.1 0 880 (fun _ => 0))]) ?_ rfl
  refine y_putF cx 0 1 5 (fs := [.ref a0, .null, .null, .null, i0_, .null, i0_, .null, i0_, i0_, i0_, i0_, i0_, i0_, i0_, .null]) (ty := .array .int) rfl rfl ziX5 tyX5_ok nmX5 (by decide) rfl hi rfl rfl rfl rfl (Nat.le_of_ble_eq_true rfl) fl_X5_13 dX5_init_19 ?_
  refine Y.to (ws' := [(h0, .inr (5, [.ref a0, .ref a1, .null, .null, i0_, .null, i0_, .null, i0_, i0_, i0_, i0_, i0_, i0_, i0_, .null])), (a0, ia_ g.2.1 0 880 (fun _ => 0)), (a1, ia_ g.2.1 0 880 (fun _ => 0))]) ?_ rfl
  refine y_aload_n cx dX5_init_22 rfl ?_
  refine y_sipush cx dX5_init_23 ?_
  refine y_newi cx 880 rfl dX5_init_26 (fun a2 => ?_)
  refine Y.wide (ce' := 3) (sl' := 2640) ?_ (Nat.le_of_ble_eq_true rfl) (Nat.le_of_ble_eq_true rfl)
  refine Y.to (ws' := [(h0, .inr (5, [.ref a0, .ref a1, .null, .null, i0_, .null, i0_, .null, i0_, i0_, i0_, i0_, i0_, i0_, i0_, .null])), (a0, ia_ g.2.1 0 880 (fun _ => 0)), (a1, ia_ g.2.1 0 880 (fun _ => 0)), (a2, ia_ g.2.1 0 880 (fun _ => 0))]) ?_ rfl
  refine y_putF cx 0 2 5 (fs := [.ref a0, .ref a1, .null, .null, i0_, .null, i0_, .null, i0_, i0_, i0_, i0_, i0_, i0_, i0_, .null]) (ty := .array .int) rfl rfl ziX5 tyX5_ok nmX5 (by decide) rfl hi rfl rfl rfl rfl (Nat.le_of_ble_eq_true rfl) fl_X5_16 dX5_init_28 ?_
  refine Y.to (ws' := [(h0, .inr (5, [.ref a0, .ref a1, .ref a2, .null, i0_, .null, i0_, .null, i0_, i0_, i0_, i0_, i0_, i0_, i0_, .null])), (a0, ia_ g.2.1 0 880 (fun _ => 0)), (a1, ia_ g.2.1 0 880 (fun _ => 0)), (a2, ia_ g.2.1 0 880 (fun _ => 0))]) ?_ rfl
  refine y_aload_n cx dX5_init_31 rfl ?_
  refine y_sipush cx dX5_init_32 ?_
  refine y_newi cx 3520 rfl dX5_init_35 (fun a3 => ?_)
  refine Y.wide (ce' := 4) (sl' := 6160) ?_ (Nat.le_of_ble_eq_true rfl) (Nat.le_of_ble_eq_true rfl)
  refine Y.to (ws' := [(h0, .inr (5, [.ref a0, .ref a1, .ref a2, .null, i0_, .null, i0_, .null, i0_, i0_, i0_, i0_, i0_, i0_, i0_, .null])), (a0, ia_ g.2.1 0 880 (fun _ => 0)), (a1, ia_ g.2.1 0 880 (fun _ => 0)), (a2, ia_ g.2.1 0 880 (fun _ => 0)), (a3, ia_ g.2.1 0 3520 (fun _ => 0))]) ?_ rfl
  refine y_putF cx 0 3 5 (fs := [.ref a0, .ref a1, .ref a2, .null, i0_, .null, i0_, .null, i0_, i0_, i0_, i0_, i0_, i0_, i0_, .null]) (ty := .array .int) rfl rfl ziX5 tyX5_ok nmX5 (by decide) rfl hi rfl rfl rfl rfl (Nat.le_of_ble_eq_true rfl) fl_X5_19 dX5_init_37 ?_
  refine Y.to (ws' := [(h0, .inr (5, [.ref a0, .ref a1, .ref a2, .ref a3, i0_, .null, i0_, .null, i0_, i0_, i0_, i0_, i0_, i0_, i0_, .null])), (a0, ia_ g.2.1 0 880 (fun _ => 0)), (a1, ia_ g.2.1 0 880 (fun _ => 0)), (a2, ia_ g.2.1 0 880 (fun _ => 0)), (a3, ia_ g.2.1 0 3520 (fun _ => 0))]) ?_ rfl
  refine y_aload_n cx dX5_init_40 rfl ?_
  refine y_bipush cx dX5_init_41 ?_
  refine y_newi cx 80 rfl dX5_init_43 (fun a4 => ?_)
  refine Y.wide (ce' := 5) (sl' := 6240) ?_ (Nat.le_of_ble_eq_true rfl) (Nat.le_of_ble_eq_true rfl)
  refine Y.to (ws' := [(h0, .inr (5, [.ref a0, .ref a1, .ref a2, .ref a3, i0_, .null, i0_, .null, i0_, i0_, i0_, i0_, i0_, i0_, i0_, .null])), (a0, ia_ g.2.1 0 880 (fun _ => 0)), (a1, ia_ g.2.1 0 880 (fun _ => 0)), (a2, ia_ g.2.1 0 880 (fun _ => 0)), (a3, ia_ g.2.1 0 3520 (fun _ => 0)), (a4, ia_ g.2.1 0 80 (fun _ => 0))]) ?_ rfl
  refine y_putF cx 0 5 5 (fs := [.ref a0, .ref a1, .ref a2, .ref a3, i0_, .null, i0_, .null, i0_, i0_, i0_, i0_, i0_, i0_, i0_, .null]) (ty := .array .int) rfl rfl ziX5 tyX5_ok nmX5 (by decide) rfl hi rfl rfl rfl rfl (Nat.le_of_ble_eq_true rfl) fl_X5_22 dX5_init_45 ?_
  refine Y.to (ws' := [(h0, .inr (5, [.ref a0, .ref a1, .ref a2, .ref a3, i0_, .ref a4, i0_, .null, i0_, i0_, i0_, i0_, i0_, i0_, i0_, .null])), (a0, ia_ g.2.1 0 880 (fun _ => 0)), (a1, ia_ g.2.1 0 880 (fun _ => 0)), (a2, ia_ g.2.1 0 880 (fun _ => 0)), (a3, ia_ g.2.1 0 3520 (fun _ => 0)), (a4, ia_ g.2.1 0 80 (fun _ => 0))]) ?_ rfl
  refine y_aload_n cx dX5_init_48 rfl ?_
  refine y_bipush cx dX5_init_49 ?_
  refine y_newi cx 40 rfl dX5_init_51 (fun a5 => ?_)
  refine Y.wide (ce' := 6) (sl' := 6280) ?_ (Nat.le_of_ble_eq_true rfl) (Nat.le_of_ble_eq_true rfl)
  refine Y.to (ws' := [(h0, .inr (5, [.ref a0, .ref a1, .ref a2, .ref a3, i0_, .ref a4, i0_, .null, i0_, i0_, i0_, i0_, i0_, i0_, i0_, .null])), (a0, ia_ g.2.1 0 880 (fun _ => 0)), (a1, ia_ g.2.1 0 880 (fun _ => 0)), (a2, ia_ g.2.1 0 880 (fun _ => 0)), (a3, ia_ g.2.1 0 3520 (fun _ => 0)), (a4, ia_ g.2.1 0 80 (fun _ => 0)), (a5, ia_ g.2.1 0 40 (fun _ => 0))]) ?_ rfl
  refine y_putF cx 0 7 5 (fs := [.ref a0, .ref a1, .ref a2, .ref a3, i0_, .ref a4, i0_, .null, i0_, i0_, i0_, i0_, i0_, i0_, i0_, .null]) (ty := .array .int) rfl rfl ziX5 tyX5_ok nmX5 (by decide) rfl hi rfl rfl rfl rfl (Nat.le_of_ble_eq_true rfl) fl_X5_25 dX5_init_53 ?_
  refine Y.to (ws' := [(h0, .inr (5, [.ref a0, .ref a1, .ref a2, .ref a3, i0_, .ref a4, i0_, .ref a5, i0_, i0_, i0_, i0_, i0_, i0_, i0_, .null])), (a0, ia_ g.2.1 0 880 (fun _ => 0)), (a1, ia_ g.2.1 0 880 (fun _ => 0)), (a2, ia_ g.2.1 0 880 (fun _ => 0)), (a3, ia_ g.2.1 0 3520 (fun _ => 0)), (a4, ia_ g.2.1 0 80 (fun _ => 0)), (a5, ia_ g.2.1 0 40 (fun _ => 0))]) ?_ rfl
  refine y_aload_n cx dX5_init_56 rfl ?_
  refine y_iconst cx dX5_init_57 ?_
  refine y_newi cx 3 rfl dX5_init_58 (fun a6 => ?_)
  refine Y.wide (ce' := 7) (sl' := 6283) ?_ (Nat.le_of_ble_eq_true rfl) (Nat.le_of_ble_eq_true rfl)
  refine Y.to (ws' := [(h0, .inr (5, [.ref a0, .ref a1, .ref a2, .ref a3, i0_, .ref a4, i0_, .ref a5, i0_, i0_, i0_, i0_, i0_, i0_, i0_, .null])), (a0, ia_ g.2.1 0 880 (fun _ => 0)), (a1, ia_ g.2.1 0 880 (fun _ => 0)), (a2, ia_ g.2.1 0 880 (fun _ => 0)), (a3, ia_ g.2.1 0 3520 (fun _ => 0)), (a4, ia_ g.2.1 0 80 (fun _ => 0)), (a5, ia_ g.2.1 0 40 (fun _ => 0)), (a6, ia_ g.2.1 0 3 (fun _ => 0))]) ?_ rfl
  refine y_putF cx 0 15 5 (fs := [.ref a0, .ref a1, .ref a2, .ref a3, i0_, .ref a4, i0_, .ref a5, i0_, i0_, i0_, i0_, i0_, i0_, i0_, .null]) (ty := .array .int) rfl rfl ziX5 tyX5_ok nmX5 (by decide) rfl hi rfl rfl rfl rfl (Nat.le_of_ble_eq_true rfl) fl_X5_28 dX5_init_60 ?_
  refine Y.to (ws' := [(h0, .inr (5, [.ref a0, .ref a1, .ref a2, .ref a3, i0_, .ref a4, i0_, .ref a5, i0_, i0_, i0_, i0_, i0_, i0_, i0_, .ref a6])), (a0, ia_ g.2.1 0 880 (fun _ => 0)), (a1, ia_ g.2.1 0 880 (fun _ => 0)), (a2, ia_ g.2.1 0 880 (fun _ => 0)), (a3, ia_ g.2.1 0 3520 (fun _ => 0)), (a4, ia_ g.2.1 0 80 (fun _ => 0)), (a5, ia_ g.2.1 0 40 (fun _ => 0)), (a6, ia_ g.2.1 0 3 (fun _ => 0))]) ?_ rfl
  refine y_aload_n cx dX5_init_63 rfl ?_
  refine y_get cx 0 0 5 (fs := [.ref a0, .ref a1, .ref a2, .ref a3, i0_, .ref a4, i0_, .ref a5, i0_, i0_, i0_, i0_, i0_, i0_, i0_, .ref a6]) (v := .ref a0) rfl rfl ziX5 (by decide) rfl fl_X5_7 dX5_init_64 ?_
  refine y_iconst cx dX5_init_67 ?_
  refine y_bipush cx dX5_init_68 ?_
  refine y_iast cx 1 1 (N := 880) (f := (fun _ => 0)) rfl rfl dX5_init_70 ?_
  refine Y.to (ws' := [(h0, .inr (5, [.ref a0, .ref a1, .ref a2, .ref a3, i0_, .ref a4, i0_, .ref a5, i0_, i0_, i0_, i0_, i0_, i0_, i0_, .ref a6])), (a0, ia_ g.2.1 0 880 (upd (fun _ => 0) 1 (iN 17))), (a1, ia_ g.2.1 0 880 (fun _ => 0)), (a2, ia_ g.2.1 0 880 (fun _ => 0)), (a3, ia_ g.2.1 0 3520 (fun _ => 0)), (a4, ia_ g.2.1 0 80 (fun _ => 0)), (a5, ia_ g.2.1 0 40 (fun _ => 0)), (a6, ia_ g.2.1 0 3 (fun _ => 0))]) ?_ rfl
  refine y_aload_n cx dX5_init_71 rfl ?_
  refine y_get cx 0 0 5 (fs := [.ref a0, .ref a1, .ref a2, .ref a3, i0_, .ref a4, i0_, .ref a5, i0_, i0_, i0_, i0_, i0_, i0_, i0_, .ref a6]) (v := .ref a0) rfl rfl ziX5 (by decide) rfl fl_X5_7 dX5_init_72 ?_
  refine y_iconst cx dX5_init_75 ?_
  refine y_iconst cx dX5_init_76 ?_
  refine y_iast cx 1 2 (N := 880) (f := (upd (fun _ => 0) 1 (iN 17))) rfl rfl dX5_init_77 ?_
  refine Y.to (ws' := [(h0, .inr (5, [.ref a0, .ref a1, .ref a2, .ref a3, i0_, .ref a4, i0_, .ref a5, i0_, i0_, i0_, i0_, i0_, i0_, i0_, .ref a6])), (a0, ia_ g.2.1 0 880 (upd (upd (fun _ => 0) 1 (iN 17)) 2 (iN 2))), (a1, ia_ g.2.1 0 880 (fun _ => 0)), (a2, ia_ g.2.1 0 880 (fun _ => 0)), (a3, ia_ g.2.1 0 3520 (fun _ => 0)), (a4, ia_ g.2.1 0 80 (fun _ => 0)), (a5, ia_ g.2.1 0 40 (fun _ => 0)), (a6, ia_ g.2.1 0 3 (fun _ => 0))]) ?_ rfl
  refine y_aload_n cx dX5_init_78 rfl ?_
  refine y_get cx 0 0 5 (fs := [.ref a0, .ref a1, .ref a2, .ref a3, i0_, .ref a4, i0_, .ref a5, i0_, i0_, i0_, i0_, i0_, i0_, i0_, .ref a6]) (v := .ref a0) rfl rfl ziX5 (by decide) rfl fl_X5_7 dX5_init_79 ?_
  refine y_iconst cx dX5_init_82 ?_
  refine y_bipush cx dX5_init_83 ?_
  refine y_iast cx 1 3 (N := 880) (f := (upd (upd (fun _ => 0) 1 (iN 17)) 2 (iN 2))) rfl rfl dX5_init_85 ?_
  refine Y.to (ws' := [(h0, .inr (5, [.ref a0, .ref a1, .ref a2, .ref a3, i0_, .ref a4, i0_, .ref a5, i0_, i0_, i0_, i0_, i0_, i0_, i0_, .ref a6])), (a0, ia_ g.2.1 0 880 (upd (upd (upd (fun _ => 0) 1 (iN 17)) 2 (iN 2)) 3 (iN 25))), (a1, ia_ g.2.1 0 880 (fun _ => 0)), (a2, ia_ g.2.1 0 880 (fun _ => 0)), (a3, ia_ g.2.1 0 3520 (fun _ => 0)), (a4, ia_ g.2.1 0 80 (fun _ => 0)), (a5, ia_ g.2.1 0 40 (fun _ => 0)), (a6, ia_ g.2.1 0 3 (fun _ => 0))]) ?_ rfl
  refine y_aload_n cx dX5_init_86 rfl ?_
  refine y_get cx 0 0 5 (fs := [.ref a0, .ref a1, .ref a2, .ref a3, i0_, .ref a4, i0_, .ref a5, i0_, i0_, i0_, i0_, i0_, i0_, i0_, .ref a6]) (v := .ref a0) rfl rfl ziX5 (by decide) rfl fl_X5_7 dX5_init_87 ?_
  refine y_iconst cx dX5_init_90 ?_
  refine y_sipush cx dX5_init_91 ?_
  refine y_iast cx 1 4 (N := 880) (f := (upd (upd (upd (fun _ => 0) 1 (iN 17)) 2 (iN 2)) 3 (iN 25))) rfl rfl dX5_init_94 ?_
  refine Y.to (ws' := [(h0, .inr (5, [.ref a0, .ref a1, .ref a2, .ref a3, i0_, .ref a4, i0_, .ref a5, i0_, i0_, i0_, i0_, i0_, i0_, i0_, .ref a6])), (a0, ia_ g.2.1 0 880 (upd (upd (upd (upd (fun _ => 0) 1 (iN 17)) 2 (iN 2)) 3 (iN 25)) 4 (iN 150))), (a1, ia_ g.2.1 0 880 (fun _ => 0)), (a2, ia_ g.2.1 0 880 (fun _ => 0)), (a3, ia_ g.2.1 0 3520 (fun _ => 0)), (a4, ia_ g.2.1 0 80 (fun _ => 0)), (a5, ia_ g.2.1 0 40 (fun _ => 0)), (a6, ia_ g.2.1 0 3 (fun _ => 0))]) ?_ rfl
  refine y_aload_n cx dX5_init_95 rfl ?_
  refine y_get cx 0 0 5 (fs := [.ref a0, .ref a1, .ref a2, .ref a3, i0_, .ref a4, i0_, .ref a5, i0_, i0_, i0_, i0_, i0_, i0_, i0_, .ref a6]) (v := .ref a0) rfl rfl ziX5 (by decide) rfl fl_X5_7 dX5_init_96 ?_
  refine y_iconst cx dX5_init_99 ?_
  refine y_bipush cx dX5_init_100 ?_
  refine y_iast cx 1 5 (N := 880) (f := (upd (upd (upd (upd (fun _ => 0) 1 (iN 17)) 2 (iN 2)) 3 (iN 25)) 4 (iN 150))) rfl rfl dX5_init_102 ?_
  refine Y.to (ws' := [(h0, .inr (5, [.ref a0, .ref a1, .ref a2, .ref a3, i0_, .ref a4, i0_, .ref a5, i0_, i0_, i0_, i0_, i0_, i0_, i0_, .ref a6])), (a0, ia_ g.2.1 0 880 (upd (upd (upd (upd (upd (fun _ => 0) 1 (iN 17)) 2 (iN 2)) 3 (iN 25)) 4 (iN 150)) 5 (iN 20))), (a1, ia_ g.2.1 0 880 (fun _ => 0)), (a2, ia_ g.2.1 0 880 (fun _ => 0)), (a3, ia_ g.2.1 0 3520 (fun _ => 0)), (a4, ia_ g.2.1 0 80 (fun _ => 0)), (a5, ia_ g.2.1 0 40 (fun _ => 0)), (a6, ia_ g.2.1 0 3 (fun _ => 0))]) ?_ rfl
  refine y_aload_n cx dX5_init_103 rfl ?_
  refine y_get cx 0 0 5 (fs := [.ref a0, .ref a1, .ref a2, .ref a3, i0_, .ref a4, i0_, .ref a5, i0_, i0_, i0_, i0_, i0_, i0_, i0_, .ref a6]) (v := .ref a0) rfl rfl ziX5 (by decide) rfl fl_X5_7 dX5_init_104 ?_
  refine y_bipush cx dX5_init_107 ?_
  refine y_bipush cx dX5_init_109 ?_
  refine y_iast cx 1 6 (N := 880) (f := (upd (upd (upd (upd (upd (fun _ => 0) 1 (iN 17)) 2 (iN 2)) 3 (iN 25)) 4 (iN 150)) 5 (iN 20))) rfl rfl dX5_init_111 ?_
  refine Y.to (ws' := [(h0, .inr (5, [.ref a0, .ref a1, .ref a2, .ref a3, i0_, .ref a4, i0_, .ref a5, i0_, i0_, i0_, i0_, i0_, i0_, i0_, .ref a6])), (a0, ia_ g.2.1 0 880 (upd (upd (upd (upd (upd (upd (fun _ => 0) 1 (iN 17)) 2 (iN 2)) 3 (iN 25)) 4 (iN 150)) 5 (iN 20)) 6 (iN 6))), (a1, ia_ g.2.1 0 880 (fun _ => 0)), (a2, ia_ g.2.1 0 880 (fun _ => 0)), (a3, ia_ g.2.1 0 3520 (fun _ => 0)), (a4, ia_ g.2.1 0 80 (fun _ => 0)), (a5, ia_ g.2.1 0 40 (fun _ => 0)), (a6, ia_ g.2.1 0 3 (fun _ => 0))]) ?_ rfl
  exact y_vret cx hr hlk dX5_init_112 ⟨a0, a1, a2, a3, a4, a5, a6, rfl⟩ (by decide) (Nat.le_of_ble_eq_true rfl)
