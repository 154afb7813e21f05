/-! ===== the history and the whole object, as they are made ===== -/
def fs_ (fs : List ((Nat → Nat) × va_W)) : va_W := fs.flatMap (fun x => x.2)
theorem fs_len {K : Nat → ClassId} : ∀ (fs : List ((Nat → Nat) × va_W)), (∀ x ∈ fs, FB_ K x.1 x.2) → (fs_ fs).length = 44 * fs.length
  | [], _ => rfl
  | x :: fs, h => by
    show (x.2 ++ fs_ fs).length = _
    rw [List.length_append, (h x List.mem_cons_self).1, fs_len fs (fun y hy => h y (List.mem_cons_of_mem _ hy)), List.length_cons]
    omega
theorem fs_add (fs : List ((Nat → Nat) × va_W)) (a : Nat → Nat) (w : va_W) : fs_ (fs ++ [(a, w)]) = fs_ fs ++ w := by
  unfold fs_
  rw [List.flatMap_append]
  simp
def rg_ (fs : List ((Nat → Nat) × va_W)) : Nat → Option Nat := fun j => (fs[j]?).map (fun x => x.1 0)
theorem rg_add (fs : List ((Nat → Nat) × va_W)) (a : Nat → Nat) (w : va_W) : va_up (rg_ fs) fs.length (some (a 0)) = rg_ (fs ++ [(a, w)]) := by
  funext j
  unfold va_up rg_
  by_cases hj : j = fs.length
  · subst hj
    simp
  · rw [if_neg hj]
    by_cases hl : j < fs.length
    · rw [List.getElem?_append_left hl]
    · rw [List.getElem?_eq_none (by omega), List.getElem?_eq_none (by simp; omega)]
def hs_ (K : Nat → ClassId) (h0 st : Nat) (fs : List ((Nat → Nat) × va_W)) : va_W := (h0, .inr (1, [.ref st, i0_, i0_])) :: (st, ra_ K 3 4 (rg_ fs)) :: fs_ fs
theorem hs_len {K : Nat → ClassId} {h0 st : Nat} {fs : List ((Nat → Nat) × va_W)} (h : ∀ x ∈ fs, FB_ K x.1 x.2) : (hs_ K h0 st fs).length = 2 + 44 * fs.length := by
  unfold hs_
  rw [List.length_cons, List.length_cons, fs_len fs h]
  omega
theorem hs_new {K : Nat → ClassId} {h0 st : Nat} {fs : List ((Nat → Nat) × va_W)} (h : ∀ x ∈ fs, FB_ K x.1 x.2) {a : Nat → Nat} {w : va_W} (hw : FB_ K a w) : (hs_ K h0 st fs ++ w)[2 + 44 * fs.length]? = some (a 0, .inr (0, [.ref (a 1), i0_, .ref (a 2), i0_, .ref (a 3)])) := by
  rw [List.getElem?_append_right (by rw [hs_len h]; omega), hs_len h, Nat.sub_self]
  exact hw.2 0 (by decide)
theorem hs_add (K : Nat → ClassId) (h0 st : Nat) (fs : List ((Nat → Nat) × va_W)) (a : Nat → Nat) (w : va_W) : (hs_ K h0 st fs ++ w).set 1 (st, ra_ K 3 4 (va_up (rg_ fs) fs.length (some (a 0)))) = hs_ K h0 st (fs ++ [(a, w)]) := by
  rw [rg_add fs a w]
  show (h0, _) :: (st, _) :: (fs_ fs ++ w) = _
  rw [← fs_add fs a w]
  rfl
set_option maxRecDepth 100000 in
set_option maxHeartbeats 4000000 in
theorem k_X1 (g : Ga) : Cn_ g yX1_init cX1_init 2 3 61 177 3696 1 [.null, i0_, i0_] (fun h0 w1 => ∃ st fs, fs.length = 4 ∧ (∀ x ∈ fs, FB_ g.2.1 x.1 x.2) ∧ w1 = hs_ g.2.1 h0 st fs) := by
  refine Cn_.mk (by decide) rfl (by decide) ?_
  intro p l e s m args below meth c h0 A cx hr hlk hi
  refine y_aload_n cx dX1_init_0 rfl ?_
  refine y_objinit cx ml_X1_3 dX1_init_1 ?_
  refine y_aload_n cx dX1_init_4 rfl ?_
  refine y_iconst cx dX1_init_5 ?_
  refine y_newq cx 4 3 (C := "SubtitleSeats$Film") rfl cx.2.2.2.2.2.1.2.2.2.1 rfl cl_X1_9 dX1_init_6 (fun st => ?_)
  refine y_putF cx 0 0 1 (fs := [.null, i0_, i0_]) (ty := .array (.object "SubtitleSeats$Film")) rfl rfl ziX1 tyX1_ok nmX1 (by decide) rfl hi rfl rfl rfl rfl (Nat.le_of_ble_eq_true rfl) fl_X1_11 dX1_init_9 ?_
  refine Y.to (ws' := hs_ g.2.1 h0 st []) ?_ rfl
  refine y_iconst cx dX1_init_12 ?_
  refine y_istore_n cx dX1_init_13 ?_
  have loop : ∀ (k : Nat) (fs : List ((Nat → Nat) × va_W)), fs.length + k = 4 → (∀ x ∈ fs, FB_ g.2.1 x.1 x.2) → Y p l e ({ frames := 3, cells := 177, slots := 3696, locals := 61 }) s m args below meth c 2 (1 + 44 * fs.length) (4 + 923 * fs.length) g A (MQ below (va_Qv (fun w1 => ∃ st fs, fs.length = 4 ∧ (∀ x ∈ fs, FB_ g.2.1 x.1 x.2) ∧ w1 = hs_ g.2.1 h0 st fs) (Bw_ g A) A) args s 177 3696 A) (hs_ g.2.1 h0 st fs) 14 [some (.ref h0), some (.int (iN fs.length))] [] := by
    intro k
    induction k with
    | zero =>
      intro fs hfs hall
      refine y_iload_n cx dX1_init_14 rfl ?_
      refine y_iconst cx dX1_init_15 ?_
      refine y_icmp_ge cx (tgt := 38) dX1_init_16 (fun _ => ?_) (fun h => absurd h (by omega))
      exact y_vret cx hr hlk dX1_init_38 ⟨st, fs, by omega, hall, rfl⟩ (by omega) (by omega)
    | succ k ih =>
      intro fs hfs hall
      refine y_iload_n cx dX1_init_14 rfl ?_
      refine y_iconst cx dX1_init_15 ?_
      refine y_icmp_ge cx (tgt := 38) dX1_init_16 (fun h => absurd h (by omega)) (fun _ => ?_)
      refine y_aload_n cx dX1_init_19 rfl ?_
      refine y_get cx 0 0 1 (fs := [.ref st, i0_, i0_]) (v := .ref st) rfl rfl ziX1 (by decide) rfl fl_X1_11 dX1_init_20 ?_
      refine y_iload_n cx dX1_init_23 rfl ?_
      refine y_mk cx (C := RX0) (T := TX0) (N := 5) (ty := tyX0) (k_X0 g) mi_X0 ml_X1_17 rfl ziX0 tyX0_ok cl_X1_9 in_X0 ii_X0 (fun j hj => by rcases (show j = 0 ∨ j = 1 ∨ j = 2 ∨ j = 3 ∨ j = 4 by omega) with rfl | rfl | rfl | rfl | rfl <;> rfl) dX1_init_24 dX1_init_27 dX1_init_28 (fun q w1 hw => ?_) (Nat.le_of_ble_eq_true rfl) (by show 1 + 44 * fs.length + 1 + 43 ≤ 177 ∧ 4 + 923 * fs.length + 5 + 918 ≤ 3696; omega) ⟨Nat.le_of_ble_eq_true rfl, Nat.le_of_ble_eq_true rfl⟩
      obtain ⟨a, rfl, hw⟩ := hw
      refine y_astq cx 1 3 (2 + 44 * fs.length) 0 fs.length (r := (RX0, TX0, 5)) (f := rg_ fs) rfl rfl rfl (hs_new hall hw) rfl dX1_init_31 (N := 4) (by omega) (by decide) ?_
      refine Y.to (ws' := hs_ g.2.1 h0 st (fs ++ [(a, w1)])) ?_ (hs_add _ _ _ fs a w1)
      refine y_iinc cx (k := 1) dX1_init_32 rfl ?_
      refine y_goto cx (tgt := 14) dX1_init_35 ?_
      have h2 := ih (fs ++ [(a, w1)]) (by rw [List.length_append]; show fs.length + 1 + k = 4; omega) (fun x hx => by
        rcases List.mem_append.mp hx with h | h
        · exact hall x h
        · rw [List.mem_singleton.mp h]
          exact hw)
      rw [List.length_append, show fs.length + [(a, w1)].length = fs.length + 1 from rfl, Int.natCast_add] at h2
      exact h2.wide (by omega) (by omega)
  exact (loop 4 [] rfl (fun x hx => by cases hx)).wide (by decide) (by decide)
abbrev rp_ : Nat → Int32 := upd (upd (upd (fun _ => 0) 0 (iN (-6))) 1 (iN (-6))) 2 (iN (-6))
def mw_ (K : Nat → ClassId) (h0 : Nat) (a0 : Nat → Nat) (w0 : va_W) (a1 : Nat → Nat) (w1 : va_W) (hi st : Nat) (fs : List ((Nat → Nat) × va_W)) (sc ch rep : Nat) : va_W :=
  (h0, .inr (4, [.ref (a0 0), .ref (a1 0), .ref hi, .ref sc, .ref rep])) :: (w0 ++ (w1 ++ (hs_ K hi st fs ++ (sc_ K sc ch ++ [(rep, ia_ K 0 3 rp_)]))))
def PX4 (K : Nat → ClassId) (h0 : Nat) (w : va_W) : Prop := ∃ a0 w0 a1 w1 hi st fs sc ch rep, FB_ K a0 w0 ∧ FB_ K a1 w1 ∧ fs.length = 4 ∧ (∀ x ∈ fs, FB_ K x.1 x.2) ∧ w = mw_ K h0 a0 w0 a1 w1 hi st fs sc ch rep
theorem ap_get {α : Type} (w : List α) (x : α) : (w ++ [x])[w.length]? = some x := by simp
theorem ap_set {α : Type} (w : List α) (x y : α) : (w ++ [x]).set w.length y = w ++ [y] := by simp
set_option maxRecDepth 100000 in
set_option maxHeartbeats 4000000 in
theorem k_X4 (g : Ga) : Cn_ g yX4_init cX4_init 1 4 82 269 5636 4 [.null, .null, .null, .null, .null] (PX4 g.2.1) := by
  refine Cn_.mk (by decide) rfl (by decide) ?_
  intro p l e s m args below meth c h0 A cx hr hlk hi
  have d0 : ∀ j, j < 5 → defaultValue (tyX0 j) = vp_V [.null, i0_, .null, i0_, .null] j := fun j hj => by rcases (show j = 0 ∨ j = 1 ∨ j = 2 ∨ j = 3 ∨ j = 4 by omega) with rfl | rfl | rfl | rfl | rfl <;> rfl
  refine y_aload_n cx dX4_init_0 rfl ?_
  refine y_objinit cx ml_X4_1 dX4_init_1 ?_
  refine y_aload_n cx dX4_init_4 rfl ?_
  refine y_mk cx (C := RX0) (T := TX0) (N := 5) (ty := tyX0) (k_X0 g) mi_X0 ml_X4_9 rfl ziX0 tyX0_ok cl_X4_7 in_X0 ii_X0 d0 dX4_init_5 dX4_init_8 dX4_init_9 (fun q w0 hw => ?_) (Nat.le_of_ble_eq_true rfl) ⟨Nat.le_of_ble_eq_true rfl, Nat.le_of_ble_eq_true rfl⟩ ⟨Nat.le_of_ble_eq_true rfl, Nat.le_of_ble_eq_true rfl⟩
  obtain ⟨a0, rfl, hw0⟩ := hw
  refine y_putF cx 0 0 4 (fs := [.null, .null, .null, .null, .null]) (ty := .object "SubtitleSeats$Film") rfl rfl ziX4 tyX4_ok nmX4 (by decide) rfl hi rfl rfl rfl rfl (Nat.le_of_ble_eq_true rfl) fl_X4_10 dX4_init_12 ?_
  refine Y.to (ws' := (h0, .inr (4, [.ref (a0 0), .null, .null, .null, .null])) :: w0) ?_ rfl
  refine y_aload_n cx dX4_init_15 rfl ?_
  refine y_mk cx (C := RX0) (T := TX0) (N := 5) (ty := tyX0) (k_X0 g) mi_X0 ml_X4_9 rfl ziX0 tyX0_ok cl_X4_7 in_X0 ii_X0 d0 dX4_init_16 dX4_init_19 dX4_init_20 (fun q w1 hw => ?_) (Nat.le_of_ble_eq_true rfl) ⟨Nat.le_of_ble_eq_true rfl, Nat.le_of_ble_eq_true rfl⟩ ⟨Nat.le_of_ble_eq_true rfl, Nat.le_of_ble_eq_true rfl⟩
  obtain ⟨a1, rfl, hw1⟩ := hw
  refine y_putF cx 0 1 4 (fs := [.ref (a0 0), .null, .null, .null, .null]) (ty := .object "SubtitleSeats$Film") rfl rfl ziX4 tyX4_ok nmX4 (by decide) rfl hi rfl rfl rfl rfl (Nat.le_of_ble_eq_true rfl) fl_X4_16 dX4_init_23 ?_
  refine Y.to (ws' := (h0, .inr (4, [.ref (a0 0), .ref (a1 0), .null, .null, .null])) :: (w0 ++ w1)) ?_ rfl
  refine y_aload_n cx dX4_init_26 rfl ?_
  refine y_mk cx (C := RX1) (T := TX1) (N := 3) (ty := tyX1) (k_X1 g) mi_X1 ml_X4_21 rfl ziX1 tyX1_ok cl_X4_19 in_X1 ii_X1 (fun j hj => by rcases (show j = 0 ∨ j = 1 ∨ j = 2 by omega) with rfl | rfl | rfl <;> rfl) dX4_init_27 dX4_init_30 dX4_init_31 (fun q w2 hw => ?_) (Nat.le_of_ble_eq_true rfl) ⟨Nat.le_of_ble_eq_true rfl, Nat.le_of_ble_eq_true rfl⟩ ⟨Nat.le_of_ble_eq_true rfl, Nat.le_of_ble_eq_true rfl⟩
  obtain ⟨st, fs, hfs, hall, rfl⟩ := hw
  refine y_putF cx 0 2 4 (fs := [.ref (a0 0), .ref (a1 0), .null, .null, .null]) (ty := .object "SubtitleSeats$History") rfl rfl ziX4 tyX4_ok nmX4 (by decide) rfl hi rfl rfl rfl rfl (Nat.le_of_ble_eq_true rfl) fl_X4_22 dX4_init_34 ?_
  refine Y.to (ws' := (h0, .inr (4, [.ref (a0 0), .ref (a1 0), .ref q, .null, .null])) :: ((w0 ++ w1) ++ hs_ g.2.1 q st fs)) ?_ rfl
  refine y_aload_n cx dX4_init_37 rfl ?_
  refine y_mk cx (C := RX2) (T := TX2) (N := 8) (ty := tyX2) (k_X2 g) mi_X2 ml_X4_28 rfl ziX2 tyX2_ok cl_X4_26 in_X2 ii_X2 (fun j hj => by rcases (show j = 0 ∨ j = 1 ∨ j = 2 ∨ j = 3 ∨ j = 4 ∨ j = 5 ∨ j = 6 ∨ j = 7 by omega) with rfl | rfl | rfl | rfl | rfl | rfl | rfl | rfl <;> rfl) dX4_init_38 dX4_init_41 dX4_init_42 (fun sc w3 hw => ?_) (Nat.le_of_ble_eq_true rfl) ⟨Nat.le_of_ble_eq_true rfl, Nat.le_of_ble_eq_true rfl⟩ ⟨Nat.le_of_ble_eq_true rfl, Nat.le_of_ble_eq_true rfl⟩
  obtain ⟨ch, rfl⟩ := hw
  refine y_putF cx 0 3 4 (fs := [.ref (a0 0), .ref (a1 0), .ref q, .null, .null]) (ty := .object "SubtitleSeats$Script") rfl rfl ziX4 tyX4_ok nmX4 (by decide) rfl hi rfl rfl rfl rfl (Nat.le_of_ble_eq_true rfl) fl_X4_29 dX4_init_45 ?_
  refine Y.to (ws' := (h0, .inr (4, [.ref (a0 0), .ref (a1 0), .ref q, .ref sc, .null])) :: (((w0 ++ w1) ++ hs_ g.2.1 q st fs) ++ sc_ g.2.1 sc ch)) ?_ rfl
  refine y_aload_n cx dX4_init_48 rfl ?_
  refine y_iconst cx dX4_init_49 ?_
  refine y_newi cx 3 rfl dX4_init_50 (fun rep => ?_)
  refine y_dup cx dX4_init_52 ?_
  refine y_iconst cx dX4_init_53 ?_
  refine y_bipush cx dX4_init_54 ?_
  refine y_iast cx _ 0 (N := 3) rfl (ap_get _ _) dX4_init_56 ?_
  rw [ap_set]
  refine y_dup cx dX4_init_57 ?_
  refine y_iconst cx dX4_init_58 ?_
  refine y_bipush cx dX4_init_59 ?_
  refine y_iast cx _ 1 (N := 3) rfl (ap_get _ _) dX4_init_61 ?_
  rw [ap_set]
  refine y_dup cx dX4_init_62 ?_
  refine y_iconst cx dX4_init_63 ?_
  refine y_bipush cx dX4_init_64 ?_
  refine y_iast cx _ 2 (N := 3) rfl (ap_get _ _) dX4_init_66 ?_
  rw [ap_set]
  refine y_putF cx 0 4 4 (fs := [.ref (a0 0), .ref (a1 0), .ref q, .ref sc, .null]) (ty := .array .int) rfl rfl ziX4 tyX4_ok nmX4 (by decide) rfl hi rfl rfl rfl rfl (Nat.le_of_ble_eq_true rfl) fl_X4_33 dX4_init_67 ?_
  refine Y.to (ws' := mw_ g.2.1 h0 a0 w0 a1 w1 q st fs sc ch rep) ?_ ?_
  · exact y_vret cx hr hlk dX4_init_70 ⟨a0, w0, a1, w1, q, st, fs, sc, ch, rep, hw0, hw1, hfs, hall, rfl⟩ (Nat.le_of_ble_eq_true rfl) (Nat.le_of_ble_eq_true rfl)
  · unfold mw_
    rw [List.cons_append, List.set_cons_zero]
    simp only [List.append_assoc]
    rfl
