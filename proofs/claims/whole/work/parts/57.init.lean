/-! ===== constructors ===== -/
theorem cd_objinit : Cond.code ⟨"java/lang/Object", "<init>", "()V"⟩ ⟨#[0xb1]⟩ 1 none ∈ zWL := List.mem_filter.mpr ⟨List.mem_append_right _ (List.mem_append_left _ (List.mem_of_getElem? (i := 17) rfl)), rfl⟩
abbrev w3_0 (h0 : Nat) : va_W := [(h0, .inr (3, [.int 0, .int 0, .int 0, .null]))]
abbrev w3_1 (h0 t : Nat) (cA : ClassId) : va_W := [(h0, .inr (3, [.int 0, .int 0, .int 0, .ref t])), (t, .inl (cA, 40, .inl (fun _ => 0)))]
abbrev Bk_ (D : va_G) (ws : va_W) (sz : Nat) (U : State) : Prop := U.heap.size = sz ∧ va_P D vwCl ws U.heap ∧ va_K D vwCl [] U ∧ va_D (fun _ => True) ws
abbrev Ck_ (D : va_G) (ws : va_W) (tys : List (ClassId × FieldType)) (A : Nat → Prop) (t : State) : Prop := va_P D vwCl ws t.heap ∧ va_K D vwCl tys t ∧ va_D A ws
set_option maxHeartbeats 4000000 in
set_option maxRecDepth 100000 in
theorem c_X3_init (l : Launch) (D : va_G) (h0 sz : Nat) : Met l yX3_init (zw yX3_init cX3_init 1 none) ({ frames := 1, cells := 1, slots := 40, locals := 12 }) (va_Pc [.ref h0] (Bk_ D (w3_0 h0) sz)) (va_Qv (fun _ : Nat × ClassId => True) (fun u t => Ck_ D (w3_1 h0 u.1 u.2) [(u.2, .char)] (va_A (w3_0 h0) sz) t) (va_A (w3_0 h0) sz)) 1 40 (va_A (w3_0 h0) sz) := by
  refine Met.ofW (by decide) rfl ?_
  intro p e s m args below meth c s₁ B hml hv
  obtain ⟨rfl, hsz, hP, hK, hD0⟩ := hv
  have hx := B.exec
  have hb := B.bytes
  have hr := B.returns
  have hts : ∀ w ∈ zWL, w.before _ s = true := fun w hw => atoms_spec (ws := zw yX3_init cX3_init 1 none) B.pre w (List.mem_cons_of_mem _ hw)
  have hown : s.vm.findClass "SubtitleSeats$Subtitle" = some m.cls := findClass_of_methodNamed B.named
  have hlocks := B.notSynchronized
  have hin : meth.name = "<init>" := (name_of_methodNamed B.named B.method).1
  subst hsz
  have hD := hD0.self (sz := s.heap.size)
  generalize hAe : va_A (w3_0 h0) s.heap.size = A at hD ⊢
  have hA : ∀ q : Nat, s.heap.size ≤ q → A q := fun q h => by rw [← hAe]; exact Or.inr h
  have hS : va_S A s.heap s.heap [] := va_S.rf
  have hl := lv_entry ([.ref h0]) (n := 1) (Nat.le_of_ble_eq_true rfl)
  rw [lg_entry_eq]
  generalize (lg_sl ([.ref h0]) ++ List.replicate (1 - (lg_sl ([.ref h0])).length) Slot.unset).toArray = ls at hl ⊢
  have hl : lv_has ls 1 [(0, .ref h0)] := hl
  refine lv_aload_n hx hb dX3_init_0 rfl (lv_at hl 0 rfl) ?_
  refine W.objInit hx hb hown (hts _ ml_X3_3) (hts _ im_javalangObjectinit) (hts _ cd_objinit) rfl (by rw [hml]; exact hl.1) rfl dX3_init_1 (Nat.le_of_ble_eq_true rfl) (Nat.le_of_ble_eq_true rfl) ?_
  refine W.eq (g2 := F0 m 4 ls []) rfl ?_
  refine lv_aload_n hx hb dX3_init_4 rfl (lv_at hl 0 rfl) ?_
  refine lv_bipush hx hb dX3_init_5 rfl ?_
  refine va_newa hx hb (atype := .char) (hts _ ac_char) rfl hK hP hD hS hA (a0 := (40, .inl (fun _ => 0))) (N' := 40) (fun cA => rfl) (by decide) rfl (by decide) (Nat.le_of_ble_eq_true rfl) (Nat.le_of_ble_eq_true rfl) dX3_init_7 (fun t cA H1 hK hP hD hS => ?_)
  refine va_putF hx hb hts ziX3 tyX3 tyX3_ok nmX3 hown hK hP hD hS 0 rfl (ci := 3) rfl 3 (by decide) (hts _ fl_X3_9) (fun _ h => h) rfl hin rfl (ty := .array .char) (by decide +kernel) rfl rfl (Nat.le_of_ble_eq_true rfl) dX3_init_9 (fun H2 locs2 hP hD hS => ?_)
  exact W.vret hx hb hr (fun t2 ht hW => ⟨⟨(t, cA), rfl, trivial, by rw [ht]; exact hP, va_K.moved hW.alike hK, hD⟩, hS.F ht⟩) hS.2.2 dX3_init_12
abbrev w2_0 (h0 : Nat) : va_W := [(h0, .inr (2, [.null, .int 0, .int 0, .int 0, .int 0, .int 0, .int 0, .int 0]))]
abbrev w2_1 (h0 t : Nat) (cA : ClassId) : va_W := [(h0, .inr (2, [.ref t, .int 0, .int 0, .int 0, .int 0, .int 0, .int 0, .int 0])), (t, .inl (cA, 80, .inl (fun _ => 0)))]
set_option maxHeartbeats 8000000 in
set_option maxRecDepth 100000 in
theorem c_X2_init (l : Launch) (D : va_G) (h0 sz : Nat) : Met l yX2_init (zw yX2_init cX2_init 1 none) ({ frames := 1, cells := 1, slots := 80, locals := 12 }) (va_Pc [.ref h0] (Bk_ D (w2_0 h0) sz)) (va_Qv (fun _ : Nat × ClassId => True) (fun u t => Ck_ D (w2_1 h0 u.1 u.2) [(u.2, .char)] (va_A (w2_0 h0) sz) t) (va_A (w2_0 h0) sz)) 1 80 (va_A (w2_0 h0) sz) := by
  refine Met.ofW (by decide) rfl ?_
  intro p e s m args below meth c s₁ B hml hv
  obtain ⟨rfl, hsz, hP, hK, hD0⟩ := hv
  have hx := B.exec
  have hb := B.bytes
  have hr := B.returns
  have hts : ∀ w ∈ zWL, w.before _ s = true := fun w hw => atoms_spec (ws := zw yX2_init cX2_init 1 none) B.pre w (List.mem_cons_of_mem _ hw)
  have hown : s.vm.findClass "SubtitleSeats$Script" = some m.cls := findClass_of_methodNamed B.named
  have hlocks := B.notSynchronized
  have hin : meth.name = "<init>" := (name_of_methodNamed B.named B.method).1
  subst hsz
  have hD := hD0.self (sz := s.heap.size)
  generalize hAe : va_A (w2_0 h0) s.heap.size = A at hD ⊢
  have hA : ∀ q : Nat, s.heap.size ≤ q → A q := fun q h => by rw [← hAe]; exact Or.inr h
  have hS : va_S A s.heap s.heap [] := va_S.rf
  have hl := lv_entry ([.ref h0]) (n := 1) (Nat.le_of_ble_eq_true rfl)
  rw [lg_entry_eq]
  generalize (lg_sl ([.ref h0]) ++ List.replicate (1 - (lg_sl ([.ref h0])).length) Slot.unset).toArray = ls at hl ⊢
  have hl : lv_has ls 1 [(0, .ref h0)] := hl
  refine lv_aload_n hx hb dX2_init_0 rfl (lv_at hl 0 rfl) ?_
  refine W.objInit hx hb hown (hts _ ml_X2_3) (hts _ im_javalangObjectinit) (hts _ cd_objinit) rfl (by rw [hml]; exact hl.1) rfl dX2_init_1 (Nat.le_of_ble_eq_true rfl) (Nat.le_of_ble_eq_true rfl) ?_
  refine W.eq (g2 := F0 m 4 ls []) rfl ?_
  refine lv_aload_n hx hb dX2_init_4 rfl (lv_at hl 0 rfl) ?_
  refine lv_bipush hx hb dX2_init_5 rfl ?_
  refine va_newa hx hb (atype := .char) (hts _ ac_char) rfl hK hP hD hS hA (a0 := (80, .inl (fun _ => 0))) (N' := 80) (fun cA => rfl) (by decide) rfl (by decide) (Nat.le_of_ble_eq_true rfl) (Nat.le_of_ble_eq_true rfl) dX2_init_7 (fun t cA H1 hK hP hD hS => ?_)
  refine va_putF hx hb hts ziX2 tyX2 tyX2_ok nmX2 hown hK hP hD hS 0 rfl (ci := 2) rfl 0 (by decide) (hts _ fl_X2_9) (fun _ h => h) rfl hin rfl (ty := .array .char) (by decide +kernel) rfl rfl (Nat.le_of_ble_eq_true rfl) dX2_init_9 (fun H2 locs2 hP hD hS => ?_)
  exact W.vret hx hb hr (fun t2 ht hW => ⟨⟨(t, cA), rfl, trivial, by rw [ht]; exact hP, va_K.moved hW.alike hK, hD⟩, hS.F ht⟩) hS.2.2 dX2_init_12
