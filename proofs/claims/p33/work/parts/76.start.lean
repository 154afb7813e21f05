/-! ===== from the law's entry to its loop ===== -/
theorem ao_X3 : Cond.arrayOver (.object "SubtitleSeats$Subtitle") ∈ lw_tbl := List.mem_append_right _ (List.mem_append_left _ (List.mem_of_getElem? (i := 24) rfl))
theorem ao_X0 : Cond.arrayOver (.object "SubtitleSeats$Film") ∈ lw_tbl := List.mem_append_right _ (List.mem_append_left _ (List.mem_of_getElem? (i := 86) rfl))
theorem nest_in : nest_ ∈ lw_tbl := List.mem_append_right _ (List.mem_append_left _ (List.mem_of_getElem? (i := 52) rfl))
theorem lt_first : Cond.laysStatic "SubtitleSeats" "AT_FIRST" "[I" ∈ lw_tbl := List.mem_append_right _ (List.mem_append_left _ (List.mem_of_getElem? (i := 53) rfl))
theorem lt_low : Cond.laysStatic "SubtitleSeats" "LOWEST" "[I" ∈ lw_tbl := List.mem_append_right _ (List.mem_append_right _ (List.mem_append_left _ (List.mem_of_getElem? (i := 118) rfl)))
theorem lt_high : Cond.laysStatic "SubtitleSeats" "HIGHEST" "[I" ∈ lw_tbl := List.mem_append_right _ (List.mem_append_right _ (List.mem_append_left _ (List.mem_of_getElem? (i := 120) rfl)))
theorem AT_of {args : Array Value} {s : State} (h : (Cond.arrayClass .int).before args s = true) : ∃ cA, ArrOfT s cA .int ∧ va_RA s cA .int := by
  obtain ⟨cA, kA, comp, h1, h2, h3⟩ := Cond.arrayClass_spec h
  exact ⟨cA, fun n z => ⟨fun k h => (by cases h), kA, h2, comp, h3⟩, h1⟩
theorem AT_ofc {args : Array Value} {s : State} (h : (Cond.arrayClass .char).before args s = true) : ∃ cA, ArrOfT s cA .char ∧ va_RA s cA .char := by
  obtain ⟨cA, kA, comp, h1, h2, h3⟩ := Cond.arrayClass_spec h
  exact ⟨cA, fun n z => ⟨fun k h => (by cases h), kA, h2, comp, h3⟩, h1⟩
theorem AT_ofq {args : Array Value} {s : State} {C : String} (h : (Cond.arrayOver (.object C)).before args s = true) : ∃ cA, ArrOfT s cA (.object C) ∧ va_RA s cA (.object C) := by
  obtain ⟨comp, cA, kA, h1, h2, h3, h4, h5⟩ := Cond.arrayOver_spec h
  exact ⟨cA, fun n z => ⟨fun k h => (by cases h), kA, h3, comp, h4⟩, kA, comp, h3, h4, h1, h5⟩
theorem tb_first {b : Nat} {s : State} (hs : ∀ w ∈ flatC (Jvm.Cond.and given_1 narrow_1), w.before #[Value.ref b] s = true) : ∃ t : Nat, (Term.static "SubtitleSeats" "AT_FIRST" "[I").eval #[Value.ref b] s none [] s = some (.ref t) ∧ va_T .int t 6 (fun j => .int (iN (v0_ j))) (fun q => s.heap.size ≤ q) s s.heap := by
  have h1 : (Cond.arrayOf (.static "SubtitleSeats" "AT_FIRST" "[I") .int).before #[Value.ref b] s = true := hs _ (by decide +kernel)
  have h2 : (Cond.eq (.length (.static "SubtitleSeats" "AT_FIRST" "[I")) (.int 6)).before #[Value.ref b] s = true := hs _ (by decide +kernel)
  have e0 : (Cond.eq (.elem (.static "SubtitleSeats" "AT_FIRST" "[I") (.int 0)) (.int 17)).before #[Value.ref b] s = true := hs _ (by decide +kernel)
  have e1 : (Cond.eq (.elem (.static "SubtitleSeats" "AT_FIRST" "[I") (.int 1)) (.int 2)).before #[Value.ref b] s = true := hs _ (by decide +kernel)
  have e2 : (Cond.eq (.elem (.static "SubtitleSeats" "AT_FIRST" "[I") (.int 2)) (.int 25)).before #[Value.ref b] s = true := hs _ (by decide +kernel)
  have e3 : (Cond.eq (.elem (.static "SubtitleSeats" "AT_FIRST" "[I") (.int 3)) (.int 150)).before #[Value.ref b] s = true := hs _ (by decide +kernel)
  have e4 : (Cond.eq (.elem (.static "SubtitleSeats" "AT_FIRST" "[I") (.int 4)) (.int 20)).before #[Value.ref b] s = true := hs _ (by decide +kernel)
  have e5 : (Cond.eq (.elem (.static "SubtitleSeats" "AT_FIRST" "[I") (.int 5)) (.int 6)).before #[Value.ref b] s = true := hs _ (by decide +kernel)
  refine va_Tof (by decide) h1 (va_eqt h2) (fun j hj => ?_) (fun a ha => Nat.not_le.mpr ha)
  rcases (show j = 0 ∨ j = 1 ∨ j = 2 ∨ j = 3 ∨ j = 4 ∨ j = 5 by omega) with rfl | rfl | rfl | rfl | rfl | rfl
  · exact va_eqt e0
  · exact va_eqt e1
  · exact va_eqt e2
  · exact va_eqt e3
  · exact va_eqt e4
  · exact va_eqt e5
theorem tb_low {b : Nat} {s : State} (hs : ∀ w ∈ flatC (Jvm.Cond.and given_1 narrow_1), w.before #[Value.ref b] s = true) : ∃ t : Nat, (Term.static "SubtitleSeats" "LOWEST" "[I").eval #[Value.ref b] s none [] s = some (.ref t) ∧ va_T .int t 6 (fun j => .int (iN (lowT j))) (fun q => s.heap.size ≤ q) s s.heap := by
  have h1 : (Cond.arrayOf (.static "SubtitleSeats" "LOWEST" "[I") .int).before #[Value.ref b] s = true := hs _ (by decide +kernel)
  have h2 : (Cond.eq (.length (.static "SubtitleSeats" "LOWEST" "[I")) (.int 6)).before #[Value.ref b] s = true := hs _ (by decide +kernel)
  have e0 : (Cond.eq (.elem (.static "SubtitleSeats" "LOWEST" "[I") (.int 0)) (.int 5)).before #[Value.ref b] s = true := hs _ (by decide +kernel)
  have e1 : (Cond.eq (.elem (.static "SubtitleSeats" "LOWEST" "[I") (.int 1)) (.int 0)).before #[Value.ref b] s = true := hs _ (by decide +kernel)
  have e2 : (Cond.eq (.elem (.static "SubtitleSeats" "LOWEST" "[I") (.int 2)) (.int 5)).before #[Value.ref b] s = true := hs _ (by decide +kernel)
  have e3 : (Cond.eq (.elem (.static "SubtitleSeats" "LOWEST" "[I") (.int 3)) (.int 50)).before #[Value.ref b] s = true := hs _ (by decide +kernel)
  have e4 : (Cond.eq (.elem (.static "SubtitleSeats" "LOWEST" "[I") (.int 4)) (.int 10)).before #[Value.ref b] s = true := hs _ (by decide +kernel)
  have e5 : (Cond.eq (.elem (.static "SubtitleSeats" "LOWEST" "[I") (.int 5)) (.int 0)).before #[Value.ref b] s = true := hs _ (by decide +kernel)
  refine va_Tof (by decide) h1 (va_eqt h2) (fun j hj => ?_) (fun a ha => Nat.not_le.mpr ha)
  rcases (show j = 0 ∨ j = 1 ∨ j = 2 ∨ j = 3 ∨ j = 4 ∨ j = 5 by omega) with rfl | rfl | rfl | rfl | rfl | rfl
  · exact va_eqt e0
  · exact va_eqt e1
  · exact va_eqt e2
  · exact va_eqt e3
  · exact va_eqt e4
  · exact va_eqt e5
theorem tb_high {b : Nat} {s : State} (hs : ∀ w ∈ flatC (Jvm.Cond.and given_1 narrow_1), w.before #[Value.ref b] s = true) : ∃ t : Nat, (Term.static "SubtitleSeats" "HIGHEST" "[I").eval #[Value.ref b] s none [] s = some (.ref t) ∧ va_T .int t 6 (fun j => .int (iN (higT j))) (fun q => s.heap.size ≤ q) s s.heap := by
  have h1 : (Cond.arrayOf (.static "SubtitleSeats" "HIGHEST" "[I") .int).before #[Value.ref b] s = true := hs _ (by decide +kernel)
  have h2 : (Cond.eq (.length (.static "SubtitleSeats" "HIGHEST" "[I")) (.int 6)).before #[Value.ref b] s = true := hs _ (by decide +kernel)
  have e0 : (Cond.eq (.elem (.static "SubtitleSeats" "HIGHEST" "[I") (.int 0)) (.int 40)).before #[Value.ref b] s = true := hs _ (by decide +kernel)
  have e1 : (Cond.eq (.elem (.static "SubtitleSeats" "HIGHEST" "[I") (.int 1)) (.int 20)).before #[Value.ref b] s = true := hs _ (by decide +kernel)
  have e2 : (Cond.eq (.elem (.static "SubtitleSeats" "HIGHEST" "[I") (.int 2)) (.int 50)).before #[Value.ref b] s = true := hs _ (by decide +kernel)
  have e3 : (Cond.eq (.elem (.static "SubtitleSeats" "HIGHEST" "[I") (.int 3)) (.int 250)).before #[Value.ref b] s = true := hs _ (by decide +kernel)
  have e4 : (Cond.eq (.elem (.static "SubtitleSeats" "HIGHEST" "[I") (.int 4)) (.int 40)).before #[Value.ref b] s = true := hs _ (by decide +kernel)
  have e5 : (Cond.eq (.elem (.static "SubtitleSeats" "HIGHEST" "[I") (.int 5)) (.int 12)).before #[Value.ref b] s = true := hs _ (by decide +kernel)
  refine va_Tof (by decide) h1 (va_eqt h2) (fun j hj => ?_) (fun a ha => Nat.not_le.mpr ha)
  rcases (show j = 0 ∨ j = 1 ∨ j = 2 ∨ j = 3 ∨ j = 4 ∨ j = 5 by omega) with rfl | rfl | rfl | rfl | rfl | rfl
  · exact va_eqt e0
  · exact va_eqt e1
  · exact va_eqt e2
  · exact va_eqt e3
  · exact va_eqt e4
  · exact va_eqt e5
/-- what every start of the law's gives: classes, array classes, tables -/
theorem start_St {b : Nat} {s : State} (hts : ∀ w ∈ lw_tbl, w.before #[Value.ref b] s = true) (hgv : (Jvm.Cond.and given_1 narrow_1).before #[Value.ref b] s = true) :
    ∃ (D : va_G) (K : Nat → ClassId) (tF tL tH : Nat), St_ (D, K, s.heap.size, tF) s s.heap ∧ va_Z "SubtitleSeats" "LOWEST" "[I" (.ref tL) (fun q => s.heap.size ≤ q) s s.heap ∧ va_T .int tL 6 (fun j => .int (iN (lowT j))) (fun q => s.heap.size ≤ q) s s.heap ∧ va_Z "SubtitleSeats" "HIGHEST" "[I" (.ref tH) (fun q => s.heap.size ≤ q) s s.heap ∧ va_T .int tH 6 (fun j => .int (iN (higT j))) (fun q => s.heap.size ≤ q) s s.heap := by
  have hz : ∀ w ∈ zWL, w.before #[Value.ref b] s = true := fun w h => hts w (zWL_in w h)
  have hs := flat_of_before _ hgv
  obtain ⟨c0, i0, hK0⟩ := u_known (C := RX0) (T := TX0) (N := 5) (n := 5) hz ziX0 (hz _ in_X0)
  obtain ⟨c1, i1, hK1⟩ := u_known (C := RX1) (T := TX1) (N := 3) (n := 3) hz ziX1 (hz _ in_X1)
  obtain ⟨c2, i2, hK2⟩ := u_known (C := RX2) (T := TX2) (N := 8) (n := 8) hz ziX2 (hz _ in_X2)
  obtain ⟨c3, i3, hK3⟩ := u_known (C := RX3) (T := TX3) (N := 4) (n := 4) hz ziX3 (hz _ in_X3)
  obtain ⟨c4, i4, hK4⟩ := u_known (C := RX4) (T := TX4) (N := 5) (n := 5) hz ziX4 (hz _ in_X4)
  obtain ⟨k0, ka0, kb0⟩ := AT_of (hz _ ac_int)
  obtain ⟨k1, ka1, kb1⟩ := AT_ofc (hz _ ac_char)
  obtain ⟨k2, ka2, kb2⟩ := AT_ofq (hts _ ao_X3)
  obtain ⟨k3, ka3, kb3⟩ := AT_ofq (hts _ ao_X0)
  obtain ⟨tF, vF, hF⟩ := tb_first hs
  obtain ⟨tL, vL, hL⟩ := tb_low hs
  obtain ⟨tH, vH, hH⟩ := tb_high hs
  have hA : ∀ a : Nat, a < s.heap.size → ¬ (fun q => s.heap.size ≤ q) a := fun a ha => Nat.not_le.mpr ha
  refine ⟨(fun k => if k = 0 then c0 else if k = 1 then c1 else if k = 2 then c2 else if k = 3 then c3 else c4, fun k => if k = 0 then i0 else if k = 1 then i1 else if k = 2 then i2 else if k = 3 then i3 else i4), fun k => if k = 0 then k0 else if k = 1 then k1 else if k = 2 then k2 else k3, tF, tL, tH, ⟨va_Nw.of rfl (hts _ nest_in), ⟨fun k q hq => ?_, fun k q hq => ?_⟩, va_AO.of (hts _ ao_X3), va_AO.of (hts _ ao_X0), va_Zref (hts _ lt_first) (hz _ ii_X4) vF hA, hF⟩, va_Zref (hts _ lt_low) (hz _ ii_X4) vL hA, hL, va_Zref (hts _ lt_high) (hz _ ii_X4) vH hA, hH⟩
  · match k, hq with
    | 0, hq => cases hq; exact hK0
    | 1, hq => cases hq; exact hK1
    | 2, hq => cases hq; exact hK2
    | 3, hq => cases hq; exact hK3
    | 4, hq => cases hq; exact hK4
    | k + 5, hq => simp at hq
  · match k, hq with
    | 0, hq => cases hq; exact ⟨ka0, kb0⟩
    | 1, hq => cases hq; exact ⟨ka1, kb1⟩
    | 2, hq => cases hq; exact ⟨ka2, kb2⟩
    | 3, hq => cases hq; exact ⟨ka3, kb3⟩
    | k + 4, hq => simp at hq
theorem four {α : Type} {l : List α} (h : l.length = 4) : ∃ a b c d, l = [a, b, c, d] := by
  match l, h with
  | [a, b, c, d], _ => exact ⟨a, b, c, d, rfl⟩
set_option maxRecDepth 100000 in
set_option maxHeartbeats 4000000 in
/-- from the entry, for every script of at most 260 ints, the law comes to its end with true -/
theorem whole_start {p : Program} {e : Env} {s : State} {m : MethodId} {below : List Frame} {meth : Method} {c : Code} (l : Launch) (hflags : l.flags = flags0) {b L : Nat} {xs : Nat → Int32} (hL : L ≤ 260) (C0 : lw_At p s m meth c b L xs) : W p l e room_1 s m #[Value.ref b] below meth c s.heap [] 0 0 (lw_Z below #[Value.ref b] s) (entryFrame m ([Value.ref b] : List Value).toArray 9) := by
  obtain ⟨hx, hb, hr, hml, hown, hts, hX, hbl, hlk, hgv⟩ := C0
  have hz : ∀ w ∈ zWL, w.before #[Value.ref b] s = true := fun w h => hts w (zWL_in w h)
  obtain ⟨D, K, tF, tL, tH, hSt, zL, hTL, zH, hTH⟩ := start_St hts hgv
  have cx : Cy p s m #[Value.ref b] c "SubtitleSeatsLaw" code 9 (D, K, s.heap.size, tF) (fun q => s.heap.size ≤ q) := ⟨hx, hb, hml, hown, hz, hSt, fun _ h => h, fun _ h => h⟩
  have hW : Y p l e room_1 s m #[Value.ref b] below meth c 9 0 0 (D, K, s.heap.size, tF) (fun q => s.heap.size ≤ q) (lw_Z below #[Value.ref b] s) [] 0 [some (.ref b), none, none, none, none, none, none, none, none] [] := by
    refine y_mk cx (C := RX4) (T := TX4) (N := 5) (ty := tyX4) (k_X4 _) mi_X4 ml_L_137 rfl ziX4 tyX4_ok cl_L_14 in_X4 ii_X4 (fun j hj => by rcases (show j = 0 ∨ j = 1 ∨ j = 2 ∨ j = 3 ∨ j = 4 by omega) with rfl | rfl | rfl | rfl | rfl <;> rfl) dL_law_0 dL_law_3 dL_law_4 (fun q4 w4 hw4 => ?_) (Nat.le_of_ble_eq_true rfl) ⟨Nat.le_of_ble_eq_true rfl, Nat.le_of_ble_eq_true rfl⟩ ⟨Nat.le_of_ble_eq_true rfl, Nat.le_of_ble_eq_true rfl⟩
    refine y_astore_n cx dL_law_7 ?_
    obtain ⟨a0, w0, a1, w1, hi, st, fs, sc, ch, rep, f0, f1, hfs, hall, rfl⟩ := hw4
    obtain ⟨⟨a2, w2⟩, ⟨a3, w3⟩, ⟨a4, w4⟩, ⟨a5, w5⟩, rfl⟩ := four hfs
    refine Y.to (ws' := all_ K q4 a0 w0 a1 w1 hi st a2 w2 a3 w3 a4 w4 a5 w5 sc ch rep) ?_ (by rw [← all_is]; rfl)
    intro H locs ls hP hD hS hLo
    obtain ⟨E, hE⟩ : ∃ E : En, E = (an_ q4 hi st sc ch rep (aq_ a0 a1 a2 a3 a4 a5), D, K, fun k => if k = 0 then tL else tH) := ⟨_, rfl⟩
    have hat : ∀ k, (k < 278 ∧ (k < 6 ∨ 14 ≤ k)) → ∃ x, (all_ K q4 a0 w0 a1 w1 hi st a2 w2 a3 w3 a4 w4 a5 w5 sc ch rep)[ix_ k]? = some (E.1 k, x) ∧ sameE x (cont E G0_ k) := fun k hk =>
      all_at (by rw [hE]) (by rw [hE]) f0 f1 (hall (a2, w2) (by simp)) (hall (a3, w3) (by simp)) (hall (a4, w4) (by simp)) (hall (a5, w5) (by simp)) hk
    have hP1 := all_P hP hat
    obtain ⟨hok, hAE⟩ := all_inj hD hat
    have hKE : KE E s s.heap := by
      refine ⟨hok, ?_, ?_, ?_, ?_, ?_⟩
      · rw [hE]; exact hSt.2.1
      · have h := zL.narrow hAE
        rw [show tL = E.2.2.2 0 by rw [hE]; rfl] at h
        exact h
      · have h := hTL.narrow hAE
        rw [show tL = E.2.2.2 0 by rw [hE]; rfl] at h
        exact h
      · have h := zH.narrow hAE
        rw [show tH = E.2.2.2 1 by rw [hE]; rfl] at h
        exact h
      · have h := hTH.narrow hAE
        rw [show tH = E.2.2.2 1 by rw [hE]; rfl] at h
        exact h
    have cz : Cx p s m #[Value.ref b] meth c "SubtitleSeatsLaw" code 9 ret E := ⟨hx, hb, hml, hown, hz, hr, hlk, hKE⟩
    have hSx : Sx_ E s b L xs := ⟨hX, hbl, fun q => by have h1 := hAE b q; omega, hL⟩
    have h18 := law_main (p := p) (l := l) (e := e) (below := below) cz hSx hAE crel0
    refine va_forget (fun q hq => hS.2.2 q hq) (W.widen (k := 270) (n := 5641) (Nat.le_of_ble_eq_true rfl) (Nat.le_of_ble_eq_true rfl) (h18 H [] ls ?_ ⟨hS.1, fun q h1 h2 => hS.2.1 q h1 (Nat.not_le.mpr h1), fun q hq => by cases hq⟩ (hLo.sub ?_)))
    · rw [show E.2.1 = D by rw [hE]]
      exact hP1
    · intro j v hv
      have hj : j < 9 := (List.getElem?_eq_some_iff.mp hv).1
      rcases (show j = 0 ∨ j = 1 ∨ j = 2 ∨ j = 3 ∨ j = 4 ∨ j = 5 ∨ j = 6 ∨ j = 7 ∨ j = 8 by omega) with rfl | rfl | rfl | rfl | rfl | rfl | rfl | rfl | rfl
      · exact hv
      · rw [← hv]
        show some (some (Value.ref q4)) = some (some (Value.ref (E.1 0)))
        rw [hE]
        rfl
      all_goals (cases hv)
  rw [lg_entry_eq]
  exact hW s.heap [] _ (fun k q h => by simp at h) ⟨fun i j x y h => by simp at h, fun k q h => by simp at h⟩ va_S.rf (Lo_entry (by intro v hv; simp at hv; subst hv; rfl) rfl (Nat.le_of_ble_eq_true rfl))
