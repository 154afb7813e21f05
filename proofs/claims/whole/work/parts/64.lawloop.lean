/-! ===== the law's loop ===== -/
section LL
variable {p : Program} {l : Launch} {e : Env} {s : State} {m : MethodId} {below : List Frame} {meth : Method} {c : Code} {E : En} {b L : Nat} {xs : Nat → Int32}
theorem law_end (cx : Cx p s m #[Value.ref b] meth c "SubtitleSeatsLaw" code 8 ret E) (hX : Sx_ E s b L xs) {G : Wd} {vs : List (Option Value)} : Z p l e room_1 s m #[Value.ref b] below meth c 8 278 11940 E (lw_Z below #[Value.ref b] s) G 844 vs [] :=
  fun H locs ls hP hS hL => lv_iconst (v := 1) cx.1 cx.2.1 dL_law_844 rfl (va_forget (fun q hq => hX.2.2.1 _ (hS.2.2 q hq)) (W.widen (k := 600000) (n := 7302250) (Nat.le_of_ble_eq_true rfl) (Nat.le_of_ble_eq_true rfl) (W.base (lw_ret (Drawn.sameBut.refl s.drawn lw_cs) cx.1 cx.2.1 cx.2.2.2.2.2.1 cx.2.2.2.2.2.2.1 dL_law_845))))
set_option maxRecDepth 20000 in
set_option maxHeartbeats 2000000 in
theorem law_case (cx : Cx p s m #[Value.ref b] meth c "SubtitleSeatsLaw" code 8 ret E) (hX : Sx_ E s b L xs) {i : Nat} (hi : i + 3 ≤ L) {G : Wd} {A : Ast} (hB : Both G A) (K : ∀ (G' : Wd) (B : Ast), Both G' B → ZL p l e s m #[Value.ref b] below meth c E (lw_Z below #[Value.ref b] s) b i 838 G') : ZL p l e s m #[Value.ref b] below meth c E (lw_Z below #[Value.ref b] s) b i 26 G := by
  refine z_aload_n cx dL_law_26 rfl ?_
  refine z_iload_n cx dL_law_27 rfl ?_
  refine z_sld cx hX i rfl dL_law_28 (by omega) ?_
  refine z_bipush cx dL_law_29 ?_
  refine z_and32 cx dL_law_31 ?_
  obtain ⟨z, h1, h2, h3⟩ := and31 (iN (sx_ xs i))
  rw [h3]
  by_cases h30 : z < 30
  · rcases (show z = 0 ∨ z = 1 ∨ z = 2 ∨ z = 3 ∨ z = 4 ∨ z = 5 ∨ z = 6 ∨ z = 7 ∨ z = 8 ∨ z = 9 ∨ z = 10 ∨ z = 11 ∨ z = 12 ∨ z = 13 ∨ z = 14 ∨ z = 15 ∨ z = 16 ∨ z = 17 ∨ z = 18 ∨ z = 19 ∨ z = 20 ∨ z = 21 ∨ z = 22 ∨ z = 23 ∨ z = 24 ∨ z = 25 ∨ z = 26 ∨ z = 27 ∨ z = 28 ∨ z = 29 by omega) with rfl | rfl | rfl | rfl | rfl | rfl | rfl | rfl | rfl | rfl | rfl | rfl | rfl | rfl | rfl | rfl | rfl | rfl | rfl | rfl | rfl | rfl | rfl | rfl | rfl | rfl | rfl | rfl | rfl | rfl
    · exact z_tblIn cx (tgt := 168) dL_law_32 rfl (by decide) (lc_append cx hX hi hB K)
    · exact z_tblIn cx (tgt := 191) dL_law_32 rfl (by decide) (lc_clearScript cx hX hi hB K)
    · exact z_tblIn cx (tgt := 204) dL_law_32 rfl (by decide) (lc_fault cx hX hi hB K)
    · exact z_tblIn cx (tgt := 217) dL_law_32 rfl (by decide) (lc_load cx hX hi hB K)
    · exact z_tblIn cx (tgt := 230) dL_law_32 rfl (by decide) (lc_why cx hX hi hB K)
    · exact z_tblIn cx (tgt := 253) dL_law_32 rfl (by decide) (lc_undo cx hX hi hB K)
    · exact z_tblIn cx (tgt := 266) dL_law_32 rfl (by decide) (lc_remove cx hX hi hB K)
    · exact z_tblIn cx (tgt := 289) dL_law_32 rfl (by decide) (lc_shift cx hX hi hB K)
    · exact z_tblIn cx (tgt := 322) dL_law_32 rfl (by decide) (lc_setEnd cx hX hi hB K)
    · exact z_tblIn cx (tgt := 355) dL_law_32 rfl (by decide) (lc_split cx hX hi hB K)
    · exact z_tblIn cx (tgt := 378) dL_law_32 rfl (by decide) (lc_join cx hX hi hB K)
    · exact z_tblIn cx (tgt := 401) dL_law_32 rfl (by decide) (lc_seat cx hX hi hB K)
    · exact z_tblIn cx (tgt := 414) dL_law_32 rfl (by decide) (lc_cut cx hX hi hB K)
    · exact z_tblIn cx (tgt := 437) dL_law_32 rfl (by decide) (lc_uncut cx hX hi hB K)
    · exact z_tblIn cx (tgt := 460) dL_law_32 rfl (by decide) (lc_set cx hX hi hB K)
    · exact z_tblIn cx (tgt := 493) dL_law_32 rfl (by decide) (lc_subtitles cx hX hi hB K)
    · exact z_tblIn cx (tgt := 506) dL_law_32 rfl (by decide) (lc_subtitle cx hX hi hB K)
    · exact z_tblIn cx (tgt := 539) dL_law_32 rfl (by decide) (lc_character cx hX hi hB K)
    · exact z_tblIn cx (tgt := 572) dL_law_32 rfl (by decide) (lc_line cx hX hi hB K)
    · exact z_tblIn cx (tgt := 605) dL_law_32 rfl (by decide) (lc_at cx hX hi hB K)
    · exact z_tblIn cx (tgt := 628) dL_law_32 rfl (by decide) (lc_cuts cx hX hi hB K)
    · exact z_tblIn cx (tgt := 641) dL_law_32 rfl (by decide) (lc_cutAt cx hX hi hB K)
    · exact z_tblIn cx (tgt := 664) dL_law_32 rfl (by decide) (lc_setting cx hX hi hB K)
    · exact z_tblIn cx (tgt := 687) dL_law_32 rfl (by decide) (lc_faulty cx hX hi hB K)
    · exact z_tblIn cx (tgt := 710) dL_law_32 rfl (by decide) (lc_shown cx hX hi hB K)
    · exact z_tblIn cx (tgt := 723) dL_law_32 rfl (by decide) (lc_meanSpeed cx hX hi hB K)
    · exact z_tblIn cx (tgt := 766) dL_law_32 rfl (by decide) (lc_unread cx hX hi hB K)
    · exact z_tblIn cx (tgt := 789) dL_law_32 rfl (by decide) (lc_leastPace cx hX hi hB K)
    · exact z_tblIn cx (tgt := 802) dL_law_32 rfl (by decide) (lc_ifSeated cx hX hi hB K)
    · exact z_tblIn cx (tgt := 825) dL_law_32 rfl (by decide) (lc_bestGap cx hX hi hB K)
  · exact z_tblOut cx (tgt := 838) dL_law_32 (by decide) (K G A hB)
theorem law_loop (cx : Cx p s m #[Value.ref b] meth c "SubtitleSeatsLaw" code 8 ret E) (hX : Sx_ E s b L xs) : ∀ (k i : Nat), L + 3 ≤ i + k → i ≤ L + 3 → ∀ (G : Wd) (A : Ast), Both G A → ZL p l e s m #[Value.ref b] below meth c E (lw_Z below #[Value.ref b] s) b i 18 G := by
  have hL := hX.2.2.2
  intro k
  induction k with
  | zero =>
    intro i h1 h2 G A hB
    refine z_iload_n cx dL_law_18 rfl ?_
    refine z_aload_n cx dL_law_19 rfl ?_
    refine z_slen cx hX dL_law_20 ?_
    refine z_iconst cx dL_law_21 ?_
    refine z_isub cx dL_law_22 ?_
    exact z_icmp_gt cx (tgt := 844) dL_law_23 (fun _ => law_end cx hX) (fun h => absurd h (by omega))
  | succ k ih =>
    intro i h1 h2 G A hB
    refine z_iload_n cx dL_law_18 rfl ?_
    refine z_aload_n cx dL_law_19 rfl ?_
    refine z_slen cx hX dL_law_20 ?_
    refine z_iconst cx dL_law_21 ?_
    refine z_isub cx dL_law_22 ?_
    refine z_icmp_gt cx (tgt := 844) dL_law_23 (fun _ => law_end cx hX) (fun h => ?_)
    refine law_case cx hX (by omega) hB (fun G' B hB' => ?_)
    refine z_iinc cx (k := 3) dL_law_838 rfl ?_
    refine z_goto cx (tgt := 18) dL_law_841 ?_
    have h3 := ih (i + 3) (by omega) (by omega) G' B hB'
    unfold ZL vL at h3
    rw [Int.natCast_add] at h3
    exact h3
end LL
