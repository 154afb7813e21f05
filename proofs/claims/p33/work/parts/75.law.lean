/-! ===== the law's loop ===== -/
theorem c_L_lot {E : En} {G : Wd} {b L : Nat} {xs : Nat → Int32} {k : Int} (hk : 0 ≤ k ∧ k < 1000) : ∀ l : Launch, Met l yL_lot (zw yL_lot cL_lot 2 (some .int)) (zr 0 0) (va_Pc [.ref b, .int (iN k)] (OkX E G b L xs)) (va_Qi (fun r G' => ∃ z : Int, r = iN z ∧ G' = G) (Wv E) (AE E)) 0 0 (AE E) := by
  intro l
  refine Met.ofW (by decide) rfl ?_
  intro p e s m args below meth c s₁ B hml hv
  obtain ⟨rfl, ⟨hP, hKE⟩, hX⟩ := hv
  have cx := Cx.of B hml hKE
  have h260 := hX.2.2.2
  have h : Z p l e (zr 0 0) s m #[Value.ref b, .int (iN k)] below meth c 2 0 0 E (Qi_ E below #[Value.ref b, .int (iN k)] s (fun _ G' => G' = G)) G 0 [some (.ref b), some (.int (iN k))] [] := by
    refine z_iload_n cx dL_lot_0 rfl ?_
    refine z_aload_n cx dL_lot_1 rfl ?_
    refine z_slen cx hX dL_lot_2 ?_
    refine z_icmp_ge cx (tgt := 12) dL_lot_3 (fun h3 => ?_) (fun h3 => ?_)
    · refine z_ldc cx ct_L_7 dL_lot_12 ?_
      obtain ⟨z, hz⟩ := iN_all 471731821
      rw [hz]
      refine z_iload_n cx dL_lot_14 rfl ?_
      refine z_sipush cx dL_lot_15 ?_
      refine z_iadd cx dL_lot_18 ?_
      refine z_imul cx dL_lot_19 ?_
      refine z_sipush cx dL_lot_20 ?_
      refine z_iadd cx dL_lot_23 ?_
      exact z_iret cx dL_lot_24 rfl
    · refine z_aload_n cx dL_lot_6 rfl ?_
      refine z_iload_n cx dL_lot_7 rfl ?_
      refine z_sld cx hX (by omega) dL_lot_8 (fun z => ?_)
      refine z_goto cx (tgt := 24) dL_lot_9 ?_
      exact z_iret cx dL_lot_24 rfl
  rw [lg_entry_eq]
  exact h s.heap [] _ hP va_S.rf (Lo_entry (by intro v hv; simp only [List.mem_cons, List.not_mem_nil, or_false] at hv; rcases hv with rfl | rfl <;> rfl) rfl (Nat.le_of_ble_eq_true rfl))
section LT
variable {p : Program} {l : Launch} {e : Env} {s : State} {m : MethodId} {args : Array Value} {below : List Frame} {meth : Method} {c : Code} {own : String} {cc : ByteArray} {nL fr lo ce sl : Nat} {rt : Option FieldType} {E : En}
variable {R : Room} {Q : State → Prop} {G : Wd} {pc : Nat} {vs : List (Option Value)} {st : List Value}
theorem z_lot {b L : Nat} {xs : Nat → Int32} (cx : Cx p s m args meth c own cc nL rt E) (hX : Sx_ E s b L xs) {k : Int} {idx : Nat} (hk : 0 ≤ k ∧ k < 1000) (hl : Cond.methodLink own idx yL_lot ∈ zWL) (hd : decode cc pc = .ok (.invokestatic idx, 3))
    (K : ∀ z : Int, Z p l e R s m args below meth c nL ce sl E Q G (pc + 3) vs (.int (iN z) :: st))
    (hroom : 0 + 1 ≤ R.frames ∧ 8 + (2 + 11) + 0 ≤ R.locals := by exact ⟨Nat.le_of_ble_eq_true rfl, Nat.le_of_ble_eq_true rfl⟩) (hrest : (st.map fun v => v.category).sum ≤ 8 := by exact Nat.le_of_ble_eq_true rfl) (hces : ce ≤ R.cells ∧ sl ≤ R.slots := by exact ⟨Nat.le_of_ble_eq_true rfl, Nat.le_of_ble_eq_true rfl⟩) : Z p l e R s m args below meth c nL ce sl E Q G pc vs (.int (iN k) :: .ref b :: st) := by
  intro H locs ls hP hS hL
  have hM := ms_L_lot
  refine va_calli (va_runS (As := [.ref b, .int (iN k)]) (rest := st) ⟨cx.1, cx.2.1, cx.2.2.1, cx.2.2.2.1, cx.2.2.2.2.1⟩ (c_L_lot (E := E) (G := G) (b := b) (L := L) (xs := xs) hk l) (va_cwS 2 cx.2.2.2.2.1 (hM.good hl) rfl rfl rfl hM.2.2.2 hroom) ⟨OkX_blind, fun U hU hW => ⟨rfl, OkX_at cx hX hP hS hU hW⟩⟩ rfl rfl (hL.size) rfl ?_ hd ⟨by omega, by omega⟩) hS (fun _ _ h => h) (fun _ h => h) (fun r u t H1 locs1 ht hvm hp hB hz hk hS1 => ?_)
  · simpa using hrest
  · obtain ⟨z, rfl, rfl⟩ := hp
    unfold Wv at hB
    rw [ht] at hB
    exact K z H1 locs1 ls hB hS1 hL
end LT
theorem ud_rec {A B : Ast} (hA : AOk A) (hB : AOk B) (h : B.2.1 = recH A.2.1 A.1) : ∃ (B' : Ast) (told : Int), s_undo B = (told, B') ∧ AOk B' ∧ (0 ≤ told ∧ told < 4) ∧ B'.1 = A.1 := by
  have hk := ok_undo hB
  have hl : B.2.1.length = min (A.2.1.length + 1) 4 := by rw [h, recH_len]
  have e : s_undo B = ((B.2.1.length : Int) - 1, (B.2.1.getD 0 dF, B.2.1.tail, B.2.2)) := by
    unfold s_undo
    rw [if_neg (by omega)]
  rw [e] at hk
  exact ⟨_, _, e, hk, ⟨by omega, by omega⟩, by show B.2.1.getD 0 dF = A.1; rw [h]; rfl⟩
theorem ud_any {B : Ast} (hB : AOk B) : ∃ (B' : Ast) (told : Int), s_undo B = (told, B') ∧ AOk B' ∧ (told = -6 ∨ (0 ≤ told ∧ told < 4)) := by
  have hk := ok_undo hB
  have hl := hB.2.1
  by_cases h0 : B.2.1.length = 0
  · have e : s_undo B = (-6, B) := by
      unfold s_undo
      rw [if_pos h0]
    exact ⟨B, -6, e, hB, Or.inl rfl⟩
  · have e : s_undo B = ((B.2.1.length : Int) - 1, (B.2.1.getD 0 dF, B.2.1.tail, B.2.2)) := by
      unfold s_undo
      rw [if_neg h0]
    rw [e] at hk
    exact ⟨_, _, e, hk, Or.inr ⟨by omega, by omega⟩⟩
theorem ud_0 : s_undo A0_ = (-6, A0_) := if_pos rfl
section LL
variable {p : Program} {l : Launch} {e : Env} {s : State} {m : MethodId} {below : List Frame} {meth : Method} {c : Code} {E : En} {b L : Nat} {xs : Nat → Int32}
theorem law_end (cx : Cx p s m #[Value.ref b] meth c "SubtitleSeatsLaw" code 9 ret E) (hE : ∀ q, AE E q → s.heap.size ≤ q) {G : Wd} {vs : List (Option Value)} : Z p l e room_1 s m #[Value.ref b] below meth c 9 270 5641 E (lw_Z below #[Value.ref b] s) G 245 vs [.int (iN 1)] :=
  fun H locs ls hP hS hL => va_forget (fun q hq => hE _ (hS.2.2 q hq)) (W.widen (k := 600000) (n := 7302250) (Nat.le_of_ble_eq_true rfl) (Nat.le_of_ble_eq_true rfl) (W.base (lw_ret (Drawn.sameBut.refl s.drawn lw_cs) cx.1 cx.2.1 cx.2.2.2.2.2.1 cx.2.2.2.2.2.2.1 dL_law_245)))
set_option maxRecDepth 100000 in
set_option maxHeartbeats 4000000 in
theorem law_main (cx : Cx p s m #[Value.ref b] meth c "SubtitleSeatsLaw" code 9 ret E) (hX : Sx_ E s b L xs) (hE : ∀ q, AE E q → s.heap.size ≤ q) {G : Wd} (hC : CRel G A0_) : Z p l e room_1 s m #[Value.ref b] below meth c 9 270 5641 E (lw_Z below #[Value.ref b] s) G 8 [some (.ref b), some (.ref (E.1 0)), none, none, none, none, none, none, none] [] := by
  have hA := A0_ok
  have L40 : ∀ (n : Nat) (k : Nat) (A : Ast) (G1 : Wd), (56 - k) < n → (k ≤ 56) → (AOk A) → (CRel G1 A) → Z p l e room_1 s m #[Value.ref b] below meth c 9 270 5641 E (lw_Z below #[Value.ref b] s) G1 40 [some (.ref b), some (.ref (E.1 0)), some (.int (iN 1)), some (.int (iN (k : Int))), none, none, none, none, none] [] := by
    intro n
    induction n with
    | zero =>
      intro k A G1 hmu
      exact absurd hmu (Nat.not_lt_zero _)
    | succ n ih40 =>
      intro k A G1 hmu hk hA hC
      have L180 : ∀ (xv yv : Int) (B : Ast) (G1 : Wd), (k < 56) → (AOk B) → (CRel G1 B) → Z p l e room_1 s m #[Value.ref b] below meth c 9 270 5641 E (lw_Z below #[Value.ref b] s) G1 180 [some (.ref b), some (.ref (E.1 0)), some (.int (iN 1)), some (.int (iN (k : Int))), some (.int (iN xv)), some (.int (iN yv)), some (.long (dgF A.1)), none, none] [] := by
        intro xv yv B G1 hkl hB hC
        refine z_iload_n cx dL_law_180 rfl ?_
        refine z_if_eq cx (tgt := 223) dL_law_181 (fun h181 => ?_) (fun h181 => ?_)
        · skip
          exfalso; omega
        · skip
          refine z_iload_n cx dL_law_184 rfl ?_
          refine z_bipush cx dL_law_185 ?_
          refine z_irem cx dL_law_187 ?_
          refine z_bipush cx dL_law_188 ?_
          refine z_icmp_ne cx (tgt := 223) dL_law_190 (fun h190 => ?_) (fun h190 => ?_)
          · skip
            refine z_iinc cx dL_law_223 rfl ?_
            refine z_goto cx (tgt := 40) dL_law_226 ?_
            refine Z.locs (ih40 (k + 1) _ _ (by omega) (by omega) hB hC) ⟨rfl, rfl, rfl, rfl, trivial⟩
          · skip
            refine z_aload_n cx dL_law_193 rfl ?_
            refine z_vi cx (c_X4_undo hC hB) rfl mv_X4_undo ml_L_145 (by omega) (co_main E _) rfl dL_law_194 (fun z194 G194 hz194 => ?_)
            obtain ⟨hq, hC, -⟩ := hz194
            obtain ⟨B, told, hs0, hB, hud⟩ := ud_any hB
            rw [hs0] at hq hC
            dsimp only at hq hC
            subst hq
            refine z_istore cx dL_law_197 ?_
            refine z_iload cx dL_law_199 rfl ?_
            refine z_bipush cx dL_law_201 ?_
            refine z_icmp_eq cx (tgt := 217) dL_law_203 (fun h203 => ?_) (fun h203 => ?_)
            · skip
              refine z_iconst cx dL_law_217 ?_
              refine z_goto cx (tgt := 222) dL_law_218 ?_
              refine z_istore_n cx dL_law_222 ?_
              refine z_iinc cx dL_law_223 rfl ?_
              refine z_goto cx (tgt := 40) dL_law_226 ?_
              refine Z.locs (ih40 (k + 1) _ _ (by omega) (by omega) hB hC) ⟨rfl, rfl, rfl, rfl, trivial⟩
            · skip
              refine z_iload cx dL_law_206 rfl ?_
              refine z_if_lt cx (tgt := 221) dL_law_208 (fun h208 => ?_) (fun h208 => ?_)
              · skip
                exfalso; omega
              · skip
                refine z_iload cx dL_law_211 rfl ?_
                refine z_iconst cx dL_law_213 ?_
                refine z_icmp_ge cx (tgt := 221) dL_law_214 (fun h214 => ?_) (fun h214 => ?_)
                · skip
                  exfalso; omega
                · skip
                  refine z_iconst cx dL_law_217 ?_
                  refine z_goto cx (tgt := 222) dL_law_218 ?_
                  refine z_istore_n cx dL_law_222 ?_
                  refine z_iinc cx dL_law_223 rfl ?_
                  refine z_goto cx (tgt := 40) dL_law_226 ?_
                  refine Z.locs (ih40 (k + 1) _ _ (by omega) (by omega) hB hC) ⟨rfl, rfl, rfl, rfl, trivial⟩
      have L125 : ∀ (xv yv : Int) (B : Ast) (G1 : Wd), (k < 56) → (AOk B) → (Nx A B) → (CRel G1 B) → Z p l e room_1 s m #[Value.ref b] below meth c 9 270 5641 E (lw_Z below #[Value.ref b] s) G1 125 [some (.ref b), some (.ref (E.1 0)), some (.int (iN 1)), some (.int (iN (k : Int))), some (.int (iN xv)), some (.int (iN yv)), some (.long (dgF A.1)), none, none] [] := by
        intro xv yv B G1 hkl hB hN hC
        refine z_iconst cx dL_law_125 ?_
        refine z_goto cx (tgt := 130) dL_law_126 ?_
        refine z_istore_n cx dL_law_130 ?_
        refine z_iload_n cx dL_law_131 rfl ?_
        refine z_if_eq cx (tgt := 180) dL_law_132 (fun h132 => ?_) (fun h132 => ?_)
        · skip
          exfalso; omega
        · skip
          refine z_aload_n cx dL_law_135 rfl ?_
          refine z_sl cx (c_L_look hC hB) rfl ms_L_look ml_L_83 dL_law_136 (fun z136 G136 hz136 => ?_)
          obtain ⟨hq, hC⟩ := hz136
          subst hq
          refine z_lload cx dL_law_139 rfl ?_
          refine z_lcmp cx dL_law_141 (fun z141 hc141 => ?_)
          have hz3 : z141 = 0 ∨ z141 = 1 ∨ z141 = -1 := by
            rcases hc141 with ⟨w, -⟩ | ⟨w, -⟩
            · exact Or.inl w
            · exact Or.inr w
          have hrc : ¬ z141 = 0 → B.2.1 = recH A.2.1 A.1 := fun w => by
            rcases hc141 with ⟨w2, -⟩ | ⟨-, w2⟩
            · exact absurd w2 w
            · rcases hN with q | q
              · exact absurd (congrArg dgF q) w2
              · exact q
          clear hc141
          refine z_if_eq cx (tgt := 180) dL_law_142 (fun h142 => ?_) (fun h142 => ?_)
          · skip
            refine Z.locs (L180 _ _ _ _ (by omega) hB hC) ⟨rfl, rfl, rfl, rfl, rfl, rfl, rfl, trivial⟩
          · skip
            have hrec := hrc h142
            clear hrc
            refine z_iload cx dL_law_145 rfl ?_
            refine z_bipush cx dL_law_147 ?_
            refine z_ishr cx dL_law_149 (fun z149 hs149 => ?_)
            refine z_iconst cx dL_law_150 ?_
            refine z_si cx (c_L_low (by omega)) rfl ms_L_low ml_L_58 dL_law_151 (fun z151 G151 hz151 => ?_)
            obtain ⟨hq151, hl151, hu151, hG⟩ := hz151
            subst hG
            refine z_if_ne cx (tgt := 180) dL_law_154 (fun h154 => ?_) (fun h154 => ?_)
            · skip
              refine Z.locs (L180 _ _ _ _ (by omega) hB hC) ⟨rfl, rfl, rfl, rfl, rfl, rfl, rfl, trivial⟩
            · skip
              refine z_aload_n cx dL_law_157 rfl ?_
              refine z_vi cx (c_X4_undo hC hB) rfl mv_X4_undo ml_L_145 (by omega) (co_main E _) rfl dL_law_158 (fun z158 G158 hz158 => ?_)
              obtain ⟨hq, hC, -⟩ := hz158
              obtain ⟨B, told, hs0, hB, hud, hBA⟩ := ud_rec hA hB hrec
              rw [hs0] at hq hC
              dsimp only at hq hC
              subst hq
              refine z_if_lt cx (tgt := 178) dL_law_161 (fun h161 => ?_) (fun h161 => ?_)
              · skip
                exfalso; omega
              · skip
                refine z_aload_n cx dL_law_164 rfl ?_
                refine z_sl cx (c_L_look hC hB) rfl ms_L_look ml_L_83 dL_law_165 (fun z165 G165 hz165 => ?_)
                obtain ⟨hq, hC⟩ := hz165
                rw [hBA] at hq
                subst hq
                refine z_lload cx dL_law_168 rfl ?_
                refine z_lcmp cx dL_law_170 (fun z170 hc170 => ?_)
                have hz0 : z170 = 0 := by
                  rcases hc170 with ⟨w, -⟩ | ⟨-, w⟩
                  · exact w
                  · exact absurd rfl w
                clear hc170
                refine z_if_ne cx (tgt := 178) dL_law_171 (fun h171 => ?_) (fun h171 => ?_)
                · skip
                  exfalso; omega
                · skip
                  refine z_iconst cx dL_law_174 ?_
                  refine z_goto cx (tgt := 179) dL_law_175 ?_
                  refine z_istore_n cx dL_law_179 ?_
                  refine Z.locs (L180 _ _ _ _ (by omega) hB hC) ⟨rfl, rfl, rfl, rfl, rfl, rfl, rfl, trivial⟩
      have L109 : ∀ (xv yv : Int) (B : Ast) (G1 : Wd), (k < 56) → (AOk B) → (Nx A B) → (CRel G1 B) → Z p l e room_1 s m #[Value.ref b] below meth c 9 270 5641 E (lw_Z below #[Value.ref b] s) G1 109 [some (.ref b), some (.ref (E.1 0)), some (.int (iN 1)), some (.int (iN (k : Int))), some (.int (iN xv)), some (.int (iN yv)), some (.long (dgF A.1)), none, none] [] := by
        intro xv yv B G1 hkl hB hN hC
        refine z_iload_n cx dL_law_109 rfl ?_
        refine z_iconst cx dL_law_110 ?_
        refine z_irem cx dL_law_111 ?_
        refine z_iconst cx dL_law_112 ?_
        refine z_icmp_ne cx (tgt := 125) dL_law_113 (fun h113 => ?_) (fun h113 => ?_)
        · skip
          refine Z.locs (L125 _ _ _ _ (by omega) hB hN hC) ⟨rfl, rfl, rfl, rfl, rfl, rfl, rfl, trivial⟩
        · skip
          refine z_aload_n cx dL_law_116 rfl ?_
          refine z_iload cx dL_law_117 rfl ?_
          refine z_si cx (c_L_would hC hB) rfl ms_L_would ml_L_142 dL_law_119 (fun z119 G119 hz119 => ?_)
          obtain ⟨hq, hC⟩ := hz119
          subst hq
          refine z_if_eq cx (tgt := 129) dL_law_122 (fun h122 => ?_) (fun h122 => ?_)
          · skip
            exfalso; omega
          · skip
            refine Z.locs (L125 _ _ _ _ (by omega) hB hN hC) ⟨rfl, rfl, rfl, rfl, rfl, rfl, rfl, trivial⟩
      have L66 : ∀ (xv : Int) (G1 : Wd), (k < 56) → (CRel G1 A) → Z p l e room_1 s m #[Value.ref b] below meth c 9 270 5641 E (lw_Z below #[Value.ref b] s) G1 66 [some (.ref b), some (.ref (E.1 0)), some (.int (iN 1)), some (.int (iN (k : Int))), none, none, none, none, none] [.int (iN xv)] := by
        intro xv G1 hkl hC
        refine z_istore cx dL_law_66 ?_
        refine z_aload_n cx dL_law_68 rfl ?_
        refine z_iconst cx dL_law_69 ?_
        refine z_iload_n cx dL_law_70 rfl ?_
        refine z_imul cx dL_law_71 ?_
        refine z_iconst cx dL_law_72 ?_
        refine z_iadd cx dL_law_73 ?_
        refine z_lot cx hX (by omega) ml_L_148 dL_law_74 (fun z74 => ?_)
        refine z_istore cx dL_law_77 ?_
        refine z_aload_n cx dL_law_79 rfl ?_
        refine z_sl cx (c_L_look hC hA) rfl ms_L_look ml_L_83 dL_law_80 (fun z80 G80 hz80 => ?_)
        obtain ⟨hq, hC⟩ := hz80
        subst hq
        refine z_lstore cx dL_law_83 ?_
        refine z_aload_n cx dL_law_85 rfl ?_
        refine z_iload cx dL_law_86 rfl ?_
        refine z_iload cx dL_law_88 rfl ?_
        refine z_si cx (c_L_acts hC hA) rfl ms_L_acts ml_L_152 dL_law_90 (fun z90 G90 hz90 => ?_)
        obtain ⟨hq, B, hC, hB, hN⟩ := hz90
        subst hq
        refine z_if_eq cx (tgt := 129) dL_law_93 (fun h93 => ?_) (fun h93 => ?_)
        · skip
          exfalso; omega
        · skip
          refine z_iload_n cx dL_law_96 rfl ?_
          refine z_iconst cx dL_law_97 ?_
          refine z_irem cx dL_law_98 ?_
          refine z_if_gt cx (tgt := 109) dL_law_99 (fun h99 => ?_) (fun h99 => ?_)
          · skip
            refine Z.locs (L109 _ _ _ _ (by omega) hB hN hC) ⟨rfl, rfl, rfl, rfl, rfl, rfl, rfl, trivial⟩
          · skip
            refine z_aload_n cx dL_law_102 rfl ?_
            refine z_si cx (c_L_holds hC hB) rfl ms_L_holds ml_L_138 dL_law_103 (fun z103 G103 hz103 => ?_)
            obtain ⟨hq, hC⟩ := hz103
            subst hq
            refine z_if_eq cx (tgt := 129) dL_law_106 (fun h106 => ?_) (fun h106 => ?_)
            · skip
              exfalso; omega
            · skip
              refine Z.locs (L109 _ _ _ _ (by omega) hB hN hC) ⟨rfl, rfl, rfl, rfl, rfl, rfl, rfl, trivial⟩
      refine z_iload_n cx dL_law_40 rfl ?_
      refine z_bipush cx dL_law_41 ?_
      refine z_icmp_ge cx (tgt := 229) dL_law_43 (fun h43 => ?_) (fun h43 => ?_)
      · skip
        refine z_iload_n cx dL_law_229 rfl ?_
        refine z_if_eq cx (tgt := 244) dL_law_230 (fun h230 => ?_) (fun h230 => ?_)
        · skip
          exfalso; omega
        · skip
          refine z_aload_n cx dL_law_233 rfl ?_
          refine z_si cx (c_L_holds hC hA) rfl ms_L_holds ml_L_138 dL_law_234 (fun z234 G234 hz234 => ?_)
          obtain ⟨hq, hC⟩ := hz234
          subst hq
          refine z_if_eq cx (tgt := 244) dL_law_237 (fun h237 => ?_) (fun h237 => ?_)
          · skip
            exfalso; omega
          · skip
            refine z_iconst cx dL_law_240 ?_
            refine z_goto cx (tgt := 245) dL_law_241 ?_
            exact law_end cx hE
      · skip
        refine z_iload_n cx dL_law_46 rfl ?_
        refine z_if_eq cx (tgt := 229) dL_law_47 (fun h47 => ?_) (fun h47 => ?_)
        · skip
          exfalso; omega
        · skip
          refine z_iload_n cx dL_law_50 rfl ?_
          refine z_iconst cx dL_law_51 ?_
          refine z_icmp_ge cx (tgt := 59) dL_law_52 (fun h52 => ?_) (fun h52 => ?_)
          · skip
            refine z_aload_n cx dL_law_59 rfl ?_
            refine z_iconst cx dL_law_60 ?_
            refine z_iload_n cx dL_law_61 rfl ?_
            refine z_imul cx dL_law_62 ?_
            refine z_lot cx hX (by omega) ml_L_148 dL_law_63 (fun z63 => ?_)
            refine Z.locs (L66 _ _ (by omega) hC) ⟨rfl, rfl, rfl, rfl, trivial⟩
          · skip
            refine z_iconst cx dL_law_55 ?_
            refine z_goto cx (tgt := 66) dL_law_56 ?_
            refine Z.locs (L66 _ _ (by omega) hC) ⟨rfl, rfl, rfl, rfl, trivial⟩
  refine z_aload_n cx dL_law_8 rfl ?_
  refine z_si cx (c_L_holds hC hA) rfl ms_L_holds ml_L_138 dL_law_9 (fun z9 G9 hz9 => ?_)
  obtain ⟨hq, hC⟩ := hz9
  subst hq
  refine z_if_eq cx (tgt := 36) dL_law_12 (fun h12 => ?_) (fun h12 => ?_)
  · skip
    exfalso; omega
  · skip
    refine z_aload_n cx dL_law_15 rfl ?_
    refine z_iconst cx dL_law_16 ?_
    refine z_si cx (c_L_would (x := 0) hC hA) rfl ms_L_would ml_L_142 dL_law_17 (fun z17 G17 hz17 => ?_)
    obtain ⟨hq, hC⟩ := hz17
    subst hq
    refine z_if_eq cx (tgt := 36) dL_law_20 (fun h20 => ?_) (fun h20 => ?_)
    · skip
      exfalso; omega
    · skip
      refine z_aload_n cx dL_law_23 rfl ?_
      refine z_vi cx (c_X4_undo hC hA) rfl mv_X4_undo ml_L_145 (by omega) (co_main E _) rfl dL_law_24 (fun z24 G24 hz24 => ?_)
      obtain ⟨hq, hC, -⟩ := hz24
      rw [ud_0] at hq hC
      dsimp only at hq hC
      subst hq
      refine z_bipush cx dL_law_27 ?_
      refine z_icmp_ne cx (tgt := 36) dL_law_29 (fun h29 => ?_) (fun h29 => ?_)
      · skip
        exfalso; omega
      · skip
        refine z_iconst cx dL_law_32 ?_
        refine z_goto cx (tgt := 37) dL_law_33 ?_
        refine z_istore_n cx dL_law_37 ?_
        refine z_iconst cx dL_law_38 ?_
        refine z_istore_n cx dL_law_39 ?_
        refine Z.locs (L40 _ (0) _ _ (Nat.lt_succ_self _) (Nat.zero_le _) hA hC) ⟨rfl, rfl, rfl, rfl, trivial⟩
end LL
