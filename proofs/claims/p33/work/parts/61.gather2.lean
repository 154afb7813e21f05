/-! ===== the world behind both constructors ===== -/
def sameE (x y : va_E) : Prop := ∀ (D : va_G) (cl : List vw_C) (a : Nat) (H : Heap), va_at D cl (a, x) H → va_at D cl (a, y) H
theorem sameE.rf {x : va_E} : sameE x x := fun _ _ _ _ h => h
theorem sameE.of {x y : va_E} (h : x = y) : sameE x y := fun _ _ _ _ hq => h ▸ hq
theorem sameE.int {cA : ClassId} {n : Nat} {f f' : Nat → Int32} (h : ∀ i, i < n → f i = f' i) : sameE (.inl (cA, n, .inl f)) (.inl (cA, n, .inl f')) := fun D cl a H hq => by
  have e : arrV cA n (fun j => .int (f j)) = arrV cA n (fun j => .int (f' j)) := arrV_congr (fun k hk => by rw [h k hk])
  show H[a]? = some (arrV cA n (fun j => .int (f' j)))
  rw [← e]
  exact hq
theorem sameE.ref {cA : ClassId} {n : Nat} {f f' : Nat → Option Nat} (h : ∀ i, i < n → f i = f' i) : sameE (.inl (cA, n, .inr (.inr (.inr (.inr f))))) (.inl (cA, n, .inr (.inr (.inr (.inr f'))))) := fun D cl a H hq => by
  have e : arrV cA n (fun j => va_rf (f j)) = arrV cA n (fun j => va_rf (f' j)) := arrV_congr (fun k hk => by rw [h k hk])
  show H[a]? = some (vp_cell cA (n, .inr (.inr (.inr (.inr f')))))
  rw [vp_cell_q, ← e, ← vp_cell_q]
  exact hq
theorem gR {α : Type} {w1 w2 : List α} {k : Nat} (n : Nat) (h : w1.length = n) : (w1 ++ w2)[n + k]? = w2[k]? := by
  rw [List.getElem?_append_right (by omega), h, Nat.add_sub_cancel_left]
theorem gL {α : Type} {w1 w2 : List α} {k : Nat} (h : k < w1.length) : (w1 ++ w2)[k]? = w1[k]? := List.getElem?_append_left h
theorem gS {α : Type} {x : α} {w : List α} {k : Nat} : (x :: w)[1 + k]? = w[k]? := by rw [Nat.add_comm]; rfl
theorem ij_lt {j : Nat} (h : j < 44) : ij_ j < 44 := by
  unfold ij_
  split
  · omega
  split
  · omega
  split <;> omega
def of_ (q : Nat) : Nat := if q < 2 then 1 + 44 * q else 3 + 44 * q
def ix_ (k : Nat) : Nat :=
  if k = 0 then 0 else if k = 1 then 89 else if k = 2 then 90 else if k < 14 then 264 + k
  else if k < 20 then of_ (k - 14) + ij_ 0 else if k < 26 then of_ (k - 20) + ij_ 1 else if k < 32 then of_ (k - 26) + ij_ 2 else if k < 38 then of_ (k - 32) + ij_ 3
  else if k < 158 then of_ ((k - 38) / 20) + ij_ (4 + (k - 38) % 20) else of_ ((k - 158) / 20) + ij_ (24 + (k - 158) % 20)
def xi_ (i : Nat) : Nat := ((List.range 278).find? (fun k => ix_ k == i)).getD 0
set_option maxRecDepth 100000 in
theorem xi_ix : ∀ k, k < 278 → xi_ (ix_ k) = k := by decide +kernel
theorem ix_inj {k k' : Nat} (h : k < 278) (h' : k' < 278) (he : ix_ k = ix_ k') : k = k' := by rw [← xi_ix k h, ← xi_ix k' h', he]
theorem ix_f {q : Nat} (h : q < 6) : ix_ (14 + q) = of_ q + ij_ 0 := by
  unfold ix_
  rw [if_neg (by omega), if_neg (by omega), if_neg (by omega), if_neg (by omega), if_pos (by omega), show 14 + q - 14 = q by omega]
theorem ix_r {q : Nat} (h : q < 6) : ix_ (20 + q) = of_ q + ij_ 1 := by
  unfold ix_
  rw [if_neg (by omega), if_neg (by omega), if_neg (by omega), if_neg (by omega), if_neg (by omega), if_pos (by omega), show 20 + q - 20 = q by omega]
theorem ix_c {q : Nat} (h : q < 6) : ix_ (26 + q) = of_ q + ij_ 2 := by
  unfold ix_
  rw [if_neg (by omega), if_neg (by omega), if_neg (by omega), if_neg (by omega), if_neg (by omega), if_neg (by omega), if_pos (by omega), show 26 + q - 26 = q by omega]
theorem ix_v {q : Nat} (h : q < 6) : ix_ (32 + q) = of_ q + ij_ 3 := by
  unfold ix_
  rw [if_neg (by omega), if_neg (by omega), if_neg (by omega), if_neg (by omega), if_neg (by omega), if_neg (by omega), if_neg (by omega), if_pos (by omega), show 32 + q - 32 = q by omega]
theorem ix_s {q k : Nat} (h : q < 6) (hk : k < 20) : ix_ (38 + (20 * q + k)) = of_ q + ij_ (4 + k) := by
  unfold ix_
  rw [if_neg (by omega), if_neg (by omega), if_neg (by omega), if_neg (by omega), if_neg (by omega), if_neg (by omega), if_neg (by omega), if_neg (by omega), if_pos (by omega), show (38 + (20 * q + k) - 38) / 20 = q by omega, show (38 + (20 * q + k) - 38) % 20 = k by omega]
theorem ix_t {q k : Nat} (h : q < 6) (hk : k < 20) : ix_ (158 + (20 * q + k)) = of_ q + ij_ (24 + k) := by
  unfold ix_
  rw [if_neg (by omega), if_neg (by omega), if_neg (by omega), if_neg (by omega), if_neg (by omega), if_neg (by omega), if_neg (by omega), if_neg (by omega), if_neg (by omega), show (158 + (20 * q + k) - 158) / 20 = q by omega, show (158 + (20 * q + k) - 158) % 20 = k by omega]
/-- addresses by number -/
def an_ (h0 hi st sc ch rep : Nat) (aq : Nat → Nat → Nat) : Nat → Nat := fun k =>
  if k = 0 then h0 else if k = 1 then hi else if k = 2 then st else if k = 3 then sc else if k = 4 then ch else if k = 5 then rep else if k = 6 then 0 else if k < 14 then 0
  else if k < 20 then aq (k - 14) 0 else if k < 26 then aq (k - 20) 1 else if k < 32 then aq (k - 26) 2 else if k < 38 then aq (k - 32) 3
  else if k < 158 then aq ((k - 38) / 20) (4 + (k - 38) % 20) else aq ((k - 158) / 20) (24 + (k - 158) % 20)
section AN
variable {h0 hi st sc ch rep : Nat} {aq : Nat → Nat → Nat}
theorem an_f {q : Nat} (h : q < 6) : an_ h0 hi st sc ch rep aq (14 + q) = aq q 0 := by
  unfold an_
  rw [if_neg (by omega), if_neg (by omega), if_neg (by omega), if_neg (by omega), if_neg (by omega), if_neg (by omega), if_neg (by omega), if_neg (by omega), if_pos (by omega), show 14 + q - 14 = q by omega]
theorem an_r {q : Nat} (h : q < 6) : an_ h0 hi st sc ch rep aq (20 + q) = aq q 1 := by
  unfold an_
  rw [if_neg (by omega), if_neg (by omega), if_neg (by omega), if_neg (by omega), if_neg (by omega), if_neg (by omega), if_neg (by omega), if_neg (by omega), if_neg (by omega), if_pos (by omega), show 20 + q - 20 = q by omega]
theorem an_c {q : Nat} (h : q < 6) : an_ h0 hi st sc ch rep aq (26 + q) = aq q 2 := by
  unfold an_
  rw [if_neg (by omega), if_neg (by omega), if_neg (by omega), if_neg (by omega), if_neg (by omega), if_neg (by omega), if_neg (by omega), if_neg (by omega), if_neg (by omega), if_neg (by omega), if_pos (by omega), show 26 + q - 26 = q by omega]
theorem an_v {q : Nat} (h : q < 6) : an_ h0 hi st sc ch rep aq (32 + q) = aq q 3 := by
  unfold an_
  rw [if_neg (by omega), if_neg (by omega), if_neg (by omega), if_neg (by omega), if_neg (by omega), if_neg (by omega), if_neg (by omega), if_neg (by omega), if_neg (by omega), if_neg (by omega), if_neg (by omega), if_pos (by omega), show 32 + q - 32 = q by omega]
theorem an_s {q k : Nat} (h : q < 6) (hk : k < 20) : an_ h0 hi st sc ch rep aq (38 + (20 * q + k)) = aq q (4 + k) := by
  unfold an_
  rw [if_neg (by omega), if_neg (by omega), if_neg (by omega), if_neg (by omega), if_neg (by omega), if_neg (by omega), if_neg (by omega), if_neg (by omega), if_neg (by omega), if_neg (by omega), if_neg (by omega), if_neg (by omega), if_pos (by omega), show (38 + (20 * q + k) - 38) / 20 = q by omega, show (38 + (20 * q + k) - 38) % 20 = k by omega]
theorem an_t {q k : Nat} (h : q < 6) (hk : k < 20) : an_ h0 hi st sc ch rep aq (158 + (20 * q + k)) = aq q (24 + k) := by
  unfold an_
  rw [if_neg (by omega), if_neg (by omega), if_neg (by omega), if_neg (by omega), if_neg (by omega), if_neg (by omega), if_neg (by omega), if_neg (by omega), if_neg (by omega), if_neg (by omega), if_neg (by omega), if_neg (by omega), if_neg (by omega), show (158 + (20 * q + k) - 158) / 20 = q by omega, show (158 + (20 * q + k) - 158) % 20 = k by omega]
end AN
def aq_ (a0 a1 a2 a3 a4 a5 : Nat → Nat) : Nat → Nat → Nat := fun q => if q = 0 then a0 else if q = 1 then a1 else if q = 2 then a2 else if q = 3 then a3 else if q = 4 then a4 else a5
/-- all the cells -/
def all_ (K : Nat → ClassId) (h0 : Nat) (a0 : Nat → Nat) (w0 : va_W) (a1 : Nat → Nat) (w1 : va_W) (hi st : Nat) (a2 : Nat → Nat) (w2 : va_W) (a3 : Nat → Nat) (w3 : va_W) (a4 : Nat → Nat) (w4 : va_W) (a5 : Nat → Nat) (w5 : va_W) (sc ch rep : Nat) : va_W :=
  (h0, .inr (4, [.ref (a0 0), .ref (a1 0), .ref hi, .ref sc, .ref rep])) :: (w0 ++ (w1 ++ ((hi, .inr (1, [.ref st, i0_, i0_])) :: (st, ra_ K 3 4 (rg_ [(a2, w2), (a3, w3), (a4, w4), (a5, w5)])) :: (w2 ++ (w3 ++ (w4 ++ (w5 ++ (sc_ K sc ch ++ ((rep, ia_ K 0 3 rp_) :: [])))))))))
theorem all_is (K : Nat → ClassId) (h0 : Nat) (a0 : Nat → Nat) (w0 : va_W) (a1 : Nat → Nat) (w1 : va_W) (hi st : Nat) (a2 : Nat → Nat) (w2 : va_W) (a3 : Nat → Nat) (w3 : va_W) (a4 : Nat → Nat) (w4 : va_W) (a5 : Nat → Nat) (w5 : va_W) (sc ch rep : Nat) :
    mw_ K h0 a0 w0 a1 w1 hi st [(a2, w2), (a3, w3), (a4, w4), (a5, w5)] sc ch rep = all_ K h0 a0 w0 a1 w1 hi st a2 w2 a3 w3 a4 w4 a5 w5 sc ch rep := by
  unfold mw_ hs_ fs_ all_
  simp only [List.flatMap_cons, List.flatMap_nil, List.append_assoc, List.cons_append, List.nil_append]
section ALL
variable {K : Nat → ClassId} {h0 : Nat} {a0 : Nat → Nat} {w0 : va_W} {a1 : Nat → Nat} {w1 : va_W} {hi st : Nat} {a2 : Nat → Nat} {w2 : va_W} {a3 : Nat → Nat} {w3 : va_W} {a4 : Nat → Nat} {w4 : va_W} {a5 : Nat → Nat} {w5 : va_W} {sc ch rep : Nat}
theorem all_film (f0 : FB_ K a0 w0) (f1 : FB_ K a1 w1) (f2 : FB_ K a2 w2) (f3 : FB_ K a3 w3) (f4 : FB_ K a4 w4) (f5 : FB_ K a5 w5) {q j : Nat} (hq : q < 6) (hj : j < 44) : (all_ K h0 a0 w0 a1 w1 hi st a2 w2 a3 w3 a4 w4 a5 w5 sc ch rep)[of_ q + ij_ j]? = some (aq_ a0 a1 a2 a3 a4 a5 q j, fc_ K (aq_ a0 a1 a2 a3 a4 a5 q) j) := by
  have hi := ij_lt hj
  unfold all_
  rcases (show q = 0 ∨ q = 1 ∨ q = 2 ∨ q = 3 ∨ q = 4 ∨ q = 5 by omega) with rfl | rfl | rfl | rfl | rfl | rfl
  · rw [show of_ 0 + ij_ j = 1 + ij_ j from rfl, gS, gL (by rw [f0.1]; exact hi)]
    exact f0.2 j hj
  · rw [show of_ 1 + ij_ j = 1 + (44 + ij_ j) by show 1 + 44 * 1 + _ = _; omega, gS, gR 44 f0.1, gL (by rw [f1.1]; exact hi)]
    exact f1.2 j hj
  · rw [show of_ 2 + ij_ j = 1 + (44 + (44 + (1 + (1 + ij_ j)))) by show 3 + 44 * 2 + _ = _; omega, gS, gR 44 f0.1, gR 44 f1.1, gS, gS, gL (by rw [f2.1]; exact hi)]
    exact f2.2 j hj
  · rw [show of_ 3 + ij_ j = 1 + (44 + (44 + (1 + (1 + (44 + ij_ j))))) by show 3 + 44 * 3 + _ = _; omega, gS, gR 44 f0.1, gR 44 f1.1, gS, gS, gR 44 f2.1, gL (by rw [f3.1]; exact hi)]
    exact f3.2 j hj
  · rw [show of_ 4 + ij_ j = 1 + (44 + (44 + (1 + (1 + (44 + (44 + ij_ j)))))) by show 3 + 44 * 4 + _ = _; omega, gS, gR 44 f0.1, gR 44 f1.1, gS, gS, gR 44 f2.1, gR 44 f3.1, gL (by rw [f4.1]; exact hi)]
    exact f4.2 j hj
  · rw [show of_ 5 + ij_ j = 1 + (44 + (44 + (1 + (1 + (44 + (44 + (44 + ij_ j))))))) by show 3 + 44 * 5 + _ = _; omega, gS, gR 44 f0.1, gR 44 f1.1, gS, gS, gR 44 f2.1, gR 44 f3.1, gR 44 f4.1, gL (by rw [f5.1]; exact hi)]
    exact f5.2 j hj
theorem all_mid (f0 : FB_ K a0 w0) (f1 : FB_ K a1 w1) {k : Nat} : (all_ K h0 a0 w0 a1 w1 hi st a2 w2 a3 w3 a4 w4 a5 w5 sc ch rep)[89 + k]? = ((hi, .inr (1, [.ref st, i0_, i0_])) :: (st, ra_ K 3 4 (rg_ [(a2, w2), (a3, w3), (a4, w4), (a5, w5)])) :: (w2 ++ (w3 ++ (w4 ++ (w5 ++ (sc_ K sc ch ++ ((rep, ia_ K 0 3 rp_) :: [])))))) : va_W)[k]? := by
  unfold all_
  rw [show 89 + k = 1 + (44 + (44 + k)) by omega, gS, gR 44 f0.1, gR 44 f1.1]
theorem all_end (f0 : FB_ K a0 w0) (f1 : FB_ K a1 w1) (f2 : FB_ K a2 w2) (f3 : FB_ K a3 w3) (f4 : FB_ K a4 w4) (f5 : FB_ K a5 w5) {k : Nat} : (all_ K h0 a0 w0 a1 w1 hi st a2 w2 a3 w3 a4 w4 a5 w5 sc ch rep)[267 + k]? = (sc_ K sc ch ++ ((rep, ia_ K 0 3 rp_) :: []))[k]? := by
  rw [show 267 + k = 89 + (1 + (1 + (44 + (44 + (44 + (44 + k)))))) by omega, all_mid f0 f1, gS, gS, gR 44 f2.1, gR 44 f3.1, gR 44 f4.1, gR 44 f5.1]
theorem all_lo {E : En} (e1 : E.1 = an_ h0 hi st sc ch rep (aq_ a0 a1 a2 a3 a4 a5)) (e2 : E.2.2.1 = K) (f0 : FB_ K a0 w0) (f1 : FB_ K a1 w1) (f2 : FB_ K a2 w2) (f3 : FB_ K a3 w3) (f4 : FB_ K a4 w4) (f5 : FB_ K a5 w5) {k : Nat} (hk : k < 6) :
    ∃ e, (all_ K h0 a0 w0 a1 w1 hi st a2 w2 a3 w3 a4 w4 a5 w5 sc ch rep)[ix_ k]? = some (E.1 k, e) ∧ sameE e (cont E G0_ k) := by
  subst e2
  rcases (show k = 0 ∨ k = 1 ∨ k = 2 ∨ k = 3 ∨ k = 4 ∨ k = 5 by omega) with rfl | rfl | rfl | rfl | rfl | rfl
  · refine ⟨_, by rw [e1]; rfl, ?_⟩
    rw [co_main, e1]
    exact sameE.of rfl
  · refine ⟨_, (all_mid f0 f1 (k := 0)).trans (by rw [e1]; rfl), ?_⟩
    rw [co_hist, e1]
    exact sameE.of rfl
  · refine ⟨_, (all_mid f0 f1 (k := 1)).trans (by rw [e1]; rfl), ?_⟩
    rw [co_states, e1]
    refine sameE.ref (fun i hi => ?_)
    rcases (show i = 0 ∨ i = 1 ∨ i = 2 ∨ i = 3 by omega) with rfl | rfl | rfl | rfl <;> rfl
  · refine ⟨_, (all_end f0 f1 f2 f3 f4 f5 (k := 0)).trans (by rw [e1]; rfl), ?_⟩
    rw [co_scr, e1]
    exact sameE.of rfl
  · refine ⟨_, (all_end f0 f1 f2 f3 f4 f5 (k := 1)).trans (by rw [e1]; rfl), ?_⟩
    rw [co_chars]
    exact sameE.int (fun i hi => rfl)
  · refine ⟨_, (all_end f0 f1 f2 f3 f4 f5 (k := 2)).trans (by rw [e1]; rfl), ?_⟩
    rw [co_rep]
    refine sameE.int (fun i hi => ?_)
    rcases (show i = 0 ∨ i = 1 ∨ i = 2 by omega) with rfl | rfl | rfl <;> rfl
theorem all_at {E : En} (e1 : E.1 = an_ h0 hi st sc ch rep (aq_ a0 a1 a2 a3 a4 a5)) (e2 : E.2.2.1 = K) (f0 : FB_ K a0 w0) (f1 : FB_ K a1 w1) (f2 : FB_ K a2 w2) (f3 : FB_ K a3 w3) (f4 : FB_ K a4 w4) (f5 : FB_ K a5 w5) {k : Nat} (hk : (k < 278 ∧ (k < 6 ∨ 14 ≤ k))) :
    ∃ e, (all_ K h0 a0 w0 a1 w1 hi st a2 w2 a3 w3 a4 w4 a5 w5 sc ch rep)[ix_ k]? = some (E.1 k, e) ∧ sameE e (cont E G0_ k) := by
  subst e2
  by_cases k0 : k < 6
  · exact all_lo e1 rfl f0 f1 f2 f3 f4 f5 k0
  by_cases k1 : k < 20
  · obtain ⟨q, rfl⟩ : ∃ q, k = 14 + q := ⟨k - 14, by omega⟩
    have hq : q < 6 := by omega
    refine ⟨_, by rw [ix_f hq, e1, an_f hq]; exact all_film f0 f1 f2 f3 f4 f5 hq (by decide), ?_⟩
    rw [co_film E G0_ hq, e1, an_r hq, an_c hq, an_v hq]
    exact sameE.of rfl
  by_cases k2 : k < 26
  · obtain ⟨q, rfl⟩ : ∃ q, k = 20 + q := ⟨k - 20, by omega⟩
    have hq : q < 6 := by omega
    refine ⟨_, by rw [ix_r hq, e1, an_r hq]; exact all_film f0 f1 f2 f3 f4 f5 hq (by decide), ?_⟩
    rw [co_rows E G0_ hq, e1]
    refine sameE.ref (fun i hi => ?_)
    rw [if_pos hi]
    show _ = some (an_ _ _ _ _ _ _ _ (38 + (20 * (q : Int) + i).toNat))
    rw [show (20 * (q : Int) + i).toNat = 20 * q + i by omega, an_s hq hi]
  by_cases k3 : k < 32
  · obtain ⟨q, rfl⟩ : ∃ q, k = 26 + q := ⟨k - 26, by omega⟩
    have hq : q < 6 := by omega
    refine ⟨_, by rw [ix_c hq, e1, an_c hq]; exact all_film f0 f1 f2 f3 f4 f5 hq (by decide), ?_⟩
    rw [co_cuts E G0_ hq]
    exact sameE.int (fun i hi => rfl)
  by_cases k4 : k < 38
  · obtain ⟨q, rfl⟩ : ∃ q, k = 32 + q := ⟨k - 32, by omega⟩
    have hq : q < 6 := by omega
    refine ⟨_, by rw [ix_v hq, e1, an_v hq]; exact all_film f0 f1 f2 f3 f4 f5 hq (by decide), ?_⟩
    rw [co_vals E G0_ hq]
    exact sameE.int (fun i hi => rfl)
  by_cases k5 : k < 158
  · obtain ⟨q, j, rfl, hq, hj⟩ : ∃ q j, k = 38 + (20 * q + j) ∧ q < 6 ∧ j < 20 := ⟨(k - 38) / 20, (k - 38) % 20, by omega, by omega, by omega⟩
    refine ⟨_, by rw [ix_s hq hj, e1, an_s hq hj]; exact all_film f0 f1 f2 f3 f4 f5 hq (by omega), ?_⟩
    rw [co_sub E G0_ (by omega), e1, an_t hq hj]
    unfold fc_
    rw [if_neg (by omega), if_neg (by omega), if_neg (by omega), if_neg (by omega), if_pos (by omega), show 20 + (4 + j) = 24 + j by omega]
    exact sameE.of rfl
  · obtain ⟨q, j, rfl, hq, hj⟩ : ∃ q j, k = 158 + (20 * q + j) ∧ q < 6 ∧ j < 20 := ⟨(k - 158) / 20, (k - 158) % 20, by omega, by omega, by omega⟩
    refine ⟨_, by rw [ix_t hq hj, e1, an_t hq hj]; exact all_film f0 f1 f2 f3 f4 f5 hq (by omega), ?_⟩
    rw [co_text E G0_]
    unfold fc_
    rw [if_neg (by omega), if_neg (by omega), if_neg (by omega), if_neg (by omega), if_neg (by omega)]
    exact sameE.int (fun i hi => rfl)
end ALL
/-- the world of numbers out of all the cells -/
theorem all_P {D : va_G} {cl : List vw_C} {ws : va_W} {H : Heap} {E : En} (hP : va_P D cl ws H) (h : ∀ k, (k < 278 ∧ (k < 6 ∨ 14 ≤ k)) → ∃ e, ws[ix_ k]? = some (E.1 k, e) ∧ sameE e (cont E G0_ k)) : va_P D cl (ws_ E G0_) H := fun k q hq => by
  by_cases hk : k < 270
  · rw [ws_at E G0_ hk] at hq
    cases hq
    obtain ⟨e, h1, h2⟩ := h (nm_ k) (px_nm hk).2
    exact h2 D cl _ H (hP _ _ h1)
  · rw [List.getElem?_eq_none (by rw [ws_len]; omega)] at hq
    cases hq
theorem all_inj {A : Nat → Prop} {ws : va_W} {E : En} (hD : va_D A ws) (h : ∀ k, (k < 278 ∧ (k < 6 ∨ 14 ≤ k)) → ∃ e, ws[ix_ k]? = some (E.1 k, e) ∧ sameE e (cont E G0_ k)) : EOk E ∧ ∀ q, AE E q → A q := by
  refine ⟨fun k k' hk hk' he => ?_, ?_⟩
  · obtain ⟨e, h1, -⟩ := h k hk
    obtain ⟨e', h1', -⟩ := h k' hk'
    exact ix_inj hk.1 hk'.1 (hD.1 _ _ _ _ h1 h1' he)
  · rintro q ⟨k, hk, rfl⟩
    obtain ⟨e, h1, -⟩ := h k hk
    exact hD.2 _ _ h1
