/-! ===== what stays in order ===== -/
theorem rsn_0 {F : Fm} {a b : Int} (h : rsn F a b = 0) : a < b ∧ F.2.2.length < 20 ∧ ∀ i, i < F.2.2.length → ¬ (a < (F.2.2.getD i dS).2.1 ∧ (F.2.2.getD i dS).1 < b) := by
  unfold rsn at h
  split at h
  · omega
  · split at h
    · omega
    · rename_i h1 h2
      split at h
      · omega
      · exact ⟨by omega, by omega, fun i hi w => h2 ⟨i, hi, w⟩⟩
theorem rsn_b (F : Fm) (a b : Int) : 0 ≤ rsn F a b ∧ rsn F a b ≤ 3 := by
  unfold rsn
  repeat' split
  all_goals omega
theorem insL_ok {L : List Sb} {S : Sb} {p : Nat} (hL : SsOk L) (hS : SbOk S) (hl : L.length < 20) (hp : p ≤ L.length) (h1 : ∀ i, i < p → (L.getD i dS).2.1 ≤ S.1) (h2 : ∀ i, p ≤ i → i < L.length → S.2.1 ≤ (L.getD i dS).1) : SsOk (insL L p S) := by
  refine ⟨by rw [insL_len hp]; omega, fun i hi => ?_, fun i hi => ?_⟩
  · rw [insL_len hp] at hi
    rcases Nat.lt_trichotomy i p with q | q | q
    · rw [insL_lt hp q]; exact hL.2.1 i (by omega)
    · subst q; rw [insL_eq hp]; exact hS
    · rw [insL_gt hp q]; exact hL.2.1 (i - 1) (by omega)
  · rw [insL_len hp] at hi
    rcases Nat.lt_trichotomy (i + 1) p with q | q | q
    · rw [insL_lt hp (by omega), insL_lt hp q]; exact hL.2.2 i (by omega)
    · subst q; rw [insL_lt hp (by omega), insL_eq hp]; exact h1 i (by omega)
    · rw [insL_gt hp q]
      by_cases w : i = p
      · subst w; rw [insL_eq hp]; exact h2 _ (by omega) (by omega)
      · rw [insL_gt hp (by omega)]
        have := hL.2.2 (i - 1) (by omega)
        rw [show i - 1 + 1 = i + 1 - 1 by omega] at this
        exact this
theorem setL_ok {L : List Sb} {S : Sb} {p : Nat} (hL : SsOk L) (hS : SbOk S) (hp : p < L.length) (h1 : 0 < p → (L.getD (p - 1) dS).2.1 ≤ S.1) (h2 : p + 1 < L.length → S.2.1 ≤ (L.getD (p + 1) dS).1) : SsOk (L.set p S) := by
  refine ⟨by rw [List.length_set]; exact hL.1, fun i hi => ?_, fun i hi => ?_⟩
  · rw [List.length_set] at hi
    by_cases q : i = p
    · subst q; rw [setL_eq hp]; exact hS
    · rw [setL_ne q]; exact hL.2.1 i hi
  · rw [List.length_set] at hi
    by_cases q : i = p
    · subst q; rw [setL_eq hp, setL_ne (by omega)]; exact h2 hi
    · rw [setL_ne q]
      by_cases w : i + 1 = p
      · subst w; rw [setL_eq hp]; exact h1 (by omega)
      · rw [setL_ne w]; exact hL.2.2 i hi
theorem delL_ok {L : List Sb} {p : Nat} (hL : SsOk L) (hp : p < L.length) : SsOk (L.eraseIdx p) := by
  refine ⟨by rw [delL_len hp]; have := hL.1; omega, fun i hi => ?_, fun i hi => ?_⟩
  · rw [delL_len hp] at hi
    by_cases q : i < p
    · rw [delL_lt q]; exact hL.2.1 i (by omega)
    · rw [delL_ge (by omega)]; exact hL.2.1 (i + 1) (by omega)
  · rw [delL_len hp] at hi
    by_cases q : i + 1 < p
    · rw [delL_lt (by omega), delL_lt q]; exact hL.2.2 i (by omega)
    · rw [delL_ge (p := p) (i := i + 1) (by omega)]
      by_cases w : i < p
      · rw [delL_lt w]; exact hL.mono (by omega) (by omega)
      · rw [delL_ge (by omega)]; exact hL.2.2 (i + 1) (by omega)
theorem shL_ok {L : List Sb} {k : Nat} {f : Int} (hL : SsOk L) (hk : k < L.length) (h1 : ¬ (L.getD k dS).1 + f < (if 0 < k then (L.getD (k - 1) dS).2.1 else 0)) (h2 : ¬ 5000 < (L.getD (L.length - 1) dS).2.1 + f) : SsOk (shL L k f) := by
  have last : ∀ i, i < L.length → (L.getD i dS).2.1 ≤ (L.getD (L.length - 1) dS).2.1 := by
    intro i hi
    by_cases q : i = L.length - 1
    · rw [q]; exact Int.le_refl _
    · have a := hL.mono (i := i) (j := L.length - 1) (by omega) (by omega)
      have b := (hL.2.1 (L.length - 1) (by omega)).2.1
      omega
  have low : ∀ i, k ≤ i → i < L.length → (L.getD k dS).1 ≤ (L.getD i dS).1 := by
    intro i h1 hi
    by_cases q : i = k
    · rw [q]; exact Int.le_refl _
    · have a := hL.mono (i := k) (j := i) (by omega) hi
      have b := (hL.2.1 k hk).2.1
      omega
  have h10 : 0 ≤ (L.getD k dS).1 + f := by
    split at h1
    · have := hL.2.1 (k - 1) (by omega)
      have a := this.1
      have b := this.2.1
      omega
    · omega
  refine ⟨by rw [shL_len]; exact hL.1, fun i hi => ?_, fun i hi => ?_⟩
  · rw [shL_len] at hi
    by_cases q : i < k
    · rw [shL_lt q hi]; exact hL.2.1 i hi
    · rw [shL_ge (by omega) hi]
      have a := hL.2.1 i hi
      have b := last i hi
      have d := low i (by omega) hi
      refine ⟨?_, ?_, ?_, a.2.2.2⟩ <;> dsimp only
      · omega
      · have := a.2.1; omega
      · omega
  · rw [shL_len] at hi
    by_cases q : i + 1 < k
    · rw [shL_lt (by omega) (by omega), shL_lt q hi]; exact hL.2.2 i hi
    · rw [shL_ge (i := k) (j := i + 1) (by omega) hi]
      by_cases w : i < k
      · have w2 : i + 1 = k := by omega
        rw [shL_lt w (by omega), w2]
        rw [if_pos (by omega), show k - 1 = i by omega] at h1
        dsimp only
        omega
      · rw [shL_ge (by omega) (by omega)]
        have := hL.2.2 i hi
        dsimp only
        omega
theorem addF_ok {F : Fm} {S : Sb} (hF : FOk F) (hS : SbOk S) (h : rsn F S.1 S.2.1 = 0) : FOk (addF F S) := by
  obtain ⟨h1, h2, h3⟩ := rsn_0 h
  obtain ⟨-, hip⟩ := ipos_cnt hF.2.2 S.1
  refine ⟨hF.1, hF.2.1, insL_ok hF.2.2 hS h2 hip.1 (fun i hi => ?_) (fun i hi hi2 => ?_)⟩
  · have a := hip.2.1 i hi
    have b := h3 i (by have := hip.1; omega)
    have c := hS.2.1
    omega
  · have a := hip.2.2 i hi hi2
    have b := h3 i hi2
    have c := (hF.2.2.2.1 i hi2).2.1
    omega
theorem TxOk.take {t : List Int} (h : TxOk t) {b : Nat} (hb : 1 ≤ b ∧ b + 1 < t.length) (hc : t.getD b 0 = 32) : TxOk (t.take b) := by
  have hl : (t.take b).length = b := by rw [List.length_take]; omega
  refine ⟨by rw [hl]; omega, by rw [hl]; have := h.2.1; omega, fun i hi => ?_, ?_, ?_, fun i hi => ?_⟩
  · rw [hl] at hi; rw [takeL hi]; exact h.2.2.1 i (by omega)
  · rw [takeL (by omega)]; exact h.2.2.2.1
  · rw [hl, takeL (by omega)]
    intro w
    exact h.2.2.2.2.2 (b - 1) (by omega) ⟨w, by rw [show b - 1 + 1 = b by omega]; exact hc⟩
  · rw [hl] at hi; rw [takeL (by omega), takeL hi]; exact h.2.2.2.2.2 i (by omega)
theorem TxOk.drop {t : List Int} (h : TxOk t) {b : Nat} (hb : 1 ≤ b ∧ b + 1 < t.length) (hc : t.getD b 0 = 32) : TxOk (t.drop (b + 1)) := by
  have hl : (t.drop (b + 1)).length = t.length - (b + 1) := List.length_drop
  refine ⟨by rw [hl]; omega, by rw [hl]; have := h.2.1; omega, fun i hi => ?_, ?_, ?_, fun i hi => ?_⟩
  · rw [hl] at hi; rw [dropL]; exact h.2.2.1 _ (by omega)
  · rw [dropL]
    intro w
    exact h.2.2.2.2.2 b (by omega) ⟨hc, w⟩
  · rw [hl, dropL, show b + 1 + (t.length - (b + 1) - 1) = t.length - 1 by omega]; exact h.2.2.2.2.1
  · rw [hl] at hi; rw [dropL, dropL, show b + 1 + (i + 1) = b + 1 + i + 1 by omega]; exact h.2.2.2.2.2 _ (by omega)
theorem TxOk.join {t u : List Int} (h : TxOk t) (g : TxOk u) (hl : t.length + 1 + u.length ≤ 40) : TxOk (t ++ 32 :: u) := by
  have hlen : (t ++ 32 :: u).length = t.length + 1 + u.length := by rw [List.length_append, List.length_cons]; omega
  have e1 : ∀ i, i < t.length → (t ++ 32 :: u).getD i 0 = t.getD i 0 := fun i hi => appL_l hi
  have e2 : (t ++ 32 :: u).getD t.length 0 = 32 := by rw [appL_r (Nat.le_refl _), Nat.sub_self]; rfl
  have e3 : ∀ i, t.length < i → (t ++ 32 :: u).getD i 0 = u.getD (i - t.length - 1) 0 := fun i hi => by rw [appL_r (by omega), consL (by omega)]
  have a1 := h.1
  have a2 := g.1
  refine ⟨by rw [hlen]; omega, by rw [hlen]; omega, fun i hi => ?_, ?_, ?_, fun i hi => ?_⟩
  · rw [hlen] at hi
    rcases Nat.lt_trichotomy i t.length with q | q | q
    · rw [e1 i q]; exact h.2.2.1 i q
    · rw [q, e2]; omega
    · rw [e3 i q]; exact g.2.2.1 _ (by omega)
  · rw [e1 0 (by omega)]; exact h.2.2.2.1
  · rw [hlen, e3 _ (by omega), show t.length + 1 + u.length - 1 - t.length - 1 = u.length - 1 by omega]; exact g.2.2.2.2.1
  · rw [hlen] at hi
    rcases Nat.lt_trichotomy (i + 1) t.length with q | q | q
    · rw [e1 i (by omega), e1 _ q]; exact h.2.2.2.2.2 i q
    · rw [e1 i (by omega), q, e2]
      rintro ⟨w, -⟩
      rw [show i = t.length - 1 by omega] at w
      exact h.2.2.2.2.1 w
    · rw [e3 _ q]
      by_cases w : i = t.length
      · subst w
        rintro ⟨-, w2⟩
        rw [show t.length + 1 - t.length - 1 = 0 by omega] at w2
        exact g.2.2.2.1 w2
      · rw [e3 i (by omega), show i + 1 - t.length - 1 = i - t.length - 1 + 1 by omega]
        exact g.2.2.2.2.2 _ (by omega)
theorem splF_ok {F : Fm} {i b : Nat} (hF : FOk F) (hi : i < F.2.2.length) (hn : F.2.2.length < 20) (hb : 1 ≤ b ∧ b + 1 < (F.2.2.getD i dS).2.2.length) (hc : (F.2.2.getD i dS).2.2.getD b 0 = 32) (hd : 2 ≤ (F.2.2.getD i dS).2.1 - (F.2.2.getD i dS).1 - F.1 1) : FOk (splF F i b) := by
  have hS := hF.2.2.2.1 i hi
  have a1 := hS.1
  have a2 := hS.2.2.1
  have g1 := hF.1.2.1
  unfold splF
  generalize ho : max 1 (min (((F.2.2.getD i dS).2.1 - (F.2.2.getD i dS).1 - F.1 1) * (b : Int) / (((F.2.2.getD i dS).2.2.length : Int) - 1)) ((F.2.2.getD i dS).2.1 - (F.2.2.getD i dS).1 - F.1 1 - 1)) = ow
  have ho1 : 1 ≤ ow ∧ ow ≤ (F.2.2.getD i dS).2.1 - (F.2.2.getD i dS).1 - F.1 1 - 1 := by omega
  have hS1 : SbOk ((F.2.2.getD i dS).1, (F.2.2.getD i dS).1 + ow, (F.2.2.getD i dS).2.2.take b) := ⟨a1, by dsimp only; omega, by dsimp only; omega, hS.2.2.2.take hb hc⟩
  have hset : SsOk (F.2.2.set i ((F.2.2.getD i dS).1, (F.2.2.getD i dS).1 + ow, (F.2.2.getD i dS).2.2.take b)) := setL_ok hF.2.2 hS1 hi (fun h => by
    have := hF.2.2.2.2 (i - 1) (by omega)
    rw [show i - 1 + 1 = i by omega] at this
    exact this) (fun h => by
    have := hF.2.2.2.2 i h
    dsimp only
    omega)
  have hp : i + 1 ≤ (F.2.2.set i ((F.2.2.getD i dS).1, (F.2.2.getD i dS).1 + ow, (F.2.2.getD i dS).2.2.take b)).length := by rw [List.length_set]; omega
  refine ⟨hF.1, hF.2.1, insL_ok hset ⟨by dsimp only; omega, by dsimp only; omega, a2, hS.2.2.2.drop hb hc⟩ (by rw [List.length_set]; exact hn) hp (fun j hj => ?_) (fun j hj hj2 => ?_)⟩
  · by_cases q : j = i
    · subst q; rw [setL_eq hi]; dsimp only; omega
    · rw [setL_ne q]
      have := hF.2.2.mono (i := j) (j := i) (by omega) hi
      dsimp only
      omega
  · rw [List.length_set] at hj2
    rw [setL_ne (by omega)]
    exact hF.2.2.mono (by omega) hj2
theorem joiF_ok {F : Fm} {i : Nat} (hF : FOk F) (hi : i + 1 < F.2.2.length) (hl : (F.2.2.getD i dS).2.2.length + 1 + (F.2.2.getD (i + 1) dS).2.2.length ≤ 40) : FOk (joiF F i) := by
  have e : (F.2.2.set i (joiS (F.2.2.getD i dS) (F.2.2.getD (i + 1) dS))).eraseIdx (i + 1) = (F.2.2.eraseIdx (i + 1)).set i (joiS (F.2.2.getD i dS) (F.2.2.getD (i + 1) dS)) := by
    apply ext_d dS
    · rw [delL_len (by rw [List.length_set]; exact hi), List.length_set, List.length_set, delL_len hi]
    · intro j hj
      rw [delL_len (by rw [List.length_set]; exact hi), List.length_set] at hj
      by_cases q : j = i
      · subst q
        rw [delL_lt (by omega), setL_eq (by omega), setL_eq (by rw [delL_len hi]; omega)]
      · rw [setL_ne (p := i) (L := F.2.2.eraseIdx (i + 1)) q]
        by_cases w : j < i + 1
        · rw [delL_lt w, delL_lt w, setL_ne q]
        · rw [delL_ge (by omega), delL_ge (by omega), setL_ne (by omega)]
  unfold joiF
  rw [e]
  have h1 := hF.2.2.2.1 i (by omega)
  have h2 := hF.2.2.2.1 (i + 1) hi
  have h3 := hF.2.2.2.2 i hi
  refine ⟨hF.1, hF.2.1, setL_ok (delL_ok hF.2.2 hi) ⟨h1.1, ?_, h2.2.2.1, h1.2.2.2.join h2.2.2.2 hl⟩ (by rw [delL_len hi]; omega) (fun h => ?_) (fun h => ?_)⟩
  · unfold joiS
    have a := h1.2.1
    have b := h2.2.1
    dsimp only
    omega
  · rw [delL_lt (by omega)]
    have := hF.2.2.2.2 (i - 1) (by omega)
    rw [show i - 1 + 1 = i by omega] at this
    exact this
  · rw [delL_len hi] at h
    rw [delL_ge (by omega)]
    exact hF.2.2.2.2 (i + 1) (by omega)
theorem cutI_ok {L : List Int} {x : Int} (hL : CuOk L) (hl : L.length < 12) (hx : 1 ≤ x ∧ x ≤ 4999) (hn : ∀ i, i < L.length → L.getD i 0 ≠ x) : CuOk (insL L (cpos L x) x) := by
  obtain ⟨hp, h1, h2⟩ := CP_ex hL hn
  refine ⟨by rw [insL_len hp]; omega, fun i hi => ?_, fun i j hij hj => ?_⟩
  · rw [insL_len hp] at hi
    rcases Nat.lt_trichotomy i (cpos L x) with q | q | q
    · rw [insL_lt hp q]; exact hL.2.1 i (by omega)
    · rw [q, insL_eq hp]; exact hx
    · rw [insL_gt hp q]; exact hL.2.1 (i - 1) (by omega)
  · rw [insL_len hp] at hj
    rcases Nat.lt_trichotomy j (cpos L x) with q | q | q
    · rw [insL_lt hp (by omega), insL_lt hp q]; exact hL.2.2 i j hij (by omega)
    · rw [insL_lt hp (by omega), q, insL_eq hp]; exact h1 i (by omega)
    · rw [insL_gt hp q]
      rcases Nat.lt_trichotomy i (cpos L x) with w | w | w
      · rw [insL_lt hp w]; exact hL.2.2 i (j - 1) (by omega) (by omega)
      · rw [w, insL_eq hp]; exact h2 (j - 1) (by omega) (by omega)
      · rw [insL_gt hp w]; exact hL.2.2 (i - 1) (j - 1) (by omega) (by omega)
theorem cutD_ok {L : List Int} {p : Nat} (hL : CuOk L) (hp : p < L.length) : CuOk (L.eraseIdx p) := by
  refine ⟨by rw [delL_len hp]; have := hL.1; omega, fun i hi => ?_, fun i j hij hj => ?_⟩
  · rw [delL_len hp] at hi
    by_cases q : i < p
    · rw [delL_lt q]; exact hL.2.1 i (by omega)
    · rw [delL_ge (by omega)]; exact hL.2.1 (i + 1) (by omega)
  · rw [delL_len hp] at hj
    by_cases q : j < p
    · rw [delL_lt (by omega), delL_lt q]; exact hL.2.2 i j hij (by omega)
    · rw [delL_ge (p := p) (i := j) (by omega)]
      by_cases w : i < p
      · rw [delL_lt w]; exact hL.2.2 i (j + 1) (by omega) (by omega)
      · rw [delL_ge (by omega)]; exact hL.2.2 (i + 1) (j + 1) (by omega) (by omega)
