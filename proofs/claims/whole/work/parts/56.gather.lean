/-! ===== a world gathered from the cells that the constructors made, in whatever order ===== -/
theorem ws_P {D : va_G} {cl : List vw_C} {ws : va_W} {H : Heap} {E : En} {G : Wd} (hP : va_P D cl ws H) (ix : Nat → Nat) (h : ∀ c, c < 278 → ws[ix c]? = some (E.1 c, cont E G c)) : va_P D cl (ws_ E G) H := fun k q hq => by
  by_cases hk : k < 278
  · rw [ws_get E G hk] at hq
    cases hq
    exact hP (ix k) _ (h k hk)
  · rw [List.getElem?_eq_none (by rw [ws_len]; omega)] at hq
    cases hq
theorem ws_inj {A : Nat → Prop} {ws : va_W} {E : En} {G : Wd} (hD : va_D A ws) (ix : Nat → Nat) (h : ∀ c, c < 278 → ws[ix c]? = some (E.1 c, cont E G c)) (hi : ∀ c c', c < 278 → c' < 278 → ix c = ix c' → c = c') : EOk E :=
  fun c c' h1 h2 e => hi c c' h1 h2 (hD.1 _ _ _ _ (h c h1) (h c' h2) e)
