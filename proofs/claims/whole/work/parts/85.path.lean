theorem i_le {a b : Int32} : a ≤ b ↔ a.toInt ≤ b.toInt := Int32.le_iff_toInt_le
theorem i_lt {a b : Int32} : a < b ↔ a.toInt < b.toInt := Int32.lt_iff_toInt_lt
theorem mn_le (np : Nat) (l x : Int32) : mn np l x ≤ x ∧ (0 < np → mn np l x ≤ l) := by
  unfold mn
  by_cases h : np = 0
  · rw [if_pos h]
    exact ⟨i_le.mpr (Int.le_refl _), fun q => by omega⟩
  · rw [if_neg h]
    by_cases q : x < l
    · rw [if_pos q]
      exact ⟨i_le.mpr (Int.le_refl _), fun _ => i_le.mpr (by have := i_lt.mp q; omega)⟩
    · rw [if_neg q]
      exact ⟨Int32.not_lt.mp q, fun _ => i_le.mpr (Int.le_refl _)⟩
theorem mx_ge (np : Nat) (g x : Int32) : x ≤ mx np g x ∧ (0 < np → g ≤ mx np g x) := by
  unfold mx
  by_cases h : np = 0
  · rw [if_pos h]
    exact ⟨i_le.mpr (Int.le_refl _), fun q => by omega⟩
  · rw [if_neg h]
    by_cases q : g < x
    · rw [if_pos q]
      exact ⟨i_le.mpr (Int.le_refl _), fun _ => i_le.mpr (by have := i_lt.mp q; omega)⟩
    · rw [if_neg q]
      exact ⟨Int32.not_lt.mp q, fun _ => i_le.mpr (Int.le_refl _)⟩
theorem mn_in {np : Nat} {l : Int32} {f : Nat → Int32} (X : Int32) (h : 0 < np → ∃ j, j < np ∧ l = f j) : ∃ j, j < np + 1 ∧ mn np l X = (upd f np X) j := by
  unfold mn
  by_cases e : np = 0
  · rw [if_pos e]
    exact ⟨np, by omega, pk_us.symm⟩
  · rw [if_neg e]
    by_cases q : X < l
    · rw [if_pos q]
      exact ⟨np, by omega, pk_us.symm⟩
    · rw [if_neg q]
      obtain ⟨j, hj, hl⟩ := h (by omega)
      exact ⟨j, by omega, by rw [pk_un (by omega)]; exact hl⟩
theorem mx_in {np : Nat} {g : Int32} {f : Nat → Int32} (X : Int32) (h : 0 < np → ∃ j, j < np ∧ g = f j) : ∃ j, j < np + 1 ∧ mx np g X = (upd f np X) j := by
  unfold mx
  by_cases e : np = 0
  · rw [if_pos e]
    exact ⟨np, by omega, pk_us.symm⟩
  · rw [if_neg e]
    by_cases q : g < X
    · rw [if_pos q]
      exact ⟨np, by omega, pk_us.symm⟩
    · rw [if_neg q]
      obtain ⟨j, hj, hl⟩ := h (by omega)
      exact ⟨j, by omega, by rw [pk_un (by omega)]; exact hl⟩
theorem i_tr {a b c : Int32} (h1 : a ≤ b) (h2 : b ≤ c) : a ≤ c := i_le.mpr (by have := i_le.mp h1; have := i_le.mp h2; omega)
theorem pts_add {m np : Nat} {xs ys bg px py begins : Nat → Int32} {X Y Z : Int32} (h : ∀ j, j < np → xs j = px (1000 * m + j) ∧ ys j = py (1000 * m + j) ∧ bg j = begins (1000 * m + j) ∧ small (xs j) ∧ small (ys j)) (hX : small X) (hY : small Y) : ∀ j, j < np + 1 → (upd xs np X) j = (upd px (1000 * m + np) X) (1000 * m + j) ∧ (upd ys np Y) j = (upd py (1000 * m + np) Y) (1000 * m + j) ∧ (upd bg np Z) j = (upd begins (1000 * m + np) Z) (1000 * m + j) ∧ small ((upd xs np X) j) ∧ small ((upd ys np Y) j) := by
  intro j hj
  by_cases e : j = np
  · subst e
    rw [pk_us, pk_us, pk_us, pk_us, pk_us, pk_us]
    exact ⟨rfl, rfl, rfl, hX, hY⟩
  · rw [pk_un e, pk_un e, pk_un e, pk_un (show 1000 * m + j ≠ 1000 * m + np by omega), pk_un (show 1000 * m + j ≠ 1000 * m + np by omega), pk_un (show 1000 * m + j ≠ 1000 * m + np by omega)]
    exact h j (by omega)
theorem bb_add {np : Nat} {lx ly gy X Y : Int32} {xs ys : Nat → Int32} (h : 0 < np → (∀ j, j < np → lx ≤ xs j ∧ ly ≤ ys j ∧ ys j ≤ gy) ∧ (∃ j, j < np ∧ lx = xs j) ∧ (∃ j, j < np ∧ ly = ys j) ∧ (∃ j, j < np ∧ gy = ys j)) :
    (∀ j, j < np + 1 → mn np lx X ≤ (upd xs np X) j ∧ mn np ly Y ≤ (upd ys np Y) j ∧ (upd ys np Y) j ≤ mx np gy Y) ∧ (∃ j, j < np + 1 ∧ mn np lx X = (upd xs np X) j) ∧ (∃ j, j < np + 1 ∧ mn np ly Y = (upd ys np Y) j) ∧ (∃ j, j < np + 1 ∧ mx np gy Y = (upd ys np Y) j) := by
  refine ⟨fun j hj => ?_, mn_in X (fun q => (h q).2.1), mn_in Y (fun q => (h q).2.2.1), mx_in Y (fun q => (h q).2.2.2)⟩
  by_cases e : j = np
  · subst e
    rw [pk_us, pk_us]
    exact ⟨(mn_le _ _ _).1, (mn_le _ _ _).1, (mx_ge _ _ _).1⟩
  · rw [pk_un e, pk_un e]
    have hn : 0 < np := by omega
    obtain ⟨h1, h2, h3⟩ := (h hn).1 j (by omega)
    exact ⟨i_tr ((mn_le _ _ _).2 hn) h1, i_tr ((mn_le _ _ _).2 hn) h2, i_tr h3 ((mx_ge _ _ _).2 hn)⟩
theorem RPath.begin {m np nl : Nat} {points lines first ftx fty ltx lty lx ly gy : Int32} {xs ys bg rpoints px py begins rlines lastX lastY startX startY startPoint : Nat → Int32} (h : RPath m np nl points lines first ftx fty ltx lty lx ly gy xs ys bg rpoints px py begins rlines lastX lastY startX startY startPoint) (hn : np < 800) (x y X Y Z : Int32) (hX : small X) (hY : small Y) :
    RPath m (np + 1) nl (nI (np + 1)) lines (nI np) x y x y (mn np lx X) (mn np ly Y) (mx np gy Y) (upd xs np X) (upd ys np Y) (upd bg np Z) (upd rpoints m (nI (np + 1))) (upd px (1000 * m + np) X) (upd py (1000 * m + np) Y) (upd begins (1000 * m + np) Z) rlines (upd lastX m x) (upd lastY m y) (upd startX m x) (upd startY m y) (upd startPoint m (nI (1000 * m + np))) := by
  obtain ⟨e1, e2, e3, e4, e5, e6, hp, hb⟩ := h
  refine ⟨rfl, pk_us, by omega, e4, e5, e6, pts_add hp hX hY, fun _ => ⟨⟨np, by omega, rfl, pk_us⟩, pk_us.symm, pk_us.symm, pk_us.symm, pk_us.symm, bb_add (fun q => (hb q).2.2.2.2.2)⟩⟩
theorem RPath.line {m np nl : Nat} {points lines first ftx fty ltx lty lx ly gy : Int32} {xs ys bg rpoints px py begins rlines lastX lastY startX startY startPoint : Nat → Int32} (h : RPath m np nl points lines first ftx fty ltx lty lx ly gy xs ys bg rpoints px py begins rlines lastX lastY startX startY startPoint) (h0 : 0 < np) (hn : np < 800) (hl : nl + 1 ≤ 300) (x y X Y Z : Int32) (hX : small X) (hY : small Y) :
    RPath m (np + 1) (nl + 1) (nI (np + 1)) (lines + 1) first ftx fty x y (mn np lx X) (mn np ly Y) (mx np gy Y) (upd xs np X) (upd ys np Y) (upd bg np Z) (upd rpoints m (nI (np + 1))) (upd px (1000 * m + np) X) (upd py (1000 * m + np) Y) (upd begins (1000 * m + np) Z) (upd rlines m (rlines m + 1)) (upd lastX m x) (upd lastY m y) startX startY startPoint := by
  obtain ⟨e1, e2, e3, e4, e5, e6, hp, hb⟩ := h
  obtain ⟨⟨q, hq, hf, hsp⟩, h1, h2, h3, h4, h5⟩ := hb h0
  refine ⟨rfl, pk_us, by omega, by rw [e4, nI_1], by rw [pk_us, e5, nI_1], hl, pts_add hp hX hY, fun _ => ⟨⟨q, by omega, hf, hsp⟩, h1, h2, pk_us.symm, pk_us.symm, bb_add (fun q => (hb q).2.2.2.2.2)⟩⟩
