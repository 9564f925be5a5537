def hld (v : Int64) : Int32 := if 0 ≤ lg_cmp v (-1073741824) then (if lg_cmp v 1073741824 ≤ 0 then v.toInt32 else 1073741824) else (-1073741824)
theorem rheld (v : Int64) : m_X12_held v = some (hld v) := by
  unfold m_X12_held hld
  by_cases h1 : 0 ≤ lg_cmp v (-1073741824)
  · rw [if_pos h1, if_pos h1]
    by_cases h2 : lg_cmp v 1073741824 ≤ 0
    · rw [if_pos h2, if_pos h2]
    · rw [if_neg h2, if_neg h2]
  · rw [if_neg h1, if_neg h1]
theorem lc_le (x y : Int64) : lg_cmp x y ≤ 0 ↔ x.toInt ≤ y.toInt := by
  unfold lg_cmp
  by_cases h1 : y < x
  · have h1' := Int64.lt_iff_toInt_lt.mp h1
    simp only [h1, if_true]
    exact ⟨fun h => absurd h (by decide), fun h => by omega⟩
  · have h1' : ¬ y.toInt < x.toInt := fun h => h1 (Int64.lt_iff_toInt_lt.mpr h)
    simp only [h1, if_false]
    refine ⟨fun _ => by omega, fun _ => ?_⟩
    split <;> decide
theorem lc_ge (x y : Int64) : 0 ≤ lg_cmp x y ↔ y.toInt ≤ x.toInt := by
  unfold lg_cmp
  by_cases h1 : y < x
  · have h1' := Int64.lt_iff_toInt_lt.mp h1
    simp only [h1, if_true]
    exact ⟨fun _ => by omega, fun _ => by decide⟩
  · have h1' : ¬ y.toInt < x.toInt := fun h => h1 (Int64.lt_iff_toInt_lt.mpr h)
    simp only [h1, if_false]
    by_cases h2 : x = y
    · subst h2
      simp
    · have h2' : x.toInt ≠ y.toInt := fun h => h2 (Int64.toInt_inj.mp h)
      simp only [h2, if_false]
      exact ⟨fun h => absurd h (by decide), fun h => by omega⟩
theorem cheld (v : Int64) : m_X9_held v = some (hld v) := by
  unfold m_X9_held hld
  by_cases h1 : lg_cmp v 1073741824 ≤ 0
  · rw [if_pos h1]
    by_cases h2 : 0 ≤ lg_cmp v (-1073741824)
    · rw [if_pos h2, if_pos h2, if_pos h1]
    · rw [if_neg h2, if_neg h2]
  · have h2 : 0 ≤ lg_cmp v (-1073741824) := by
      rw [lc_le] at h1
      rw [lc_ge]
      have e1 : (1073741824 : Int64).toInt = 1073741824 := by decide
      have e2 : (-1073741824 : Int64).toInt = -1073741824 := by decide
      omega
    rw [if_neg h1, if_pos h2, if_neg h1]
theorem hld_small (v : Int64) : small (hld v) := by
  unfold hld small
  by_cases h1 : 0 ≤ lg_cmp v (-1073741824)
  · rw [if_pos h1]
    by_cases h2 : lg_cmp v 1073741824 ≤ 0
    · rw [if_pos h2]
      rw [lc_le] at h2
      rw [lc_ge] at h1
      have e1 : (1073741824 : Int64).toInt = 1073741824 := by decide
      have e2 : (-1073741824 : Int64).toInt = -1073741824 := by decide
      rw [e1] at h2
      rw [e2] at h1
      have e3 : v.toInt32.toInt = v.toInt := by
        rw [Int64.toInt_toInt32]
        apply Int.bmod_eq_of_le <;> omega
      rw [e3]
      exact ⟨h1, h2⟩
    · rw [if_neg h2]
      decide
  · rw [if_neg h1]
    decide
def snd (a c e x y : Int32) : Int32 := hld ((((a.toInt64 * x.toInt64) + (c.toInt64 * y.toInt64) + 32768) >>> ((16 : Int32).toInt64 &&& 63)) + e.toInt64)
theorem sendX_ok (a c e x y : Int32) : m_X9_sendX a c e x y = some (snd a c e x y) := by
  unfold m_X9_sendX m_X9_rounded
  simp only [bd1_s, cheld]
  rfl
theorem sendY_ok (b d f x y : Int32) : m_X9_sendY b d f x y = some (snd b d f x y) := by
  unfold m_X9_sendY m_X9_rounded
  simp only [bd1_s, cheld]
  rfl
def mn (np : Nat) (l x : Int32) : Int32 := if np = 0 then x else if x < l then x else l
def mx (np : Nat) (g x : Int32) : Int32 := if np = 0 then x else if g < x then x else g
theorem addPoint_ok {np : Nat} (h : np < 800) (lx ly gy : Int32) (xs ys bg : Nat → Int32) (X Y z : Int32) : m_X5_addPoint (nI np) lx ly gy xs ys bg X Y z = some (nI (np + 1), mn np lx X, mn np ly Y, mx np gy Y, upd xs np X, upd ys np Y, upd bg np (vp_nar .boolean z)) := by
  unfold m_X5_addPoint mn mx
  rw [if_pos (show nI np < (800 : Int32) from nI_lt (b := 800) h (by decide))]
  simp only [jn_s, nm_s, inb_s h (show 800 < 2 ^ 31 by decide), gd_s, nI_clamp (show np < 2 ^ 31 by omega), nI_1]
  by_cases h0 : np = 0
  · subst h0
    rfl
  · have h0' : ¬ nI np = (0 : Int32) := nI_ne0 (by omega) (by omega)
    simp only [h0, h0', if_false]
theorem n1000 (m k : Nat) : (1000 : Int32) * nI m + nI k = nI (1000 * m + k) := by
  show nI 1000 * nI m + nI k = _
  rw [pk_mul, nI_add]
theorem rpoint_ok {m np : Nat} (hm : m ≤ 1) (hn : np < 900) {points told : Nat → Int32} (hp : points m = nI np) (px py begins startX startY startPoint begun lines lastX lastY : Nat → Int32) (x y z : Int32) :
    m_X12_point points told px py begins startX startY startPoint begun lines lastX lastY (nI m) x y z = some (upd points m (nI (np + 1)), upd px (1000 * m + np) (snd (told (12 * m)) (told (12 * m + 2)) (told (12 * m + 4)) x y), upd py (1000 * m + np) (snd (told (12 * m + 1)) (told (12 * m + 3)) (told (12 * m + 5)) x y), upd begins (1000 * m + np) (vp_nar .boolean z), (if z = 0 then startX else upd startX m x), (if z = 0 then startY else upd startY m y), (if z = 0 then startPoint else upd startPoint m (nI (1000 * m + np))), (if z = 0 then begun else upd begun m (vp_nar .boolean 1)), (if z = 0 then upd lines m (lines m + 1) else lines), upd lastX m x, upd lastY m y) := by
  have t0 : (12 : Int32) * nI m = nI (12 * m) := pk_mul 12 m
  have t1 : nI (12 * m) + 1 = nI (12 * m + 1) := nI_add (12 * m) 1
  have t2 : nI (12 * m) + 2 = nI (12 * m + 2) := nI_add (12 * m) 2
  have t3 : nI (12 * m) + 3 = nI (12 * m + 3) := nI_add (12 * m) 3
  have t4 : nI (12 * m) + 4 = nI (12 * m + 4) := nI_add (12 * m) 4
  have t5 : nI (12 * m) + 5 = nI (12 * m + 5) := nI_add (12 * m) 5
  have i24 : ∀ k, k < 24 → inb (nI k) 24 = true := fun k hk => inb_s hk (by decide)
  have c24 : ∀ k, k < 24 → (nI k).toNatClampNeg = k := fun k hk => nI_clamp (by omega)
  unfold m_X12_point m_X12_rounded
  simp only [nm_s, inb_s (show m < 2 by omega) (show 2 < 2 ^ 31 by decide), gd_s, nI_clamp (show m < 2 ^ 31 by omega), hp, n1000, t0, t1, t2, t3, t4, t5, i24 (12 * m) (by omega), i24 (12 * m + 1) (by omega), i24 (12 * m + 2) (by omega), i24 (12 * m + 3) (by omega), i24 (12 * m + 4) (by omega), i24 (12 * m + 5) (by omega), c24 (12 * m) (by omega), c24 (12 * m + 1) (by omega), c24 (12 * m + 2) (by omega), c24 (12 * m + 3) (by omega), c24 (12 * m + 4) (by omega), c24 (12 * m + 5) (by omega), bd1_s, rheld, inb_s (show 1000 * m + np < 2000 by omega) (show 2000 < 2 ^ 31 by decide), nI_clamp (show 1000 * m + np < 2 ^ 31 by omega), jn_s, nI_1]
  by_cases hz : z = 0
  · simp only [hz, if_true]
    rfl
  · simp only [hz, if_false]
    rfl
