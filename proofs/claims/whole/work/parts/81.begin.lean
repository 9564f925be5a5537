theorem n12 (m k : Nat) : (12 : Int32) * nI m + nI k = nI (12 * m + k) := by
  show nI 12 * nI m + nI k = _
  rw [pk_mul, nI_add]
def pl0 (i : Nat) : Int32 := if i = 0 ∨ i = 3 then 65536 else 0
theorem plain_loop {m : Nat} (hm : m ≤ 1) : ∀ (fu k : Nat) (f : Nat → Int32), k ≤ 6 → 6 < k + fu → ∃ g : Nat → Int32, lp_X12_plain_2 (nI m) fu (nI k) f = some g ∧ (∀ i, k ≤ i → i < 6 → g (12 * m + i) = pl0 i) ∧ ∀ j, (j < 12 * m + k ∨ 12 * m + 6 ≤ j) → g j = f j := by
  intro fu
  induction fu with
  | zero => intro k f h1 h2; omega
  | succ fu ih =>
    intro k f h1 h2
    rw [lp_X12_plain_2]
    by_cases e : k = 6
    · subst e
      exact ⟨f, if_pos (by decide), fun i a b => by omega, fun j _ => rfl⟩
    · have hlt : k < 6 := by omega
      obtain ⟨g, hg, g1, g2⟩ := ih (k + 1) (upd f (12 * m + k) (pl0 k)) (by omega) (by omega)
      refine ⟨g, ?_, fun i a b => ?_, fun j hj => ?_⟩
      · rw [if_neg (show ¬ (6 : Int32) ≤ nI k from nI_ge (b := 6) hlt (by decide)), n12, inb_s (show 12 * m + k < 24 by omega) (by decide)]
        simp only [jn_s, gd_s, nm_s, nI_clamp (show 12 * m + k < 2 ^ 31 by omega), nI_1]
        rw [← hg]
        unfold pl0
        by_cases k0 : k = 0
        · subst k0
          rfl
        · rw [if_neg (show ¬ nI k = (0 : Int32) from nI_ne0 (by omega) (by omega))]
          by_cases k3 : k = 3
          · subst k3
            rfl
          · rw [if_neg (show ¬ nI k = (3 : Int32) from fun q => k3 ((nI_eq (b := 3) (by omega) (by decide)).mp q)), if_neg (show ¬ (k = 0 ∨ k = 3) from fun q => q.elim k0 k3)]
      · by_cases ei : i = k
        · subst ei
          rw [g2 _ (Or.inl (by omega))]
          exact pk_us
        · exact g1 i (by omega) b
      · rw [g2 j (by omega)]
        exact pk_un (by omega)
theorem plain_ok {m : Nat} (hm : m ≤ 1) (f : Nat → Int32) : ∃ g : Nat → Int32, m_X12_plain f (nI m) = some g ∧ (∀ i, i < 6 → g (12 * m + i) = pl0 i) ∧ ∀ j, (j < 12 * m ∨ 12 * m + 6 ≤ j) → g j = f j := by
  obtain ⟨g, hg, g1, g2⟩ := plain_loop hm FU 0 f (by omega) (by show 6 < 0 + 1000000; omega)
  exact ⟨g, hg, fun i hi => g1 i (by omega) hi, fun j hj => g2 j (by omega)⟩
theorem noPath_ok {m : Nat} (hm : m ≤ 1) (a b c : Nat → Int32) : m_X12_noPath a b c (nI m) = some (upd a m 0, upd b m (vp_nar .boolean 0), upd c m 0) := by
  unfold m_X12_noPath
  simp only [inb_s (show m < 2 by omega) (show 2 < 2 ^ 31 by decide), gd_s, nm_s, nI_clamp (show m < 2 ^ 31 by omega)]
theorem begin_ok {m : Nat} (hm : m ≤ 1) (wide tall : Int32) (told saves at_ points begun lines : Nat → Int32) : ∃ told' : Nat → Int32, m_X12_begin wide tall told saves at_ points begun lines (nI m) = some (told', upd saves m 0, upd at_ m 0, upd points m 0, upd begun m (vp_nar .boolean 0), upd lines m 0) ∧ R12 (12 * m) told' (-16777216) 0 65536 0 0 65536 0 0 0 0 wide tall ∧ ∀ j, (j < 12 * m ∨ 12 * m + 12 ≤ j) → told' j = told j := by
  obtain ⟨g, hg, g1, g2⟩ := plain_ok hm told
  have e6 : (12 : Int32) * nI m + 6 = nI (12 * m + 6) := n12 m 6
  have e7 : (12 : Int32) * nI m + 7 = nI (12 * m + 7) := n12 m 7
  have e8 : (12 : Int32) * nI m + 8 = nI (12 * m + 8) := n12 m 8
  have e9 : (12 : Int32) * nI m + 9 = nI (12 * m + 9) := n12 m 9
  have e10 : (12 : Int32) * nI m + 10 = nI (12 * m + 10) := n12 m 10
  have e11 : (12 : Int32) * nI m + 11 = nI (12 * m + 11) := n12 m 11
  refine ⟨upd (upd (upd (upd (upd (upd g (12 * m + 6) 0) (12 * m + 7) 0) (12 * m + 8) wide) (12 * m + 9) tall) (12 * m + 10) (-16777216)) (12 * m + 11) 0, ?_, ?_, ?_⟩
  · unfold m_X12_begin
    rw [hg]
    simp only [bd1_s, e6, e7, e8, e9, e10, e11, inb_s (show 12 * m + 6 < 24 by omega) (show 24 < 2 ^ 31 by decide), inb_s (show 12 * m + 7 < 24 by omega) (show 24 < 2 ^ 31 by decide), inb_s (show 12 * m + 8 < 24 by omega) (show 24 < 2 ^ 31 by decide), inb_s (show 12 * m + 9 < 24 by omega) (show 24 < 2 ^ 31 by decide), inb_s (show 12 * m + 10 < 24 by omega) (show 24 < 2 ^ 31 by decide), inb_s (show 12 * m + 11 < 24 by omega) (show 24 < 2 ^ 31 by decide), inb_s (show m < 2 by omega) (show 2 < 2 ^ 31 by decide), gd_s, nm_s, nI_clamp (show 12 * m + 6 < 2 ^ 31 by omega), nI_clamp (show 12 * m + 7 < 2 ^ 31 by omega), nI_clamp (show 12 * m + 8 < 2 ^ 31 by omega), nI_clamp (show 12 * m + 9 < 2 ^ 31 by omega), nI_clamp (show 12 * m + 10 < 2 ^ 31 by omega), nI_clamp (show 12 * m + 11 < 2 ^ 31 by omega), nI_clamp (show m < 2 ^ 31 by omega), noPath_ok hm, bd3_s]
  · have h0 := g1 0 (by omega)
    have h1 := g1 1 (by omega)
    have h2 := g1 2 (by omega)
    have h3 := g1 3 (by omega)
    have h4 := g1 4 (by omega)
    have h5 := g1 5 (by omega)
    unfold R12
    refine ⟨?_, ?_, ?_, ?_, ?_, ?_, ?_, ?_, ?_, ?_, ?_, ?_⟩ <;> simp [upd, h1, h2, h3, h4, h5, pl0] <;> (rw [Nat.add_zero] at h0; rw [h0]; rfl)
  · intro j hj
    rw [pk_un (by omega), pk_un (by omega), pk_un (by omega), pk_un (by omega), pk_un (by omega), pk_un (by omega), g2 j (by omega)]
theorem bnd_congr {f g : Nat → Int32} {p : Nat} : ∀ (k : Nat), (∀ i, i ≤ k → f (p + i) = g (p + i)) → bnd f p k = bnd g p k := by
  intro k
  induction k with
  | zero => intro _; rfl
  | succ k ih =>
    intro h
    have h0 := h 0 (by omega)
    rw [Nat.add_zero] at h0
    simp only [bnd, ih (fun i hi => h i (by omega)), h0, h (k + 1) (Nat.le_refl _)]
theorem vr_congr {f g : Nat → Int32} {n : Nat} (h : ∀ j, j < n → f j = g j) : ∀ (fu p o k : Nat) (b : Bool), vr f n fu p o k b = vr g n fu p o k b := by
  intro fu
  induction fu with
  | zero => intros; rfl
  | succ fu ih =>
    intro p o k b
    rw [vr, vr]
    by_cases h1 : n ≤ p
    · rw [if_pos h1, if_pos h1]
    rw [if_neg h1, if_neg h1, h p (by omega)]
    by_cases h2 : g p < 1 ∨ 14 < g p
    · rw [if_pos h2, if_pos h2]
    rw [if_neg h2, if_neg h2]
    by_cases h3 : n < p + cl (g p)
    · rw [if_pos h3, if_pos h3]
    rw [if_neg h3, if_neg h3]
    have hcg := cl_ge (g p)
    rw [bnd_congr (g := g) (cl (g p) - 1) (fun i hi => h _ (by omega))]
    by_cases h4 : bnd g p (cl (g p) - 1) = false
    · rw [if_pos h4, if_pos h4]
    rw [if_neg h4, if_neg h4]
    generalize ord (g p) o k b = q
    obtain ⟨a, x, y, z⟩ := q
    cases a with
    | zero => exact ih _ _ _ _
    | succ a => rfl
theorem vfault_congr {f g : Nat → Int32} {n : Nat} (h : ∀ j, j < n → f j = g j) : vfault f n = vfault g n ∧ vplace f n = vplace g n := by
  unfold vfault vplace
  rw [vr_congr h]
  exact ⟨rfl, rfl⟩
