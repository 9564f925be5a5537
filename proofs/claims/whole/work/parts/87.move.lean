theorem R12.cp {a b : Nat} {f g : Nat → Int32} {co wa A B C D E F x y u v : Int32} (h : R12 a f co wa A B C D E F x y u v) (e : ∀ j, j < 12 → g (b + j) = f (a + j)) : R12 b g co wa A B C D E F x y u v := by
  obtain ⟨h0, h1, h2, h3, h4, h5, h6, h7, h8, h9, h10, h11⟩ := h
  exact ⟨(e 0 (by omega)).trans h0, (e 1 (by omega)).trans h1, (e 2 (by omega)).trans h2, (e 3 (by omega)).trans h3, (e 4 (by omega)).trans h4, (e 5 (by omega)).trans h5, (e 6 (by omega)).trans h6, (e 7 (by omega)).trans h7, (e 8 (by omega)).trans h8, (e 9 (by omega)).trans h9, (e 10 (by omega)).trans h10, (e 11 (by omega)).trans h11⟩
theorem rmoveS (a b : Nat) (ha : a + 12 ≤ 24) (hb : b + 12 ≤ 192) (f1 : Nat → Int32) : ∀ (d i N : Nat) (f2 : Nat → Int32), i + d = 12 → d < N → ∃ g : Nat → Int32, lp_X12_move_3 1 (nI a) (nI b) N (nI i) f1 f2 = some (f1, g) ∧ (∀ j, i ≤ j → j < 12 → g (b + j) = f1 (a + j)) ∧ (∀ k, (k < b + i ∨ b + 12 ≤ k) → g k = f2 k) := by
  intro d
  induction d with
  | zero =>
    intro i N f2 hi hN
    obtain ⟨N, rfl⟩ : ∃ k, N = k + 1 := ⟨N - 1, by omega⟩
    obtain rfl : i = 12 := by omega
    refine ⟨f2, ?_, fun j h1 h2 => by omega, fun k _ => rfl⟩
    rw [lp_X12_move_3]
    exact if_pos (by decide)
  | succ d ih =>
    intro i N f2 hi hN
    obtain ⟨N, rfl⟩ : ∃ k, N = k + 1 := ⟨N - 1, by omega⟩
    obtain ⟨g, hg, h1, h2⟩ := ih (i + 1) N (upd f2 (b + i) (f1 (a + i))) (by omega) (by omega)
    refine ⟨g, ?_, fun j q1 q2 => ?_, fun k hk => ?_⟩
    · rw [lp_X12_move_3, if_neg (show ¬ (12 : Int32) ≤ nI i from nI_ge (b := 12) (show i < 12 by omega) (by decide))]
      simp only [jn_s, show ¬ (1 : Int32) = 0 by decide, if_false, nI_add, inb_s (show a + i < 24 by omega) (show 24 < 2 ^ 31 by decide), inb_s (show b + i < 192 by omega) (show 192 < 2 ^ 31 by decide), gd_s, nm_s, nI_clamp (show a + i < 2 ^ 31 by omega), nI_clamp (show b + i < 2 ^ 31 by omega), nI_1]
      exact hg
    · by_cases e : j = i
      · subst e
        rw [h2 (b + j) (Or.inl (by omega)), pk_us]
      · exact h1 j (by omega) q2
    · rw [h2 k (by omega), pk_un (by omega)]
theorem rmoveB (a b : Nat) (ha : a + 12 ≤ 192) (hb : b + 12 ≤ 24) (f2 : Nat → Int32) : ∀ (d i N : Nat) (f1 : Nat → Int32), i + d = 12 → d < N → ∃ g : Nat → Int32, lp_X12_move_3 0 (nI a) (nI b) N (nI i) f1 f2 = some (g, f2) ∧ (∀ j, i ≤ j → j < 12 → g (b + j) = f2 (a + j)) ∧ (∀ k, (k < b + i ∨ b + 12 ≤ k) → g k = f1 k) := by
  intro d
  induction d with
  | zero =>
    intro i N f1 hi hN
    obtain ⟨N, rfl⟩ : ∃ k, N = k + 1 := ⟨N - 1, by omega⟩
    obtain rfl : i = 12 := by omega
    refine ⟨f1, ?_, fun j h1 h2 => by omega, fun k _ => rfl⟩
    rw [lp_X12_move_3]
    exact if_pos (by decide)
  | succ d ih =>
    intro i N f1 hi hN
    obtain ⟨N, rfl⟩ : ∃ k, N = k + 1 := ⟨N - 1, by omega⟩
    obtain ⟨g, hg, h1, h2⟩ := ih (i + 1) N (upd f1 (b + i) (f2 (a + i))) (by omega) (by omega)
    refine ⟨g, ?_, fun j q1 q2 => ?_, fun k hk => ?_⟩
    · rw [lp_X12_move_3, if_neg (show ¬ (12 : Int32) ≤ nI i from nI_ge (b := 12) (show i < 12 by omega) (by decide))]
      simp only [jn_s, if_true, nI_add, inb_s (show a + i < 192 by omega) (show 192 < 2 ^ 31 by decide), inb_s (show b + i < 24 by omega) (show 24 < 2 ^ 31 by decide), gd_s, nm_s, nI_clamp (show a + i < 2 ^ 31 by omega), nI_clamp (show b + i < 2 ^ 31 by omega), nI_1]
      exact hg
    · by_cases e : j = i
      · subst e
        rw [h2 (b + j) (Or.inl (by omega)), pk_us]
      · exact h1 j (by omega) q2
    · rw [h2 k (by omega), pk_un (by omega)]
theorem rsave_ok {m no : Nat} (hm : m ≤ 1) (hn : no < 8) (told saved : Nat → Int32) : ∃ g : Nat → Int32, m_X12_move told saved (12 * nI m) (12 * (8 * nI m + nI no)) 1 = some (told, g) ∧ (∀ j, j < 12 → g (12 * (8 * m + no) + j) = told (12 * m + j)) ∧ (∀ k, (k < 12 * (8 * m + no) ∨ 12 * (8 * m + no) + 12 ≤ k) → g k = saved k) := by
  have t0 : (12 : Int32) * nI m = nI (12 * m) := pk_mul 12 m
  have t1 : (8 : Int32) * nI m = nI (8 * m) := pk_mul 8 m
  have t2 : (12 : Int32) * nI (8 * m + no) = nI (12 * (8 * m + no)) := pk_mul 12 _
  obtain ⟨g, h, h1, h2⟩ := rmoveS (12 * m) (12 * (8 * m + no)) (by omega) (by omega) told 12 0 FU saved (by omega) (by decide)
  refine ⟨g, ?_, fun j hj => h1 j (by omega) hj, h2⟩
  unfold m_X12_move
  rw [t0, t1, nI_add, t2]
  exact h
theorem rback_ok {m no : Nat} (hm : m ≤ 1) (hn : no < 8) (told saved : Nat → Int32) : ∃ g : Nat → Int32, m_X12_move told saved (12 * (8 * nI m + nI no)) (12 * nI m) 0 = some (g, saved) ∧ (∀ j, j < 12 → g (12 * m + j) = saved (12 * (8 * m + no) + j)) ∧ (∀ k, (k < 12 * m ∨ 12 * m + 12 ≤ k) → g k = told k) := by
  have t0 : (12 : Int32) * nI m = nI (12 * m) := pk_mul 12 m
  have t1 : (8 : Int32) * nI m = nI (8 * m) := pk_mul 8 m
  have t2 : (12 : Int32) * nI (8 * m + no) = nI (12 * (8 * m + no)) := pk_mul 12 _
  obtain ⟨g, h, h1, h2⟩ := rmoveB (12 * (8 * m + no)) (12 * m) (by omega) (by omega) saved 12 0 FU told (by omega) (by decide)
  refine ⟨g, ?_, fun j hj => h1 j (by omega) hj, h2⟩
  unfold m_X12_move
  rw [t0, t1, nI_add, t2]
  exact h
