def tt (f : Nat → Int32) : Nat → Nat → Int32 → Int32
  | 0, _, s => s
  | k + 1, i, s => tt f k (i + 1) (31 * s + f i)
theorem tt_add (f : Nat → Int32) : ∀ (a b i : Nat) (s : Int32), tt f (a + b) i s = tt f b (i + a) (tt f a i s) := by
  intro a
  induction a with
  | zero => intro b i s; rw [Nat.zero_add, Nat.add_zero]; rfl
  | succ a ih =>
    intro b i s
    rw [show a + 1 + b = (a + b) + 1 by omega]
    show tt f (a + b) (i + 1) (31 * s + f i) = _
    rw [ih]
    show tt f b (i + 1 + a) (tt f a (i + 1) (31 * s + f i)) = tt f b (i + (a + 1)) (tt f a (i + 1) (31 * s + f i))
    rw [show i + 1 + a = i + (a + 1) by omega]
theorem tt_congr (f g : Nat → Int32) : ∀ (k i j : Nat) (s : Int32), (∀ x, x < k → f (i + x) = g (j + x)) → tt f k i s = tt g k j s := by
  intro k
  induction k with
  | zero => intro i j s _; rfl
  | succ k ih =>
    intro i j s h
    show tt f k (i + 1) (31 * s + f i) = tt g k (j + 1) (31 * s + g j)
    have h0 := h 0 (by omega)
    rw [Nat.add_zero, Nat.add_zero] at h0
    rw [h0]
    refine ih (i + 1) (j + 1) _ (fun x hx => ?_)
    have := h (x + 1) (by omega)
    rwa [show i + 1 + x = i + (x + 1) by omega, show j + 1 + x = j + (x + 1) by omega]
theorem total_loop (f : Nat → Int32) (N : Nat) (hN : N ≤ 1024) : ∀ (n i : Nat) (s : Int32), i ≤ N → N < i + n → lp_X7_total_4 N f n s (nI i) = some (tt f (N - i) i s) := by
  intro n
  induction n with
  | zero => intro i s h1 h2; omega
  | succ n ih =>
    intro i s h1 h2
    rw [lp_X7_total_4]
    by_cases e : i = N
    · subst e
      rw [if_pos (show Int32.ofNat i ≤ nI i from nI_le (Nat.le_refl _) (by omega)), Nat.sub_self]
      rfl
    · have hlt : i < N := by omega
      rw [if_neg (show ¬ Int32.ofNat N ≤ nI i from nI_ge hlt (by omega)), inb_s hlt (by omega)]
      simp only [gd_s, nm_s, nI_clamp (show i < 2 ^ 31 by omega), nI_1]
      rw [ih (i + 1) _ (by omega) (by omega), show N - i = (N - (i + 1)) + 1 by omega]
      rfl
theorem rsum_in {W y : Nat} (hW : W ≤ 32) (hy : y < 32) (sh : Nat → Int32) (K : Int32 → Option Int32) : ∀ (n x : Nat) (s : Int32), x ≤ W → W < x + n → lp_X12_sum_14 (nI W) K (nI y) sh n s (nI x) = K (tt (fun x => sh (32 * y + x)) (W - x) x s) := by
  intro n
  induction n with
  | zero => intro x s h1 h2; omega
  | succ n ih =>
    intro x s h1 h2
    rw [lp_X12_sum_14]
    by_cases e : x = W
    · subst e
      rw [if_pos (nI_le (Nat.le_refl _) (by omega)), Nat.sub_self]
      rfl
    · have hlt : x < W := by omega
      rw [if_neg (nI_ge hlt (by omega)), nI_32, inb_s (show 32 * y + x < 1024 by omega) (by omega)]
      simp only [gd_s, nm_s, nI_clamp (show 32 * y + x < 2 ^ 31 by omega), nI_1]
      rw [ih (x + 1) _ (by omega) (by omega), show W - x = (W - (x + 1)) + 1 by omega]
      rfl
theorem rsum_out {W H : Nat} (hW : W ≤ 32) (hH : H ≤ 32) (sh px : Nat → Int32) (hp : ∀ y, y < H → ∀ x, x < W → px (y * W + x) = sh (32 * y + x)) : ∀ (n y : Nat) (s : Int32), y ≤ H → H < y + n → lp_X12_sum_4 (nI H) (nI W) sh n s (nI y) = some (tt px ((H - y) * W) (y * W) s) := by
  intro n
  induction n with
  | zero => intro y s h1 h2; omega
  | succ n ih =>
    intro y s h1 h2
    rw [lp_X12_sum_4]
    by_cases e : y = H
    · subst e
      rw [if_pos (nI_le (Nat.le_refl _) (by omega)), Nat.sub_self, Nat.zero_mul]
      rfl
    · have hlt : y < H := by omega
      rw [if_neg (nI_ge hlt (by omega))]
      simp only [jn_s]
      rw [show lp_X12_sum_14 (nI W) _ (nI y) sh FU s 0 = _ from rsum_in hW (by omega) sh _ FU 0 s (by omega) (by show W < 0 + 1000000; omega)]
      simp only [nm_s, nI_1]
      rw [ih (y + 1) _ (by omega) (by omega), show (H - y) * W = W + (H - (y + 1)) * W by rw [show H - y = (H - (y + 1)) + 1 by omega, Nat.succ_mul, Nat.add_comm], tt_add, Nat.sub_zero, show (y + 1) * W = y * W + W by rw [Nat.succ_mul]]
      rw [tt_congr px (fun x => sh (32 * y + x)) W (y * W) 0 s (fun x hx => by rw [Nat.zero_add]; exact hp y hlt x hx)]
theorem sum_eq {w h : Int32} {np : Nat} {px : Nat → Int32} {wide tall : Int32} {sh : Nat → Int32} (hR : RSheet w h np px wide tall sh) : ∃ r : Int32, m_X11_sum np px = some r ∧ m_X12_sum wide tall sh = some r := by
  obtain ⟨W, H, hW1, hW, hH1, hH, rfl, rfl, rfl, rfl, rfl, hp⟩ := hR
  have h2 : W * H ≤ 32 * 32 := Nat.mul_le_mul hW hH
  refine ⟨tt px (W * H) 0 1, ?_, ?_⟩
  · unfold m_X11_sum m_X7_total
    rw [show lp_X7_total_4 (W * H) px FU 1 0 = _ from total_loop px (W * H) (by omega) FU 0 1 (by omega) (by show W * H < 0 + 1000000; omega)]
    rfl
  · unfold m_X12_sum
    rw [show lp_X12_sum_4 (nI H) (nI W) sh FU 1 0 = _ from rsum_out hW hH sh px hp FU 0 1 (by omega) (by show H < 0 + 1000000; omega), Nat.sub_zero, Nat.zero_mul, Nat.mul_comm H W]
def cl (c : Int32) : Nat := if c = 4 ∨ c = 5 then 3 else if c = 6 ∨ c = 8 ∨ c = 13 then 5 else if c = 9 ∨ c = 10 ∨ c = 11 then 2 else if c = 12 then 7 else 1
theorem cl_ge (c : Int32) : 1 ≤ cl c := by
  unfold cl
  split
  · omega
  split
  · omega
  split
  · omega
  split <;> omega
theorem cl_le (c : Int32) : cl c ≤ 7 := by
  unfold cl
  split
  · omega
  split
  · omega
  split
  · omega
  split <;> omega
theorem more_cl (c : Int32) : m_X12_more c = some (nI (cl c - 1)) := by
  unfold m_X12_more cl
  by_cases h4 : c = 4
  · subst h4; rfl
  by_cases h5 : c = 5
  · subst h5; rfl
  by_cases h6 : c = 6
  · subst h6; rfl
  by_cases h8 : c = 8
  · subst h8; rfl
  by_cases h13 : c = 13
  · subst h13; rfl
  by_cases h9 : c = 9
  · subst h9; rfl
  by_cases h10 : c = 10
  · subst h10; rfl
  by_cases h11 : c = 11
  · subst h11; rfl
  by_cases h12 : c = 12
  · subst h12; rfl
  simp only [h4, h5, h6, h8, h13, h9, h10, h11, h12, if_false, or_self]
  rfl
theorem cmd_cases {c : Int32} (h1 : ¬ c < 1) (h2 : c ≤ 14) : c = 1 ∨ c = 2 ∨ c = 3 ∨ c = 4 ∨ c = 5 ∨ c = 6 ∨ c = 7 ∨ c = 8 ∨ c = 9 ∨ c = 10 ∨ c = 11 ∨ c = 12 ∨ c = 13 ∨ c = 14 := by
  have h0 : ¬ c < 0 := by
    intro h
    apply h1
    rw [Int32.lt_iff_toInt_lt] at h ⊢
    have e0 : (0 : Int32).toInt = 0 := rfl
    have e1 : (1 : Int32).toInt = 1 := rfl
    omega
  obtain ⟨j, hj, rfl⟩ := nI_of2 (M := 14) (n := 14) rfl h0 h2
  have hj1 : 1 ≤ j := by
    rcases Nat.lt_or_ge j 1 with q | q
    · exact absurd (show nI j < nI 1 from nI_lt q (by omega)) h1
    · exact q
  rcases (show j = 1 ∨ j = 2 ∨ j = 3 ∨ j = 4 ∨ j = 5 ∨ j = 6 ∨ j = 7 ∨ j = 8 ∨ j = 9 ∨ j = 10 ∨ j = 11 ∨ j = 12 ∨ j = 13 ∨ j = 14 by omega) with rfl | rfl | rfl | rfl | rfl | rfl | rfl | rfl | rfl | rfl | rfl | rfl | rfl | rfl <;> simp only [nI] <;> decide
theorem len_of (c : Int32) : (∃ r, m_X10_isCommand c = some r ∧ ((r = 1 ∧ ¬ c < 1 ∧ c ≤ 14) ∨ (r = 0 ∧ (c < 1 ∨ 14 < c) ∧ cl c = 1))) := by
  unfold m_X10_isCommand
  by_cases h1 : c < 1
  · refine ⟨0, if_pos h1, Or.inr ⟨rfl, Or.inl h1, ?_⟩⟩
    unfold cl
    have h : ∀ k : Int32, ¬ k < 1 → ¬ c = k := fun k hk e => hk (e ▸ h1)
    simp [h 4 (by decide), h 5 (by decide), h 6 (by decide), h 8 (by decide), h 13 (by decide), h 9 (by decide), h 10 (by decide), h 11 (by decide), h 12 (by decide)]
  · by_cases h2 : 14 < c
    · refine ⟨0, by rw [if_neg h1, if_pos h2], Or.inr ⟨rfl, Or.inr h2, ?_⟩⟩
      unfold cl
      have h : ∀ k : Int32, ¬ 14 < k → ¬ c = k := fun k hk e => hk (e ▸ h2)
      simp [h 4 (by decide), h 5 (by decide), h 6 (by decide), h 8 (by decide), h 13 (by decide), h 9 (by decide), h 10 (by decide), h 11 (by decide), h 12 (by decide)]
    · exact ⟨1, by rw [if_neg h1, if_neg h2], Or.inl ⟨rfl, h1, Int32.not_lt.mp h2⟩⟩
theorem lenAt_ok {n p : Nat} (h : p < n) (hn : n ≤ 1500) (f : Nat → Int32) : m_X10_lengthAt (nI n) f (nI p) = some (nI (cl (f p))) := by
  unfold m_X10_lengthAt
  rw [word_ok h hn]
  simp only [bd1_s]
  obtain ⟨r, hr, h1 | h1⟩ := len_of (f p)
  · obtain ⟨rfl, h1, h2⟩ := h1
    rw [hr]
    simp only [bd1_s]
    rw [if_neg (by decide)]
    rcases cmd_cases h1 h2 with e | e | e | e | e | e | e | e | e | e | e | e | e | e <;> (rw [e]; rfl)
  · obtain ⟨rfl, -, h3⟩ := h1
    rw [hr, h3]
    rfl
