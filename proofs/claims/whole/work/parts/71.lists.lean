theorem hasRoom_y {n k : Nat} (h : n + k ≤ 1500) : m_X10_hasRoom (nI n) (nI k) = some 1 := by
  unfold m_X10_hasRoom
  rw [if_neg]
  show ¬ nI 1500 - nI n < nI k
  rw [pk_sub (by omega)]
  exact nI_nlt (by omega) (by omega)
theorem hasRoom_n {n k : Nat} (h : 1500 < n + k) (hn : n ≤ 1500) (hk : k ≤ 1500) : m_X10_hasRoom (nI n) (nI k) = some 0 := by
  unfold m_X10_hasRoom
  rw [if_pos]
  show nI 1500 - nI n < nI k
  rw [pk_sub hn]
  exact nI_lt (by omega) (by omega)
theorem add_ok {n : Nat} (h : n < 1500) (f : Nat → Int32) (w : Int32) : m_X10_add (nI n) f w = some (nI (n + 1), nI (n + 1), upd f n w) := by
  unfold m_X10_add
  rw [if_neg (show ¬ (1500 : Int32) ≤ nI n from nI_ge (b := 1500) h (by decide)), inb_s h (by omega)]
  simp only [gd_s, nm_s, nI_clamp (show n < 2 ^ 31 by omega), nI_1]
theorem word_ok {n p : Nat} (h : p < n) (hn : n ≤ 1500) (f : Nat → Int32) : m_X10_word (nI n) f (nI p) = some (f p) := by
  unfold m_X10_word
  rw [if_neg (nI_pos (by omega)), if_neg (nI_ge h (by omega)), inb_s (show p < 1500 by omega) (by omega)]
  simp only [gd_s, nm_s, nI_clamp (show p < 2 ^ 31 by omega)]
theorem word_no {n p : Nat} (h : n ≤ p) (hp : p < 2 ^ 31) (f : Nat → Int32) : m_X10_word (nI n) f (nI p) = some 0 := by
  unfold m_X10_word
  rw [if_neg (nI_pos hp), if_pos (nI_le h hp)]
theorem rfeed_ok {n : Nat} (h : n < 1500) {sz : Nat → Int32} (hs : sz 0 = nI n) (g md : Int32) (wd : Nat → Int32) (w : Int32) : m_X12_feed g md sz wd w = some (nI (n + 1), 0, 0, upd sz 0 (nI (n + 1)), upd wd n w) := by
  have hne : ¬ nI n = (1500 : Int32) := by
    show ¬ nI n = nI 1500
    rw [nI_eq (by omega) (by omega)]
    omega
  unfold m_X12_feed m_X12_changed
  simp only [inb_0_3, gd_s, nm_s, tn_0, hs, if_neg hne, bd2_s, inb_s (n := 4500) (show n < 4500 by omega) (by omega), nI_clamp (show n < 2 ^ 31 by omega), nI_1, pk_us]
theorem rfeed_no {sz : Nat → Int32} (hs : sz 0 = nI 1500) (g md : Int32) (wd : Nat → Int32) (w : Int32) : m_X12_feed g md sz wd w = some (-1, g, md, sz, wd) := by
  unfold m_X12_feed
  simp only [inb_0_3, gd_s, nm_s, tn_0, hs]
  exact if_pos rfl
def RList (o k : Nat) (cnt : Int32) (row sz wd : Nat → Int32) : Prop := ∃ n : Nat, n ≤ 1500 ∧ cnt = nI n ∧ sz k = nI n ∧ ∀ j, j < n → row j = wd (o + j)
theorem RList.push {n : Nat} (h : n < 1500) {row sz wd : Nat → Int32} (w : Int32) (hl : ∀ j, j < n → row j = wd (0 + j)) : RList 0 0 (nI (n + 1)) (upd row n w) (upd sz 0 (nI (n + 1))) (upd wd n w) := by
  refine ⟨n + 1, by omega, rfl, pk_us, fun j hj => ?_⟩
  simp only [upd, Nat.zero_add]
  by_cases e : j = n
  · simp [e]
  · simp only [if_neg e]
    have := hl j (by omega)
    rwa [Nat.zero_add] at this
def RSheet (w h : Int32) (np : Nat) (px : Nat → Int32) (wide tall : Int32) (sh : Nat → Int32) : Prop := ∃ W H : Nat, 1 ≤ W ∧ W ≤ 32 ∧ 1 ≤ H ∧ H ≤ 32 ∧ w = nI W ∧ h = nI H ∧ wide = nI W ∧ tall = nI H ∧ np = W * H ∧ ∀ y, y < H → ∀ x, x < W → px (y * W + x) = sh (32 * y + x)
theorem nI_32 (y x : Nat) : (32 : Int32) * nI y + nI x = nI (32 * y + x) := by
  show nI 32 * nI y + nI x = _
  rw [pk_mul, nI_add]
theorem holds_y {W H x y : Nat} (hx : x < W) (hy : y < H) (hW : W ≤ 32) (hH : H ≤ 32) : m_X7_holds (nI W) (nI H) (nI x) (nI y) = some 1 := by
  unfold m_X7_holds
  rw [if_neg (nI_pos (by omega)), if_neg (nI_ge hx (by omega)), if_neg (nI_pos (by omega)), if_neg (nI_ge hy (by omega))]
theorem ix_lt {W H x y : Nat} (hx : x < W) (hy : y < H) : y * W + x < W * H := by
  have h1 : y * W + W ≤ H * W := by
    have := Nat.mul_le_mul_right W (show y + 1 ≤ H by omega)
    rwa [Nat.succ_mul] at this
  rw [Nat.mul_comm W H]
  omega
theorem at_y {W H x y : Nat} (hx : x < W) (hy : y < H) (hW : W ≤ 32) (hH : H ≤ 32) (f : Nat → Int32) : m_X7_at (nI W) (nI H) (W * H) f (nI x) (nI y) = some (f (y * W + x)) := by
  have h1 := ix_lt hx hy
  have h2 : W * H ≤ 32 * 32 := Nat.mul_le_mul hW hH
  unfold m_X7_at
  rw [holds_y hx hy hW hH]
  simp only [bd1_s]
  rw [if_neg (by decide), pk_mul, nI_add, inb_s h1 (by omega)]
  simp only [gd_s, nm_s, nI_clamp (show y * W + x < 2 ^ 31 by omega)]
theorem put_y {W H x y : Nat} (hx : x < W) (hy : y < H) (hW : W ≤ 32) (hH : H ≤ 32) (f : Nat → Int32) (v : Int32) : m_X7_put (nI W) (nI H) (W * H) f (nI x) (nI y) v = some (upd f (y * W + x) v) := by
  have h1 := ix_lt hx hy
  have h2 : W * H ≤ 32 * 32 := Nat.mul_le_mul hW hH
  unfold m_X7_put
  rw [holds_y hx hy hW hH]
  simp only [bd1_s]
  rw [if_neg (by decide), pk_mul, nI_add, inb_s h1 (by omega)]
  simp only [gd_s, nm_s, nI_clamp (show y * W + x < 2 ^ 31 by omega)]
theorem pixel_eq {w h : Int32} {np : Nat} {px : Nat → Int32} {wide tall : Int32} {sh : Nat → Int32} (hR : RSheet w h np px wide tall sh) (a b : Int32) : ∃ r : Int32, m_X11_pixel w h np px a b = some r ∧ m_X12_pixel wide tall sh a b = some r := by
  obtain ⟨W, H, hW1, hW, hH1, hH, rfl, rfl, rfl, rfl, rfl, hp⟩ := hR
  unfold m_X11_pixel m_X12_pixel
  by_cases h1 : a < 0
  · refine ⟨1, ?_, by rw [if_pos h1]⟩
    unfold m_X7_holds
    rw [if_pos h1]
    rfl
  obtain ⟨x, hx, rfl⟩ := nI_of h1
  by_cases h2 : nI W ≤ nI x
  · refine ⟨1, ?_, by rw [if_neg h1, if_pos h2]⟩
    unfold m_X7_holds
    rw [if_neg h1, if_pos h2]
    rfl
  by_cases h3 : b < 0
  · refine ⟨1, ?_, by rw [if_neg h1, if_neg h2, if_pos h3]⟩
    unfold m_X7_holds
    rw [if_neg h1, if_neg h2, if_pos h3]
    rfl
  obtain ⟨y, hy, rfl⟩ := nI_of h3
  have h2' : x < W := by
    rw [nI_leI (by omega) hx] at h2
    omega
  by_cases h4 : nI H ≤ nI y
  · have h5 : ¬ nI y < nI H := by
      rw [nI_leI (by omega) hy] at h4
      rw [nI_ltI hy (by omega)]
      omega
    refine ⟨1, ?_, by rw [if_neg h1, if_neg h2, if_neg h3, if_neg h5]⟩
    unfold m_X7_holds
    rw [if_neg h1, if_neg h2, if_neg h3, if_pos h4]
    rfl
  have h4' : y < H := by
    rw [nI_leI (by omega) hy] at h4
    omega
  refine ⟨px (y * W + x), ?_, ?_⟩
  · rw [holds_y h2' h4' hW hH]
    simp only [bd1_s]
    rw [if_neg (by decide), at_y h2' h4' hW hH]
    rfl
  · rw [if_neg h1, if_neg h2, if_neg h3, if_pos (nI_lt h4' (by omega)), nI_32, inb_s (show 32 * y + x < 1024 by omega) (by omega)]
    simp only [gd_s, nm_s, nI_clamp (show 32 * y + x < 2 ^ 31 by omega)]
    rw [hp y h4' x h2']
theorem fill_loop (v : Int32) (N : Nat) (hN : N ≤ 1024) : ∀ (n i : Nat) (f : Nat → Int32), i ≤ N → N < i + n → ∃ g : Nat → Int32, lp_J7_fill_53178_5 (nI N) N v n (nI i) f = some g ∧ (∀ j, i ≤ j → j < N → g j = v) ∧ ∀ j, j < i → g j = f j := by
  intro n
  induction n with
  | zero => intro i f h1 h2; omega
  | succ n ih =>
    intro i f h1 h2
    rw [lp_J7_fill_53178_5]
    by_cases e : i = N
    · subst e
      exact ⟨f, by rw [if_pos (nI_le (Nat.le_refl _) (by omega))], fun j a b => by omega, fun j _ => rfl⟩
    · have hlt : i < N := by omega
      obtain ⟨g, hg, g1, g2⟩ := ih (i + 1) (upd f i v) (by omega) (by omega)
      refine ⟨g, ?_, fun j a b => ?_, fun j a => ?_⟩
      · rw [if_neg (nI_ge hlt (by omega)), inb_s hlt (by omega)]
        simp only [gd_s, nm_s, nI_clamp (show i < 2 ^ 31 by omega), nI_1]
        exact hg
      · by_cases ej : j = i
        · subst ej
          rw [g2 j (by omega)]
          exact pk_us
        · exact g1 j (by omega) b
      · rw [g2 j (by omega)]
        exact pk_un (by omega)
theorem clear_loop (v : Int32) : ∀ (n i : Nat) (f : Nat → Int32), i ≤ 1024 → 1024 < i + n → ∃ g : Nat → Int32, lp_X12_clear_2 v n (nI i) f = some g ∧ (∀ j, i ≤ j → j < 1024 → g j = v) ∧ ∀ j, j < i → g j = f j := by
  intro n
  induction n with
  | zero => intro i f h1 h2; omega
  | succ n ih =>
    intro i f h1 h2
    rw [lp_X12_clear_2]
    by_cases e : i = 1024
    · subst e
      exact ⟨f, if_pos (by decide), fun j a b => by omega, fun j _ => rfl⟩
    · have hlt : i < 1024 := by omega
      obtain ⟨g, hg, g1, g2⟩ := ih (i + 1) (upd f i v) (by omega) (by omega)
      refine ⟨g, ?_, fun j a b => ?_, fun j a => ?_⟩
      · rw [if_neg (show ¬ (1024 : Int32) ≤ nI i from nI_ge (b := 1024) hlt (by decide)), inb_s hlt (by omega)]
        simp only [gd_s, nm_s, nI_clamp (show i < 2 ^ 31 by omega), nI_1]
        exact hg
      · by_cases ej : j = i
        · subst ej
          rw [g2 j (by omega)]
          exact pk_us
        · exact g1 j (by omega) b
      · rw [g2 j (by omega)]
        exact pk_un (by omega)
theorem clear_eq {w h : Int32} {np : Nat} {px : Nat → Int32} {wide tall : Int32} {sh : Nat → Int32} (hR : RSheet w h np px wide tall sh) (v : Int32) : ∃ px' sh' : Nat → Int32, m_X11_clear np px v = some px' ∧ m_X12_clear sh v = some sh' ∧ RSheet w h np px' wide tall sh' := by
  obtain ⟨W, H, hW1, hW, hH1, hH, rfl, rfl, rfl, rfl, rfl, hp⟩ := hR
  have h2 : W * H ≤ 32 * 32 := Nat.mul_le_mul hW hH
  obtain ⟨g, hg, g1, -⟩ := fill_loop v (W * H) (by omega) FU 0 px (by omega) (by show W * H < 0 + 1000000; omega)
  obtain ⟨k, hk, k1, -⟩ := clear_loop v FU 0 sh (by omega) (by show 1024 < 0 + 1000000; omega)
  refine ⟨g, k, ?_, hk, W, H, hW1, hW, hH1, hH, rfl, rfl, rfl, rfl, rfl, fun y hy x hx => ?_⟩
  · unfold m_X11_clear m_X7_cover m_J7_fill_53178
    simp only [nm_s]
    rw [show lp_J7_fill_53178_5 (Int32.ofNat (W * H)) (W * H) v FU 0 px = some g from hg]
    rfl
  · rw [g1 _ (by omega) (ix_lt hx hy), k1 _ (by omega) (by omega)]
