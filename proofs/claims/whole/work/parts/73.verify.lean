def bI (b : Bool) : Int32 := if b then 1 else 0
theorem bI_0 (b : Bool) : bI b = 0 ↔ b = false := by cases b <;> decide
def inn (lo hi v : Int32) : Bool := decide (lo ≤ v ∧ v ≤ hi)
def far (b v : Int32) : Bool := decide (¬ v ≤ -b ∧ v < b)
def bndk (c : Int32) (k : Nat) (v : Int32) : Bool := if c = 4 ∨ c = 5 ∨ c = 6 ∨ c = 8 then far 67108864 v else if c = 9 then inn 0 1 v else if c = 11 then inn 0 4 v else if c = 13 then (if k < 3 then far 1000000 v else inn 0 1000000 v) else true
def bnd (f : Nat → Int32) (p : Nat) : Nat → Bool
  | 0 => true
  | k + 1 => bnd f p k && bndk (f p) (k + 1) (f (p + (k + 1)))
def ord (c : Int32) (o k : Nat) (b : Bool) : Nat × Nat × Nat × Bool :=
  if c = 1 then (if o + 1 ≤ 8 then (0, o + 1, k, b) else (5, o, k, b))
  else if c = 2 then (if o = 0 then (4, o, k, b) else (0, o - 1, k, b))
  else if c = 3 then (0, o, 0, false)
  else if c = 4 then (0, o, k, true)
  else if c = 5 ∨ c = 7 then (if b = false then (6, o, k, b) else if k + 1 ≤ 300 then (0, o, k + 1, b) else (7, o, k, b))
  else if c = 6 then (if b = false then (6, o, k, b) else if k + 8 ≤ 300 then (0, o, k + 8, b) else (7, o, k, b))
  else if c = 8 then (if k + 4 ≤ 300 then (0, o, k + 4, true) else (7, o, k, b))
  else (0, o, k, b)
def vr (f : Nat → Int32) (n : Nat) : Nat → Nat → Nat → Nat → Bool → Nat × Nat × Nat × Nat × Bool
  | 0, p, o, k, b => (99, p, o, k, b)
  | fu + 1, p, o, k, b =>
    if n ≤ p then (0, p, o, k, b)
    else if f p < 1 ∨ 14 < f p then (1, p, o, k, b)
    else if n < p + cl (f p) then (2, p, o, k, b)
    else if bnd f p (cl (f p) - 1) = false then (3, p, o, k, b)
    else match ord (f p) o k b with
      | (0, o', k', b') => vr f n fu (p + cl (f p)) o' k' b'
      | (ft + 1, _, _, _) => (ft + 1, p, o, k, b)
theorem within_inn (lo hi v : Int32) : m_X12_within v lo hi = some (bI (inn lo hi v)) := by
  unfold m_X12_within inn bI
  by_cases h1 : v < lo
  · have : ¬ lo ≤ v := fun h => absurd h1 (Int32.not_lt.mpr h)
    simp [h1, this]
  · have h1' : lo ≤ v := Int32.not_lt.mp h1
    by_cases h2 : hi < v
    · have : ¬ v ≤ hi := fun h => absurd h2 (Int32.not_lt.mpr h)
      simp [h1, h2, this]
    · have h2' : v ≤ hi := Int32.not_lt.mp h2
      simp [h1, h2, h1', h2']
theorem isWithin_inn (hi v : Int32) : m_X0_isWithin v hi = some (bI (inn 0 hi v)) := by
  unfold m_X0_isWithin inn bI
  by_cases h1 : v < 0
  · have : ¬ 0 ≤ v := fun h => absurd h1 (Int32.not_lt.mpr h)
    simp [h1, this]
  · have h1' : 0 ≤ v := Int32.not_lt.mp h1
    by_cases h2 : hi < v
    · have : ¬ v ≤ hi := fun h => absurd h2 (Int32.not_lt.mpr h)
      simp [h1, h2, this]
    · have h2' : v ≤ hi := Int32.not_lt.mp h2
      simp [h1, h2, h1', h2']
theorem below_loop {n : Nat} (hn : n ≤ 1500) (f : Nat → Int32) (B : Int32) {q : Nat} (hq : q ≤ n) : ∀ (fu p : Nat), p ≤ q → q < p + fu → ∃ r : Bool, lp_X0_allBelow_3 (nI q) (nI n) f B fu (nI p) = some (bI r) ∧ (r = true ↔ ∀ j, p ≤ j → j < q → far B (f j) = true) := by
  intro fu
  induction fu with
  | zero => intro p h1 h2; omega
  | succ fu ih =>
    intro p h1 h2
    rw [lp_X0_allBelow_3]
    by_cases e : p = q
    · subst e
      exact ⟨true, if_pos (nI_le (Nat.le_refl _) (by omega)), fun _ j a b => by omega, fun _ => rfl⟩
    · have hlt : p < q := by omega
      rw [if_neg (nI_ge hlt (by omega)), word_ok (by omega) hn]
      simp only [bd1_s]
      by_cases h3 : f p ≤ -B
      · refine ⟨false, by rw [if_pos h3]; rfl, fun h => by simp at h, fun h => ?_⟩
        have := h p (Nat.le_refl _) hlt
        simp [far, h3] at this
      · by_cases h4 : f p < B
        · obtain ⟨r, hr, hi⟩ := ih (p + 1) (by omega) (by omega)
          refine ⟨r, ?_, fun h j a b => ?_, fun h => hi.mpr (fun j a b => h j (by omega) b)⟩
          · rw [if_neg h3, if_pos h4]
            simp only [nm_s, nI_1]
            exact hr
          · by_cases ej : j = p
            · subst ej
              simp [far, h3, h4]
            · exact hi.mp h j (by omega) b
        · refine ⟨false, by rw [if_neg h3, if_neg h4]; rfl, fun h => by simp at h, fun h => ?_⟩
          have := h p (Nat.le_refl _) hlt
          simp [far, h4] at this
theorem allBelow_ok {n : Nat} (hn : n ≤ 1500) (f : Nat → Int32) (B : Int32) {p q : Nat} (hpq : p ≤ q) (hq : q ≤ n) : ∃ r : Bool, m_X0_allBelow (nI n) f (nI p) (nI q) B = some (bI r) ∧ (r = true ↔ ∀ j, p ≤ j → j < q → far B (f j) = true) := by
  unfold m_X0_allBelow
  exact below_loop hn f B hq FU p hpq (by show q < p + 1000000; omega)
theorem bnd_far (f : Nat → Int32) (p : Nat) (B : Int32) (h : ∀ (k : Nat) (v : Int32), bndk (f p) k v = far B v) : ∀ m : Nat, (bnd f p m = true ↔ ∀ j, p + 1 ≤ j → j < p + 1 + m → far B (f j) = true) := by
  intro m
  induction m with
  | zero => exact ⟨fun _ j a b => by omega, fun _ => rfl⟩
  | succ m ih =>
    simp only [bnd, Bool.and_eq_true, ih, h]
    constructor
    · intro ⟨h1, h2⟩ j a b
      by_cases e : j = p + (m + 1)
      · rw [e]; exact h2
      · exact h1 j a (by omega)
    · intro h1
      exact ⟨fun j a b => h1 j a (by omega), h1 _ (by omega) (by omega)⟩
theorem bnd_true (f : Nat → Int32) (p : Nat) (h : ∀ (k : Nat) (v : Int32), bndk (f p) k v = true) : ∀ m : Nat, bnd f p m = true := by
  intro m
  induction m with
  | zero => rfl
  | succ m ih => simp [bnd, ih, h]
theorem eqb {a b : Bool} (h : a = true ↔ b = true) : a = b := by cases a <;> cases b <;> simp_all
set_option maxHeartbeats 2000000 in
theorem wb_ok {n p : Nat} (hn : n ≤ 1500) (f : Nat → Int32) (h1 : ¬ f p < 1) (h2 : f p ≤ 14) (hp : p + cl (f p) ≤ n) : m_X0_withinBounds (nI n) f (nI p) = some (bI (bnd f p (cl (f p) - 1))) := by
  have hlt : p < n := by have := cl_ge (f p); omega
  have hfar : ∀ m : Nat, cl (f p) = m + 1 → (∀ (k : Nat) (v : Int32), bndk (f p) k v = far 67108864 v) → bd1 (m_X10_lengthAt (nI n) f (nI p)) (fun (r_4 : Int32) => bd1 (m_X0_allBelow (nI n) f (nI p + 1) (nI p + r_4) 67108864) (fun (r_6 : Int32) => some r_6)) = some (bI (bnd f p (cl (f p) - 1))) := by
    intro m hm hk
    rw [lenAt_ok hlt hn]
    simp only [bd1_s, nI_1, nI_add]
    obtain ⟨r, hr, hi⟩ := allBelow_ok hn f 67108864 (p := p + 1) (q := p + cl (f p)) (by omega) hp
    rw [hr]
    simp only [bd1_s]
    rw [show r = bnd f p (cl (f p) - 1) from eqb (hi.trans (by rw [bnd_far f p 67108864 hk]; rw [show p + 1 + (cl (f p) - 1) = p + cl (f p) by omega]))]
  unfold m_X0_withinBounds
  rw [word_ok hlt hn]
  simp only [bd1_s, jn_s]
  rcases cmd_cases h1 h2 with e | e | e | e | e | e | e | e | e | e | e | e | e | e
  · rw [bnd_true f p (by intro k v; rw [e]; rfl), e]; rfl
  · rw [bnd_true f p (by intro k v; rw [e]; rfl), e]; rfl
  · rw [bnd_true f p (by intro k v; rw [e]; rfl), e]; rfl
  · rw [if_pos e]; exact hfar 2 (by rw [e]; rfl) (by intro k v; rw [e]; rfl)
  · rw [if_neg (by rw [e]; decide), if_pos e]; exact hfar 2 (by rw [e]; rfl) (by intro k v; rw [e]; rfl)
  · rw [if_neg (by rw [e]; decide), if_neg (by rw [e]; decide), if_pos e]; exact hfar 4 (by rw [e]; rfl) (by intro k v; rw [e]; rfl)
  · rw [bnd_true f p (by intro k v; rw [e]; rfl), e]; rfl
  · rw [if_neg (by rw [e]; decide), if_neg (by rw [e]; decide), if_neg (by rw [e]; decide), if_neg (by rw [e]; decide), if_pos e]; exact hfar 4 (by rw [e]; rfl) (by intro k v; rw [e]; rfl)
  · have hc : cl (f p) = 2 := by rw [e]; rfl
    have hw : m_X10_word (nI n) f (nI p + 1) = some (f (p + 1)) := by rw [nI_1]; exact word_ok (by omega) hn f
    rw [hw]
    simp only [bd1_s, isWithin_inn]
    rw [hc, show bnd f p (2 - 1) = inn 0 1 (f (p + 1)) by simp only [bnd, bndk, e, Bool.true_and]; rfl]
    simp only [e]
    rfl
  · rw [bnd_true f p (by intro k v; rw [e]; rfl), e]; rfl
  · have hc : cl (f p) = 2 := by rw [e]; rfl
    have hw : m_X10_word (nI n) f (nI p + 1) = some (f (p + 1)) := by rw [nI_1]; exact word_ok (by omega) hn f
    rw [hw]
    simp only [bd1_s, isWithin_inn]
    rw [hc, show bnd f p (2 - 1) = inn 0 4 (f (p + 1)) by simp only [bnd, bndk, e, Bool.true_and]; rfl]
    simp only [e]
    rfl
  · rw [bnd_true f p (by intro k v; rw [e]; rfl), e]; rfl
  · have hc : cl (f p) = 5 := by rw [e]; rfl
    have hw3 : m_X10_word (nI n) f (nI p + 3) = some (f (p + 3)) := by rw [show nI p + 3 = nI (p + 3) from nI_add p 3]; exact word_ok (by omega) hn f
    have hw4 : m_X10_word (nI n) f (nI p + 4) = some (f (p + 4)) := by rw [show nI p + 4 = nI (p + 4) from nI_add p 4]; exact word_ok (by omega) hn f
    obtain ⟨r, hr, hi⟩ := allBelow_ok hn f 1000000 (p := p + 1) (q := p + 3) (by omega) (by omega)
    have hr' : m_X0_allBelow (nI n) f (nI p + 1) (nI p + 3) 1000000 = some (bI r) := by rw [nI_1, show nI p + 3 = nI (p + 3) from nI_add p 3]; exact hr
    have hb : bnd f p 4 = (r && (inn 0 1000000 (f (p + 3)) && inn 0 1000000 (f (p + 4)))) := by
      have hrr : r = (far 1000000 (f (p + 1)) && far 1000000 (f (p + 2))) := by
        refine eqb (hi.trans ?_)
        simp only [Bool.and_eq_true]
        constructor
        · intro h; exact ⟨h _ (by omega) (by omega), h _ (by omega) (by omega)⟩
        · intro ⟨q1, q2⟩ j a b
          rcases (show j = p + 1 ∨ j = p + 2 by omega) with rfl | rfl
          · exact q1
          · exact q2
      rw [hrr]
      simp only [bnd, bndk, e, Bool.true_and]
      simp [Bool.and_assoc]
    rw [hw3, hw4, hr']
    simp only [bd1_s, isWithin_inn]
    rw [hc, show (5 - 1 : Nat) = 4 from rfl, hb, e]
    cases r <;> cases inn 0 1000000 (f (p + 3)) <;> cases inn 0 1000000 (f (p + 4)) <;> rfl
  · rw [bnd_true f p (by intro k v; rw [e]; rfl), e]; rfl
def fw (f : Nat → Int32) (n p : Nat) : Nat := if f p < 1 ∨ 14 < f p then 1 else if n < p + cl (f p) then 2 else if bnd f p (cl (f p) - 1) = false then 3 else 0
theorem fow_ok {n p : Nat} (hn : n ≤ 1500) (f : Nat → Int32) (hlt : p < n) : m_X0_faultOfWords (nI n) f (nI p) = some (nI (fw f n p)) := by
  unfold m_X0_faultOfWords fw
  rw [word_ok hlt hn]
  simp only [bd1_s]
  obtain ⟨r, hr, h1 | h1⟩ := len_of (f p)
  · obtain ⟨rfl, h1, h2⟩ := h1
    have h3 : ¬ (f p < 1 ∨ 14 < f p) := fun h => h.elim h1 (fun q => absurd q (Int32.not_lt.mpr h2))
    rw [hr, if_neg h3]
    simp only [bd1_s]
    rw [if_neg (by decide), lenAt_ok hlt hn]
    simp only [bd1_s]
    rw [pk_sub (by omega)]
    have hcl := cl_le (f p)
    by_cases h4 : n < p + cl (f p)
    · rw [if_pos h4, if_neg (nI_ge (by omega) (by omega))]
      rfl
    · rw [if_neg h4, if_pos (nI_le (by omega) (by omega)), wb_ok hn f h1 h2 (by omega)]
      simp only [bd1_s]
      cases bnd f p (cl (f p) - 1) <;> rfl
  · obtain ⟨rfl, h2, -⟩ := h1
    rw [hr, if_pos h2]
    rfl
theorem foo_ok {o k : Nat} (ho : o ≤ 8) (hk : k ≤ 300) (b : Bool) (c : Int32) : ∃ x y z : Int32, m_X0_faultOfOrder (nI o) (nI k) (bI b) c = some (nI (ord c o k b).1, x, y, z) ∧ ((ord c o k b).1 = 0 → x = nI (ord c o k b).2.1 ∧ y = nI (ord c o k b).2.2.1 ∧ z = bI (ord c o k b).2.2.2) := by
  have hl : ∀ m : Nat, m ≤ 8 → m_X0_faultOfLines (nI k) (bI b) (nI m) = some (if b = false then (nI 6, nI k) else if k + m ≤ 300 then (nI 0, nI (k + m)) else (nI 7, nI (k + m))) := by
    intro m hm
    unfold m_X0_faultOfLines
    cases b with
    | false => rfl
    | true =>
      rw [if_neg (by decide), nI_add]
      simp only [nm_s]
      by_cases h : k + m ≤ 300
      · rw [if_pos (show nI (k + m) ≤ (300 : Int32) from nI_le (b := 300) h (by decide))]
        simp [h]
        rfl
      · rw [if_neg (show ¬ nI (k + m) ≤ (300 : Int32) from nI_ge (a := 300) (b := k + m) (by omega) (by omega))]
        simp [h]
        rfl
  have hl4 : m_X0_faultOfLines (nI k) 1 (nI 4) = some (if k + 4 ≤ 300 then (nI 0, nI (k + 4)) else (nI 7, nI (k + 4))) := by
    unfold m_X0_faultOfLines
    rw [if_neg (by decide), nI_add]
    simp only [nm_s]
    by_cases h : k + 4 ≤ 300
    · rw [if_pos (show nI (k + 4) ≤ (300 : Int32) from nI_le (b := 300) h (by decide)), if_pos h]
      rfl
    · rw [if_neg (show ¬ nI (k + 4) ≤ (300 : Int32) from nI_ge (a := 300) (b := k + 4) (by omega) (by omega)), if_neg h]
      rfl
  unfold m_X0_faultOfOrder ord
  simp only [jn_s, nm_s]
  by_cases h1 : c = 1
  · rw [if_pos h1, if_pos h1, nI_1]
    by_cases q : o + 1 ≤ 8
    · rw [if_pos (show nI (o + 1) ≤ (8 : Int32) from nI_le (b := 8) q (by decide)), if_pos q]
      exact ⟨_, _, _, rfl, fun _ => ⟨rfl, rfl, rfl⟩⟩
    · rw [if_neg (show ¬ nI (o + 1) ≤ (8 : Int32) from nI_ge (a := 8) (b := o + 1) (by omega) (by omega)), if_neg q]
      exact ⟨_, _, _, rfl, fun h => by simp at h⟩
  rw [if_neg h1, if_neg h1]
  by_cases h2 : c = 2
  · rw [if_pos h2, if_pos h2]
    by_cases q : o = 0
    · subst q
      rw [if_neg (by decide), if_pos rfl]
      exact ⟨_, _, _, rfl, fun h => by simp at h⟩
    · rw [show nI o - 1 = nI (o - 1) by rw [show o = (o - 1) + 1 by omega]; exact nI_pred (o - 1), if_pos (nI_pos' (by omega)), if_neg q]
      exact ⟨_, _, _, rfl, fun _ => ⟨rfl, rfl, rfl⟩⟩
  rw [if_neg h2, if_neg h2]
  by_cases h3 : c = 3
  · rw [if_pos h3, if_pos h3]
    exact ⟨_, _, _, rfl, fun _ => ⟨rfl, rfl, rfl⟩⟩
  rw [if_neg h3, if_neg h3]
  by_cases h4 : c = 4
  · rw [if_pos h4, if_pos h4]
    exact ⟨_, _, _, rfl, fun _ => ⟨rfl, rfl, rfl⟩⟩
  rw [if_neg h4, if_neg h4]
  have hl1 : bd2 (m_X0_faultOfLines (nI k) (bI b) 1) (fun (r_2 : Int32) (v0_3 : Int32) => some (r_2, nI o, v0_3, bI b)) = some (if b = false then (nI 6, nI o, nI k, bI b) else if k + 1 ≤ 300 then (nI 0, nI o, nI (k + 1), bI b) else (nI 7, nI o, nI (k + 1), bI b)) := by
    rw [show m_X0_faultOfLines (nI k) (bI b) 1 = _ from hl 1 (by omega)]
    cases b with
    | false => rfl
    | true =>
      by_cases h : k + 1 ≤ 300
      · simp [h, bd2_s]
      · simp [h, bd2_s]
  have fin1 : ∃ x y z : Int32, (some (if b = false then (nI 6, nI o, nI k, bI b) else if k + 1 ≤ 300 then (nI 0, nI o, nI (k + 1), bI b) else (nI 7, nI o, nI (k + 1), bI b)) : Option (Int32 × Int32 × Int32 × Int32)) = some (nI (if b = false then (6, o, k, b) else if k + 1 ≤ 300 then (0, o, k + 1, b) else (7, o, k, b)).1, x, y, z) ∧ ((if b = false then (6, o, k, b) else if k + 1 ≤ 300 then (0, o, k + 1, b) else (7, o, k, b)).1 = 0 → x = nI (if b = false then (6, o, k, b) else if k + 1 ≤ 300 then (0, o, k + 1, b) else (7, o, k, b)).2.1 ∧ y = nI (if b = false then (6, o, k, b) else if k + 1 ≤ 300 then (0, o, k + 1, b) else (7, o, k, b)).2.2.1 ∧ z = bI (if b = false then (6, o, k, b) else if k + 1 ≤ 300 then (0, o, k + 1, b) else (7, o, k, b)).2.2.2) := by
    cases b with
    | false => exact ⟨_, _, _, rfl, fun h => by simp at h⟩
    | true =>
      by_cases h : k + 1 ≤ 300
      · simp only [h, if_true, if_false, Bool.true_eq_false]
        exact ⟨_, _, _, rfl, fun _ => ⟨rfl, rfl, rfl⟩⟩
      · simp only [h, if_false, Bool.true_eq_false]
        exact ⟨_, _, _, rfl, fun h => by simp at h⟩
  by_cases h5 : c = 5
  · rw [if_pos h5, if_pos (Or.inl h5), hl1]
    exact fin1
  rw [if_neg h5]
  by_cases h6 : c = 6
  · rw [if_pos h6, if_neg (by rw [h6]; decide), if_pos h6, show m_X0_faultOfLines (nI k) (bI b) 8 = _ from hl 8 (by omega)]
    cases b with
    | false => exact ⟨_, _, _, rfl, fun h => by simp at h⟩
    | true =>
      by_cases h : k + 8 ≤ 300
      · simp only [h, if_true, if_false, Bool.true_eq_false, bd2_s]
        exact ⟨_, _, _, rfl, fun _ => ⟨rfl, rfl, rfl⟩⟩
      · simp only [h, if_false, Bool.true_eq_false, bd2_s]
        exact ⟨_, _, _, rfl, fun h => by simp at h⟩
  rw [if_neg h6]
  by_cases h7 : c = 7
  · rw [if_pos h7, if_pos (Or.inr h7), hl1]
    exact fin1
  rw [if_neg h7, if_neg (show ¬ (c = 5 ∨ c = 7) from fun h => h.elim h5 h7), if_neg h6]
  by_cases h8 : c = 8
  · rw [if_pos h8, if_pos h8, show m_X0_faultOfLines (nI k) 1 4 = _ from hl4]
    by_cases h : k + 4 ≤ 300
    · simp only [h, if_true, bd2_s]
      exact ⟨_, _, _, rfl, fun _ => ⟨rfl, rfl, rfl⟩⟩
    · simp only [h, if_false, bd2_s]
      exact ⟨_, _, _, rfl, fun h => by simp at h⟩
  rw [if_neg h8, if_neg h8]
  exact ⟨_, _, _, rfl, fun _ => ⟨rfl, rfl, rfl⟩⟩
