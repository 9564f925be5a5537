theorem ord_le {c : Int32} {o k : Nat} {b : Bool} (ho : o ≤ 8) (hk : k ≤ 300) (h : (ord c o k b).1 = 0) : (ord c o k b).2.1 ≤ 8 ∧ (ord c o k b).2.2.1 ≤ 300 := by
  unfold ord at h ⊢
  by_cases h1 : c = 1
  · simp only [h1, if_true] at h ⊢
    by_cases q : o + 1 ≤ 8
    · rw [if_pos q]; exact ⟨q, hk⟩
    · simp [q] at h
  simp only [h1, if_false] at h ⊢
  by_cases h2 : c = 2
  · simp only [h2, if_true] at h ⊢
    by_cases q : o = 0
    · simp [q] at h
    · simp only [q, if_false]; exact ⟨by omega, hk⟩
  simp only [h2, if_false] at h ⊢
  by_cases h3 : c = 3
  · simp only [h3, if_true]; exact ⟨ho, by omega⟩
  simp only [h3, if_false] at h ⊢
  by_cases h4 : c = 4
  · simp only [h4, if_true]; exact ⟨ho, hk⟩
  simp only [h4, if_false] at h ⊢
  by_cases h5 : c = 5 ∨ c = 7
  · simp only [h5, if_true] at h ⊢
    cases b with
    | false => simp at h
    | true =>
      by_cases q : k + 1 ≤ 300
      · rw [if_neg (by decide), if_pos q]; exact ⟨ho, q⟩
      · simp [q] at h
  simp only [h5, if_false] at h ⊢
  by_cases h6 : c = 6
  · simp only [h6, if_true] at h ⊢
    cases b with
    | false => simp at h
    | true =>
      by_cases q : k + 8 ≤ 300
      · rw [if_neg (by decide), if_pos q]; exact ⟨ho, q⟩
      · simp [q] at h
  simp only [h6, if_false] at h ⊢
  by_cases h8 : c = 8
  · simp only [h8, if_true] at h ⊢
    by_cases q : k + 4 ≤ 300
    · rw [if_pos q]; exact ⟨ho, q⟩
    · simp [q] at h
  simp only [h8, if_false]
  exact ⟨ho, hk⟩
theorem vr_step {f : Nat → Int32} {n fu p o k : Nat} {b : Bool} (hp : p < n) (hw : fw f n p = 0) (ho : (ord (f p) o k b).1 = 0) : vr f n (fu + 1) p o k b = vr f n fu (p + cl (f p)) (ord (f p) o k b).2.1 (ord (f p) o k b).2.2.1 (ord (f p) o k b).2.2.2 := by
  unfold fw at hw
  rw [vr]
  by_cases h1 : f p < 1 ∨ 14 < f p
  · rw [if_pos h1] at hw; omega
  rw [if_neg h1] at hw
  by_cases h2 : n < p + cl (f p)
  · rw [if_pos h2] at hw; omega
  rw [if_neg h2] at hw
  by_cases h3 : bnd f p (cl (f p) - 1) = false
  · rw [if_pos h3] at hw; omega
  rw [if_neg (by omega), if_neg h1, if_neg h2, if_neg h3]
  generalize ord (f p) o k b = q at ho ⊢
  obtain ⟨a, x, y, z⟩ := q
  simp only at ho
  subst ho
  rfl
theorem vr_word {f : Nat → Int32} {n fu p o k : Nat} {b : Bool} (hp : p < n) (hw : fw f n p ≠ 0) : vr f n (fu + 1) p o k b = (fw f n p, p, o, k, b) := by
  unfold fw at hw ⊢
  rw [vr, if_neg (by omega)]
  by_cases h1 : f p < 1 ∨ 14 < f p
  · rw [if_pos h1, if_pos h1]
  rw [if_neg h1, if_neg h1]
  rw [if_neg h1] at hw
  by_cases h2 : n < p + cl (f p)
  · rw [if_pos h2, if_pos h2]
  rw [if_neg h2, if_neg h2]
  rw [if_neg h2] at hw
  by_cases h3 : bnd f p (cl (f p) - 1) = false
  · rw [if_pos h3, if_pos h3]
  · rw [if_neg h3] at hw
    exact absurd rfl hw
theorem vr_ord {f : Nat → Int32} {n fu p o k : Nat} {b : Bool} (hp : p < n) (hw : fw f n p = 0) (ho : (ord (f p) o k b).1 ≠ 0) : vr f n (fu + 1) p o k b = ((ord (f p) o k b).1, p, o, k, b) := by
  unfold fw at hw
  rw [vr]
  by_cases h1 : f p < 1 ∨ 14 < f p
  · rw [if_pos h1] at hw; omega
  rw [if_neg h1] at hw
  by_cases h2 : n < p + cl (f p)
  · rw [if_pos h2] at hw; omega
  rw [if_neg h2] at hw
  by_cases h3 : bnd f p (cl (f p) - 1) = false
  · rw [if_pos h3] at hw; omega
  rw [if_neg (by omega), if_neg h1, if_neg h2, if_neg h3]
  generalize ord (f p) o k b = q at ho ⊢
  obtain ⟨a, x, y, z⟩ := q
  simp only at ho
  cases a with
  | zero => exact absurd rfl ho
  | succ a => rfl
theorem fw_len {f : Nat → Int32} {n p : Nat} (hw : fw f n p = 0) : p + cl (f p) ≤ n ∧ ¬ f p < 1 ∧ f p ≤ 14 := by
  unfold fw at hw
  by_cases h1 : f p < 1 ∨ 14 < f p
  · rw [if_pos h1] at hw; omega
  rw [if_neg h1] at hw
  by_cases h2 : n < p + cl (f p)
  · rw [if_pos h2] at hw; omega
  exact ⟨by omega, fun h => h1 (Or.inl h), Int32.not_lt.mp (fun h => h1 (Or.inr h))⟩
theorem fw_le (f : Nat → Int32) (n p : Nat) : fw f n p ≤ 3 := by
  unfold fw
  split
  · omega
  split
  · omega
  split <;> omega
theorem ord_f (c : Int32) (o k : Nat) (b : Bool) : (ord c o k b).1 ≤ 7 := by
  unfold ord
  repeat' split
  all_goals simp
theorem look_loop {n : Nat} (hn : n ≤ 1500) (f : Nat → Int32) (K : Int32 → Int32 → Int32 → Int32 → Option (Int32 × Int32 × Int32 × Int32 × Int32)) : ∀ (fu p o k : Nat) (b : Bool), p ≤ n → n < p + fu → o ≤ 8 → k ≤ 300 →
    (((vr f n fu p o k b).1 = 0 ∧ (vr f n fu p o k b).2.1 = n ∧ (vr f n fu p o k b).2.2.1 ≤ 8 ∧ lp_X0_lookOver_20 (nI n) K f fu (nI p) (nI o) (nI k) (bI b) = K (nI n) (nI (vr f n fu p o k b).2.2.1) (nI (vr f n fu p o k b).2.2.2.1) (bI (vr f n fu p o k b).2.2.2.2)) ∨
    ((vr f n fu p o k b).1 ≠ 0 ∧ (vr f n fu p o k b).1 ≤ 7 ∧ (vr f n fu p o k b).2.1 < n ∧ ∃ x y z : Int32, lp_X0_lookOver_20 (nI n) K f fu (nI p) (nI o) (nI k) (bI b) = some (nI (vr f n fu p o k b).1, nI (vr f n fu p o k b).2.1, x, y, z))) := by
  intro fu
  induction fu with
  | zero => intro p o k b h1 h2; omega
  | succ fu ih =>
    intro p o k b h1 h2 ho hk
    rw [lp_X0_lookOver_20]
    by_cases e : p = n
    · subst e
      left
      rw [if_pos (nI_le (Nat.le_refl _) (by omega)), show vr f p (fu + 1) p o k b = (0, p, o, k, b) by rw [vr, if_pos (Nat.le_refl _)]]
      exact ⟨rfl, rfl, ho, rfl⟩
    · have hlt : p < n := by omega
      rw [if_neg (nI_ge hlt (by omega)), fow_ok hn f hlt]
      simp only [bd1_s, jn_s]
      by_cases hw : fw f n p = 0
      · rw [hw, if_pos (show nI 0 = 0 from rfl), word_ok hlt hn]
        simp only [bd1_s]
        obtain ⟨x, y, z, hfo, hst⟩ := foo_ok ho hk b (f p)
        rw [hfo]
        simp only [bd4_s]
        by_cases hf : (ord (f p) o k b).1 = 0
        · obtain ⟨rfl, rfl, rfl⟩ := hst hf
          have hb := ord_le ho hk hf
          have hcl := cl_ge (f p)
          rw [hf, if_pos (show nI 0 = 0 from rfl), lenAt_ok hlt hn]
          simp only [bd1_s, nm_s, nI_add]
          rw [vr_step hlt hw hf]
          exact ih (p + cl (f p)) _ _ _ (fw_len hw).1 (by omega) hb.1 hb.2
        · right
          have h7 := ord_f (f p) o k b
          rw [vr_ord hlt hw hf, if_neg (show ¬ nI (ord (f p) o k b).1 = 0 from nI_ne0 (by omega) (by omega))]
          exact ⟨hf, h7, hlt, x, y, z, rfl⟩
      · right
        have h3 := fw_le f n p
        rw [vr_word hlt hw, if_neg (show ¬ nI (fw f n p) = 0 from nI_ne0 (by omega) (by omega)), if_neg (show ¬ nI (fw f n p) = 0 from nI_ne0 (by omega) (by omega))]
        exact ⟨hw, by omega, hlt, _, _, _, rfl⟩
def vfault (f : Nat → Int32) (n : Nat) : Nat := if (vr f n FU 0 0 0 false).1 = 0 then (if (vr f n FU 0 0 0 false).2.2.1 = 0 then 0 else 8) else (vr f n FU 0 0 0 false).1
def vplace (f : Nat → Int32) (n : Nat) : Nat := (vr f n FU 0 0 0 false).2.1
theorem look_ok {n : Nat} (hn : n ≤ 1500) (f : Nat → Int32) (a b c d : Int32) : ∃ x y z : Int32, m_X0_lookOver a b c d (nI n) f = some (nI (vfault f n), nI (vplace f n), x, y, z) ∧ vfault f n ≤ 8 ∧ vplace f n ≤ n := by
  unfold m_X0_lookOver vfault vplace
  simp only [jn_s]
  have hl := look_loop hn f (fun (v0_1 : Int32) (v0_2 : Int32) (v0_3 : Int32) (v0_4 : Int32) => if (v0_2 ≤ 0 : Prop) then (some (0, v0_1, v0_2, v0_3, v0_4)) else (some (8, v0_1, v0_2, v0_3, v0_4))) FU 0 0 0 false (by omega) (by show n < 0 + 1000000; omega) (by omega) (by omega)
  generalize vr f n FU 0 0 0 false = q at hl ⊢
  obtain ⟨ft, p, o, k, bb⟩ := q
  rcases hl with ⟨h1, h2, h3, h4⟩ | ⟨h1, h2, h3, x, y, z, h4⟩
  · simp only at h1 h2 h3 h4 ⊢
    subst h1
    subst h2
    rw [if_pos rfl]
    rw [show lp_X0_lookOver_20 (nI p) _ f FU 0 0 0 0 = _ from h4]
    by_cases ho : o = 0
    · subst ho
      exact ⟨_, _, _, by rw [if_pos (by decide), if_pos rfl]; rfl, by simp, Nat.le_refl _⟩
    · exact ⟨_, _, _, by rw [if_neg (nI_nle (by omega) (by omega)), if_neg ho]; rfl, by simp [ho], Nat.le_refl _⟩
  · simp only at h1 h2 h3 h4 ⊢
    rw [if_neg h1]
    exact ⟨x, y, z, h4, by omega, by omega⟩
