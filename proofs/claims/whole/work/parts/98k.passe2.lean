def nst (code : Int32) (no : Nat) : Nat := if code = 1 then no + 1 else if code = 2 then no - 1 else no
theorem ord_nst {c : Int32} (h1 : ¬ c < 1) (h14 : c ≤ 14) {o k : Nat} {b : Bool} (h : (ord c o k b).1 = 0) : (ord c o k b).2.1 = nst c o := by
  by_cases hd : 4 ≤ c ∧ c ≤ 8
  · rw [ord_dr h1 h14 hd h]
    unfold nst
    rw [if_neg (fun z => by rw [z] at hd; exact absurd hd (by decide)), if_neg (fun z => by rw [z] at hd; exact absurd hd (by decide))]
  · rcases cmd14 h1 h14 with rfl | rfl | rfl | rfl | rfl | rfl | rfl | rfl | rfl | rfl | rfl | rfl | rfl | rfl
    · by_cases q : o + 1 ≤ 8
      · simp [ord, q, nst]
      · simp [ord, q] at h
    · by_cases q : o = 0
      · simp [ord, q] at h
      · simp [ord, q, nst]
    · simp [ord, nst]
    · exact absurd (by decide) hd
    · exact absurd (by decide) hd
    · exact absurd (by decide) hd
    · exact absurd (by decide) hd
    · exact absurd (by decide) hd
    · simp [ord, nst]
    · simp [ord, nst]
    · simp [ord, nst]
    · simp [ord, nst]
    · simp [ord, nst]
    · simp [ord, nst]
def E1 (f : Nat → Int32) (n : Nat) (M : Nat → Int32) (m : Nat) : Nat → Nat → Nat → Nat → Int32 → (Nat → Int32) → Prop
  | 0, _, _, _, _, _ => False
  | fu + 1, p, q, no, cur, st => (p = n ∧ q = m) ∨ (p < n ∧ f p = 10 ∧ dE f n p 10 cur = true ∧ E1 f n M m fu (p + 2) q no cur st) ∨ (p < n ∧ ¬ (f p = 10 ∧ dE f n p 10 cur = true) ∧ (∀ j, j < cl (f p) → M (q + j) = f (p + j)) ∧ q + cl (f p) ≤ m ∧ E1 f n M m fu (p + cl (f p)) (q + cl (f p)) (nst (f p) no) (est 10 (f p) (f (p + 1)) no cur st).1 (est 10 (f p) (f (p + 1)) no cur st).2)
theorem lockE1 {W H n : Nat} {f wd0 sz0 : Nat → Int32} (hW : W ≤ 32) (hH : H ≤ 32) : ∀ (N gu a k no nl np : Nat) (c : CM) (r : RF) (row wd sz : Nat → Int32), n ≤ a + N → N < gu → PI W H n f wd0 sz0 a k no nl (decide (0 < np)) no nl np c r row wd sz → ∃ (k' nl' np' : Nat) (c' : CM) (r' : RF) (row' wd' sz' : Nat → Int32), (∀ K : (Nat → Int32) → (Nat → Int32) → (Nat → Int32) → (Nat → Int32) → (Nat → Int32) → (Nat → Int32) → (Nat → Int32) → (Nat → Int32) → (Nat → Int32) → (Nat → Int32) → (Nat → Int32) → (Nat → Int32) → (Nat → Int32) → (Nat → Int32) → (Nat → Int32) → (Nat → Int32) → (Nat → Int32) → (Nat → Int32) → Option (Int32 × (Nat → Int32) × (Nat → Int32) × (Nat → Int32) × (Nat → Int32) × (Nat → Int32) × (Nat → Int32) × (Nat → Int32) × (Nat → Int32) × (Nat → Int32) × (Nat → Int32) × (Nat → Int32) × (Nat → Int32) × (Nat → Int32) × (Nat → Int32) × (Nat → Int32) × (Nat → Int32) × (Nat → Int32) × (Nat → Int32) × (Nat → Int32)), lp_X12_passE_8 K 10 gu (nI (1500 + a)) sz r.told r.saves r.points r.begun r.lines wd r.cut r.both r.px r.py r.begins r.startX r.startY r.startPoint r.lastX r.lastY r.saved = K sz' r'.told r'.saves r'.points r'.begun r'.lines wd' r'.cut r'.both r'.px r'.py r'.begins r'.startX r'.startY r'.startPoint r'.lastX r'.lastY r'.saved) ∧ PI W H n f wd0 sz0 n k' 0 nl' (decide (0 < np')) 0 nl' np' c' r' row' wd' sz' ∧ RFr 1 r r' ∧ (∀ j, j < k → row' j = row j) ∧ k ≤ k' ∧ E1 f n row' k' (N + 1) a k no c.col c.sc := by
  intro N
  induction N with
  | zero =>
    intro gu a k no nl np c r row wd sz h1 h3 h
    have hn := h.hn
    have ha := h.ha
    obtain ⟨gu, rfl⟩ : ∃ j, gu = j + 1 := ⟨gu - 1, by omega⟩
    obtain rfl : a = n := by omega
    have h0 : no = 0 := (VL.fin (Nat.le_refl _)).mp h.vin
    subst h0
    refine ⟨k, nl, np, c, r, row, wd, sz, fun K => ?_, h, RFr.refl 1 r, fun _ _ => rfl, Nat.le_refl _, Or.inl ⟨rfl, rfl⟩⟩
    rw [lp_X12_passE_8, endPlace_ok h.s1, bd1_s, if_pos (nI_le (Nat.le_refl _) (by omega))]
  | succ N ih =>
    intro gu a k no nl np c r row wd sz h1 h3 h
    have hn := h.hn
    have ha := h.ha
    obtain ⟨gu, rfl⟩ : ∃ j, gu = j + 1 := ⟨gu - 1, by omega⟩
    by_cases hp : a < n
    · obtain ⟨q1, q2, q3⟩ := h.vin.step hn hp
      obtain ⟨q4, q5, q6⟩ := fw_len q1
      have hc := cl_ge (f a)
      have htf : TL f n a := ⟨_, _, _, h.vin⟩
      have t10 : r.told 22 = c.col := h.mach.2.2.2.1.2.2.2.2.2.2.2.2.2.2.1
      by_cases e : f a = 10 ∧ dE f n a 10 c.col = true
      · have hs := h.skip hp
        have eo : ord (f a) no nl (decide (0 < np)) = (0, no, nl, decide (0 < np)) := by rw [e.1]; simp [ord]
        have hcl : cl (f a) = 2 := by rw [e.1]; rfl
        rw [eo] at hs
        obtain ⟨k', nl', np', c', r', row', wd', sz', b1, b2, b3, b4, b5, b6⟩ := ih gu (a + cl (f a)) k no nl np c r row wd sz (by omega) (by omega) hs
        refine ⟨k', nl', np', c', r', row', wd', sz', fun K => ?_, b2, b3, b4, b5, Or.inr (Or.inl ⟨hp, e.1, e.2, by rw [hcl] at b6; exact b6⟩)⟩
        rw [refE_skip hn hp htf h.s1 h.inp (Or.inl ⟨rfl, t10⟩) e.1 e.2]
        exact b1 K
      · obtain ⟨np1, c1, r1, row1, wd1, sz1, -, m2, m3, m4, -, m6, m7, m8, m9, m10, m11⟩ := h.keepX hW hH hp q2
        have m8' := m8
        rw [m7] at m8'
        obtain ⟨k', nl', np', c', r', row', wd', sz', b1, b2, b3, b4, b5, b6⟩ := ih gu (a + cl (f a)) (k + cl (f a)) _ _ np1 c1 r1 row1 wd1 sz1 (by omega) (by omega) m8'
        have wa1 : wd1 (1500 + a) = f a := m8.inp a hp
        rw [ord_nst q5 q6 q2] at b6
        have y1 : c1.col = (est 10 (f a) (f (a + 1)) no c.col c.sc).1 := by rw [← m4.1]
        have y2 : c1.sc = (est 10 (f a) (f (a + 1)) no c.col c.sc).2 := by rw [← m4.1]
        rw [y1, y2] at b6
        refine ⟨k', nl', np', c', r', row', wd', sz', fun K => ?_, b2, m9.tr b3, fun j hj => (b4 j (by omega)).trans (m10 j hj), by omega, Or.inr (Or.inr ⟨hp, e, fun j hj => (b4 _ (by omega)).trans (m11 j hj), b5, b6⟩)⟩
        rw [refE_keep hn hp htf h.s1 h.inp (Or.inl ⟨rfl, t10⟩) e m2 m3 m6 wa1]
        exact b1 K
    · obtain rfl : a = n := by omega
      have h0 : no = 0 := (VL.fin (Nat.le_refl _)).mp h.vin
      subst h0
      refine ⟨k, nl, np, c, r, row, wd, sz, fun K => ?_, h, RFr.refl 1 r, fun _ _ => rfl, Nat.le_refl _, Or.inl ⟨rfl, rfl⟩⟩
      rw [lp_X12_passE_8, endPlace_ok h.s1, bd1_s, if_pos (nI_le (Nat.le_refl _) (by omega))]
theorem fb_E1 {f M : Nat → Int32} {n m : Nat} (hn : n ≤ 1500) (hm : m ≤ 1500) {S : Int32 → Bool} (hS : ¬ S 10 = true) : ∀ (F p q no : Nat) (cur : Int32) (st : Nat → Int32), E1 f n M m F p q no cur st → fb f n S p = fb M m S q := by
  intro F
  induction F with
  | zero => intro p q no cur st h; exact absurd h (by simp [E1])
  | succ F ih =>
    intro p q no cur st h
    rcases h with ⟨rfl, rfl⟩ | ⟨h1, h2, h3, h4⟩ | ⟨h1, h2, h3, h4, h5⟩
    · rw [fb_end (Nat.le_refl _), fb_end (Nat.le_refl _)]
    · have hcl : cl (f p) = 2 := by rw [h2]; rfl
      rw [fb_go hn h1 (by rw [h2]; exact hS), hcl]
      exact ih _ _ _ _ _ h4
    · have hc := cl_ge (f p)
      have e0 : M q = f p := h3 0 (by omega)
      by_cases z : S (f p) = true
      · rw [fb_in h1 z, fb_in (show q < m by omega) (by rw [e0]; exact z), e0]
      · rw [fb_go hn h1 z, fb_go hm (show q < m by omega) (by rw [e0]; exact z), e0]
        exact ih _ _ _ _ _ h5
theorem est_rel {w code arg : Int32} {no : Nat} {cur : Int32} {st sc sc' : Nat → Int32} {cc : Int32} (he : (cc, sc') = est w code arg no cur sc) (hs : ∀ i, i < no → sc i = st i) (h2 : code = 2 → no ≠ 0) : cc = (est w code arg no cur st).1 ∧ ∀ i, i < nst code no → sc' i = (est w code arg no cur st).2 i := by
  unfold est at he ⊢
  unfold nst
  by_cases c1 : code = 1
  · rw [if_pos c1] at he ⊢
    obtain ⟨rfl, rfl⟩ := Prod.mk.inj he
    refine ⟨rfl, fun i hi => ?_⟩
    rw [if_pos c1] at hi
    by_cases e : i = no
    · subst e
      rw [pk_us]
      exact pk_us.symm
    · rw [pk_un e, hs i (by omega)]
      exact (pk_un e).symm
  · rw [if_neg c1] at he ⊢
    by_cases c2 : code = 2
    · rw [if_pos c2] at he ⊢
      obtain ⟨rfl, rfl⟩ := Prod.mk.inj he
      have := h2 c2
      refine ⟨hs _ (by omega), fun i hi => ?_⟩
      rw [if_neg c1, if_pos c2] at hi
      exact hs i (by omega)
    · rw [if_neg c2] at he ⊢
      have hi' : ∀ i, i < (if code = 1 then no + 1 else if code = 2 then no - 1 else no) → i < no := fun i hi => by
        rw [if_neg c1, if_neg c2] at hi
        exact hi
      by_cases c3 : code = w
      · rw [if_pos c3] at he ⊢
        obtain ⟨rfl, rfl⟩ := Prod.mk.inj he
        exact ⟨rfl, fun i hi => hs i (hi' i hi)⟩
      · rw [if_neg c3] at he ⊢
        obtain ⟨rfl, rfl⟩ := Prod.mk.inj he
        exact ⟨rfl, fun i hi => hs i (hi' i hi)⟩
