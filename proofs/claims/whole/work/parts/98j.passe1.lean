def SE (w c : Int32) : Bool := decide (c = w ∨ c = 2 ∨ c = 9 ∨ c = 1)
def dE (f : Nat → Int32) (n p : Nat) (w cur : Int32) : Bool := decide (f (p + 1) = cur ∨ ¬ (fb f n (SE w) (p + 2) = 9 ∨ fb f n (SE w) (p + 2) = 1))
theorem set_10 (c : Int32) (h1 : ¬ c < 1) (h2 : c ≤ 14) : (((518 : Int32) ||| ((1 : Int32) <<< ((10 : Int32) &&& 31))) &&& ((1 : Int32) <<< (c &&& 31))) = 0 ↔ ¬ SE 10 c = true := by
  rcases cmd14 h1 h2 with rfl | rfl | rfl | rfl | rfl | rfl | rfl | rfl | rfl | rfl | rfl | rfl | rfl | rfl <;> decide
theorem set_11 (c : Int32) (h1 : ¬ c < 1) (h2 : c ≤ 14) : (((518 : Int32) ||| ((1 : Int32) <<< ((11 : Int32) &&& 31))) &&& ((1 : Int32) <<< (c &&& 31))) = 0 ↔ ¬ SE 11 c = true := by
  rcases cmd14 h1 h2 with rfl | rfl | rfl | rfl | rfl | rfl | rfl | rfl | rfl | rfl | rfl | rfl | rfl | rfl <;> decide
theorem la_E {f : Nat → Int32} {n : Nat} (hn : n ≤ 1500) {sz wd : Nat → Int32} (hs : sz 1 = nI n) (hw : ∀ j, j < n → wd (1500 + j) = f j) {w : Int32} (K : Int32 → Option (Int32 × (Nat → Int32) × (Nat → Int32) × (Nat → Int32) × (Nat → Int32) × (Nat → Int32) × (Nat → Int32) × (Nat → Int32) × (Nat → Int32) × (Nat → Int32) × (Nat → Int32) × (Nat → Int32) × (Nat → Int32) × (Nat → Int32) × (Nat → Int32) × (Nat → Int32) × (Nat → Int32) × (Nat → Int32) × (Nat → Int32) × (Nat → Int32))) : ∀ (N gu p : Nat), n ≤ p + N → N < gu → p ≤ n → TL f n p → lp_X12_passE_38 sz K wd w gu (nI (1500 + p)) = K (nI (1500 + nx f n (SE w) 2000 p)) := by
  intro N
  induction N with
  | zero =>
    intro gu p h1 h2 h3 ht
    obtain ⟨gu, rfl⟩ : ∃ j, gu = j + 1 := ⟨gu - 1, by omega⟩
    rw [lp_X12_passE_38, endPlace_ok hs, bd1_s, if_pos (nI_le (by omega) (by omega)), nx_end (by omega)]
  | succ N ih =>
    intro gu p h1 h2 h3 ht
    obtain ⟨gu, rfl⟩ : ∃ j, gu = j + 1 := ⟨gu - 1, by omega⟩
    by_cases hp : p < n
    · obtain ⟨k1, k2, k3, k4⟩ := ht.step hn hp
      have hc := cl_ge (f p)
      have wp : wd (1500 + p) = f p := hw p hp
      have e6 := behind_ok (p := 1500 + p) (by omega) wd
      rw [wp, Nat.add_assoc] at e6
      rw [lp_X12_passE_38, endPlace_ok hs, bd1_s, if_neg (nI_ge (by omega) (by omega)), inb_s (show 1500 + p < 4500 by omega) (by decide), gd_s, nm_s, nI_clamp (show 1500 + p < 2 ^ 31 by omega), wp, e6]
      simp only [gd_s, nm_s, bd1_s]
      by_cases q : (SE w) (f p) = true
      · rw [nx_in hp q]
        have q' := of_decide_eq_true q
        by_cases zw : f p = w
        · rw [if_pos zw]
        · rw [if_neg zw]
          by_cases z2 : f p = 2
          · rw [if_pos z2]
          · rw [if_neg z2]
            by_cases z9 : f p = 9
            · rw [if_pos z9]
            · rw [if_neg z9, if_pos (q'.elim (fun z => absurd z zw) (fun q' => q'.elim (fun z => absurd z z2) (fun q' => q'.elim (fun z => absurd z z9) id)))]
      · have q' := fun z => q (decide_eq_true z)
        rw [nx_go hn hp q]
        rw [if_neg (fun z => q' (Or.inl z)), if_neg (fun z => q' (Or.inr (Or.inl z))), if_neg (fun z => q' (Or.inr (Or.inr (Or.inl z)))), if_neg (fun z => q' (Or.inr (Or.inr (Or.inr z))))]
        exact ih gu _ (by omega) (by omega) k1 k4
    · rw [lp_X12_passE_38, endPlace_ok hs, bd1_s, if_pos (nI_le (by omega) (by omega)), nx_end (by omega)]
theorem goesE_n {n a : Nat} {lf ob ja : Int32} {row : Nat → Int32} {s : SX} {c : CM} (h1 : ¬ row a = 10) (h2 : ¬ row a = 11) : m_X8_goes lf ob ja (nI n) row s.ta s.tb s.tc s.td s.te s.tf s.xa s.xb s.xc s.xd s.xe s.xf c.col c.way c.a c.b c.c c.d c.e c.f s.cx s.cy s.cu s.cv c.x c.y c.u c.v c.pts c.lx c.ly c.gy 4 (nI a) (row a) = some (0, ob, ja, row, s.ta, s.tb, s.tc, s.td, s.te, s.tf, s.xa, s.xb, s.xc, s.xd, s.xe, s.xf, s.cx, s.cy, s.cu, s.cv) := by
  unfold m_X8_goes m_X8_isIdlePaint
  rw [if_neg (by decide), if_neg (by decide), if_neg (by decide), if_neg (by decide), if_pos rfl, jn_s, if_neg h1, if_neg h2, bd1_s]
theorem goesE_y {n a : Nat} (hn : n ≤ 1500) (hp : a < n) {lf ob ja : Int32} {row : Nat → Int32} {s : SX} {c : CM} {w cur : Int32} (hw : (w = 10 ∧ cur = c.col) ∨ (w = 11 ∧ cur = c.way)) (hr : row a = w) (ht : TL row n a) : m_X8_goes lf ob ja (nI n) row s.ta s.tb s.tc s.td s.te s.tf s.xa s.xb s.xc s.xd s.xe s.xf c.col c.way c.a c.b c.c c.d c.e c.f s.cx s.cy s.cu s.cv c.x c.y c.u c.v c.pts c.lx c.ly c.gy 4 (nI a) (row a) = some (bI (dE row n a w cur), ob, ja, row, s.ta, s.tb, s.tc, s.td, s.te, s.tf, s.xa, s.xb, s.xc, s.xd, s.xe, s.xf, s.cx, s.cy, s.cu, s.cv) := by
  obtain ⟨k1, -, -, -⟩ := ht.step hn hp
  have hcl : cl (row a) = 2 := by rcases hw with ⟨z, -⟩ | ⟨z, -⟩ <;> rw [hr, z] <;> rfl
  have s1 : nI a + 1 = nI (a + 1) := nI_add a 1
  have hfb : m_X10_firstBehind (nI n) row (nI a) (518 ||| ((1 : Int32) <<< (w &&& 31))) = some (fb row n (SE w) (a + 2)) := by
    rcases hw with ⟨z, -⟩ | ⟨z, -⟩
    · subst z
      rw [firstBehind_ok hn set_10 hp ht, hcl]
    · subst z
      rw [firstBehind_ok hn set_11 hp ht, hcl]
  have fin : bd1 (bd1 (m_X10_word (nI n) row (nI a + 1)) (fun (r_4 : Int32) => if (r_4 = cur : Prop) then (some (1 : Int32)) else (bd1 (m_X10_firstBehind (nI n) row (nI a) (518 ||| ((1 : Int32) <<< (w &&& 31)))) (fun (r_7 : Int32) => if (r_7 = 9 : Prop) then (some 0) else (if (r_7 = 1 : Prop) then (some 0) else (some 1)))))) (fun (r_20 : Int32) => some (r_20, ob, ja, row, s.ta, s.tb, s.tc, s.td, s.te, s.tf, s.xa, s.xb, s.xc, s.xd, s.xe, s.xf, s.cx, s.cy, s.cu, s.cv)) = some (bI (dE row n a w cur), ob, ja, row, s.ta, s.tb, s.tc, s.td, s.te, s.tf, s.xa, s.xb, s.xc, s.xd, s.xe, s.xf, s.cx, s.cy, s.cu, s.cv) := by
    rw [s1, word_ok (show a + 1 < n by omega) hn, bd1_s, hfb, bd1_s]
    by_cases e1 : row (a + 1) = cur
    · rw [if_pos e1, bd1_s, show dE row n a w cur = true from decide_eq_true (Or.inl e1)]
      rfl
    · rw [if_neg e1]
      by_cases e2 : fb row n (SE w) (a + 2) = 9
      · rw [if_pos e2, bd1_s, show dE row n a w cur = false from decide_eq_false (fun z => z.elim e1 (fun y => y (Or.inl e2)))]
        rfl
      · rw [if_neg e2]
        by_cases e3 : fb row n (SE w) (a + 2) = 1
        · rw [if_pos e3, bd1_s, show dE row n a w cur = false from decide_eq_false (fun z => z.elim e1 (fun y => y (Or.inr e3)))]
          rfl
        · rw [if_neg e3, bd1_s, show dE row n a w cur = true from decide_eq_true (Or.inr (fun y => y.elim e2 e3))]
          rfl
  unfold m_X8_goes m_X8_isIdlePaint
  rw [if_neg (by decide), if_neg (by decide), if_neg (by decide), if_neg (by decide), if_pos rfl, jn_s, jn_ite, hr]
  rcases hw with ⟨z, z2⟩ | ⟨z, z2⟩
  · subst z z2
    rw [if_pos rfl, if_pos rfl]
    exact fin
  · subst z z2
    rw [if_neg (by decide), if_pos rfl, if_neg (by decide)]
    exact fin
theorem refE_go {n a gu : Nat} {f wd sz : Nat → Int32} {r : RF} {w cur : Int32} {K : (Nat → Int32) → (Nat → Int32) → (Nat → Int32) → (Nat → Int32) → (Nat → Int32) → (Nat → Int32) → (Nat → Int32) → (Nat → Int32) → (Nat → Int32) → (Nat → Int32) → (Nat → Int32) → (Nat → Int32) → (Nat → Int32) → (Nat → Int32) → (Nat → Int32) → (Nat → Int32) → (Nat → Int32) → (Nat → Int32) → Option (Int32 × (Nat → Int32) × (Nat → Int32) × (Nat → Int32) × (Nat → Int32) × (Nat → Int32) × (Nat → Int32) × (Nat → Int32) × (Nat → Int32) × (Nat → Int32) × (Nat → Int32) × (Nat → Int32) × (Nat → Int32) × (Nat → Int32) × (Nat → Int32) × (Nat → Int32) × (Nat → Int32) × (Nat → Int32) × (Nat → Int32) × (Nat → Int32))} (hn : n ≤ 1500) (hp : a < n) (ht : TL f n a) (hs : sz 1 = nI n) (hi : ∀ j, j < n → wd (1500 + j) = f j) (hw : (w = 10 ∧ r.told 22 = cur) ∨ (w = 11 ∧ r.told 23 = cur)) (hr : f a = w) (J : Int32 → Option (Int32 × (Nat → Int32) × (Nat → Int32) × (Nat → Int32) × (Nat → Int32) × (Nat → Int32) × (Nat → Int32) × (Nat → Int32) × (Nat → Int32) × (Nat → Int32) × (Nat → Int32) × (Nat → Int32) × (Nat → Int32) × (Nat → Int32) × (Nat → Int32) × (Nat → Int32) × (Nat → Int32) × (Nat → Int32) × (Nat → Int32) × (Nat → Int32))) : bd1 (m_X12_behind wd (nI (1500 + a))) (fun (r_120 : Int32) => jn (fun (l5_122 : Int32) => bd1 (some (nI (1500 + n))) (fun (r_124 : Int32) => jn (fun (s0_126 : Int32) => J s0_126) (fun (K159_127 : Int32 → Option (Int32 × (Nat → Int32) × (Nat → Int32) × (Nat → Int32) × (Nat → Int32) × (Nat → Int32) × (Nat → Int32) × (Nat → Int32) × (Nat → Int32) × (Nat → Int32) × (Nat → Int32) × (Nat → Int32) × (Nat → Int32) × (Nat → Int32) × (Nat → Int32) × (Nat → Int32) × (Nat → Int32) × (Nat → Int32) × (Nat → Int32) × (Nat → Int32))) => jn (K159_127 1) (fun (K154_128 : Option (Int32 × (Nat → Int32) × (Nat → Int32) × (Nat → Int32) × (Nat → Int32) × (Nat → Int32) × (Nat → Int32) × (Nat → Int32) × (Nat → Int32) × (Nat → Int32) × (Nat → Int32) × (Nat → Int32) × (Nat → Int32) × (Nat → Int32) × (Nat → Int32) × (Nat → Int32) × (Nat → Int32) × (Nat → Int32) × (Nat → Int32) × (Nat → Int32))) => if (l5_122 = r_124 : Prop) then (K154_128) else (gd (inb l5_122 4500) (nm (wd (l5_122 : Int32).toNatClampNeg) (fun (a_131 : Int32) => if (a_131 = w : Prop) then (K154_128) else (gd (inb l5_122 4500) (nm (wd (l5_122 : Int32).toNatClampNeg) (fun (a_134 : Int32) => if (a_134 = 2 : Prop) then (K154_128) else (gd (inb (12 + f a) 24) (nm (r.told ((12 + f a) : Int32).toNatClampNeg) (fun (a_137 : Int32) => gd (inb (nI (1500 + a) + 1) 4500) (nm (wd ((nI (1500 + a) + 1) : Int32).toNatClampNeg) (fun (a_139 : Int32) => if (a_137 = a_139 : Prop) then (K154_128) else (K159_127 0)))))))))))))))) (fun (K103_123 : Int32 → Option (Int32 × (Nat → Int32) × (Nat → Int32) × (Nat → Int32) × (Nat → Int32) × (Nat → Int32) × (Nat → Int32) × (Nat → Int32) × (Nat → Int32) × (Nat → Int32) × (Nat → Int32) × (Nat → Int32) × (Nat → Int32) × (Nat → Int32) × (Nat → Int32) × (Nat → Int32) × (Nat → Int32) × (Nat → Int32) × (Nat → Int32) × (Nat → Int32))) => lp_X12_passE_38 sz K103_123 wd w FU r_120)) = J (bI (dE f n a w cur)) := by
  obtain ⟨k1, -, -, k4⟩ := ht.step hn hp
  have hcl : cl (f a) = 2 := by rcases hw with ⟨z, -⟩ | ⟨z, -⟩ <;> rw [hr, z] <;> rfl
  have wa : wd (1500 + a) = f a := hi a hp
  have e6 := behind_ok (p := 1500 + a) (by omega) wd
  rw [wa, Nat.add_assoc, hcl] at e6
  rw [hcl] at k1 k4
  obtain ⟨n1, n2⟩ := nx_ok (S := SE w) hn 1500 (a + 2) (by omega) k1 k4
  rw [e6, bd1_s, jn_s, la_E hn hs hi _ 1500 FU (a + 2) (by omega) (by rw [FU_s]; omega) k1 k4, bd1_s, jn_s, jn_s]
  have s1 : nI (1500 + a) + 1 = nI (1500 + a + 1) := nI_add (1500 + a) 1
  have w1 : wd (1500 + a + 1) = f (a + 1) := hi (a + 1) (by omega)
  have hidx : inb (12 + f a) 24 = true ∧ r.told ((12 + f a) : Int32).toNatClampNeg = cur := by
    rcases hw with ⟨z, z2⟩ | ⟨z, z2⟩
    · rw [hr, z]
      exact ⟨by decide, z2⟩
    · rw [hr, z]
      exact ⟨by decide, z2⟩
  unfold dE
  rw [fb_nx, hidx.1, hidx.2, s1, inb_s (show 1500 + a + 1 < 4500 by omega) (by decide), nI_clamp (show 1500 + a + 1 < 2 ^ 31 by omega), w1]
  generalize nx f n (SE w) 2000 (a + 2) = q at n1 n2
  by_cases z : q < n
  · obtain ⟨y1, y2, y3⟩ := n2 z
    have y1' := of_decide_eq_true y1
    rw [if_neg (show ¬ nI (1500 + q) = nI (1500 + n) by rw [nI_eq (by omega) (by omega)]; omega), inb_s (show 1500 + q < 4500 by omega) (by decide), gd_s, nm_s, nI_clamp (show 1500 + q < 2 ^ 31 by omega), hi q z, if_pos z]
    have w9 : ¬ w = 9 ∧ ¬ w = 1 := by rcases hw with ⟨z, -⟩ | ⟨z, -⟩ <;> rw [z] <;> decide
    by_cases x1 : f q = w
    · rw [if_pos x1, show decide (f (a + 1) = cur ∨ ¬ (f q = 9 ∨ f q = 1)) = true from decide_eq_true (Or.inr (fun y => y.elim (fun y => w9.1 (x1.symm.trans y)) (fun y => w9.2 (x1.symm.trans y))))]
      rfl
    · rw [if_neg x1, gd_s, nm_s]
      by_cases x2 : f q = 2
      · rw [if_pos x2, show decide (f (a + 1) = cur ∨ ¬ (f q = 9 ∨ f q = 1)) = true from decide_eq_true (Or.inr (fun y => by rw [x2] at y; exact absurd y (by decide)))]
        rfl
      · rw [if_neg x2, gd_s, nm_s, gd_s, nm_s]
        have x3 : f q = 9 ∨ f q = 1 := (y1'.resolve_left x1).resolve_left x2
        by_cases x4 : cur = f (a + 1)
        · rw [if_pos x4, show decide (f (a + 1) = cur ∨ ¬ (f q = 9 ∨ f q = 1)) = true from decide_eq_true (Or.inl x4.symm)]
          rfl
        · rw [if_neg x4, show decide (f (a + 1) = cur ∨ ¬ (f q = 9 ∨ f q = 1)) = false from decide_eq_false (fun y => y.elim (fun y => x4 y.symm) (fun y => y x3))]
          rfl
  · rw [if_pos (show nI (1500 + q) = nI (1500 + n) by rw [nI_eq (by omega) (by omega)]; omega), if_neg z, show decide (f (a + 1) = cur ∨ ¬ ((0 : Int32) = 9 ∨ (0 : Int32) = 1)) = true from decide_eq_true (Or.inr (by decide))]
    rfl
theorem refE_skip {n a gu : Nat} {f wd sz : Nat → Int32} {r : RF} {w cur : Int32} {K : (Nat → Int32) → (Nat → Int32) → (Nat → Int32) → (Nat → Int32) → (Nat → Int32) → (Nat → Int32) → (Nat → Int32) → (Nat → Int32) → (Nat → Int32) → (Nat → Int32) → (Nat → Int32) → (Nat → Int32) → (Nat → Int32) → (Nat → Int32) → (Nat → Int32) → (Nat → Int32) → (Nat → Int32) → (Nat → Int32) → Option (Int32 × (Nat → Int32) × (Nat → Int32) × (Nat → Int32) × (Nat → Int32) × (Nat → Int32) × (Nat → Int32) × (Nat → Int32) × (Nat → Int32) × (Nat → Int32) × (Nat → Int32) × (Nat → Int32) × (Nat → Int32) × (Nat → Int32) × (Nat → Int32) × (Nat → Int32) × (Nat → Int32) × (Nat → Int32) × (Nat → Int32) × (Nat → Int32))} (hn : n ≤ 1500) (hp : a < n) (ht : TL f n a) (hs : sz 1 = nI n) (hi : ∀ j, j < n → wd (1500 + j) = f j) (hw : (w = 10 ∧ r.told 22 = cur) ∨ (w = 11 ∧ r.told 23 = cur)) (hr : f a = w) (hd : dE f n a w cur = true) : lp_X12_passE_8 K w (gu + 1) (nI (1500 + a)) sz r.told r.saves r.points r.begun r.lines wd r.cut r.both r.px r.py r.begins r.startX r.startY r.startPoint r.lastX r.lastY r.saved = lp_X12_passE_8 K w gu (nI (1500 + (a + cl (f a)))) sz r.told r.saves r.points r.begun r.lines wd r.cut r.both r.px r.py r.begins r.startX r.startY r.startPoint r.lastX r.lastY r.saved := by
  have wa : wd (1500 + a) = f a := hi a hp
  have e6 := behind_ok (p := 1500 + a) (by omega) wd
  rw [wa, Nat.add_assoc] at e6
  rw [lp_X12_passE_8, endPlace_ok hs, bd1_s, if_neg (nI_ge (by omega) (by omega)), inb_s (show 1500 + a < 4500 by omega) (by decide), gd_s, nm_s, nI_clamp (show 1500 + a < 2 ^ 31 by omega), wa, jn_s, if_pos hr]
  refine (refE_go (gu := gu) (K := K) hn hp ht hs hi hw hr _).trans ?_
  rw [hd, jn_s, if_neg (show ¬ bI true = 0 by decide)]
  show bd1 _ _ = _
  rw [e6, bd1_s]
theorem refE_keep {n a gu : Nat} {f wd sz : Nat → Int32} {r : RF} {w cur : Int32} {K : (Nat → Int32) → (Nat → Int32) → (Nat → Int32) → (Nat → Int32) → (Nat → Int32) → (Nat → Int32) → (Nat → Int32) → (Nat → Int32) → (Nat → Int32) → (Nat → Int32) → (Nat → Int32) → (Nat → Int32) → (Nat → Int32) → (Nat → Int32) → (Nat → Int32) → (Nat → Int32) → (Nat → Int32) → (Nat → Int32) → Option (Int32 × (Nat → Int32) × (Nat → Int32) × (Nat → Int32) × (Nat → Int32) × (Nat → Int32) × (Nat → Int32) × (Nat → Int32) × (Nat → Int32) × (Nat → Int32) × (Nat → Int32) × (Nat → Int32) × (Nat → Int32) × (Nat → Int32) × (Nat → Int32) × (Nat → Int32) × (Nat → Int32) × (Nat → Int32) × (Nat → Int32) × (Nat → Int32))} (hn : n ≤ 1500) (hp : a < n) (ht : TL f n a) (hs : sz 1 = nI n) (hi : ∀ j, j < n → wd (1500 + j) = f j) (hw : (w = 10 ∧ r.told 22 = cur) ∨ (w = 11 ∧ r.told 23 = cur)) (hd : ¬ (f a = w ∧ dE f n a w cur = true)) {r1 : RF} {wd1 sz1 : Nat → Int32} (h9 : f a ≠ 9 → m_X12_follow wd r.told r.cut r.both r.points r.px r.py r.begins r.startX r.startY r.startPoint r.begun r.lines r.lastX r.lastY r.saves r.saved 1 (nI (1500 + a)) = some (r1.told, r1.cut, r1.both, r1.points, r1.px, r1.py, r1.begins, r1.startX, r1.startY, r1.startPoint, r1.begun, r1.lines, r1.lastX, r1.lastY, r1.saves, r1.saved)) (h9' : f a = 9 → r1 = r) (m6 : m_X12_keepCommand wd sz (nI (1500 + a)) = some (wd1, sz1)) (wa1 : wd1 (1500 + a) = f a) : lp_X12_passE_8 K w (gu + 1) (nI (1500 + a)) sz r.told r.saves r.points r.begun r.lines wd r.cut r.both r.px r.py r.begins r.startX r.startY r.startPoint r.lastX r.lastY r.saved = lp_X12_passE_8 K w gu (nI (1500 + (a + cl (f a)))) sz1 r1.told r1.saves r1.points r1.begun r1.lines wd1 r1.cut r1.both r1.px r1.py r1.begins r1.startX r1.startY r1.startPoint r1.lastX r1.lastY r1.saved := by
  have wa : wd (1500 + a) = f a := hi a hp
  have e5 := behind_ok (p := 1500 + a) (by omega) wd1
  rw [wa1, Nat.add_assoc] at e5
  rw [lp_X12_passE_8, endPlace_ok hs, bd1_s, if_neg (nI_ge (by omega) (by omega)), inb_s (show 1500 + a < 4500 by omega) (by decide), gd_s, nm_s, nI_clamp (show 1500 + a < 2 ^ 31 by omega), wa, jn_s]
  by_cases hr : f a = w
  · rw [if_pos hr]
    refine (refE_go (gu := gu) (K := K) hn hp ht hs hi hw hr _).trans ?_
    rw [show dE f n a w cur = false from Bool.eq_false_iff.mpr (fun z => hd ⟨hr, z⟩), jn_s, if_pos (show bI false = 0 from rfl), jn_s]
    by_cases z9 : f a = 9
    · obtain rfl := h9' z9
      rw [if_pos z9]
      show bd2 _ _ = _
      rw [m6, bd2_s]
      show bd1 _ _ = _
      rw [e5, bd1_s]
    · rw [if_neg z9, h9 z9, bd16_s]
      show bd2 _ _ = _
      rw [m6, bd2_s]
      show bd1 _ _ = _
      rw [e5, bd1_s]
  · rw [if_neg hr]
    show jn _ _ = _
    rw [jn_s, if_pos rfl, jn_s]
    by_cases z9 : f a = 9
    · obtain rfl := h9' z9
      rw [if_pos z9]
      show bd2 _ _ = _
      rw [m6, bd2_s]
      show bd1 _ _ = _
      rw [e5, bd1_s]
    · rw [if_neg z9, h9 z9, bd16_s]
      show bd2 _ _ = _
      rw [m6, bd2_s]
      show bd1 _ _ = _
      rw [e5, bd1_s]
