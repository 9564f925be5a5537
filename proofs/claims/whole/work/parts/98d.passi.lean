theorem nx_end {f : Nat → Int32} {n p : Nat} {S : Int32 → Bool} (h : n ≤ p) : nx f n S 2000 p = p := by
  rw [nx, if_pos h]
theorem nx_in {f : Nat → Int32} {n p : Nat} {S : Int32 → Bool} (hp : p < n) (h : S (f p) = true) : nx f n S 2000 p = p := by
  rw [nx, if_neg (show ¬ n ≤ p by omega), if_pos h]
theorem nx_go {f : Nat → Int32} {n p : Nat} {S : Int32 → Bool} (hn : n ≤ 1500) (hp : p < n) (h : ¬ S (f p) = true) : nx f n S 2000 p = nx f n S 2000 (p + cl (f p)) := by
  have := cl_ge (f p)
  rw [nx, if_neg (show ¬ n ≤ p by omega), if_neg h, nx_fu 1999 2000 _ (by omega) (by omega)]
theorem nx_ok {f : Nat → Int32} {n : Nat} {S : Int32 → Bool} (hn : n ≤ 1500) : ∀ (N p : Nat), n ≤ p + N → p ≤ n → TL f n p → nx f n S 2000 p ≤ n ∧ (nx f n S 2000 p < n → S (f (nx f n S 2000 p)) = true ∧ ¬ f (nx f n S 2000 p) < 1 ∧ f (nx f n S 2000 p) ≤ 14) := by
  intro N
  induction N with
  | zero =>
    intro p h1 h2 ht
    rw [nx_end (by omega)]
    exact ⟨h2, fun z => by omega⟩
  | succ N ih =>
    intro p h1 h2 ht
    by_cases hp : p < n
    · obtain ⟨k1, k2, k3, k4⟩ := ht.step hn hp
      have hc := cl_ge (f p)
      by_cases q : S (f p) = true
      · rw [nx_in hp q]
        exact ⟨by omega, fun _ => ⟨q, k2, k3⟩⟩
      · rw [nx_go hn hp q]
        exact ih _ (by omega) k1 k4
    · rw [nx_end (by omega)]
      exact ⟨h2, fun z => by omega⟩
theorem fb_nx {f : Nat → Int32} {n p : Nat} {S : Int32 → Bool} : fb f n S p = if nx f n S 2000 p < n then f (nx f n S 2000 p) else 0 := rfl
theorem goesI {n a : Nat} (hn : n ≤ 1500) (ha : a < 2000) {lf ob ja : Int32} {row : Nat → Int32} {s : SX} {c : CM} (code : Int32) : m_X8_goes lf ob ja (nI n) row s.ta s.tb s.tc s.td s.te s.tf s.xa s.xb s.xc s.xd s.xe s.xf c.col c.way c.a c.b c.c c.d c.e c.f s.cx s.cy s.cu s.cv c.x c.y c.u c.v c.pts c.lx c.ly c.gy 8 (nI a) code = some (bI (decide (code = 1 ∧ wv row n (a + 1) = 2)), ob, ja, row, s.ta, s.tb, s.tc, s.td, s.te, s.tf, s.xa, s.xb, s.xc, s.xd, s.xe, s.xf, s.cx, s.cy, s.cu, s.cv) := by
  unfold m_X8_goes m_X8_isEmptySave
  rw [if_neg (by decide), if_neg (by decide), if_neg (by decide), if_neg (by decide), if_neg (by decide), if_neg (by decide), if_neg (by decide), if_neg (by decide)]
  by_cases e : code = 1
  · rw [if_pos e, show nI a + 1 = nI (a + 1) from nI_add a 1, word_wv hn (by omega), bd1_s]
    by_cases z : wv row n (a + 1) = 2
    · rw [if_pos z, bd1_s, show decide (code = 1 ∧ wv row n (a + 1) = 2) = true from decide_eq_true ⟨e, z⟩]
      rfl
    · rw [if_neg z, bd1_s, show decide (code = 1 ∧ wv row n (a + 1) = 2) = false from decide_eq_false (fun q => z q.2)]
      rfl
  · rw [if_neg e, bd1_s, show decide (code = 1 ∧ wv row n (a + 1) = 2) = false from decide_eq_false (fun q => e q.1)]
    rfl
theorem lockI {W H n : Nat} {f wd0 sz0 : Nat → Int32} (hW : W ≤ 32) (hH : H ≤ 32) (lf ob : Int32) (s : SX) : ∀ (N fu gu a k no nl np : Nat) (c : CM) (r : RF) (row wd sz : Nat → Int32), n ≤ a + N → N < fu → N < gu → PI W H n f wd0 sz0 a k no nl (decide (0 < np)) no nl np c r row wd sz → ∃ (k' nl' np' : Nat) (c' : CM) (r' : RF) (row' wd' sz' : Nat → Int32), (∀ K : Int32 → Int32 → Int32 → Int32 → Int32 → Int32 → Int32 → Int32 → Int32 → Int32 → Int32 → Int32 → Int32 → Int32 → Int32 → Int32 → Int32 → Int32 → Int32 → Int32 → Int32 → Int32 → Int32 → Int32 → Int32 → Int32 → (Nat → Int32) → Int32 → Int32 → Int32 → Int32 → Int32 → Int32 → Int32 → Int32 → Int32 → Int32 → Int32 → Int32 → Int32 → Int32 → Int32 → Int32 → Int32 → Int32 → Int32 → Int32 → Int32 → Int32 → (Nat → Int32) → (Nat → Int32) → (Nat → Int32) → (Nat → Int32) → (Nat → Int32) → (Nat → Int32) → (Nat → Int32) → (Nat → Int32) → (Nat → Int32) → (Nat → Int32) → (Nat → Int32) → (Nat → Int32) → (Nat → Int32) → (Nat → Int32) → (Nat → Int32) → Option (Int32 × Int32 × Int32 × Int32 × Int32 × Int32 × Int32 × Int32 × Int32 × Int32 × Int32 × Int32 × Int32 × Int32 × Int32 × Int32 × Int32 × Int32 × Int32 × Int32 × Int32 × Int32 × Int32 × Int32 × Int32 × Int32 × Int32 × Int32 × (Nat → Int32) × Int32 × Int32 × Int32 × Int32 × Int32 × Int32 × Int32 × Int32 × Int32 × Int32 × Int32 × Int32 × Int32 × Int32 × Int32 × Int32 × Int32 × Int32 × Int32 × Int32 × Int32 × Int32 × (Nat → Int32) × (Nat → Int32) × (Nat → Int32) × (Nat → Int32) × (Nat → Int32) × (Nat → Int32) × (Nat → Int32) × (Nat → Int32) × (Nat → Int32) × (Nat → Int32) × (Nat → Int32) × (Nat → Int32) × (Nat → Int32) × (Nat → Int32) × (Nat → Int32)), lp_X8_goThrough_33 (nI n) K lf 8 fu (nI k) (nI a) ob (-1) c.opn c.col c.way c.a c.b c.c c.d c.e c.f c.x c.y c.u c.v c.pts c.lns c.fst c.ftx c.fty c.ltx c.lty c.lx c.ly c.gy row s.ta s.tb s.tc s.td s.te s.tf s.xa s.xb s.xc s.xd s.xe s.xf s.cx s.cy s.cu s.cv c.na c.nb c.nc c.nd c.ne c.nf c.xs c.ys c.bg c.sc c.sw c.sa c.sb c.sC c.sd c.se c.sf c.sx c.sy c.su c.sv = K (nI k') ob (-1) c'.opn c'.col c'.way c'.a c'.b c'.c c'.d c'.e c'.f c'.x c'.y c'.u c'.v c'.pts c'.lns c'.fst c'.ftx c'.fty c'.ltx c'.lty c'.lx c'.ly c'.gy row' s.ta s.tb s.tc s.td s.te s.tf s.xa s.xb s.xc s.xd s.xe s.xf s.cx s.cy s.cu s.cv c'.na c'.nb c'.nc c'.nd c'.ne c'.nf c'.xs c'.ys c'.bg c'.sc c'.sw c'.sa c'.sb c'.sC c'.sd c'.se c'.sf c'.sx c'.sy c'.su c'.sv) ∧ (∀ K : (Nat → Int32) → (Nat → Int32) → Option (Int32 × (Nat → Int32) × (Nat → Int32) × (Nat → Int32) × (Nat → Int32) × (Nat → Int32) × (Nat → Int32) × (Nat → Int32) × (Nat → Int32)), lp_X12_passI_8 K gu (nI (1500 + a)) sz wd = K sz' wd') ∧ PI W H n f wd0 sz0 n k' 0 nl' (decide (0 < np')) 0 nl' np' c' r' row' wd' sz' := by
  intro N
  induction N with
  | zero =>
    intro fu gu a k no nl np c r row wd sz h1 h2 h3 h
    have hn := h.hn
    have ha := h.ha
    obtain ⟨fu, rfl⟩ : ∃ j, fu = j + 1 := ⟨fu - 1, by omega⟩
    obtain ⟨gu, rfl⟩ : ∃ j, gu = j + 1 := ⟨gu - 1, by omega⟩
    obtain rfl : a = n := by omega
    have h0 : no = 0 := (VL.fin (Nat.le_refl _)).mp h.vin
    subst h0
    refine ⟨k, nl, np, c, r, row, wd, sz, fun K => gt_end hn (Nat.le_refl _) (by omega) K _ _ _ _ _ _ _ _ _, fun K => ?_, h⟩
    rw [lp_X12_passI_8, endPlace_ok h.s1, bd1_s, if_pos (nI_le (Nat.le_refl _) (by omega))]
  | succ N ih =>
    intro fu gu a k no nl np c r row wd sz h1 h2 h3 h
    have hn := h.hn
    have ha := h.ha
    obtain ⟨fu, rfl⟩ : ∃ j, fu = j + 1 := ⟨fu - 1, by omega⟩
    obtain ⟨gu, rfl⟩ : ∃ j, gu = j + 1 := ⟨gu - 1, by omega⟩
    by_cases hp : a < n
    · skip
      obtain ⟨q1, q2, q3⟩ := h.vin.step hn hp
      obtain ⟨q4, q5, q6⟩ := fw_len q1
      have hc := cl_ge (f a)
      have ra : row a = f a := h.tail a (Nat.le_refl _) hp
      have wa : wd (1500 + a) = f a := h.inp a hp
      have hj : ¬ nI a = (-1 : Int32) := by
        intro z
        have := nI_ti (show a < 2 ^ 31 by omega)
        rw [z] at this
        have e1 : (-1 : Int32).toInt = -1 := by decide
        omega
      have hg := goesI (lf := lf) (ob := ob) (ja := -1) (row := row) (s := s) (c := c) hn (show a < 2000 by omega) (row a)
      have e6 := behind_ok (p := 1500 + a) (by omega) wd
      rw [wa, Nat.add_assoc] at e6
      by_cases e : f a = 1 ∧ wv row n (a + 1) = 2
      · obtain ⟨e1, e2⟩ := e
        have hp1 : a + 1 < n := by
          by_cases z : a + 1 < n
          · exact z
          · unfold wv at e2
            rw [if_neg z] at e2
            exact absurd e2 (by decide)
        rw [wv_in hp1, h.tail _ (by omega) hp1] at e2
        have c1 : cl (f a) = 1 := by rw [e1]; rfl
        have c2 : cl (f (a + 1)) = 1 := by rw [e2]; rfl
        have wa1 : wd (1500 + (a + 1)) = f (a + 1) := h.inp _ hp1
        have hno : no + 1 ≤ 8 := by
          by_cases z : no + 1 ≤ 8
          · exact z
          · rw [e1] at q2
            simp [ord, z] at q2
        have o1 : ord (f a) no nl (decide (0 < np)) = (0, no + 1, nl, decide (0 < np)) := by rw [e1]; simp [ord, hno]
        have hs := h.skip hp
        rw [o1, c1] at hs
        have hs2 := hs.skip hp1
        have o2 : ord (f (a + 1)) (no + 1) nl (decide (0 < np)) = (0, no, nl, decide (0 < np)) := by rw [e2]; simp [ord]
        rw [o2, c2] at hs2
        obtain ⟨k', nl', np', c', r', row', wd', sz', b1, b2, b3⟩ := ih fu gu (a + 1 + 1) k no nl np c r row wd sz (by omega) (by omega) (by omega) hs2
        refine ⟨k', nl', np', c', r', row', wd', sz', fun K => ?_, fun K => ?_, b3⟩
        · rw [gt_skip hn hp hj (by rw [hg, show decide (row a = 1 ∧ wv row n (a + 1) = 2) = true from decide_eq_true ⟨ra.trans e1, by rw [wv_in hp1, h.tail _ (by omega) hp1]; exact e2⟩]; rfl), if_pos rfl]
          exact b1 K
        · have e7 := behind_ok (p := 1500 + (a + 1)) (by omega) wd
          rw [wa1, c2] at e7
          rw [c1] at e6
          rw [lp_X12_passI_8, endPlace_ok h.s1, bd1_s, if_neg (nI_ge (by omega) (by omega)), e6, bd1_s, inb_s (show 1500 + a < 4500 by omega) (by decide), gd_s, nm_s, nI_clamp (show 1500 + a < 2 ^ 31 by omega), wa]
          simp only [jn_s]
          rw [if_pos e1, bd1_s, if_neg (nI_ge (by omega) (by omega)), inb_s (show 1500 + (a + 1) < 4500 by omega) (by decide), gd_s, nm_s, nI_clamp (show 1500 + (a + 1) < 2 ^ 31 by omega), wa1, if_pos e2, e7, bd1_s]
          exact b2 K
      · obtain ⟨np1, c1, r1, row1, wd1, sz1, m1, -, -, -, m5, m6, m7, m8, -⟩ := h.keep hW hH hp q2
        have m8' := m8
        rw [m7] at m8'
        obtain ⟨k', nl', np', c', r', row', wd', sz', b1, b2, b3⟩ := ih fu gu (a + cl (f a)) (k + cl (f a)) _ _ np1 c1 r1 row1 wd1 sz1 (by omega) (by omega) (by omega) m8'
        have wa1 : wd1 (1500 + a) = f a := m8.inp a hp
        have e5 := behind_ok (p := 1500 + a) (by omega) wd1
        rw [wa1, Nat.add_assoc] at e5
        refine ⟨k', nl', np', c', r', row', wd', sz', fun K => ?_, fun K => ?_, b3⟩
        · rw [gt_keep hn hp hj (by rw [hg, show decide (row a = 1 ∧ wv row n (a + 1) = 2) = false from decide_eq_false (fun z => e ⟨ra.symm.trans z.1, z.2⟩)]; rfl) m1 (by rw [ra]; exact m5), ra]
          exact b1 K
        · rw [lp_X12_passI_8, endPlace_ok h.s1, bd1_s, if_neg (nI_ge (by omega) (by omega)), e6, bd1_s, inb_s (show 1500 + a < 4500 by omega) (by decide), gd_s, nm_s, nI_clamp (show 1500 + a < 2 ^ 31 by omega), wa]
          simp only [jn_s, m6, bd2_s]
          by_cases z1 : f a = 1
          · have c1 : cl (f a) = 1 := by rw [z1]; rfl
            rw [if_pos z1, bd1_s]
            by_cases z2 : n ≤ a + cl (f a)
            · rw [if_pos (nI_le (by omega) (by omega))]
              exact b2 K
            · rw [if_neg (nI_ge (by omega) (by omega)), inb_s (show 1500 + (a + cl (f a)) < 4500 by omega) (by decide), gd_s, nm_s, nI_clamp (show 1500 + (a + cl (f a)) < 2 ^ 31 by omega), h.inp _ (by omega), if_neg (fun z => e ⟨z1, by rw [c1] at z z2; rw [wv_in (by omega), h.tail _ (by omega) (by omega)]; exact z⟩)]
              exact b2 K
          · rw [if_neg z1]
            exact b2 K
    · obtain rfl : a = n := by omega
      have h0 : no = 0 := (VL.fin (Nat.le_refl _)).mp h.vin
      subst h0
      refine ⟨k, nl, np, c, r, row, wd, sz, fun K => gt_end hn (Nat.le_refl _) (by omega) K _ _ _ _ _ _ _ _ _, fun K => ?_, h⟩
      rw [lp_X12_passI_8, endPlace_ok h.s1, bd1_s, if_pos (nI_le (Nat.le_refl _) (by omega))]
def SH (c : Int32) : Bool := decide (c = 1 ∨ c = 2 ∨ (4 ≤ c ∧ c ≤ 9))
theorem set_H (c : Int32) (h1 : ¬ c < 1) (h2 : c ≤ 14) : ((1014 : Int32) &&& ((1 : Int32) <<< (c &&& 31))) = 0 ↔ ¬ SH c = true := by
  rcases cmd14 h1 h2 with rfl | rfl | rfl | rfl | rfl | rfl | rfl | rfl | rfl | rfl | rfl | rfl | rfl | rfl <;> decide
theorem la_H {f : Nat → Int32} {n : Nat} (hn : n ≤ 1500) {sz wd : Nat → Int32} (hs : sz 1 = nI n) (hw : ∀ j, j < n → wd (1500 + j) = f j) (K : Int32 → Option (Int32 × (Nat → Int32) × (Nat → Int32) × (Nat → Int32) × (Nat → Int32) × (Nat → Int32) × (Nat → Int32) × (Nat → Int32) × (Nat → Int32))) : ∀ (N gu p : Nat), n ≤ p + N → N < gu → p ≤ n → TL f n p → lp_X12_passH_29 sz K wd gu (nI (1500 + p)) = K (nI (1500 + nx f n SH 2000 p)) := by
  intro N
  induction N with
  | zero =>
    intro gu p h1 h2 h3 ht
    obtain ⟨gu, rfl⟩ : ∃ j, gu = j + 1 := ⟨gu - 1, by omega⟩
    rw [lp_X12_passH_29, endPlace_ok hs, bd1_s, if_pos (nI_le (by omega) (by omega)), nx_end (by omega)]
  | succ N ih =>
    intro gu p h1 h2 h3 ht
    obtain ⟨gu, rfl⟩ : ∃ j, gu = j + 1 := ⟨gu - 1, by omega⟩
    by_cases hp : p < n
    · obtain ⟨k1, k2, k3, k4⟩ := ht.step hn hp
      have hc := cl_ge (f p)
      have wp : wd (1500 + p) = f p := hw p hp
      have e6 := behind_ok (p := 1500 + p) (by omega) wd
      rw [wp, Nat.add_assoc] at e6
      rw [lp_X12_passH_29, endPlace_ok hs, bd1_s, if_neg (nI_ge (by omega) (by omega)), inb_s (show 1500 + p < 4500 by omega) (by decide), gd_s, nm_s, nI_clamp (show 1500 + p < 2 ^ 31 by omega), wp, e6]
      simp only [gd_s, nm_s, draws_ok, bd1_s]
      by_cases q : SH (f p) = true
      · rw [nx_in hp q]
        have q' := of_decide_eq_true q
        by_cases z2 : f p = 2
        · rw [if_pos z2]
        · rw [if_neg z2]
          by_cases z1 : f p = 1
          · rw [if_pos z1]
          · rw [if_neg z1]
            by_cases zd : 4 ≤ f p ∧ f p ≤ 8
            · rw [if_neg (by rw [show decide (4 ≤ f p ∧ f p ≤ 8) = true from decide_eq_true zd]; decide)]
            · have z9 : f p = 9 := by
                rcases q' with q' | q' | q'
                · exact absurd q' z1
                · exact absurd q' z2
                · rcases cmd14 k2 k3 with y | y | y | y | y | y | y | y | y | y | y | y | y | y <;> rw [y] at q' zd ⊢ <;> first | rfl | exact absurd (by decide) zd | exact absurd q' (by decide)
              rw [if_pos (by rw [show decide (4 ≤ f p ∧ f p ≤ 8) = false from decide_eq_false zd]; rfl), if_pos z9]
      · have q' : ¬ (f p = 1 ∨ f p = 2 ∨ (4 ≤ f p ∧ f p ≤ 9)) := fun z => q (decide_eq_true z)
        rw [nx_go hn hp q, if_neg (fun z => q' (Or.inr (Or.inl z))), if_neg (fun z => q' (Or.inl z))]
        have zd : ¬ (4 ≤ f p ∧ f p ≤ 8) := fun z => q' (Or.inr (Or.inr ⟨z.1, i_tr z.2 (by decide)⟩))
        rw [if_pos (by rw [show decide (4 ≤ f p ∧ f p ≤ 8) = false from decide_eq_false zd]; rfl), if_neg (fun z => q' (Or.inr (Or.inr (by rw [z]; decide))))]
        exact ih gu _ (by omega) (by omega) k1 k4
    · rw [lp_X12_passH_29, endPlace_ok hs, bd1_s, if_pos (nI_le (by omega) (by omega)), nx_end (by omega)]
theorem goesH {n a : Nat} (hn : n ≤ 1500) (hp : a < n) {lf ob ja : Int32} {row : Nat → Int32} {s : SX} {c : CM} (ht : TL row n a) : m_X8_goes lf ob ja (nI n) row s.ta s.tb s.tc s.td s.te s.tf s.xa s.xb s.xc s.xd s.xe s.xf c.col c.way c.a c.b c.c c.d c.e c.f s.cx s.cy s.cu s.cv c.x c.y c.u c.v c.pts c.lx c.ly c.gy 7 (nI a) (row a) = some (bI (decide (¬ row a < 12 ∧ (fb row n SH (a + cl (row a)) = 2 ∨ fb row n SH (a + cl (row a)) = 0))), ob, ja, row, s.ta, s.tb, s.tc, s.td, s.te, s.tf, s.xa, s.xb, s.xc, s.xd, s.xe, s.xf, s.cx, s.cy, s.cu, s.cv) := by
  obtain ⟨k1, k2, k3, k4⟩ := ht.step hn hp
  unfold m_X8_goes m_X8_isBroughtBackUnused
  rw [if_neg (by decide), if_neg (by decide), if_neg (by decide), if_neg (by decide), if_neg (by decide), if_neg (by decide), if_neg (by decide), if_pos rfl]
  by_cases e : row a < 12
  · rw [if_pos e, show decide (¬ row a < 12 ∧ (fb row n SH (a + cl (row a)) = 2 ∨ fb row n SH (a + cl (row a)) = 0)) = false from decide_eq_false (fun q => q.1 e)]
    rfl
  · rw [if_neg e, if_neg (Int32.not_lt.mpr k3), firstBehind_ok hn set_H hp ht, bd1_s]
    by_cases z : fb row n SH (a + cl (row a)) = 2
    · rw [if_pos z, bd1_s, if_neg (by decide), show decide (¬ row a < 12 ∧ (fb row n SH (a + cl (row a)) = 2 ∨ fb row n SH (a + cl (row a)) = 0)) = true from decide_eq_true ⟨e, Or.inl z⟩]
      rfl
    · rw [if_neg z]
      by_cases z0 : fb row n SH (a + cl (row a)) = 0
      · rw [if_pos z0, bd1_s, if_neg (by decide), show decide (¬ row a < 12 ∧ (fb row n SH (a + cl (row a)) = 2 ∨ fb row n SH (a + cl (row a)) = 0)) = true from decide_eq_true ⟨e, Or.inr z0⟩]
        rfl
      · rw [if_neg z0, bd1_s, if_pos rfl, show decide (¬ row a < 12 ∧ (fb row n SH (a + cl (row a)) = 2 ∨ fb row n SH (a + cl (row a)) = 0)) = false from decide_eq_false (fun q => q.2.elim z z0)]
        rfl
theorem fb_tail {f g : Nat → Int32} {n : Nat} {S : Int32 → Bool} (hn : n ≤ 1500) : ∀ (N p : Nat), n ≤ p + N → (∀ j, p ≤ j → j < n → g j = f j) → nx g n S 2000 p = nx f n S 2000 p ∧ fb g n S p = fb f n S p := by
  intro N
  induction N with
  | zero =>
    intro p h1 h2
    rw [nx_end (by omega), nx_end (by omega), fb_end (by omega), fb_end (by omega)]
    exact ⟨rfl, rfl⟩
  | succ N ih =>
    intro p h1 h2
    by_cases hp : p < n
    · have hc := cl_ge (f p)
      have e := h2 p (Nat.le_refl _) hp
      by_cases q : S (f p) = true
      · rw [nx_in hp q, fb_in hp q, nx_in hp (by rw [e]; exact q), fb_in hp (by rw [e]; exact q)]
        exact ⟨rfl, e⟩
      · rw [nx_go hn hp q, fb_go hn hp q, nx_go hn hp (by rw [e]; exact q), fb_go hn hp (by rw [e]; exact q), e]
        exact ih _ (by omega) (fun j j1 j2 => h2 j (by omega) j2)
    · rw [nx_end (by omega), nx_end (by omega), fb_end (by omega), fb_end (by omega)]
      exact ⟨rfl, rfl⟩
theorem VL.tail {f g : Nat → Int32} {n : Nat} (hn : n ≤ 1500) : ∀ (N p no nl : Nat) (b : Bool), n ≤ p + N → (∀ j, p ≤ j → j < n → g j = f j) → VL f n p no nl b → VL g n p no nl b := by
  intro N
  induction N with
  | zero =>
    intro p no nl b h1 h2 h
    rw [VL.fin (by omega)] at h ⊢
    exact h
  | succ N ih =>
    intro p no nl b h1 h2 h
    by_cases hp : p < n
    · obtain ⟨q1, q2, q3⟩ := h.step hn hp
      have hc := cl_ge (f p)
      have hl := (fw_len q1).1
      have e := h2 p (Nat.le_refl _) hp
      refine VL.mk' hn hp (fw_mv q1 (fun j hj => h2 _ (by omega) (by omega)) hl) (by rw [e]; exact q2) ?_
      rw [e]
      exact ih _ _ _ _ (by omega) (fun j j1 j2 => h2 j (by omega) j2) q3
    · rw [VL.fin (by omega)] at h ⊢
      exact h
theorem lockH {W H n : Nat} {f wd0 sz0 : Nat → Int32} (hW : W ≤ 32) (hH : H ≤ 32) (lf ob : Int32) (s : SX) : ∀ (N fu gu a k no nl np : Nat) (c : CM) (r : RF) (row wd sz : Nat → Int32), n ≤ a + N → N < fu → N < gu → PI W H n f wd0 sz0 a k no nl (decide (0 < np)) no nl np c r row wd sz → ∃ (k' nl' np' : Nat) (c' : CM) (r' : RF) (row' wd' sz' : Nat → Int32), (∀ K : Int32 → Int32 → Int32 → Int32 → Int32 → Int32 → Int32 → Int32 → Int32 → Int32 → Int32 → Int32 → Int32 → Int32 → Int32 → Int32 → Int32 → Int32 → Int32 → Int32 → Int32 → Int32 → Int32 → Int32 → Int32 → Int32 → (Nat → Int32) → Int32 → Int32 → Int32 → Int32 → Int32 → Int32 → Int32 → Int32 → Int32 → Int32 → Int32 → Int32 → Int32 → Int32 → Int32 → Int32 → Int32 → Int32 → Int32 → Int32 → Int32 → Int32 → (Nat → Int32) → (Nat → Int32) → (Nat → Int32) → (Nat → Int32) → (Nat → Int32) → (Nat → Int32) → (Nat → Int32) → (Nat → Int32) → (Nat → Int32) → (Nat → Int32) → (Nat → Int32) → (Nat → Int32) → (Nat → Int32) → (Nat → Int32) → (Nat → Int32) → Option (Int32 × Int32 × Int32 × Int32 × Int32 × Int32 × Int32 × Int32 × Int32 × Int32 × Int32 × Int32 × Int32 × Int32 × Int32 × Int32 × Int32 × Int32 × Int32 × Int32 × Int32 × Int32 × Int32 × Int32 × Int32 × Int32 × Int32 × Int32 × (Nat → Int32) × Int32 × Int32 × Int32 × Int32 × Int32 × Int32 × Int32 × Int32 × Int32 × Int32 × Int32 × Int32 × Int32 × Int32 × Int32 × Int32 × Int32 × Int32 × Int32 × Int32 × Int32 × Int32 × (Nat → Int32) × (Nat → Int32) × (Nat → Int32) × (Nat → Int32) × (Nat → Int32) × (Nat → Int32) × (Nat → Int32) × (Nat → Int32) × (Nat → Int32) × (Nat → Int32) × (Nat → Int32) × (Nat → Int32) × (Nat → Int32) × (Nat → Int32) × (Nat → Int32)), lp_X8_goThrough_33 (nI n) K lf 7 fu (nI k) (nI a) ob (-1) c.opn c.col c.way c.a c.b c.c c.d c.e c.f c.x c.y c.u c.v c.pts c.lns c.fst c.ftx c.fty c.ltx c.lty c.lx c.ly c.gy row s.ta s.tb s.tc s.td s.te s.tf s.xa s.xb s.xc s.xd s.xe s.xf s.cx s.cy s.cu s.cv c.na c.nb c.nc c.nd c.ne c.nf c.xs c.ys c.bg c.sc c.sw c.sa c.sb c.sC c.sd c.se c.sf c.sx c.sy c.su c.sv = K (nI k') ob (-1) c'.opn c'.col c'.way c'.a c'.b c'.c c'.d c'.e c'.f c'.x c'.y c'.u c'.v c'.pts c'.lns c'.fst c'.ftx c'.fty c'.ltx c'.lty c'.lx c'.ly c'.gy row' s.ta s.tb s.tc s.td s.te s.tf s.xa s.xb s.xc s.xd s.xe s.xf s.cx s.cy s.cu s.cv c'.na c'.nb c'.nc c'.nd c'.ne c'.nf c'.xs c'.ys c'.bg c'.sc c'.sw c'.sa c'.sb c'.sC c'.sd c'.se c'.sf c'.sx c'.sy c'.su c'.sv) ∧ (∀ K : (Nat → Int32) → (Nat → Int32) → Option (Int32 × (Nat → Int32) × (Nat → Int32) × (Nat → Int32) × (Nat → Int32) × (Nat → Int32) × (Nat → Int32) × (Nat → Int32) × (Nat → Int32)), lp_X12_passH_8 K gu (nI (1500 + a)) sz wd = K sz' wd') ∧ PI W H n f wd0 sz0 n k' 0 nl' (decide (0 < np')) 0 nl' np' c' r' row' wd' sz' := by
  intro N
  induction N with
  | zero =>
    intro fu gu a k no nl np c r row wd sz h1 h2 h3 h
    have hn := h.hn
    have ha := h.ha
    obtain ⟨fu, rfl⟩ : ∃ j, fu = j + 1 := ⟨fu - 1, by omega⟩
    obtain ⟨gu, rfl⟩ : ∃ j, gu = j + 1 := ⟨gu - 1, by omega⟩
    obtain rfl : a = n := by omega
    have h0 : no = 0 := (VL.fin (Nat.le_refl _)).mp h.vin
    subst h0
    refine ⟨k, nl, np, c, r, row, wd, sz, fun K => gt_end hn (Nat.le_refl _) (by omega) K _ _ _ _ _ _ _ _ _, fun K => ?_, h⟩
    rw [lp_X12_passH_8, endPlace_ok h.s1, bd1_s, if_pos (nI_le (Nat.le_refl _) (by omega))]
  | succ N ih =>
    intro fu gu a k no nl np c r row wd sz h1 h2 h3 h
    have hn := h.hn
    have ha := h.ha
    obtain ⟨fu, rfl⟩ : ∃ j, fu = j + 1 := ⟨fu - 1, by omega⟩
    obtain ⟨gu, rfl⟩ : ∃ j, gu = j + 1 := ⟨gu - 1, by omega⟩
    by_cases hp : a < n
    · skip
      obtain ⟨q1, q2, q3⟩ := h.vin.step hn hp
      obtain ⟨q4, q5, q6⟩ := fw_len q1
      have hc := cl_ge (f a)
      have ra : row a = f a := h.tail a (Nat.le_refl _) hp
      have wa : wd (1500 + a) = f a := h.inp a hp
      have hj : ¬ nI a = (-1 : Int32) := by
        intro z
        have := nI_ti (show a < 2 ^ 31 by omega)
        rw [z] at this
        have e1 : (-1 : Int32).toInt = -1 := by decide
        omega
      have htr : TL row n a := ⟨_, _, _, VL.tail hn 1500 a _ _ _ (by omega) h.tail h.vin⟩
      have htf : TL f n (a + cl (f a)) := ⟨_, _, _, q3⟩
      have hg := goesH (lf := lf) (ob := ob) (ja := -1) (s := s) (c := c) hn hp htr
      have e6 := behind_ok (p := 1500 + a) (by omega) wd
      rw [wa, Nat.add_assoc] at e6
      have efb := (fb_tail (S := SH) hn 1500 (a + cl (f a)) (by omega) (fun j j1 j2 => h.tail j (by omega) j2)).2
      obtain ⟨n1, n2⟩ := nx_ok (S := SH) hn 1500 (a + cl (f a)) (by omega) q4 htf
      have hla := fun K => la_H hn h.s1 h.inp K 1500 FU (a + cl (f a)) (by omega) (by rw [FU_s]; omega) q4 htf
      have hst : ∀ J : Int32 → Option (Int32 × (Nat → Int32) × (Nat → Int32) × (Nat → Int32) × (Nat → Int32) × (Nat → Int32) × (Nat → Int32) × (Nat → Int32) × (Nat → Int32)), jn J (fun K112 => jn (K112 1) (fun K107 => if nI (1500 + nx f n SH 2000 (a + cl (f a))) = nI (1500 + n) then K107 else gd (inb (nI (1500 + nx f n SH 2000 (a + cl (f a)))) 4500) (nm (wd (nI (1500 + nx f n SH 2000 (a + cl (f a)))).toNatClampNeg) (fun a_47 => if a_47 = 2 then K107 else K112 0)))) = J (bI (decide (fb f n SH (a + cl (f a)) = 2 ∨ fb f n SH (a + cl (f a)) = 0))) := by
        intro J
        rw [fb_nx, jn_s, jn_s]
        generalize nx f n SH 2000 (a + cl (f a)) = q at n1 n2
        by_cases z : q < n
        · rw [if_neg (by rw [nI_eq (by omega) (by omega)]; omega), inb_s (show 1500 + q < 4500 by omega) (by decide), gd_s, nm_s, nI_clamp (show 1500 + q < 2 ^ 31 by omega), h.inp q z, if_pos z]
          by_cases y : f q = 2
          · rw [if_pos y, show decide (f q = 2 ∨ f q = 0) = true from decide_eq_true (Or.inl y)]
            rfl
          · rw [if_neg y, show decide (f q = 2 ∨ f q = 0) = false from decide_eq_false (fun w => w.elim y (fun w => (n2 z).2.1 (by rw [w]; decide)))]
            rfl
        · rw [if_pos (by rw [nI_eq (by omega) (by omega)]; omega), if_neg z]
          rfl
      by_cases e : (¬ f a < 12 ∧ (fb f n SH (a + cl (f a)) = 2 ∨ fb f n SH (a + cl (f a)) = 0))
      · have hs := h.skip hp
        have c1 : ¬ f a = 1 := fun z => e.1 (by rw [z]; decide)
        have eo : ord (f a) no nl (decide (0 < np)) = (0, no, nl, decide (0 < np)) := by
          have e12 := e.1
          rcases cmd14 q5 q6 with y | y | y | y | y | y | y | y | y | y | y | y | y | y <;> rw [y] at e12 ⊢ <;> first | exact absurd (by decide) e12 | simp [ord]
        rw [eo] at hs
        obtain ⟨k', nl', np', c', r', row', wd', sz', b1, b2, b3⟩ := ih fu gu (a + cl (f a)) k no nl np c r row wd sz (by omega) (by omega) (by omega) hs
        refine ⟨k', nl', np', c', r', row', wd', sz', fun K => ?_, fun K => ?_, b3⟩
        · rw [gt_skip hn hp hj (by rw [hg, ra, efb, show decide (¬ f a < 12 ∧ (fb f n SH (a + cl (f a)) = 2 ∨ fb f n SH (a + cl (f a)) = 0)) = true from decide_eq_true e]; rfl), if_neg (by decide), ra]
          exact b1 K
        · rw [lp_X12_passH_8, endPlace_ok h.s1, bd1_s, if_neg (nI_ge (by omega) (by omega)), inb_s (show 1500 + a < 4500 by omega) (by decide), gd_s, nm_s, nI_clamp (show 1500 + a < 2 ^ 31 by omega), wa, e6, bd1_s, jn_s, hla, bd1_s, hst]
          simp only [jn_s]
          rw [if_neg e.1, if_neg (by rw [show decide (fb f n SH (a + cl (f a)) = 2 ∨ fb f n SH (a + cl (f a)) = 0) = true from decide_eq_true e.2]; decide), e6, bd1_s]
          exact b2 K
      · obtain ⟨np1, c1, r1, row1, wd1, sz1, m1, -, -, -, m5, m6, m7, m8, -⟩ := h.keep hW hH hp q2
        have m8' := m8
        rw [m7] at m8'
        obtain ⟨k', nl', np', c', r', row', wd', sz', b1, b2, b3⟩ := ih fu gu (a + cl (f a)) (k + cl (f a)) _ _ np1 c1 r1 row1 wd1 sz1 (by omega) (by omega) (by omega) m8'
        have wa1 : wd1 (1500 + a) = f a := m8.inp a hp
        have e5 := behind_ok (p := 1500 + a) (by omega) wd1
        rw [wa1, Nat.add_assoc] at e5
        refine ⟨k', nl', np', c', r', row', wd', sz', fun K => ?_, fun K => ?_, b3⟩
        · rw [gt_keep hn hp hj (by rw [hg, ra, efb, show decide (¬ f a < 12 ∧ (fb f n SH (a + cl (f a)) = 2 ∨ fb f n SH (a + cl (f a)) = 0)) = false from decide_eq_false e]; rfl) m1 (by rw [ra]; exact m5), ra]
          exact b1 K
        · rw [lp_X12_passH_8, endPlace_ok h.s1, bd1_s, if_neg (nI_ge (by omega) (by omega)), inb_s (show 1500 + a < 4500 by omega) (by decide), gd_s, nm_s, nI_clamp (show 1500 + a < 2 ^ 31 by omega), wa, e6, bd1_s, jn_s, hla, bd1_s, hst]
          simp only [jn_s, m6, bd2_s, e5, bd1_s]
          by_cases z1 : f a < 12
          · rw [if_pos z1]
            exact b2 K
          · rw [if_neg z1, if_pos (by rw [show decide (fb f n SH (a + cl (f a)) = 2 ∨ fb f n SH (a + cl (f a)) = 0) = false from decide_eq_false (fun z => e ⟨z1, z⟩)]; rfl)]
            exact b2 K
    · obtain rfl : a = n := by omega
      have h0 : no = 0 := (VL.fin (Nat.le_refl _)).mp h.vin
      subst h0
      refine ⟨k, nl, np, c, r, row, wd, sz, fun K => gt_end hn (Nat.le_refl _) (by omega) K _ _ _ _ _ _ _ _ _, fun K => ?_, h⟩
      rw [lp_X12_passH_8, endPlace_ok h.s1, bd1_s, if_pos (nI_le (Nat.le_refl _) (by omega))]
