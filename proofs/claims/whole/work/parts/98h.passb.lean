theorem goesB_n {n a : Nat} {lf ob ja : Int32} {row : Nat → Int32} {s : SX} {c : CM} (h9 : ¬ row a = 9) : m_X8_goes lf ob ja (nI n) row s.ta s.tb s.tc s.td s.te s.tf s.xa s.xb s.xc s.xd s.xe s.xf c.col c.way c.a c.b c.c c.d c.e c.f s.cx s.cy s.cu s.cv c.x c.y c.u c.v c.pts c.lx c.ly c.gy 1 (nI a) (row a) = some (0, ob, ja, row, s.ta, s.tb, s.tc, s.td, s.te, s.tf, s.xa, s.xb, s.xc, s.xd, s.xe, s.xf, s.cx, s.cy, s.cu, s.cv) := by
  unfold m_X8_goes
  rw [if_neg (by decide), if_pos rfl, if_neg h9]
theorem goesB_9 {n a : Nat} {lf ob ja : Int32} {row : Nat → Int32} {s : SX} {c : CM} (h9 : row a = 9) {b : Bool} (hb : m_X5_misses c.pts c.lx c.ly c.gy c.y c.u c.v = some (bI (!b))) : m_X8_goes lf ob ja (nI n) row s.ta s.tb s.tc s.td s.te s.tf s.xa s.xb s.xc s.xd s.xe s.xf c.col c.way c.a c.b c.c c.d c.e c.f s.cx s.cy s.cu s.cv c.x c.y c.u c.v c.pts c.lx c.ly c.gy 1 (nI a) (row a) = some (bI (!b), ob, ja, row, s.ta, s.tb, s.tc, s.td, s.te, s.tf, s.xa, s.xb, s.xc, s.xd, s.xe, s.xf, s.cx, s.cy, s.cu, s.cv) := by
  unfold m_X8_goes
  rw [if_neg (by decide), if_pos rfl, if_pos h9, hb, bd1_s]
  cases b
  · rw [if_neg (by decide)]
    rfl
  · rw [if_pos (by decide)]
    rfl
theorem lockB {W H n : Nat} {f wd0 sz0 : Nat → Int32} (hW : W ≤ 32) (hH : H ≤ 32) (lf ob : Int32) : ∀ (N fu gu a k no nl np : Nat) (c : CM) (r : RF) (s : SX) (row wd sz : Nat → Int32), n ≤ a + N → N < fu → N < gu → PI W H n f wd0 sz0 a k no nl (decide (0 < np)) no nl np c r row wd sz → ∃ (k' nl' np' : Nat) (c' : CM) (r' : RF) (s' : SX) (row' wd' sz' : Nat → Int32), (∀ K : Int32 → Int32 → Int32 → Int32 → Int32 → Int32 → Int32 → Int32 → Int32 → Int32 → Int32 → Int32 → Int32 → Int32 → Int32 → Int32 → Int32 → Int32 → Int32 → Int32 → Int32 → Int32 → Int32 → Int32 → Int32 → Int32 → (Nat → Int32) → Int32 → Int32 → Int32 → Int32 → Int32 → Int32 → Int32 → Int32 → Int32 → Int32 → Int32 → Int32 → Int32 → Int32 → Int32 → Int32 → Int32 → Int32 → Int32 → Int32 → Int32 → Int32 → (Nat → Int32) → (Nat → Int32) → (Nat → Int32) → (Nat → Int32) → (Nat → Int32) → (Nat → Int32) → (Nat → Int32) → (Nat → Int32) → (Nat → Int32) → (Nat → Int32) → (Nat → Int32) → (Nat → Int32) → (Nat → Int32) → (Nat → Int32) → (Nat → Int32) → Option (Int32 × Int32 × Int32 × Int32 × Int32 × Int32 × Int32 × Int32 × Int32 × Int32 × Int32 × Int32 × Int32 × Int32 × Int32 × Int32 × Int32 × Int32 × Int32 × Int32 × Int32 × Int32 × Int32 × Int32 × Int32 × Int32 × Int32 × Int32 × (Nat → Int32) × Int32 × Int32 × Int32 × Int32 × Int32 × Int32 × Int32 × Int32 × Int32 × Int32 × Int32 × Int32 × Int32 × Int32 × Int32 × Int32 × Int32 × Int32 × Int32 × Int32 × Int32 × Int32 × (Nat → Int32) × (Nat → Int32) × (Nat → Int32) × (Nat → Int32) × (Nat → Int32) × (Nat → Int32) × (Nat → Int32) × (Nat → Int32) × (Nat → Int32) × (Nat → Int32) × (Nat → Int32) × (Nat → Int32) × (Nat → Int32) × (Nat → Int32) × (Nat → Int32)), lp_X8_goThrough_33 (nI n) K lf 1 fu (nI k) (nI a) ob (-1) c.opn c.col c.way c.a c.b c.c c.d c.e c.f c.x c.y c.u c.v c.pts c.lns c.fst c.ftx c.fty c.ltx c.lty c.lx c.ly c.gy row s.ta s.tb s.tc s.td s.te s.tf s.xa s.xb s.xc s.xd s.xe s.xf s.cx s.cy s.cu s.cv c.na c.nb c.nc c.nd c.ne c.nf c.xs c.ys c.bg c.sc c.sw c.sa c.sb c.sC c.sd c.se c.sf c.sx c.sy c.su c.sv = K (nI k') ob (-1) c'.opn c'.col c'.way c'.a c'.b c'.c c'.d c'.e c'.f c'.x c'.y c'.u c'.v c'.pts c'.lns c'.fst c'.ftx c'.fty c'.ltx c'.lty c'.lx c'.ly c'.gy row' s'.ta s'.tb s'.tc s'.td s'.te s'.tf s'.xa s'.xb s'.xc s'.xd s'.xe s'.xf s'.cx s'.cy s'.cu s'.cv c'.na c'.nb c'.nc c'.nd c'.ne c'.nf c'.xs c'.ys c'.bg c'.sc c'.sw c'.sa c'.sb c'.sC c'.sd c'.se c'.sf c'.sx c'.sy c'.su c'.sv) ∧ (∀ K : (Nat → Int32) → (Nat → Int32) → (Nat → Int32) → (Nat → Int32) → (Nat → Int32) → (Nat → Int32) → (Nat → Int32) → (Nat → Int32) → (Nat → Int32) → (Nat → Int32) → (Nat → Int32) → (Nat → Int32) → (Nat → Int32) → (Nat → Int32) → (Nat → Int32) → (Nat → Int32) → (Nat → Int32) → (Nat → Int32) → Option (Int32 × (Nat → Int32) × (Nat → Int32) × (Nat → Int32) × (Nat → Int32) × (Nat → Int32) × (Nat → Int32) × (Nat → Int32) × (Nat → Int32) × (Nat → Int32) × (Nat → Int32) × (Nat → Int32) × (Nat → Int32) × (Nat → Int32) × (Nat → Int32) × (Nat → Int32) × (Nat → Int32) × (Nat → Int32) × (Nat → Int32) × (Nat → Int32)), lp_X12_passB_8 K gu (nI (1500 + a)) sz r.told r.saves r.points r.begun r.lines wd r.px r.py r.cut r.both r.begins r.startX r.startY r.startPoint r.lastX r.lastY r.saved = K sz' r'.told r'.saves r'.points r'.begun r'.lines wd' r'.px r'.py r'.cut r'.both r'.begins r'.startX r'.startY r'.startPoint r'.lastX r'.lastY r'.saved) ∧ PI W H n f wd0 sz0 n k' 0 nl' (decide (0 < np')) 0 nl' np' c' r' row' wd' sz' ∧ RFr 1 r r' := by
  intro N
  induction N with
  | zero =>
    intro fu gu a k no nl np c r s row wd sz h1 h2 h3 h
    have hn := h.hn
    have ha := h.ha
    obtain ⟨fu, rfl⟩ : ∃ j, fu = j + 1 := ⟨fu - 1, by omega⟩
    obtain ⟨gu, rfl⟩ : ∃ j, gu = j + 1 := ⟨gu - 1, by omega⟩
    obtain rfl : a = n := by omega
    have h0 : no = 0 := (VL.fin (Nat.le_refl _)).mp h.vin
    subst h0
    refine ⟨k, nl, np, c, r, s, row, wd, sz, fun K => gt_end hn (Nat.le_refl _) (by omega) K _ _ _ _ _ _ _ _ _, fun K => ?_, h, RFr.refl 1 r⟩
    rw [lp_X12_passB_8, endPlace_ok h.s1, bd1_s, if_pos (nI_le (Nat.le_refl _) (by omega))]
  | succ N ih =>
    intro fu gu a k no nl np c r s row wd sz h1 h2 h3 h
    have hn := h.hn
    have ha := h.ha
    obtain ⟨fu, rfl⟩ : ∃ j, fu = j + 1 := ⟨fu - 1, by omega⟩
    obtain ⟨gu, rfl⟩ : ∃ j, gu = j + 1 := ⟨gu - 1, by omega⟩
    by_cases hp : a < n
    · skip
      obtain ⟨q1, q2, q3⟩ := h.vin.step hn hp
      obtain ⟨q4, q5, q6⟩ := fw_len q1
      have hc := cl_ge (f a)
      have ra : row a = f a := h.tail a (Nat.le_refl _) hp
      have wa : wd (1500 + a) = f a := h.inp a hp
      have hj : ¬ nI a = (-1 : Int32) := by
        intro z
        have := nI_ti (show a < 2 ^ 31 by omega)
        rw [z] at this
        have e1 : (-1 : Int32).toInt = -1 := by decide
        omega
      have e6 := behind_ok (p := 1500 + a) (by omega) wd
      rw [wa, Nat.add_assoc] at e6
      have ord9 : f a = 9 → ord (f a) no nl (decide (0 < np)) = (0, no, nl, decide (0 < np)) := fun z => by rw [z]; simp [ord]
      by_cases h9 : f a = 9
      · obtain ⟨b, s1, s2⟩ := see_ok hW hH h.mach
        have hg := goesB_9 (n := n) (lf := lf) (ob := ob) (ja := -1) (s := s) (ra.trans h9) s1
        cases b
        · have hs := h.skip hp
          rw [ord9 h9] at hs
          obtain ⟨k', nl', np', c', r', s', row', wd', sz', b1, b2, b3, b4⟩ := ih fu gu (a + cl (f a)) k no nl np c r s row wd sz (by omega) (by omega) (by omega) hs
          refine ⟨k', nl', np', c', r', s', row', wd', sz', fun K => ?_, fun K => ?_, b3, b4⟩
          · rw [gt_skip hn hp hj hg, if_neg (by decide), ra]
            exact b1 K
          · rw [lp_X12_passB_8, endPlace_ok h.s1, bd1_s, if_neg (nI_ge (by omega) (by omega)), inb_s (show 1500 + a < 4500 by omega) (by decide), gd_s, nm_s, nI_clamp (show 1500 + a < 2 ^ 31 by omega), wa, jn_s, if_pos h9, s2, bd1_s, if_pos (show bI false = 0 from rfl)]
            show bd1 _ _ = _
            rw [e6, bd1_s]
            exact b2 K
        · skip
          obtain ⟨np1, c1, r1, row1, wd1, sz1, m1, m2, m3, -, m5, m6, m7, m8, m9⟩ := h.keep hW hH hp q2
          have m8' := m8
          rw [m7] at m8'
          obtain ⟨k', nl', np', c', r', s', row', wd', sz', b1, b2, b3, b4⟩ := ih fu gu (a + cl (f a)) (k + cl (f a)) _ _ np1 c1 r1 s row1 wd1 sz1 (by omega) (by omega) (by omega) m8'
          have wa1 : wd1 (1500 + a) = f a := m8.inp a hp
          have e5 := behind_ok (p := 1500 + a) (by omega) wd1
          rw [wa1, Nat.add_assoc] at e5
          obtain rfl := m3 h9
          refine ⟨k', nl', np', c', r', s', row', wd', sz', fun K => ?_, fun K => ?_, b3, b4⟩
          · rw [gt_keep hn hp hj hg m1 (by rw [ra]; exact m5), ra]
            exact b1 K
          · rw [lp_X12_passB_8, endPlace_ok h.s1, bd1_s, if_neg (nI_ge (by omega) (by omega)), inb_s (show 1500 + a < 4500 by omega) (by decide), gd_s, nm_s, nI_clamp (show 1500 + a < 2 ^ 31 by omega), wa, jn_s, if_pos h9, s2, bd1_s, if_neg (show ¬ bI true = 0 by decide), m6, bd2_s]
            show bd1 _ _ = _
            rw [e5, bd1_s]
            exact b2 K
      · have hg := goesB_n (n := n) (lf := lf) (ob := ob) (ja := -1) (s := s) (c := c) (show ¬ row a = 9 by rw [ra]; exact h9)
        obtain ⟨np1, c1, r1, row1, wd1, sz1, m1, m2, m3, -, m5, m6, m7, m8, m9⟩ := h.keep hW hH hp q2
        have m8' := m8
        rw [m7] at m8'
        obtain ⟨k', nl', np', c', r', s', row', wd', sz', b1, b2, b3, b4⟩ := ih fu gu (a + cl (f a)) (k + cl (f a)) _ _ np1 c1 r1 s row1 wd1 sz1 (by omega) (by omega) (by omega) m8'
        have wa1 : wd1 (1500 + a) = f a := m8.inp a hp
        have e5 := behind_ok (p := 1500 + a) (by omega) wd1
        rw [wa1, Nat.add_assoc] at e5
        have hfol : m_X12_follow wd r.told r.cut r.both r.points r.px r.py r.begins r.startX r.startY r.startPoint r.begun r.lines r.lastX r.lastY r.saves r.saved 1 (nI (1500 + a)) = some (r1.told, r1.cut, r1.both, r1.points, r1.px, r1.py, r1.begins, r1.startX, r1.startY, r1.startPoint, r1.begun, r1.lines, r1.lastX, r1.lastY, r1.saves, r1.saved) := m2 h9
        refine ⟨k', nl', np', c', r', s', row', wd', sz', fun K => ?_, fun K => ?_, b3, m9.tr b4⟩
        · rw [gt_keep hn hp hj hg m1 (by rw [ra]; exact m5), ra]
          exact b1 K
        · rw [lp_X12_passB_8, endPlace_ok h.s1, bd1_s, if_neg (nI_ge (by omega) (by omega)), inb_s (show 1500 + a < 4500 by omega) (by decide), gd_s, nm_s, nI_clamp (show 1500 + a < 2 ^ 31 by omega), wa, jn_s, if_neg h9, hfol, bd16_s, m6, bd2_s]
          show bd1 _ _ = _
          rw [e5, bd1_s]
          exact b2 K
    · obtain rfl : a = n := by omega
      have h0 : no = 0 := (VL.fin (Nat.le_refl _)).mp h.vin
      subst h0
      refine ⟨k, nl, np, c, r, s, row, wd, sz, fun K => gt_end hn (Nat.le_refl _) (by omega) K _ _ _ _ _ _ _ _ _, fun K => ?_, h, RFr.refl 1 r⟩
      rw [lp_X12_passB_8, endPlace_ok h.s1, bd1_s, if_pos (nI_le (Nat.le_refl _) (by omega))]
