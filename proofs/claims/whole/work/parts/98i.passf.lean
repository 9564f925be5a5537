theorem PI.recut {W H n : Nat} {f wd0 sz0 : Nat → Int32} {a k noi nli : Nat} {bi : Bool} {noo nlo np : Nat} {c : CM} {r : RF} {row wd sz : Nat → Int32} (h : PI W H n f wd0 sz0 a k noi nli bi noo nlo np c r row wd sz) (g b : Nat → Int32) : PI W H n f wd0 sz0 a k noi nli bi noo nlo np c (RF.mk r.told g b r.points r.px r.py r.begins r.startX r.startY r.startPoint r.begun r.lines r.lastX r.lastY r.saves r.saved) row wd sz ∧ RFr 1 r (RF.mk r.told g b r.points r.px r.py r.begins r.startX r.startY r.startPoint r.begun r.lines r.lastX r.lastY r.saves r.saved) := ⟨⟨h.hn, h.ha, h.hk, h.tail, h.inp, h.out, h.low, h.s0, h.s1, h.s2, h.same, h.vin, h.vout, h.mach, h.bd⟩, fun _ _ => rfl, fun _ _ => rfl, fun _ _ => rfl, PFr.refl _ _ _ _ _ _ _ _ _ _ _⟩
theorem l26_step (g bo told : Nat → Int32) (n : Nat) (b : Bool) {k : Nat} (hk : k < 4) : lp_X12_leaves_26 g bo told (n + 1) (bI b) (nI k) = lp_X12_leaves_26 g bo told n (bI (b && decide (g k = told (18 + k)))) (nI (k + 1)) := by
  have t18 : (18 : Int32) + nI k = nI (18 + k) := nI_add 18 k
  rw [lp_X12_leaves_26, if_neg (show ¬ (4 : Int32) ≤ nI k from nI_ge (b := 4) hk (by decide)), jn_s, jn_s, inb_s hk (by decide), t18, inb_s (show 18 + k < 24 by omega) (by decide), nI_clamp (show k < 2 ^ 31 by omega), nI_clamp (show 18 + k < 2 ^ 31 by omega)]
  cases b
  · rw [if_pos (show bI false = 0 from rfl)]
    show nm _ _ = _
    rw [nm_s, nI_1]
    rfl
  · rw [if_neg (show ¬ bI true = 0 by decide), gd_s, nm_s, gd_s, nm_s]
    by_cases z : g k = told (18 + k)
    · rw [if_pos z]
      show nm _ _ = _
      rw [nm_s, nI_1, show decide (g k = told (18 + k)) = true from decide_eq_true z]
      rfl
    · rw [if_neg z]
      show nm _ _ = _
      rw [nm_s, nI_1, show decide (g k = told (18 + k)) = false from decide_eq_false z]
      rfl
theorem l26_end (g bo told : Nat → Int32) (n : Nat) (b : Bool) : lp_X12_leaves_26 g bo told (n + 1) (bI b) (nI 4) = some (bI b, g, bo) := by
  rw [lp_X12_leaves_26, if_pos (by decide)]
theorem l26_ok (g bo told : Nat → Int32) : lp_X12_leaves_26 g bo told FU 1 0 = some (bI (decide (g 0 = told 18) && decide (g 1 = told 19) && decide (g 2 = told 20) && decide (g 3 = told 21)), g, bo) := by
  have e : FU = (999995 + 1 + 1 + 1 + 1) + 1 := rfl
  rw [e]
  refine (l26_step g bo told _ true (k := 0) (by omega)).trans ?_
  rw [l26_step g bo told _ _ (k := 0 + 1) (by omega), l26_step g bo told _ _ (k := 0 + 1 + 1) (by omega), l26_step g bo told _ _ (k := 0 + 1 + 1 + 1) (by omega)]
  refine (l26_end g bo told _ _).trans ?_
  rw [Bool.true_and]
theorem same4 (a b c d a' b' c' d' : Int32) : m_X1_isSameAs a b c d a' b' c' d' = some (bI (decide (a = a') && decide (b = b') && decide (c = c') && decide (d = d'))) := by
  unfold m_X1_isSameAs
  by_cases h1 : a = a'
  · rw [if_pos h1]
    by_cases h2 : b = b'
    · rw [if_pos h2]
      by_cases h3 : c = c'
      · rw [if_pos h3]
        by_cases h4 : d = d'
        · rw [if_pos h4]
          simp [h1, h2, h3, h4, bI]
        · rw [if_neg h4]
          simp [h4, bI]
      · rw [if_neg h3]
        simp [h3, bI]
    · rw [if_neg h2]
      simp [h2, bI]
  · rw [if_neg h1]
    simp [h1, bI]
theorem goesF_n {n a : Nat} {lf ob ja : Int32} {row : Nat → Int32} {s : SX} {c : CM} (h9 : ¬ row a = 13) : m_X8_goes lf ob ja (nI n) row s.ta s.tb s.tc s.td s.te s.tf s.xa s.xb s.xc s.xd s.xe s.xf c.col c.way c.a c.b c.c c.d c.e c.f s.cx s.cy s.cu s.cv c.x c.y c.u c.v c.pts c.lx c.ly c.gy 5 (nI a) (row a) = some (0, ob, ja, row, s.ta, s.tb, s.tc, s.td, s.te, s.tf, s.xa, s.xb, s.xc, s.xd, s.xe, s.xf, s.cx, s.cy, s.cu, s.cv) := by
  unfold m_X8_goes
  rw [if_neg (by decide), if_neg (by decide), if_neg (by decide), if_neg (by decide), if_neg (by decide), if_pos rfl, if_neg h9]
theorem goesF_y {n a : Nat} (hn : n ≤ 1500) (ha : a + 5 ≤ n) {lf ob ja : Int32} {row : Nat → Int32} {s : SX} {c : CM} (h9 : row a = 13) {g : Nat → Int32} (hg : (g 0, g 1, g 2, g 3) = cut4 c.x c.y c.u c.v (row (a + 1)) (row (a + 2)) (row (a + 3)) (row (a + 4))) : m_X8_goes lf ob ja (nI n) row s.ta s.tb s.tc s.td s.te s.tf s.xa s.xb s.xc s.xd s.xe s.xf c.col c.way c.a c.b c.c c.d c.e c.f s.cx s.cy s.cu s.cv c.x c.y c.u c.v c.pts c.lx c.ly c.gy 5 (nI a) (row a) = some (bI (decide (g 0 = c.x) && decide (g 1 = c.y) && decide (g 2 = c.u) && decide (g 3 = c.v)), ob, ja, row, s.ta, s.tb, s.tc, s.td, s.te, s.tf, s.xa, s.xb, s.xc, s.xd, s.xe, s.xf, g 0, g 1, g 2, g 3) := by
  unfold m_X8_goes m_X8_isIdleClip m_X1_copyFrom m_X1_become
  rw [if_neg (by decide), if_neg (by decide), if_neg (by decide), if_neg (by decide), if_neg (by decide), if_pos rfl, if_pos h9, bd4_s, bd4_s, narrowBy_ok hn ha, ← hg, bd4_s, same4, bd1_s, bd5_s]
  by_cases z : (decide (g 0 = c.x) && decide (g 1 = c.y) && decide (g 2 = c.u) && decide (g 3 = c.v)) = true
  · rw [if_neg (by rw [z]; decide), z]
    rfl
  · have z' : (decide (g 0 = c.x) && decide (g 1 = c.y) && decide (g 2 = c.u) && decide (g 3 = c.v)) = false := Bool.eq_false_iff.mpr z
    rw [if_pos (by rw [z']; rfl), z']
    rfl
theorem lockF {W H n : Nat} {f wd0 sz0 : Nat → Int32} (hW : W ≤ 32) (hH : H ≤ 32) (lf ob : Int32) : ∀ (N fu gu a k no nl np : Nat) (c : CM) (r : RF) (s : SX) (row wd sz : Nat → Int32), n ≤ a + N → N < fu → N < gu → PI W H n f wd0 sz0 a k no nl (decide (0 < np)) no nl np c r row wd sz → ∃ (k' nl' np' : Nat) (c' : CM) (r' : RF) (s' : SX) (row' wd' sz' : Nat → Int32), (∀ K : Int32 → Int32 → Int32 → Int32 → Int32 → Int32 → Int32 → Int32 → Int32 → Int32 → Int32 → Int32 → Int32 → Int32 → Int32 → Int32 → Int32 → Int32 → Int32 → Int32 → Int32 → Int32 → Int32 → Int32 → Int32 → Int32 → (Nat → Int32) → Int32 → Int32 → Int32 → Int32 → Int32 → Int32 → Int32 → Int32 → Int32 → Int32 → Int32 → Int32 → Int32 → Int32 → Int32 → Int32 → Int32 → Int32 → Int32 → Int32 → Int32 → Int32 → (Nat → Int32) → (Nat → Int32) → (Nat → Int32) → (Nat → Int32) → (Nat → Int32) → (Nat → Int32) → (Nat → Int32) → (Nat → Int32) → (Nat → Int32) → (Nat → Int32) → (Nat → Int32) → (Nat → Int32) → (Nat → Int32) → (Nat → Int32) → (Nat → Int32) → Option (Int32 × Int32 × Int32 × Int32 × Int32 × Int32 × Int32 × Int32 × Int32 × Int32 × Int32 × Int32 × Int32 × Int32 × Int32 × Int32 × Int32 × Int32 × Int32 × Int32 × Int32 × Int32 × Int32 × Int32 × Int32 × Int32 × Int32 × Int32 × (Nat → Int32) × Int32 × Int32 × Int32 × Int32 × Int32 × Int32 × Int32 × Int32 × Int32 × Int32 × Int32 × Int32 × Int32 × Int32 × Int32 × Int32 × Int32 × Int32 × Int32 × Int32 × Int32 × Int32 × (Nat → Int32) × (Nat → Int32) × (Nat → Int32) × (Nat → Int32) × (Nat → Int32) × (Nat → Int32) × (Nat → Int32) × (Nat → Int32) × (Nat → Int32) × (Nat → Int32) × (Nat → Int32) × (Nat → Int32) × (Nat → Int32) × (Nat → Int32) × (Nat → Int32)), lp_X8_goThrough_33 (nI n) K lf 5 fu (nI k) (nI a) ob (-1) c.opn c.col c.way c.a c.b c.c c.d c.e c.f c.x c.y c.u c.v c.pts c.lns c.fst c.ftx c.fty c.ltx c.lty c.lx c.ly c.gy row s.ta s.tb s.tc s.td s.te s.tf s.xa s.xb s.xc s.xd s.xe s.xf s.cx s.cy s.cu s.cv c.na c.nb c.nc c.nd c.ne c.nf c.xs c.ys c.bg c.sc c.sw c.sa c.sb c.sC c.sd c.se c.sf c.sx c.sy c.su c.sv = K (nI k') ob (-1) c'.opn c'.col c'.way c'.a c'.b c'.c c'.d c'.e c'.f c'.x c'.y c'.u c'.v c'.pts c'.lns c'.fst c'.ftx c'.fty c'.ltx c'.lty c'.lx c'.ly c'.gy row' s'.ta s'.tb s'.tc s'.td s'.te s'.tf s'.xa s'.xb s'.xc s'.xd s'.xe s'.xf s'.cx s'.cy s'.cu s'.cv c'.na c'.nb c'.nc c'.nd c'.ne c'.nf c'.xs c'.ys c'.bg c'.sc c'.sw c'.sa c'.sb c'.sC c'.sd c'.se c'.sf c'.sx c'.sy c'.su c'.sv) ∧ (∀ K : (Nat → Int32) → (Nat → Int32) → (Nat → Int32) → (Nat → Int32) → (Nat → Int32) → (Nat → Int32) → (Nat → Int32) → (Nat → Int32) → (Nat → Int32) → (Nat → Int32) → (Nat → Int32) → (Nat → Int32) → (Nat → Int32) → (Nat → Int32) → (Nat → Int32) → (Nat → Int32) → (Nat → Int32) → (Nat → Int32) → Option (Int32 × (Nat → Int32) × (Nat → Int32) × (Nat → Int32) × (Nat → Int32) × (Nat → Int32) × (Nat → Int32) × (Nat → Int32) × (Nat → Int32) × (Nat → Int32) × (Nat → Int32) × (Nat → Int32) × (Nat → Int32) × (Nat → Int32) × (Nat → Int32) × (Nat → Int32) × (Nat → Int32) × (Nat → Int32) × (Nat → Int32) × (Nat → Int32)), lp_X12_passF_8 K gu (nI (1500 + a)) sz r.told r.saves r.points r.begun r.lines wd r.cut r.both r.px r.py r.begins r.startX r.startY r.startPoint r.lastX r.lastY r.saved = K sz' r'.told r'.saves r'.points r'.begun r'.lines wd' r'.cut r'.both r'.px r'.py r'.begins r'.startX r'.startY r'.startPoint r'.lastX r'.lastY r'.saved) ∧ PI W H n f wd0 sz0 n k' 0 nl' (decide (0 < np')) 0 nl' np' c' r' row' wd' sz' ∧ RFr 1 r r' := by
  intro N
  induction N with
  | zero =>
    intro fu gu a k no nl np c r s row wd sz h1 h2 h3 h
    have hn := h.hn
    have ha := h.ha
    obtain ⟨fu, rfl⟩ : ∃ j, fu = j + 1 := ⟨fu - 1, by omega⟩
    obtain ⟨gu, rfl⟩ : ∃ j, gu = j + 1 := ⟨gu - 1, by omega⟩
    obtain rfl : a = n := by omega
    have h0 : no = 0 := (VL.fin (Nat.le_refl _)).mp h.vin
    subst h0
    refine ⟨k, nl, np, c, r, s, row, wd, sz, fun K => gt_end hn (Nat.le_refl _) (by omega) K _ _ _ _ _ _ _ _ _, fun K => ?_, h, RFr.refl 1 r⟩
    rw [lp_X12_passF_8, endPlace_ok h.s1, bd1_s, if_pos (nI_le (Nat.le_refl _) (by omega))]
  | succ N ih =>
    intro fu gu a k no nl np c r s row wd sz h1 h2 h3 h
    have hn := h.hn
    have ha := h.ha
    obtain ⟨fu, rfl⟩ : ∃ j, fu = j + 1 := ⟨fu - 1, by omega⟩
    obtain ⟨gu, rfl⟩ : ∃ j, gu = j + 1 := ⟨gu - 1, by omega⟩
    by_cases hp : a < n
    · skip
      obtain ⟨q1, q2, q3⟩ := h.vin.step hn hp
      obtain ⟨q4, q5, q6⟩ := fw_len q1
      have hc := cl_ge (f a)
      have ra : row a = f a := h.tail a (Nat.le_refl _) hp
      have wa : wd (1500 + a) = f a := h.inp a hp
      have hj : ¬ nI a = (-1 : Int32) := by
        intro z
        have := nI_ti (show a < 2 ^ 31 by omega)
        rw [z] at this
        have e1 : (-1 : Int32).toInt = -1 := by decide
        omega
      have e6 := behind_ok (p := 1500 + a) (by omega) wd
      rw [wa, Nat.add_assoc] at e6
      have ord13 : f a = 13 → ord (f a) no nl (decide (0 < np)) = (0, no, nl, decide (0 < np)) := fun z => by rw [z]; simp [ord]
      by_cases h13 : f a = 13
      · have hcl : cl (f a) = 5 := by rw [h13]; rfl
        rw [hcl] at q4
        obtain ⟨-, -, -, ⟨-, -, -, -, -, -, t6, t7, t8, t9, -, -⟩, -, -, -⟩ := h.mach
        obtain ⟨g, hgc, gq⟩ := rclip_ok (m := 1) (by omega) (show 1500 + a + 1 + 3 < 4500 by omega) wd r.told r.cut
        have u1 : wd (1500 + a + 1) = row (a + 1) := (h.inp (a + 1) (by omega)).trans (h.tail _ (by omega) (by omega)).symm
        have u2 : wd (1500 + a + 1 + 1) = row (a + 2) := (h.inp (a + 2) (by omega)).trans (h.tail _ (by omega) (by omega)).symm
        have u3 : wd (1500 + a + 1 + 2) = row (a + 3) := (h.inp (a + 3) (by omega)).trans (h.tail _ (by omega) (by omega)).symm
        have u4 : wd (1500 + a + 1 + 3) = row (a + 4) := (h.inp (a + 4) (by omega)).trans (h.tail _ (by omega) (by omega)).symm
        rw [t6, t7, t8, t9, u1, u2, u3, u4] at gq
        have hg := goesF_y (lf := lf) (ob := ob) (ja := -1) (s := s) hn (by omega) (ra.trans h13) gq
        have hlv : m_X12_leaves wd r.told r.cut r.both (nI (1500 + a)) = some (bI (decide (g 0 = c.x) && decide (g 1 = c.y) && decide (g 2 = c.u) && decide (g 3 = c.v)), g, r.both) := by
          unfold m_X12_leaves
          rw [inb_s (show 1500 + a < 4500 by omega) (by decide), gd_s, nm_s, nI_clamp (show 1500 + a < 2 ^ 31 by omega), wa, if_pos h13, show nI (1500 + a) + 1 = nI (1500 + a + 1) from nI_add (1500 + a) 1]
          refine (congrArg (fun z => bd1 z _) hgc).trans ?_
          rw [bd1_s, l26_ok, show r.told 18 = c.x from t6, show r.told 19 = c.y from t7, show r.told 20 = c.u from t8, show r.told 21 = c.v from t9]
        obtain ⟨h', hF'⟩ := h.recut g r.both
        by_cases z : (decide (g 0 = c.x) && decide (g 1 = c.y) && decide (g 2 = c.u) && decide (g 3 = c.v)) = true
        · have hs := h'.skip hp
          rw [ord13 h13] at hs
          obtain ⟨k', nl', np', c', r', s', row', wd', sz', b1, b2, b3, b4⟩ := ih fu gu (a + cl (f a)) k no nl np c (RF.mk r.told g r.both r.points r.px r.py r.begins r.startX r.startY r.startPoint r.begun r.lines r.lastX r.lastY r.saves r.saved) (SX.mk s.ta s.tb s.tc s.td s.te s.tf s.xa s.xb s.xc s.xd s.xe s.xf (g 0) (g 1) (g 2) (g 3)) row wd sz (by omega) (by omega) (by omega) hs
          refine ⟨k', nl', np', c', r', s', row', wd', sz', fun K => ?_, fun K => ?_, b3, hF'.tr b4⟩
          · rw [gt_skip (s' := (SX.mk s.ta s.tb s.tc s.td s.te s.tf s.xa s.xb s.xc s.xd s.xe s.xf (g 0) (g 1) (g 2) (g 3))) hn hp hj (by rw [hg, z]; rfl), if_neg (by decide), ra]
            exact b1 K
          · rw [lp_X12_passF_8, endPlace_ok h.s1, bd1_s, if_neg (nI_ge (by omega) (by omega)), inb_s (show 1500 + a < 4500 by omega) (by decide), gd_s, nm_s, nI_clamp (show 1500 + a < 2 ^ 31 by omega), wa, jn_s, jn_s, if_pos h13, hlv, bd3_s, if_neg (by rw [z]; decide)]
            show bd1 _ _ = _
            rw [e6, bd1_s]
            exact b2 K
        · have z' : (decide (g 0 = c.x) && decide (g 1 = c.y) && decide (g 2 = c.u) && decide (g 3 = c.v)) = false := Bool.eq_false_iff.mpr z
          obtain ⟨np1, c1, r1, row1, wd1, sz1, m1, m2, m3, -, m5, m6, m7, m8, m9⟩ := h'.keep hW hH hp q2
          have m8' := m8
          rw [m7] at m8'
          obtain ⟨k', nl', np', c', r', s', row', wd', sz', b1, b2, b3, b4⟩ := ih fu gu (a + cl (f a)) (k + cl (f a)) _ _ np1 c1 r1 (SX.mk s.ta s.tb s.tc s.td s.te s.tf s.xa s.xb s.xc s.xd s.xe s.xf (g 0) (g 1) (g 2) (g 3)) row1 wd1 sz1 (by omega) (by omega) (by omega) m8'
          have wa1 : wd1 (1500 + a) = f a := m8.inp a hp
          have e5 := behind_ok (p := 1500 + a) (by omega) wd1
          rw [wa1, Nat.add_assoc] at e5
          have hfol : m_X12_follow wd r.told g r.both r.points r.px r.py r.begins r.startX r.startY r.startPoint r.begun r.lines r.lastX r.lastY r.saves r.saved 1 (nI (1500 + a)) = some (r1.told, r1.cut, r1.both, r1.points, r1.px, r1.py, r1.begins, r1.startX, r1.startY, r1.startPoint, r1.begun, r1.lines, r1.lastX, r1.lastY, r1.saves, r1.saved) := m2 (by rw [h13]; decide)
          refine ⟨k', nl', np', c', r', s', row', wd', sz', fun K => ?_, fun K => ?_, b3, hF'.tr (m9.tr b4)⟩
          · rw [gt_keep (s' := (SX.mk s.ta s.tb s.tc s.td s.te s.tf s.xa s.xb s.xc s.xd s.xe s.xf (g 0) (g 1) (g 2) (g 3))) hn hp hj (by rw [hg, z']; rfl) m1 (by rw [ra]; exact m5), ra]
            exact b1 K
          · rw [lp_X12_passF_8, endPlace_ok h.s1, bd1_s, if_neg (nI_ge (by omega) (by omega)), inb_s (show 1500 + a < 4500 by omega) (by decide), gd_s, nm_s, nI_clamp (show 1500 + a < 2 ^ 31 by omega), wa, jn_s, jn_s, if_pos h13, hlv, bd3_s, if_pos (by rw [z']; rfl)]
            show gd _ _ = _
            rw [gd_s, nm_s, jn_s, if_neg (show ¬ f a = 9 by rw [h13]; decide)]
            refine (congrArg (fun z => bd16 z _) hfol).trans ?_
            rw [bd16_s]
            show bd2 _ _ = _
            rw [m6, bd2_s]
            show bd1 _ _ = _
            rw [e5, bd1_s]
            exact b2 K
      · have hg := goesF_n (n := n) (lf := lf) (ob := ob) (ja := -1) (s := s) (c := c) (show ¬ row a = 13 by rw [ra]; exact h13)
        obtain ⟨np1, c1, r1, row1, wd1, sz1, m1, m2, m3, -, m5, m6, m7, m8, m9⟩ := h.keep hW hH hp q2
        have m8' := m8
        rw [m7] at m8'
        obtain ⟨k', nl', np', c', r', s', row', wd', sz', b1, b2, b3, b4⟩ := ih fu gu (a + cl (f a)) (k + cl (f a)) _ _ np1 c1 r1 s row1 wd1 sz1 (by omega) (by omega) (by omega) m8'
        have wa1 : wd1 (1500 + a) = f a := m8.inp a hp
        have e5 := behind_ok (p := 1500 + a) (by omega) wd1
        rw [wa1, Nat.add_assoc] at e5
        refine ⟨k', nl', np', c', r', s', row', wd', sz', fun K => ?_, fun K => ?_, b3, m9.tr b4⟩
        · rw [gt_keep hn hp hj hg m1 (by rw [ra]; exact m5), ra]
          exact b1 K
        · rw [lp_X12_passF_8, endPlace_ok h.s1, bd1_s, if_neg (nI_ge (by omega) (by omega)), inb_s (show 1500 + a < 4500 by omega) (by decide), gd_s, nm_s, nI_clamp (show 1500 + a < 2 ^ 31 by omega), wa, jn_s, jn_s, if_neg h13]
          show gd _ _ = _
          rw [gd_s, nm_s, jn_s]
          by_cases h9 : f a = 9
          · obtain rfl := m3 h9
            rw [if_pos h9]
            show bd2 _ _ = _
            rw [m6, bd2_s]
            show bd1 _ _ = _
            rw [e5, bd1_s]
            exact b2 K
          · have hfol : m_X12_follow wd r.told r.cut r.both r.points r.px r.py r.begins r.startX r.startY r.startPoint r.begun r.lines r.lastX r.lastY r.saves r.saved 1 (nI (1500 + a)) = some (r1.told, r1.cut, r1.both, r1.points, r1.px, r1.py, r1.begins, r1.startX, r1.startY, r1.startPoint, r1.begun, r1.lines, r1.lastX, r1.lastY, r1.saves, r1.saved) := m2 h9
            rw [if_neg h9, hfol, bd16_s]
            show bd2 _ _ = _
            rw [m6, bd2_s]
            show bd1 _ _ = _
            rw [e5, bd1_s]
            exact b2 K
    · obtain rfl : a = n := by omega
      have h0 : no = 0 := (VL.fin (Nat.le_refl _)).mp h.vin
      subst h0
      refine ⟨k, nl, np, c, r, s, row, wd, sz, fun K => gt_end hn (Nat.le_refl _) (by omega) K _ _ _ _ _ _ _ _ _, fun K => ?_, h, RFr.refl 1 r⟩
      rw [lp_X12_passF_8, endPlace_ok h.s1, bd1_s, if_pos (nI_le (Nat.le_refl _) (by omega))]
