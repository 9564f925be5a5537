theorem rowJ_at (row : Nat → Int32) (a : Nat) : rowJ row a (a + 7 + 1) = tq (row (a + 1)) (row (a + 3)) (row (a + 7 + 1)) (row (a + 7 + 2)) ∧ rowJ row a (a + 7 + 2) = tq (row (a + 2)) (row (a + 4)) (row (a + 7 + 1)) (row (a + 7 + 2)) ∧ rowJ row a (a + 7 + 3) = tq (row (a + 1)) (row (a + 3)) (row (a + 7 + 3)) (row (a + 7 + 4)) ∧ rowJ row a (a + 7 + 4) = tq (row (a + 2)) (row (a + 4)) (row (a + 7 + 3)) (row (a + 7 + 4)) ∧ rowJ row a (a + 7 + 5) = (row (a + 5)) + tq (row (a + 1)) (row (a + 3)) (row (a + 7 + 5)) (row (a + 7 + 6)) ∧ rowJ row a (a + 7 + 6) = (row (a + 6)) + tq (row (a + 2)) (row (a + 4)) (row (a + 7 + 5)) (row (a + 7 + 6)) ∧ (∀ x, (x < a + 8 ∨ a + 14 ≤ x) → rowJ row a x = row x) := by
  unfold rowJ
  refine ⟨?_, ?_, ?_, ?_, ?_, ?_, fun x hx => ?_⟩
  · rw [pk_un (by omega), pk_un (by omega), pk_un (by omega), pk_un (by omega), pk_un (by omega), pk_us]
  · rw [pk_un (by omega), pk_un (by omega), pk_un (by omega), pk_un (by omega), pk_us]
  · rw [pk_un (by omega), pk_un (by omega), pk_un (by omega), pk_us]
  · rw [pk_un (by omega), pk_un (by omega), pk_us]
  · rw [pk_un (by omega), pk_us]
  · rw [pk_us]
  · rw [pk_un (by omega), pk_un (by omega), pk_un (by omega), pk_un (by omega), pk_un (by omega), pk_un (by omega)]
theorem wh6_cg {f g : Nat → Int32} {p q : Nat} (h : ∀ j, 1 ≤ j → j ≤ 6 → f (p + j) = g (q + j)) : wh6 f p = wh6 g q := by
  unfold wh6
  rw [h 1 (by omega) (by omega), h 2 (by omega) (by omega), h 3 (by omega) (by omega), h 4 (by omega) (by omega), h 5 (by omega) (by omega), h 6 (by omega) (by omega)]
theorem FT_cg {f g : Nat → Int32} {p q p' q' : Nat} (h : ∀ j, 1 ≤ j → j ≤ 6 → f (p + j) = g (p' + j)) (h' : ∀ j, 1 ≤ j → j ≤ 6 → f (q + j) = g (q' + j)) : FT f p q = FT g p' q' := by
  unfold FT
  rw [h 1 (by omega) (by omega), h 2 (by omega) (by omega), h 3 (by omega) (by omega), h 4 (by omega) (by omega), h 5 (by omega) (by omega), h 6 (by omega) (by omega), h' 1 (by omega) (by omega), h' 2 (by omega) (by omega), h' 3 (by omega) (by omega), h' 4 (by omega) (by omega), h' 5 (by omega) (by omega), h' 6 (by omega) (by omega)]
set_option maxHeartbeats 4000000 in
theorem lockG {W H n : Nat} {f wd0 sz0 : Nat → Int32} (hW : W ≤ 32) (hH : H ≤ 32) (lf ob : Int32) : ∀ (N fu gu a k no nl np : Nat) (c : CM) (r : RF) (s : SX) (ja : Int32) (row wd sz : Nat → Int32), n ≤ a + N → 2 * N < fu → N < gu → PI W H n f wd0 sz0 a k no nl (decide (0 < np)) no nl np c r row wd sz → (ja = -1 ∨ ∃ z : Nat, z < a ∧ ja = nI z) → ∃ (k' nl' np' : Nat) (c' : CM) (r' : RF) (s' : SX) (ja' : Int32) (row' wd' sz' : Nat → Int32), (∀ K : Int32 → Int32 → Int32 → Int32 → Int32 → Int32 → Int32 → Int32 → Int32 → Int32 → Int32 → Int32 → Int32 → Int32 → Int32 → Int32 → Int32 → Int32 → Int32 → Int32 → Int32 → Int32 → Int32 → Int32 → Int32 → Int32 → (Nat → Int32) → Int32 → Int32 → Int32 → Int32 → Int32 → Int32 → Int32 → Int32 → Int32 → Int32 → Int32 → Int32 → Int32 → Int32 → Int32 → Int32 → Int32 → Int32 → Int32 → Int32 → Int32 → Int32 → (Nat → Int32) → (Nat → Int32) → (Nat → Int32) → (Nat → Int32) → (Nat → Int32) → (Nat → Int32) → (Nat → Int32) → (Nat → Int32) → (Nat → Int32) → (Nat → Int32) → (Nat → Int32) → (Nat → Int32) → (Nat → Int32) → (Nat → Int32) → (Nat → Int32) → Option (Int32 × Int32 × Int32 × Int32 × Int32 × Int32 × Int32 × Int32 × Int32 × Int32 × Int32 × Int32 × Int32 × Int32 × Int32 × Int32 × Int32 × Int32 × Int32 × Int32 × Int32 × Int32 × Int32 × Int32 × Int32 × Int32 × Int32 × Int32 × (Nat → Int32) × Int32 × Int32 × Int32 × Int32 × Int32 × Int32 × Int32 × Int32 × Int32 × Int32 × Int32 × Int32 × Int32 × Int32 × Int32 × Int32 × Int32 × Int32 × Int32 × Int32 × Int32 × Int32 × (Nat → Int32) × (Nat → Int32) × (Nat → Int32) × (Nat → Int32) × (Nat → Int32) × (Nat → Int32) × (Nat → Int32) × (Nat → Int32) × (Nat → Int32) × (Nat → Int32) × (Nat → Int32) × (Nat → Int32) × (Nat → Int32) × (Nat → Int32) × (Nat → Int32)), lp_X8_goThrough_33 (nI n) K lf 6 fu (nI k) (nI a) ob ja c.opn c.col c.way c.a c.b c.c c.d c.e c.f c.x c.y c.u c.v c.pts c.lns c.fst c.ftx c.fty c.ltx c.lty c.lx c.ly c.gy row s.ta s.tb s.tc s.td s.te s.tf s.xa s.xb s.xc s.xd s.xe s.xf s.cx s.cy s.cu s.cv c.na c.nb c.nc c.nd c.ne c.nf c.xs c.ys c.bg c.sc c.sw c.sa c.sb c.sC c.sd c.se c.sf c.sx c.sy c.su c.sv = K (nI k') ob ja' c'.opn c'.col c'.way c'.a c'.b c'.c c'.d c'.e c'.f c'.x c'.y c'.u c'.v c'.pts c'.lns c'.fst c'.ftx c'.fty c'.ltx c'.lty c'.lx c'.ly c'.gy row' s'.ta s'.tb s'.tc s'.td s'.te s'.tf s'.xa s'.xb s'.xc s'.xd s'.xe s'.xf s'.cx s'.cy s'.cu s'.cv c'.na c'.nb c'.nc c'.nd c'.ne c'.nf c'.xs c'.ys c'.bg c'.sc c'.sw c'.sa c'.sb c'.sC c'.sd c'.se c'.sf c'.sx c'.sy c'.su c'.sv) ∧ (∀ K : (Nat → Int32) → (Nat → Int32) → (Nat → Int32) → (Nat → Int32) → (Nat → Int32) → (Nat → Int32) → (Nat → Int32) → (Nat → Int32) → (Nat → Int32) → (Nat → Int32) → (Nat → Int32) → (Nat → Int32) → (Nat → Int32) → (Nat → Int32) → (Nat → Int32) → (Nat → Int32) → (Nat → Int32) → (Nat → Int32) → Option (Int32 × (Nat → Int32) × (Nat → Int32) × (Nat → Int32) × (Nat → Int32) × (Nat → Int32) × (Nat → Int32) × (Nat → Int32) × (Nat → Int32) × (Nat → Int32) × (Nat → Int32) × (Nat → Int32) × (Nat → Int32) × (Nat → Int32) × (Nat → Int32) × (Nat → Int32) × (Nat → Int32) × (Nat → Int32) × (Nat → Int32) × (Nat → Int32)), lp_X12_passG_8 K gu (nI (1500 + a)) sz r.told r.saves r.points r.begun r.lines wd r.cut r.both r.px r.py r.begins r.startX r.startY r.startPoint r.lastX r.lastY r.saved = K sz' r'.told r'.saves r'.points r'.begun r'.lines wd' r'.cut r'.both r'.px r'.py r'.begins r'.startX r'.startY r'.startPoint r'.lastX r'.lastY r'.saved) ∧ PI W H n f wd0 sz0 n k' 0 nl' (decide (0 < np')) 0 nl' np' c' r' row' wd' sz' ∧ RFr 1 r r' := by
  intro N
  induction N with
  | zero =>
    intro fu gu a k no nl np c r s ja row wd sz h1 h2 h3 h hja
    have hn := h.hn
    have ha := h.ha
    obtain ⟨fu, rfl⟩ : ∃ j, fu = j + 1 := ⟨fu - 1, by omega⟩
    obtain ⟨gu, rfl⟩ : ∃ j, gu = j + 1 := ⟨gu - 1, by omega⟩
    obtain rfl : a = n := by omega
    have h0 : no = 0 := (VL.fin (Nat.le_refl _)).mp h.vin
    subst h0
    refine ⟨k, nl, np, c, r, s, ja, row, wd, sz, fun K => gt_end hn (Nat.le_refl _) (by omega) K _ _ _ _ _ _ _ _ _, fun K => ?_, h, RFr.refl 1 r⟩
    rw [lp_X12_passG_8, endPlace_ok h.s1, bd1_s, if_pos (nI_le (Nat.le_refl _) (by omega))]
  | succ N ih =>
    intro fu gu a k no nl np c r s ja row wd sz h1 h2 h3 h hja
    have hn := h.hn
    have ha := h.ha
    obtain ⟨fu, rfl⟩ : ∃ j, fu = j + 1 + 1 := ⟨fu - 2, by omega⟩
    obtain ⟨gu, rfl⟩ : ∃ j, gu = j + 1 := ⟨gu - 1, by omega⟩
    by_cases hp : a < n
    · skip
      obtain ⟨q1, q2, q3⟩ := h.vin.step hn hp
      obtain ⟨q4, q5, q6⟩ := fw_len q1
      have hc := cl_ge (f a)
      have ra : row a = f a := h.tail a (Nat.le_refl _) hp
      have wa : wd (1500 + a) = f a := h.inp a hp
      have hj : ¬ nI a = ja := by
        rcases hja with z | ⟨y, y1, z⟩
        · rw [z]
          intro z
          have := nI_ti (show a < 2 ^ 31 by omega)
          rw [z] at this
          have e1 : (-1 : Int32).toInt = -1 := by decide
          omega
        · rw [z, nI_eq (by omega) (by omega)]
          omega
      have hja' : ∀ b : Nat, 1 ≤ b → ja = -1 ∨ ∃ z : Nat, z < a + b ∧ ja = nI z := fun b hb => hja.elim Or.inl (fun ⟨z, z1, z2⟩ => Or.inr ⟨z, by omega, z2⟩)
      have e6 := behind_ok (p := 1500 + a) (by omega) wd
      rw [wa, Nat.add_assoc] at e6
      obtain ⟨u1, u2, u3, u4, u5, ⟨u6, u7⟩⟩ : r.told 12 = c.a ∧ r.told 13 = c.b ∧ r.told 14 = c.c ∧ r.told 15 = c.d ∧ r.told 16 = c.e ∧ r.told 17 = c.f ∧ True := by
        obtain ⟨t0, t1, t2, t3, t4, t5, -⟩ := h.mach.2.2.2.1
        exact ⟨t0, t1, t2, t3, t4, t5, True.intro⟩
      by_cases h12 : f a = 12
      · have hcl : cl (f a) = 7 := by rw [h12]; rfl
        have hcr : cl (row a) = 7 := by rw [ra]; exact hcl
        rw [hcl] at q4
        have wr : ∀ j, j ≤ 6 → wd (1500 + a + j) = row (a + j) := fun j hj => by rw [Nat.add_assoc, h.inp _ (by omega), h.tail _ (by omega) (by omega)]
        obtain ⟨bo, hb, b0, b1', b2', b3', b4', b5'⟩ := rcomposeTold_ok (m := 1) (by omega) (show 1500 + a + 1 + 5 < 4500 by omega) r.told wd r.both
        have x1 : wd (1500 + a + 1) = row (a + 1) := wr 1 (by omega)
        have x2 : wd (1500 + a + 1 + 1) = row (a + 2) := wr 2 (by omega)
        have x3 : wd (1500 + a + 1 + 2) = row (a + 3) := wr 3 (by omega)
        have x4 : wd (1500 + a + 1 + 3) = row (a + 4) := wr 4 (by omega)
        have x5 : wd (1500 + a + 1 + 4) = row (a + 5) := wr 5 (by omega)
        have x6 : wd (1500 + a + 1 + 5) = row (a + 6) := wr 6 (by omega)
        have hlv : m_X12_leaves wd r.told r.cut r.both (nI (1500 + a)) = some (bI (same12 c row a), r.cut, bo) := by
          unfold m_X12_leaves
          rw [inb_s (show 1500 + a < 4500 by omega) (by decide), gd_s, nm_s, nI_clamp (show 1500 + a < 2 ^ 31 by omega), wa, if_neg (by rw [h12]; decide), jn_s, if_pos h12, show nI (1500 + a) + 1 = nI (1500 + a + 1) from nI_add (1500 + a) 1]
          refine (congrArg (fun z => bd1 z _) hb).trans ?_
          rw [bd1_s]
          show lp_X12_leaves_87 r.cut bo r.told (f a) FU 1 0 = _
          rw [l87_ok]
          unfold same12 lvv
          rw [if_pos h12, if_pos h12, if_pos h12, if_pos h12, if_pos h12, if_pos h12, b0, b1', b2', b3', b4', b5', x1, x2, x3, x4, x5, x6]
          show some (bI (decide (tq (r.told 12) (r.told 14) _ _ = r.told 12) && decide (tq (r.told 13) (r.told 15) _ _ = r.told 13) && decide (tq (r.told 12) (r.told 14) _ _ = r.told 14) && decide (tq (r.told 13) (r.told 15) _ _ = r.told 15) && decide (r.told 16 + tq (r.told 12) (r.told 14) _ _ = r.told 16) && decide (r.told 17 + tq (r.told 13) (r.told 15) _ _ = r.told 17)), _, _) = _
          rw [u1, u2, u3, u4, u5, u6]
        obtain ⟨h', hF'⟩ := h.recut r.cut bo
        have ord12 : ord (f a) no nl (decide (0 < np)) = (0, no, nl, decide (0 < np)) := by rw [h12]; simp [ord]
        cases hsm : same12 c row a
        · rw [hsm] at hlv
          by_cases hjn : wv row n (a + 7) = 12 ∧ wh6 row a = true ∧ wh6 row (a + 7) = true ∧ FT row a (a + 7) = true
          · obtain ⟨z1, z2, z3, z4⟩ := hjn
            have hp7 : a + 7 < n := by
              by_cases z : a + 7 < n
              · exact z
              · unfold wv at z1
                rw [if_neg z] at z1
                exact absurd z1 (by decide)
            rw [wv_in hp7] at z1
            have f7 : f (a + 7) = 12 := (h.tail _ (by omega) hp7).symm.trans z1
            rw [hcl, ord12] at q3
            obtain ⟨y1, y2, y3⟩ := q3.step hn hp7
            have y4 := (fw_len y1).1
            have hcl7 : cl (f (a + 7)) = 7 := by rw [f7]; rfl
            rw [hcl7] at y4 y3
            have ord7 : ord (f (a + 7)) no nl (decide (0 < np)) = (0, no, nl, decide (0 < np)) := by rw [f7]; simp [ord]
            rw [ord7] at y3
            have wr2 : ∀ j, j ≤ 6 → wd (1500 + (a + 7) + j) = row (a + 7 + j) := fun j hj => by rw [Nat.add_assoc, h.inp _ (by omega), h.tail _ (by omega) (by omega)]
            obtain ⟨s2, hg⟩ := goesG_j (lf := lf) (ob := ob) (ja := ja) (s := s) (c := c) hn y4 (ra.trans h12) hsm z1 z2 z3 z4
            obtain ⟨j1, j2, j3, j4, j5, j6, jx⟩ := rowJ_at row a
            have jc : rowJ row a (a + 7) = 12 := (jx _ (Or.inl (by omega))).trans z1
            have hcf := cfollow_12 hn y4 jc c
            obtain ⟨row2, m1, m2, m3⟩ := moveDown_ok hn (show k ≤ a + 7 by have := h.hk; omega) y4 (rowJ row a)
            have hk := h.hk
            obtain ⟨w1, w2, w3, w4, w5, w6⟩ := wh6_iff.mp z2
            obtain ⟨v1, v2, v3, v4, v5, v6⟩ := wh6_iff.mp z3
            have z4' := z4
            unfold FT at z4'
            simp only [Bool.and_eq_true] at z4'
            obtain ⟨⟨⟨⟨⟨g1, g2⟩, g3⟩, g4⟩, g5⟩, g6⟩ := z4'
            have hcp := rcompose_ok (q := 1500 + (a + 7) + 1) (by omega) wd bo (row (a + 1)) (row (a + 2)) (row (a + 3)) (row (a + 4)) (row (a + 5)) (row (a + 6))
            have X1 : wd (1500 + (a + 7) + 1) = row (a + 7 + 1) := wr2 1 (by omega)
            have X2 : wd (1500 + (a + 7) + 1 + 1) = row (a + 7 + 2) := wr2 2 (by omega)
            have X3 : wd (1500 + (a + 7) + 1 + 2) = row (a + 7 + 3) := wr2 3 (by omega)
            have X4 : wd (1500 + (a + 7) + 1 + 3) = row (a + 7 + 4) := wr2 4 (by omega)
            have X5 : wd (1500 + (a + 7) + 1 + 4) = row (a + 7 + 5) := wr2 5 (by omega)
            have X6 : wd (1500 + (a + 7) + 1 + 5) = row (a + 7 + 6) := wr2 6 (by omega)
            rw [X1, X2, X3, X4, X5, X6] at hcp
            generalize hbo2 : upd (upd (upd (upd (upd (upd bo 0 (tq (row (a + 1)) (row (a + 3)) (row (a + 7 + 1)) (row (a + 7 + 2)))) 1 (tq (row (a + 2)) (row (a + 4)) (row (a + 7 + 1)) (row (a + 7 + 2)))) 2 (tq (row (a + 1)) (row (a + 3)) (row (a + 7 + 3)) (row (a + 7 + 4)))) 3 (tq (row (a + 2)) (row (a + 4)) (row (a + 7 + 3)) (row (a + 7 + 4)))) 4 (tq (row (a + 1)) (row (a + 3)) (row (a + 7 + 5)) (row (a + 7 + 6)) + (row (a + 5)))) 5 (tq (row (a + 2)) (row (a + 4)) (row (a + 7 + 5)) (row (a + 7 + 6)) + (row (a + 6))) = bo2 at hcp
            have o0 : bo2 0 = rowJ row a (a + 7 + 1) := by rw [j1, ← hbo2]; simp [upd]
            have o1 : bo2 1 = rowJ row a (a + 7 + 2) := by rw [j2, ← hbo2]; simp [upd]
            have o2 : bo2 2 = rowJ row a (a + 7 + 3) := by rw [j3, ← hbo2]; simp [upd]
            have o3 : bo2 3 = rowJ row a (a + 7 + 4) := by rw [j4, ← hbo2]; simp [upd]
            have o4 : bo2 4 = rowJ row a (a + 7 + 5) := by rw [j5, ← hbo2]; simp [upd, Int32.add_comm]
            have o5 : bo2 5 = rowJ row a (a + 7 + 6) := by rw [j6, ← hbo2]; simp [upd, Int32.add_comm]
            have hg180 : ∃ g' : Nat → Int32, (∀ K : (Nat → Int32) → Option (Int32 × (Nat → Int32) × (Nat → Int32) × (Nat → Int32) × (Nat → Int32) × (Nat → Int32) × (Nat → Int32) × (Nat → Int32) × (Nat → Int32) × (Nat → Int32) × (Nat → Int32) × (Nat → Int32) × (Nat → Int32) × (Nat → Int32) × (Nat → Int32) × (Nat → Int32) × (Nat → Int32) × (Nat → Int32) × (Nat → Int32) × (Nat → Int32)), lp_X12_passG_180 K sz bo2 FU 0 (upd wd (3000 + k) 12) = K g') ∧ (∀ j, j < 6 → g' (3000 + k + 1 + j) = bo2 j) ∧ (∀ x, (x < 3000 + k + 1 ∨ 3000 + k + 7 ≤ x) → g' x = upd wd (3000 + k) 12 x) := g180_all (by omega) h.s2 _
            obtain ⟨wd2, d1, d2, d3⟩ := hg180
            have wlow : ∀ x, x < 3000 → wd2 x = wd x := fun x hx => by rw [d3 x (Or.inl (by omega)), pk_un (by omega)]
            have w12 : wd2 (3000 + k) = 12 := by rw [d3 _ (Or.inl (by omega)), pk_us]
            obtain ⟨ta, ba, F1, A0, A1, A2, A3, A4, A5, A6⟩ := rfollow_12 (q := 1500 + a) (by omega) (wd := wd2) (by rw [wlow _ (by omega), wa, h12]) (RF.mk r.told r.cut bo2 r.points r.px r.py r.begins r.startX r.startY r.startPoint r.begun r.lines r.lastX r.lastY r.saves r.saved)
            obtain ⟨tb, bb, F2, B0, B1, B2, B3, B4, B5, B6⟩ := rfollow_12 (q := 1500 + (a + 7)) (by omega) (wd := wd2) (by rw [wlow _ (by omega), h.inp _ hp7, f7]) (RF.mk ta r.cut ba r.points r.px r.py r.begins r.startX r.startY r.startPoint r.begun r.lines r.lastX r.lastY r.saves r.saved)
            have e7 := behind_ok (p := 1500 + (a + 7)) (by omega) wd2
            rw [wlow _ (by omega), h.inp _ hp7, hcl7] at e7
            have y12 : ∀ j, j ≤ 6 → wd2 (1500 + a + j) = row (a + j) := fun j hj => by rw [wlow _ (by omega), wr j hj]
            have y7 : ∀ j, j ≤ 6 → wd2 (1500 + (a + 7) + j) = row (a + 7 + j) := fun j hj => by rw [wlow _ (by omega), wr2 j hj]
            rw [y12 1 (by omega), y12 2 (by omega)] at A0 A1
            rw [y12 3 (by omega), y12 4 (by omega)] at A2 A3
            rw [y12 5 (by omega), y12 6 (by omega)] at A4 A5
            rw [y7 1 (by omega), y7 2 (by omega)] at B0 B1
            rw [y7 3 (by omega), y7 4 (by omega)] at B2 B3
            rw [y7 5 (by omega), y7 6 (by omega)] at B4 B5
            have A0' : ta 12 = tq c.a c.c (row (a + 1)) (row (a + 2)) := A0.trans (by show tq (r.told 12) (r.told 14) _ _ = _; rw [u1, u3])
            have A1' : ta 13 = tq c.b c.d (row (a + 1)) (row (a + 2)) := A1.trans (by show tq (r.told 13) (r.told 15) _ _ = _; rw [u2, u4])
            have A2' : ta 14 = tq c.a c.c (row (a + 3)) (row (a + 4)) := A2.trans (by show tq (r.told 12) (r.told 14) _ _ = _; rw [u1, u3])
            have A3' : ta 15 = tq c.b c.d (row (a + 3)) (row (a + 4)) := A3.trans (by show tq (r.told 13) (r.told 15) _ _ = _; rw [u2, u4])
            have A4' : ta 16 = c.e + tq c.a c.c (row (a + 5)) (row (a + 6)) := A4.trans (by show r.told 16 + tq (r.told 12) (r.told 14) _ _ = _; rw [u1, u3, u5])
            have A5' : ta 17 = c.f + tq c.b c.d (row (a + 5)) (row (a + 6)) := A5.trans (by show r.told 17 + tq (r.told 13) (r.told 15) _ _ = _; rw [u2, u4, u6])
            have T0 : tb 12 = tq c.a c.c (rowJ row a (a + 7 + 1)) (rowJ row a (a + 7 + 2)) := B0.trans (by show tq (ta 12) (ta 14) _ _ = _; rw [A0', A2', j1, j2]; exact (assoc1 w1 w2 w3 w4 v1 v2 g1 g2).symm)
            have T1 : tb 13 = tq c.b c.d (rowJ row a (a + 7 + 1)) (rowJ row a (a + 7 + 2)) := B1.trans (by show tq (ta 13) (ta 15) _ _ = _; rw [A1', A3', j1, j2]; exact (assoc1 w1 w2 w3 w4 v1 v2 g1 g2).symm)
            have T2 : tb 14 = tq c.a c.c (rowJ row a (a + 7 + 3)) (rowJ row a (a + 7 + 4)) := B2.trans (by show tq (ta 12) (ta 14) _ _ = _; rw [A0', A2', j3, j4]; exact (assoc1 w1 w2 w3 w4 v3 v4 g3 g4).symm)
            have T3 : tb 15 = tq c.b c.d (rowJ row a (a + 7 + 3)) (rowJ row a (a + 7 + 4)) := B3.trans (by show tq (ta 13) (ta 15) _ _ = _; rw [A1', A3', j3, j4]; exact (assoc1 w1 w2 w3 w4 v3 v4 g3 g4).symm)
            have T4 : tb 16 = c.e + tq c.a c.c (rowJ row a (a + 7 + 5)) (rowJ row a (a + 7 + 6)) := B4.trans (by show ta 16 + tq (ta 12) (ta 14) _ _ = _; rw [A0', A2', A4', j5, j6]; exact (assoc2 w1 w2 w3 w4 w5 w6 v5 v6 g5 g6).symm)
            have T5 : tb 17 = c.f + tq c.b c.d (rowJ row a (a + 7 + 5)) (rowJ row a (a + 7 + 6)) := B5.trans (by show ta 17 + tq (ta 13) (ta 15) _ _ = _; rw [A1', A3', A5', j5, j6]; exact (assoc2 w1 w2 w3 w4 w5 w6 v5 v6 g5 g6).symm)
            have T6 : ∀ j, (j < 12 ∨ 18 ≤ j) → tb j = r.told j := fun j hj => (B6 j hj).trans (A6 j hj)
            rw [← T0, ← T1, ← T2, ← T3, ← T4, ← T5] at hcf
            generalize hn1 : tb 12 = n1 at hcf
            generalize hn2 : tb 13 = n2 at hcf
            generalize hn3 : tb 14 = n3 at hcf
            generalize hn4 : tb 15 = n4 at hcf
            generalize hn5 : tb 16 = n5 at hcf
            generalize hn6 : tb 17 = n6 at hcf
            obtain ⟨l1, l2, l3, l4, l5, l6, l7⟩ := id h.mach
            obtain ⟨-, -, -, -, -, -, t6, t7, t8, t9, t10, t11⟩ := l4
            have hM : RM 1 W H no np nl (CM.mk c.opn c.col c.way n1 n2 n3 n4 n5 n6 c.x c.y c.u c.v (rowJ row a (a + 7 + 1)) (rowJ row a (a + 7 + 2)) (rowJ row a (a + 7 + 3)) (rowJ row a (a + 7 + 4)) (rowJ row a (a + 7 + 5)) (rowJ row a (a + 7 + 6)) c.pts c.lns c.fst c.ftx c.fty c.ltx c.lty c.lx c.ly c.gy c.xs c.ys c.bg c.sc c.sw c.sa c.sb c.sC c.sd c.se c.sf c.sx c.sy c.su c.sv) (RF.mk tb r.cut bb r.points r.px r.py r.begins r.startX r.startY r.startPoint r.begun r.lines r.lastX r.lastY r.saves r.saved) := ⟨l1, l2, l3, ⟨hn1, hn2, hn3, hn4, hn5, hn6, (T6 18 (by omega)).trans t6, (T6 19 (by omega)).trans t7, (T6 20 (by omega)).trans t8, (T6 21 (by omega)).trans t9, (T6 22 (by omega)).trans t10, (T6 23 (by omega)).trans t11⟩, l5, l6, l7⟩
            have hfwJ : fw (rowJ row a) n (a + 7) = 0 := by
              unfold fw
              rw [jc, if_neg (by decide), if_neg (by show ¬ n < a + 7 + 7; omega), if_neg]
              intro z
              rw [bnd_true (rowJ row a) (a + 7) (fun k v => by rw [jc]; simp [bndk])] at z
              exact absurd z (by decide)
            have hvo := h.vout.step (g' := row2) (f := rowJ row a) (n := n) (p := a + 7) (fun j hj => (m3 j (Or.inl hj)).trans (jx j (Or.inl (by omega)))) hfwJ (fun j hj => by rw [jc] at hj; exact m2 j hj) (by rw [jc]; simp [ord])
            have oj : ord (rowJ row a (a + 7)) no nl (decide (0 < np)) = (0, no, nl, decide (0 < np)) := by rw [jc]; simp [ord]
            have cj : cl (rowJ row a (a + 7)) = 7 := by rw [jc]; rfl
            rw [oj, cj] at hvo
            have hPI : PI W H n f wd0 sz0 (a + 7 + 7) (k + 7) no nl (decide (0 < np)) no nl np (CM.mk c.opn c.col c.way n1 n2 n3 n4 n5 n6 c.x c.y c.u c.v (rowJ row a (a + 7 + 1)) (rowJ row a (a + 7 + 2)) (rowJ row a (a + 7 + 3)) (rowJ row a (a + 7 + 4)) (rowJ row a (a + 7 + 5)) (rowJ row a (a + 7 + 6)) c.pts c.lns c.fst c.ftx c.fty c.ltx c.lty c.lx c.ly c.gy c.xs c.ys c.bg c.sc c.sw c.sa c.sb c.sC c.sd c.se c.sf c.sx c.sy c.su c.sv) (RF.mk tb r.cut bb r.points r.px r.py r.begins r.startX r.startY r.startPoint r.begun r.lines r.lastX r.lastY r.saves r.saved) row2 wd2 (upd sz 2 (nI (k + 7))) := ⟨hn, y4, by omega, fun j j1 j2 => by rw [m3 j (by omega), jx j (by omega)]; exact h.tail j (by omega) j2, fun j hj => by rw [wlow _ (by omega)]; exact h.inp j hj, fun j hj => by
                by_cases z : j < k
                · rw [m3 j (Or.inl z), jx j (Or.inl (by omega)), d3 _ (Or.inl (by omega)), pk_un (by omega)]
                  exact h.out j z
                · obtain ⟨i, rfl⟩ : ∃ i, j = k + i := ⟨j - k, by omega⟩
                  rw [m2 i (by omega)]
                  by_cases i0 : i = 0
                  · subst i0
                    exact jc.trans w12.symm
                  · have q := d2 (i - 1) (by omega)
                    rw [show 3000 + k + 1 + (i - 1) = 3000 + (k + i) by omega] at q
                    rw [q]
                    have : i = 1 ∨ i = 2 ∨ i = 3 ∨ i = 4 ∨ i = 5 ∨ i = 6 := by omega
                    rcases this with rfl | rfl | rfl | rfl | rfl | rfl
                    · exact o0.symm
                    · exact o1.symm
                    · exact o2.symm
                    · exact o3.symm
                    · exact o4.symm
                    · exact o5.symm, fun j hj => by rw [wlow _ (by omega)]; exact h.low j hj, (pk_un (by omega)).trans h.s0, (pk_un (by omega)).trans h.s1, pk_us, fun z => by omega, y3, hvo, hM, by have := h.bd; omega⟩
            obtain ⟨k', nl', np', c', r', s3, ja2, row', wd', sz', b1, b2, b3, b4⟩ := ih fu gu (a + 7 + 7) (k + 7) no nl np (CM.mk c.opn c.col c.way n1 n2 n3 n4 n5 n6 c.x c.y c.u c.v (rowJ row a (a + 7 + 1)) (rowJ row a (a + 7 + 2)) (rowJ row a (a + 7 + 3)) (rowJ row a (a + 7 + 4)) (rowJ row a (a + 7 + 5)) (rowJ row a (a + 7 + 6)) c.pts c.lns c.fst c.ftx c.fty c.ltx c.lty c.lx c.ly c.gy c.xs c.ys c.bg c.sc c.sw c.sa c.sb c.sC c.sd c.se c.sf c.sx c.sy c.su c.sv) (RF.mk tb r.cut bb r.points r.px r.py r.begins r.startX r.startY r.startPoint r.begun r.lines r.lastX r.lastY r.saves r.saved) s2 (nI (a + 7)) row2 wd2 (upd sz 2 (nI (k + 7))) (by omega) (by omega) (by omega) hPI (Or.inr ⟨a + 7, by omega, rfl⟩)
            have hFr : RFr 1 r (RF.mk tb r.cut bb r.points r.px r.py r.begins r.startX r.startY r.startPoint r.begun r.lines r.lastX r.lastY r.saves r.saved) := ⟨fun j hj => T6 j (by omega), fun _ _ => rfl, fun _ _ => rfl, PFr.refl _ _ _ _ _ _ _ _ _ _ _⟩
            refine ⟨k', nl', np', c', r', s3, ja2, row', wd', sz', fun K => ?_, fun K => ?_, b3, hFr.tr b4⟩
            · rw [gt_skip hn hp hj hg, if_neg (by decide), hcr]
              refine (gt_join (c' := (CM.mk c.opn c.col c.way n1 n2 n3 n4 n5 n6 c.x c.y c.u c.v (rowJ row a (a + 7 + 1)) (rowJ row a (a + 7 + 2)) (rowJ row a (a + 7 + 3)) (rowJ row a (a + 7 + 4)) (rowJ row a (a + 7 + 5)) (rowJ row a (a + 7 + 6)) c.pts c.lns c.fst c.ftx c.fty c.ltx c.lty c.lx c.ly c.gy c.xs c.ys c.bg c.sc c.sw c.sa c.sb c.sC c.sd c.se c.sf c.sx c.sy c.su c.sv)) hn hp7 hcf (by rw [cj]; exact m1)).trans ?_
              rw [cj]
              exact b1 K
            · have pk1 : nI (1500 + a) + 1 = nI (1500 + a + 1) := nI_add (1500 + a) 1
              have pk2 : nI (1500 + a) + 2 = nI (1500 + a + 2) := nI_add (1500 + a) 2
              have pk3 : nI (1500 + a) + 3 = nI (1500 + a + 3) := nI_add (1500 + a) 3
              have pk4 : nI (1500 + a) + 4 = nI (1500 + a + 4) := nI_add (1500 + a) 4
              have pk5 : nI (1500 + a) + 5 = nI (1500 + a + 5) := nI_add (1500 + a) 5
              have pk6 : nI (1500 + a) + 6 = nI (1500 + a + 6) := nI_add (1500 + a) 6
              have qk1 : nI (1500 + (a + 7)) + 1 = nI (1500 + (a + 7) + 1) := nI_add (1500 + (a + 7)) 1
              have t3k : (3000 : Int32) + nI k = nI (3000 + k) := nI_add 3000 k
              have k77 : nI k + 7 = nI (k + 7) := nI_add k 7
              have ar1 : m_X12_areRound wd (nI (1500 + a)) = some (bI true) := by
                rw [areRound_ok wd (by omega), wh6_cg (fun j j1 j2 => wr j j2), z2]
              have ar2 : m_X12_areRound wd (nI (1500 + (a + 7))) = some (bI true) := by
                rw [areRound_ok wd (by omega), wh6_cg (fun j j1 j2 => wr2 j j2), z3]
              have af : m_X12_fitBoth wd (nI (1500 + a)) (nI (1500 + (a + 7))) = some (bI true) := by
                rw [fitBoth_ok wd (by omega) (by omega), FT_cg (fun j j1 j2 => wr j j2) (fun j j1 j2 => wr2 j j2), z4]
              rw [hcl] at e6
              rw [lp_X12_passG_8, endPlace_ok h.s1, bd1_s, if_neg (nI_ge (by omega) (by omega)), inb_s (show 1500 + a < 4500 by omega) (by decide), gd_s, nm_s, nI_clamp (show 1500 + a < 2 ^ 31 by omega), wa, e6, bd1_s, jn_s, jn_s, jn_s, if_pos h12, hlv, bd3_s, if_pos (show bI false = 0 from rfl)]
              show jn _ _ = _
              rw [jn_s, if_pos h12, bd1_s, if_neg (nI_ge (by omega) (by omega)), inb_s (show 1500 + (a + 7) < 4500 by omega) (by decide), gd_s, nm_s, nI_clamp (show 1500 + (a + 7) < 2 ^ 31 by omega), h.inp _ hp7, if_pos f7, ar1, bd1_s, if_neg (show ¬ bI true = 0 by decide), ar2, bd1_s, if_neg (show ¬ bI true = 0 by decide), af, bd1_s, if_neg (show ¬ bI true = 0 by decide), pk1, inb_s (show 1500 + a + 1 < 4500 by omega) (by decide), gd_s, nm_s, nI_clamp (show 1500 + a + 1 < 2 ^ 31 by omega), pk2, inb_s (show 1500 + a + 2 < 4500 by omega) (by decide), gd_s, nm_s, nI_clamp (show 1500 + a + 2 < 2 ^ 31 by omega), pk3, inb_s (show 1500 + a + 3 < 4500 by omega) (by decide), gd_s, nm_s, nI_clamp (show 1500 + a + 3 < 2 ^ 31 by omega), pk4, inb_s (show 1500 + a + 4 < 4500 by omega) (by decide), gd_s, nm_s, nI_clamp (show 1500 + a + 4 < 2 ^ 31 by omega), pk5, inb_s (show 1500 + a + 5 < 4500 by omega) (by decide), gd_s, nm_s, nI_clamp (show 1500 + a + 5 < 2 ^ 31 by omega), pk6, inb_s (show 1500 + a + 6 < 4500 by omega) (by decide), gd_s, nm_s, nI_clamp (show 1500 + a + 6 < 2 ^ 31 by omega), wr 1 (by omega), wr 2 (by omega), wr 3 (by omega), wr 4 (by omega), wr 5 (by omega), wr 6 (by omega), qk1, hcp, bd1_s, inb_2_3, gd_s, nm_s, tn_2, h.s2, t3k, inb_s (show 3000 + k < 4500 by omega) (by decide), gd_s, nm_s, nI_clamp (show 3000 + k < 2 ^ 31 by omega), jn_s, d1, gd_s, nm_s, nm_s, gd_s, nm_s, k77]
              refine (congrArg (fun z => bd16 z _) F1).trans ?_
              rw [bd16_s]
              refine (congrArg (fun z => bd16 z _) F2).trans ?_
              rw [bd16_s, e7, bd1_s]
              exact b2 K
          · have hq14 : wv row n (a + 7) = 12 → a + 7 + 7 ≤ n := by
              intro z1
              have hp7 : a + 7 < n := by
                by_cases z : a + 7 < n
                · exact z
                · unfold wv at z1
                  rw [if_neg z] at z1
                  exact absurd z1 (by decide)
              rw [wv_in hp7] at z1
              have f7 : f (a + 7) = 12 := (h.tail _ (by omega) hp7).symm.trans z1
              rw [hcl] at q3
              have y4 := q3.le hn hp7
              rw [f7] at y4
              exact y4
            obtain ⟨s2', hg⟩ := goesG_12n (lf := lf) (ob := ob) (ja := ja) (s := s) (c := c) hn q4 (ra.trans h12) hsm hjn hq14
            obtain ⟨np1, c1, r1, row1, wd1, sz1, m1, m2, m3, -, m5, m6, m7, m8, m9⟩ := h'.keep hW hH hp q2
            have m8' := m8
            rw [m7] at m8'
            obtain ⟨k', nl', np', c', r', s2, ja2, row', wd', sz', b1, b2, b3, b4⟩ := ih (fu + 1) gu (a + cl (f a)) (k + cl (f a)) _ _ np1 c1 r1 s2' ja row1 wd1 sz1 (by omega) (by omega) (by omega) m8' (hja' _ hc)
            refine ⟨k', nl', np', c', r', s2, ja2, row', wd', sz', fun K => ?_, fun K => ?_, b3, hF'.tr (m9.tr b4)⟩
            · rw [gt_keep hn hp hj hg m1 (by rw [ra]; exact m5), ra]
              exact b1 K
            · rw [lp_X12_passG_8, endPlace_ok h.s1, bd1_s, if_neg (nI_ge (by omega) (by omega)), inb_s (show 1500 + a < 4500 by omega) (by decide), gd_s, nm_s, nI_clamp (show 1500 + a < 2 ^ 31 by omega), wa, e6, bd1_s, jn_s, jn_s, jn_s, if_pos h12, hlv, bd3_s, if_pos (show bI false = 0 from rfl)]
              show jn _ _ = _
              refine (jn_id _ _ (fun Y => ?_)).trans ?_
              · show (if f a = 12 then _ else _) = _
                rw [if_pos h12, bd1_s, hcl]
                by_cases c1 : n ≤ a + 7
                · rw [if_pos (nI_le (by omega) (by omega))]
                · rw [if_neg (nI_ge (by omega) (by omega)), inb_s (show 1500 + (a + 7) < 4500 by omega) (by decide), gd_s, nm_s, nI_clamp (show 1500 + (a + 7) < 2 ^ 31 by omega), h.inp _ (show a + 7 < n by omega)]
                  by_cases c2 : f (a + 7) = 12
                  · have z1 : wv row n (a + 7) = 12 := by rw [wv_in (show a + 7 < n by omega), h.tail _ (by omega) (by omega)]; exact c2
                    have h14 := hq14 z1
                    have wr2 : ∀ j, j ≤ 6 → wd (1500 + (a + 7) + j) = row (a + 7 + j) := fun j hj => by rw [Nat.add_assoc, h.inp _ (by omega), h.tail _ (by omega) (by omega)]
                    rw [if_pos c2, areRound_ok wd (show 1500 + a + 6 < 4500 by omega), wh6_cg (g := row) (q := a) (fun j j1 j2 => wr j j2), bd1_s]
                    cases z2 : wh6 row a
                    · rw [if_pos (show bI false = 0 from rfl)]
                    · rw [if_neg (show ¬ bI true = 0 by decide), areRound_ok wd (show 1500 + (a + 7) + 6 < 4500 by omega), wh6_cg (g := row) (q := a + 7) (fun j j1 j2 => wr2 j j2), bd1_s]
                      cases z3 : wh6 row (a + 7)
                      · rw [if_pos (show bI false = 0 from rfl)]
                      · rw [if_neg (show ¬ bI true = 0 by decide), fitBoth_ok wd (show 1500 + a + 6 < 4500 by omega) (show 1500 + (a + 7) + 6 < 4500 by omega), FT_cg (g := row) (p' := a) (q' := a + 7) (fun j j1 j2 => wr j j2) (fun j j1 j2 => wr2 j j2), bd1_s]
                        cases z4 : FT row a (a + 7)
                        · rw [if_pos (show bI false = 0 from rfl)]
                        · exact absurd ⟨z1, z2, z3, z4⟩ hjn
                  · rw [if_neg c2]
              · rw [jn_s]
                by_cases h9 : f a = 9
                · obtain rfl := m3 h9
                  rw [if_pos h9]
                  show bd2 _ _ = _
                  rw [m6, bd2_s]
                  exact b2 K
                · rw [if_neg h9]
                  refine (congrArg (fun z => bd16 z _) (m2 h9)).trans ?_
                  rw [bd16_s]
                  show bd2 _ _ = _
                  rw [m6, bd2_s]
                  exact b2 K
        · rw [hsm] at hlv
          obtain ⟨s2', hg⟩ := goesG_12 (lf := lf) (ob := ob) (ja := ja) (s := s) (c := c) hn q4 (ra.trans h12) hsm
          have hs := h'.skip hp
          rw [ord12] at hs
          obtain ⟨k', nl', np', c', r', s2, ja2, row', wd', sz', b1, b2, b3, b4⟩ := ih (fu + 1) gu (a + cl (f a)) k no nl np c (RF.mk r.told r.cut bo r.points r.px r.py r.begins r.startX r.startY r.startPoint r.begun r.lines r.lastX r.lastY r.saves r.saved) s2' ja row wd sz (by omega) (by omega) (by omega) hs (hja' _ hc)
          refine ⟨k', nl', np', c', r', s2, ja2, row', wd', sz', fun K => ?_, fun K => ?_, b3, hF'.tr b4⟩
          · rw [gt_skip hn hp hj hg, if_neg (by decide), ra]
            exact b1 K
          · rw [lp_X12_passG_8, endPlace_ok h.s1, bd1_s, if_neg (nI_ge (by omega) (by omega)), inb_s (show 1500 + a < 4500 by omega) (by decide), gd_s, nm_s, nI_clamp (show 1500 + a < 2 ^ 31 by omega), wa, e6, bd1_s, jn_s, jn_s, jn_s, if_pos h12, hlv, bd3_s, if_neg (show ¬ bI true = 0 by decide)]
            exact b2 K
      · by_cases h14 : f a = 14
        · have hlv : m_X12_leaves wd r.told r.cut r.both (nI (1500 + a)) = some (bI (same14 c), r.cut, r.both) := by
            unfold m_X12_leaves
            rw [inb_s (show 1500 + a < 4500 by omega) (by decide), gd_s, nm_s, nI_clamp (show 1500 + a < 2 ^ 31 by omega), wa, if_neg (by rw [h14]; decide), jn_s, if_neg h12]
            show lp_X12_leaves_87 r.cut r.both r.told (f a) FU 1 0 = _
            rw [l87_ok]
            unfold same14 lvv
            rw [if_neg h12, if_neg h12, if_neg h12, if_neg h12, if_neg h12, if_neg h12, u1, u2, u3, u4, u5, u6]
            rfl
          have ord14 : ord (f a) no nl (decide (0 < np)) = (0, no, nl, decide (0 < np)) := by rw [h14]; simp [ord]
          obtain ⟨s2', hg⟩ := goesG_14 (lf := lf) (ob := ob) (ja := ja) (s := s) (c := c) hn hp (ra.trans h14)
          cases hsm : same14 c
          · rw [hsm] at hlv hg
            obtain ⟨np1, c1, r1, row1, wd1, sz1, m1, m2, m3, -, m5, m6, m7, m8, m9⟩ := h.keep hW hH hp q2
            have m8' := m8
            rw [m7] at m8'
            obtain ⟨k', nl', np', c', r', s2, ja2, row', wd', sz', b1, b2, b3, b4⟩ := ih (fu + 1) gu (a + cl (f a)) (k + cl (f a)) _ _ np1 c1 r1 s2' ja row1 wd1 sz1 (by omega) (by omega) (by omega) m8' (hja' _ hc)
            refine ⟨k', nl', np', c', r', s2, ja2, row', wd', sz', fun K => ?_, fun K => ?_, b3, m9.tr b4⟩
            · rw [gt_keep hn hp hj hg m1 (by rw [ra]; exact m5), ra]
              exact b1 K
            · rw [lp_X12_passG_8, endPlace_ok h.s1, bd1_s, if_neg (nI_ge (by omega) (by omega)), inb_s (show 1500 + a < 4500 by omega) (by decide), gd_s, nm_s, nI_clamp (show 1500 + a < 2 ^ 31 by omega), wa, e6, bd1_s, jn_s, jn_s, jn_s, if_neg h12, if_pos h14, hlv, bd3_s, if_pos (show bI false = 0 from rfl)]
              show jn _ _ = _
              refine (jn_id _ _ (fun Y => ?_)).trans ?_
              · show (if f a = 12 then _ else _) = _
                rw [if_neg h12]
              · rw [jn_s]
                by_cases h9 : f a = 9
                · obtain rfl := m3 h9
                  rw [if_pos h9]
                  show bd2 _ _ = _
                  rw [m6, bd2_s]
                  exact b2 K
                · rw [if_neg h9]
                  refine (congrArg (fun z => bd16 z _) (m2 h9)).trans ?_
                  rw [bd16_s]
                  show bd2 _ _ = _
                  rw [m6, bd2_s]
                  exact b2 K
          · rw [hsm] at hlv hg
            have hs := h.skip hp
            rw [ord14] at hs
            obtain ⟨k', nl', np', c', r', s2, ja2, row', wd', sz', b1, b2, b3, b4⟩ := ih (fu + 1) gu (a + cl (f a)) k no nl np c r s2' ja row wd sz (by omega) (by omega) (by omega) hs (hja' _ hc)
            refine ⟨k', nl', np', c', r', s2, ja2, row', wd', sz', fun K => ?_, fun K => ?_, b3, b4⟩
            · rw [gt_skip hn hp hj hg, if_neg (by decide), ra]
              exact b1 K
            · rw [lp_X12_passG_8, endPlace_ok h.s1, bd1_s, if_neg (nI_ge (by omega) (by omega)), inb_s (show 1500 + a < 4500 by omega) (by decide), gd_s, nm_s, nI_clamp (show 1500 + a < 2 ^ 31 by omega), wa, e6, bd1_s, jn_s, jn_s, jn_s, if_neg h12, if_pos h14, hlv, bd3_s, if_neg (show ¬ bI true = 0 by decide)]
              exact b2 K
        · have hg := goesG_n (row := row) (lf := lf) (ob := ob) (ja := ja) (s := s) (c := c) hn hp (by rw [ra]; exact h12) (by rw [ra]; exact h14)
          obtain ⟨np1, c1, r1, row1, wd1, sz1, m1, m2, m3, -, m5, m6, m7, m8, m9⟩ := h.keep hW hH hp q2
          have m8' := m8
          rw [m7] at m8'
          obtain ⟨k', nl', np', c', r', s2, ja2, row', wd', sz', b1, b2, b3, b4⟩ := ih (fu + 1) gu (a + cl (f a)) (k + cl (f a)) _ _ np1 c1 r1 s ja row1 wd1 sz1 (by omega) (by omega) (by omega) m8' (hja' _ hc)
          refine ⟨k', nl', np', c', r', s2, ja2, row', wd', sz', fun K => ?_, fun K => ?_, b3, m9.tr b4⟩
          · rw [gt_keep hn hp hj hg m1 (by rw [ra]; exact m5), ra]
            exact b1 K
          · rw [lp_X12_passG_8, endPlace_ok h.s1, bd1_s, if_neg (nI_ge (by omega) (by omega)), inb_s (show 1500 + a < 4500 by omega) (by decide), gd_s, nm_s, nI_clamp (show 1500 + a < 2 ^ 31 by omega), wa, e6, bd1_s, jn_s, jn_s, jn_s, if_neg h12, if_neg h14]
            show jn _ _ = _
            refine (jn_id _ _ (fun Y => ?_)).trans ?_
            · show (if f a = 12 then _ else _) = _
              rw [if_neg h12]
            · rw [jn_s]
              by_cases h9 : f a = 9
              · obtain rfl := m3 h9
                rw [if_pos h9]
                show bd2 _ _ = _
                rw [m6, bd2_s]
                exact b2 K
              · rw [if_neg h9]
                refine (congrArg (fun z => bd16 z _) (m2 h9)).trans ?_
                rw [bd16_s]
                show bd2 _ _ = _
                rw [m6, bd2_s]
                exact b2 K
    · obtain rfl : a = n := by omega
      have h0 : no = 0 := (VL.fin (Nat.le_refl _)).mp h.vin
      subst h0
      refine ⟨k, nl, np, c, r, s, ja, row, wd, sz, fun K => gt_end hn (Nat.le_refl _) (by omega) K _ _ _ _ _ _ _ _ _, fun K => ?_, h, RFr.refl 1 r⟩
      rw [lp_X12_passG_8, endPlace_ok h.s1, bd1_s, if_pos (nI_le (Nat.le_refl _) (by omega))]
