def bt (A B C k : Int32) : Int32 := ((((((A.toInt64 * (8 - k).toInt64) * (8 - k).toInt64) + (((B.toInt64 * 2) * k.toInt64) * (8 - k).toInt64)) + ((C.toInt64 * k.toInt64) * k.toInt64)) + 32) >>> ((6 : Int32).toInt64 &&& 63)).toInt32
theorem between_ok (A B C k : Int32) : m_X12_between A B C k = some (bt A B C k) := rfl
theorem onCurve_ok (A B C : Int32) {k : Nat} (h1 : 1 ≤ k) (h8 : k ≤ 8) : m_X5_onCurve A.toInt64 B.toInt64 C.toInt64 (nI k) = some (bt A B C (nI k)) := by
  have hk : ∀ j : Nat, j ≤ 8 → ((8 - nI j) * (8 - nI j)).toInt64 = (8 - nI j).toInt64 * (8 - nI j).toInt64 ∧ ((2 * nI j) * (8 - nI j)).toInt64 = 2 * ((nI j).toInt64 * (8 - nI j).toInt64) ∧ (nI j * nI j).toInt64 = (nI j).toInt64 * (nI j).toInt64 := by decide
  obtain ⟨e1, e2, e3⟩ := hk k h8
  unfold m_X5_onCurve bt
  rw [nm_s, e1, e2, e3]
  simp only [Int64.mul_assoc]
theorem curve_loop {m : Nat} {a b c d e f : Int32} {told : Nat → Int32} (hm : m ≤ 1) (hT : TT m told a b c d e f) (X0 Y0 x1 y1 x2 y2 first ftx fty : Int32) : ∀ (t k N np nl : Nat) (points lines ltx lty lx ly gy : Int32) (xs ys bg rpoints px py begins startX startY startPoint begun rlines lastX lastY : Nat → Int32), k + t = 9 → 1 ≤ k → t < N → 0 < np → np + t ≤ 800 → nl + t ≤ 300 → RPath m np nl points lines first ftx fty ltx lty lx ly gy xs ys bg rpoints px py begins rlines lastX lastY startX startY startPoint → ∃ (points' : Int32) (lines' : Int32) (ltx' : Int32) (lty' : Int32) (lx' : Int32) (ly' : Int32) (gy' : Int32) (xs' : Nat → Int32) (ys' : Nat → Int32) (bg' : Nat → Int32) (rpoints' : Nat → Int32) (px' : Nat → Int32) (py' : Nat → Int32) (begins' : Nat → Int32) (startX' : Nat → Int32) (startY' : Nat → Int32) (startPoint' : Nat → Int32) (begun' : Nat → Int32) (rlines' : Nat → Int32) (lastX' : Nat → Int32) (lastY' : Nat → Int32), lp_X5_curve_15 X0 x1 x2 Y0 y1 y2 a b c d e f N (nI k) points lines ltx lty lx ly gy xs ys bg = some (points', lines', ltx', lty', lx', ly', gy', xs', ys', bg') ∧ lp_X12_curve_19 X0 x1 x2 Y0 y1 y2 told (nI m) N (nI k) lastX lastY rpoints px py begins startX startY startPoint begun rlines = some (lastX', lastY', rpoints', px', py', begins', startX', startY', startPoint', begun', rlines') ∧ RPath m (np + t) (nl + t) points' lines' first ftx fty ltx' lty' lx' ly' gy' xs' ys' bg' rpoints' px' py' begins' rlines' lastX' lastY' startX' startY' startPoint' ∧ PFr m rpoints px py begins rlines lastX lastY startX startY startPoint rpoints' px' py' begins' rlines' lastX' lastY' startX' startY' startPoint' := by
  intro t
  induction t with
  | zero =>
    intro k N np nl points lines ltx lty lx ly gy xs ys bg rpoints px py begins startX startY startPoint begun rlines lastX lastY hk h1 hN h0 hn hl h
    obtain ⟨N, rfl⟩ : ∃ j, N = j + 1 := ⟨N - 1, by omega⟩
    obtain rfl : k = 9 := by omega
    refine ⟨points, lines, ltx, lty, lx, ly, gy, xs, ys, bg, rpoints, px, py, begins, startX, startY, startPoint, begun, rlines, lastX, lastY, ?_, ?_, h, PFr.refl _ _ _ _ _ _ _ _ _ _ _⟩
    · rw [lp_X5_curve_15]
      exact if_pos (by decide)
    · rw [lp_X12_curve_19]
      exact if_pos (by decide)
  | succ t ih =>
    intro k N np nl points lines ltx lty lx ly gy xs ys bg rpoints px py begins startX startY startPoint begun rlines lastX lastY hk h1 hN h0 hn hl h
    obtain ⟨N, rfl⟩ : ∃ j, N = j + 1 := ⟨N - 1, by omega⟩
    obtain ⟨points1, lines1, ltx1, lty1, lx1, ly1, gy1, xs1, ys1, bg1, rpoints1, px1, py1, begins1, startX1, startY1, startPoint1, begun1, rlines1, lastX1, lastY1, hc, hr, hR, hF⟩ := p_line hm h0 (by omega) (by omega) h hT (begun := begun) (bt X0 x1 x2 (nI k)) (bt Y0 y1 y2 (nI k))
    obtain ⟨points2, lines2, ltx2, lty2, lx2, ly2, gy2, xs2, ys2, bg2, rpoints2, px2, py2, begins2, startX2, startY2, startPoint2, begun2, rlines2, lastX2, lastY2, hc2, hr2, hR2, hF2⟩ := ih (k + 1) N (np + 1) (nl + 1) points1 lines1 ltx1 lty1 lx1 ly1 gy1 xs1 ys1 bg1 rpoints1 px1 py1 begins1 startX1 startY1 startPoint1 begun1 rlines1 lastX1 lastY1 (by omega) (by omega) (by omega) (by omega) (by omega) (by omega) hR
    have hx : ¬ (8 : Int32) < nI k := nI_nlt (b := k) (a := 8) (by omega) (by decide)
    refine ⟨points2, lines2, ltx2, lty2, lx2, ly2, gy2, xs2, ys2, bg2, rpoints2, px2, py2, begins2, startX2, startY2, startPoint2, begun2, rlines2, lastX2, lastY2, ?_, ?_, ?_, hF.tr hF2⟩
    · rw [lp_X5_curve_15, if_neg hx, onCurve_ok X0 x1 x2 h1 (by omega), bd1_s, onCurve_ok Y0 y1 y2 h1 (by omega), bd1_s, hc, bd10_s, nm_s, nI_1]
      exact hc2
    · rw [lp_X12_curve_19, if_neg hx, between_ok, bd1_s, between_ok, bd1_s, hr, bd11_s, nm_s, nI_1]
      exact hr2
    · rw [show np + (t + 1) = np + 1 + t by omega, show nl + (t + 1) = nl + 1 + t by omega]
      exact hR2
theorem rcurve_eq {m : Nat} (hm : m ≤ 1) {X Y : Int32} {lastX lastY : Nat → Int32} (hX : lastX m = X) (hY : lastY m = Y) (rpoints told px py begins startX startY startPoint begun rlines : Nat → Int32) (x1 y1 x2 y2 : Int32) : m_X12_curve lastX lastY rpoints told px py begins startX startY startPoint begun rlines (nI m) x1 y1 x2 y2 = lp_X12_curve_19 X x1 x2 Y y1 y2 told (nI m) FU 1 lastX lastY rpoints px py begins startX startY startPoint begun rlines := by
  unfold m_X12_curve
  rw [inb_s (show m < 2 by omega) (show 2 < 2 ^ 31 by decide), gd_s, nm_s, nI_clamp (show m < 2 ^ 31 by omega), hX, gd_s, nm_s, hY]
theorem p_curve {m np nl : Nat} {points lines first ftx fty ltx lty lx ly gy : Int32} {xs ys bg rpoints px py begins startX startY startPoint begun rlines lastX lastY : Nat → Int32} {a b c d e f : Int32} {told : Nat → Int32} (hm : m ≤ 1) (h0 : 0 < np) (hn : np + 8 ≤ 800) (hl : nl + 8 ≤ 300) (h : RPath m np nl points lines first ftx fty ltx lty lx ly gy xs ys bg rpoints px py begins rlines lastX lastY startX startY startPoint) (hT : TT m told a b c d e f) (x1 y1 x2 y2 : Int32) : ∃ (points' : Int32) (lines' : Int32) (ltx' : Int32) (lty' : Int32) (lx' : Int32) (ly' : Int32) (gy' : Int32) (xs' : Nat → Int32) (ys' : Nat → Int32) (bg' : Nat → Int32) (rpoints' : Nat → Int32) (px' : Nat → Int32) (py' : Nat → Int32) (begins' : Nat → Int32) (startX' : Nat → Int32) (startY' : Nat → Int32) (startPoint' : Nat → Int32) (begun' : Nat → Int32) (rlines' : Nat → Int32) (lastX' : Nat → Int32) (lastY' : Nat → Int32), m_X5_curve points lines ltx lty lx ly gy a b c d e f xs ys bg x1 y1 x2 y2 = some (points', lines', ltx', lty', lx', ly', gy', xs', ys', bg') ∧ m_X12_curve lastX lastY rpoints told px py begins startX startY startPoint begun rlines (nI m) x1 y1 x2 y2 = some (lastX', lastY', rpoints', px', py', begins', startX', startY', startPoint', begun', rlines') ∧ RPath m (np + 8) (nl + 8) points' lines' first ftx fty ltx' lty' lx' ly' gy' xs' ys' bg' rpoints' px' py' begins' rlines' lastX' lastY' startX' startY' startPoint' ∧ PFr m rpoints px py begins rlines lastX lastY startX startY startPoint rpoints' px' py' begins' rlines' lastX' lastY' startX' startY' startPoint' := by
  have hlx := (h.2.2.2.2.2.2.2 h0).2.2.2.1
  have hly := (h.2.2.2.2.2.2.2 h0).2.2.2.2.1
  obtain ⟨points', lines', ltx', lty', lx', ly', gy', xs', ys', bg', rpoints', px', py', begins', startX', startY', startPoint', begun', rlines', lastX', lastY', hc, hr, hR, hF⟩ := curve_loop hm hT ltx lty x1 y1 x2 y2 first ftx fty 8 1 FU np nl points lines ltx lty lx ly gy xs ys bg rpoints px py begins startX startY startPoint begun rlines lastX lastY (by omega) (by omega) (by show 8 < 1000000; omega) h0 hn hl h
  have e1 : nI 1 = (1 : Int32) := rfl
  rw [e1] at hc hr
  refine ⟨points', lines', ltx', lty', lx', ly', gy', xs', ys', bg', rpoints', px', py', begins', startX', startY', startPoint', begun', rlines', lastX', lastY', hc, ?_, hR, hF⟩
  rw [rcurve_eq hm hlx.symm hly.symm]
  exact hr
theorem p_box {m np nl : Nat} {points lines first ftx fty ltx lty lx ly gy : Int32} {xs ys bg rpoints px py begins startX startY startPoint begun rlines lastX lastY : Nat → Int32} {a b c d e f : Int32} {told : Nat → Int32} (hm : m ≤ 1) (hn : np + 5 ≤ 800) (hl : nl + 4 ≤ 300) (h : RPath m np nl points lines first ftx fty ltx lty lx ly gy xs ys bg rpoints px py begins rlines lastX lastY startX startY startPoint) (hT : TT m told a b c d e f) (x y w z : Int32) : ∃ (points' : Int32) (lines' : Int32) (first' : Int32) (ftx' : Int32) (fty' : Int32) (ltx' : Int32) (lty' : Int32) (lx' : Int32) (ly' : Int32) (gy' : Int32) (xs' : Nat → Int32) (ys' : Nat → Int32) (bg' : Nat → Int32) (rpoints' : Nat → Int32) (px' : Nat → Int32) (py' : Nat → Int32) (begins' : Nat → Int32) (startX' : Nat → Int32) (startY' : Nat → Int32) (startPoint' : Nat → Int32) (begun' : Nat → Int32) (rlines' : Nat → Int32) (lastX' : Nat → Int32) (lastY' : Nat → Int32), m_X5_box points lines first ftx fty ltx lty lx ly gy a b c d e f xs ys bg x y (x + w) (y + z) = some (points', lines', first', ftx', fty', ltx', lty', lx', ly', gy', xs', ys', bg') ∧ m_X12_box rpoints told px py begins startX startY startPoint begun rlines lastX lastY (nI m) x y w z = some (rpoints', px', py', begins', startX', startY', startPoint', begun', rlines', lastX', lastY') ∧ RPath m (np + 5) (nl + 4) points' lines' first' ftx' fty' ltx' lty' lx' ly' gy' xs' ys' bg' rpoints' px' py' begins' rlines' lastX' lastY' startX' startY' startPoint' ∧ PFr m rpoints px py begins rlines lastX lastY startX startY startPoint rpoints' px' py' begins' rlines' lastX' lastY' startX' startY' startPoint' := by
  obtain ⟨points1, first1, ftx1, fty1, ltx1, lty1, lx1, ly1, gy1, xs1, ys1, bg1, rpoints1, px1, py1, begins1, startX1, startY1, startPoint1, begun1, rlines1, lastX1, lastY1, c1, r1, R1, F1⟩ := p_begin hm (by omega) h hT (begun := begun) x y
  obtain ⟨points2, lines2, ltx2, lty2, lx2, ly2, gy2, xs2, ys2, bg2, rpoints2, px2, py2, begins2, startX2, startY2, startPoint2, begun2, rlines2, lastX2, lastY2, c2, r2, R2, F2⟩ := p_line hm (by omega) (by omega) (by omega) R1 hT (begun := begun1) (x + w) y
  obtain ⟨points3, lines3, ltx3, lty3, lx3, ly3, gy3, xs3, ys3, bg3, rpoints3, px3, py3, begins3, startX3, startY3, startPoint3, begun3, rlines3, lastX3, lastY3, c3, r3, R3, F3⟩ := p_line hm (by omega) (by omega) (by omega) R2 hT (begun := begun2) (x + w) (y + z)
  obtain ⟨points4, lines4, ltx4, lty4, lx4, ly4, gy4, xs4, ys4, bg4, rpoints4, px4, py4, begins4, startX4, startY4, startPoint4, begun4, rlines4, lastX4, lastY4, c4, r4, R4, F4⟩ := p_line hm (by omega) (by omega) (by omega) R3 hT (begun := begun3) x (y + z)
  obtain ⟨points5, lines5, ltx5, lty5, lx5, ly5, gy5, xs5, ys5, bg5, rpoints5, px5, py5, begins5, rlines5, lastX5, lastY5, c5, r5, R5, F5⟩ := p_close hm (by omega) (by omega) (by omega) R4
  refine ⟨points5, lines5, first1, ftx1, fty1, ltx5, lty5, lx5, ly5, gy5, xs5, ys5, bg5, rpoints5, px5, py5, begins5, startX4, startY4, startPoint4, begun4, rlines5, lastX5, lastY5, ?_, ?_, R5, ((((F1.tr F2).tr F3).tr F4).tr F5)⟩
  · unfold m_X5_box
    rw [c1, bd12_s, c2, bd10_s, c3, bd10_s, c4, bd10_s, c5, bd10_s]
  · unfold m_X12_box
    rw [r1, bd11_s, r2, bd11_s, r3, bd11_s, r4, bd11_s, r5, bd7_s]
