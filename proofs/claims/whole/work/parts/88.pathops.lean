def PFr (m : Nat) (rpoints px py begins rlines lastX lastY startX startY startPoint rpoints' px' py' begins' rlines' lastX' lastY' startX' startY' startPoint' : Nat → Int32) : Prop := ∀ k, k ≤ 1 → k ≠ m → rpoints' k = rpoints k ∧ (∀ j, j < 1000 → px' (1000 * k + j) = px (1000 * k + j)) ∧ (∀ j, j < 1000 → py' (1000 * k + j) = py (1000 * k + j)) ∧ (∀ j, j < 1000 → begins' (1000 * k + j) = begins (1000 * k + j)) ∧ rlines' k = rlines k ∧ lastX' k = lastX k ∧ lastY' k = lastY k ∧ startX' k = startX k ∧ startY' k = startY k ∧ startPoint' k = startPoint k
theorem PFr.refl (m : Nat) (rpoints px py begins rlines lastX lastY startX startY startPoint : Nat → Int32) : PFr m rpoints px py begins rlines lastX lastY startX startY startPoint rpoints px py begins rlines lastX lastY startX startY startPoint := fun k _ _ => ⟨rfl, fun _ _ => rfl, fun _ _ => rfl, fun _ _ => rfl, rfl, rfl, rfl, rfl, rfl, rfl⟩
theorem PFr.tr {m : Nat} {rpoints px py begins rlines lastX lastY startX startY startPoint rpoints' px' py' begins' rlines' lastX' lastY' startX' startY' startPoint' rpoints'' px'' py'' begins'' rlines'' lastX'' lastY'' startX'' startY'' startPoint'' : Nat → Int32} (h : PFr m rpoints px py begins rlines lastX lastY startX startY startPoint rpoints' px' py' begins' rlines' lastX' lastY' startX' startY' startPoint') (h' : PFr m rpoints' px' py' begins' rlines' lastX' lastY' startX' startY' startPoint' rpoints'' px'' py'' begins'' rlines'' lastX'' lastY'' startX'' startY'' startPoint'') : PFr m rpoints px py begins rlines lastX lastY startX startY startPoint rpoints'' px'' py'' begins'' rlines'' lastX'' lastY'' startX'' startY'' startPoint'' := by
  intro k h1 h2
  obtain ⟨e0, e1, e2, e3, e4, e5, e6, e7, e8, e9⟩ := h k h1 h2
  obtain ⟨g0, g1, g2, g3, g4, g5, g6, g7, g8, g9⟩ := h' k h1 h2
  exact ⟨g0.trans e0, fun j hj => (g1 j hj).trans (e1 j hj), fun j hj => (g2 j hj).trans (e2 j hj), fun j hj => (g3 j hj).trans (e3 j hj), g4.trans e4, g5.trans e5, g6.trans e6, g7.trans e7, g8.trans e8, g9.trans e9⟩
theorem RPath.fr {m k np nl : Nat} {points lines first ftx fty ltx lty lx ly gy : Int32} {xs ys bg rpoints px py begins rlines lastX lastY startX startY startPoint : Nat → Int32} {rpoints' px' py' begins' rlines' lastX' lastY' startX' startY' startPoint' : Nat → Int32} (h : RPath k np nl points lines first ftx fty ltx lty lx ly gy xs ys bg rpoints px py begins rlines lastX lastY startX startY startPoint) (hk : k ≤ 1) (hkm : k ≠ m) (hf : PFr m rpoints px py begins rlines lastX lastY startX startY startPoint rpoints' px' py' begins' rlines' lastX' lastY' startX' startY' startPoint') : RPath k np nl points lines first ftx fty ltx lty lx ly gy xs ys bg rpoints' px' py' begins' rlines' lastX' lastY' startX' startY' startPoint' := by
  obtain ⟨e1, e2, e3, e4, e5, e6, hp, hb⟩ := h
  obtain ⟨f0, f1, f2, f3, f4, f5, f6, f7, f8, f9⟩ := hf k hk hkm
  refine ⟨e1, f0.trans e2, e3, e4, f4.trans e5, e6, fun j hj => ?_, fun q => ?_⟩
  · obtain ⟨g1, g2, g3, g4, g5⟩ := hp j hj
    exact ⟨g1.trans (f1 j (by omega)).symm, g2.trans (f2 j (by omega)).symm, g3.trans (f3 j (by omega)).symm, g4, g5⟩
  · obtain ⟨⟨r, hr, hr1, hr2⟩, h1, h2, h3, h4, h5⟩ := hb q
    exact ⟨⟨r, hr, hr1, f9.trans hr2⟩, h1.trans f7.symm, h2.trans f8.symm, h3.trans f5.symm, h4.trans f6.symm, h5⟩
def TT (m : Nat) (told : Nat → Int32) (a b c d e f : Int32) : Prop := told (12 * m) = a ∧ told (12 * m + 1) = b ∧ told (12 * m + 2) = c ∧ told (12 * m + 3) = d ∧ told (12 * m + 4) = e ∧ told (12 * m + 5) = f
theorem p_begin {m np nl : Nat} {points lines first ftx fty ltx lty lx ly gy : Int32} {xs ys bg rpoints px py begins startX startY startPoint begun rlines lastX lastY : Nat → Int32} {a b c d e f : Int32} {told : Nat → Int32} (hm : m ≤ 1) (hn : np < 800) (h : RPath m np nl points lines first ftx fty ltx lty lx ly gy xs ys bg rpoints px py begins rlines lastX lastY startX startY startPoint) (hT : TT m told a b c d e f) (x y : Int32) : ∃ (points' : Int32) (first' : Int32) (ftx' : Int32) (fty' : Int32) (ltx' : Int32) (lty' : Int32) (lx' : Int32) (ly' : Int32) (gy' : Int32) (xs' : Nat → Int32) (ys' : Nat → Int32) (bg' : Nat → Int32) (rpoints' : Nat → Int32) (px' : Nat → Int32) (py' : Nat → Int32) (begins' : Nat → Int32) (startX' : Nat → Int32) (startY' : Nat → Int32) (startPoint' : Nat → Int32) (begun' : Nat → Int32) (rlines' : Nat → Int32) (lastX' : Nat → Int32) (lastY' : Nat → Int32), m_X5_begin points first ftx fty ltx lty lx ly gy a b c d e f xs ys bg x y = some (points', first', ftx', fty', ltx', lty', lx', ly', gy', xs', ys', bg') ∧ m_X12_point rpoints told px py begins startX startY startPoint begun rlines lastX lastY (nI m) x y 1 = some (rpoints', px', py', begins', startX', startY', startPoint', begun', rlines', lastX', lastY') ∧ RPath m (np + 1) nl points' lines first' ftx' fty' ltx' lty' lx' ly' gy' xs' ys' bg' rpoints' px' py' begins' rlines' lastX' lastY' startX' startY' startPoint' ∧ PFr m rpoints px py begins rlines lastX lastY startX startY startPoint rpoints' px' py' begins' rlines' lastX' lastY' startX' startY' startPoint' := by
  obtain ⟨t0, t1, t2, t3, t4, t5⟩ := hT
  have hP := h.begin hn x y (snd a c e x y) (snd b d f x y) (vp_nar .boolean 1) (hld_small _) (hld_small _)
  have hq := h.2.1
  have hc := h.1
  subst hc
  have hr := rpoint_ok hm (show np < 900 by omega) hq (told := told) px py begins startX startY startPoint begun rlines lastX lastY x y 1
  rw [t0, t1, t2, t3, t4, t5] at hr
  simp only [show ¬ (1 : Int32) = 0 by decide, if_false] at hr
  refine ⟨_, _, _, _, _, _, _, _, _, _, _, _, _, _, _, _, _, _, _, _, _, _, _, ?_, hr, hP, ?_⟩
  · unfold m_X5_begin
    simp only [sendX_ok, sendY_ok, bd1_s, addPoint_ok hn, bd7_s]
  · intro k h1 h2
    refine ⟨pk_un h2, fun j hj => pk_un (by omega), fun j hj => pk_un (by omega), fun j hj => pk_un (by omega), rfl, pk_un h2, pk_un h2, pk_un h2, pk_un h2, pk_un h2⟩
theorem p_line {m np nl : Nat} {points lines first ftx fty ltx lty lx ly gy : Int32} {xs ys bg rpoints px py begins startX startY startPoint begun rlines lastX lastY : Nat → Int32} {a b c d e f : Int32} {told : Nat → Int32} (hm : m ≤ 1) (h0 : 0 < np) (hn : np < 800) (hl : nl + 1 ≤ 300) (h : RPath m np nl points lines first ftx fty ltx lty lx ly gy xs ys bg rpoints px py begins rlines lastX lastY startX startY startPoint) (hT : TT m told a b c d e f) (x y : Int32) : ∃ (points' : Int32) (lines' : Int32) (ltx' : Int32) (lty' : Int32) (lx' : Int32) (ly' : Int32) (gy' : Int32) (xs' : Nat → Int32) (ys' : Nat → Int32) (bg' : Nat → Int32) (rpoints' : Nat → Int32) (px' : Nat → Int32) (py' : Nat → Int32) (begins' : Nat → Int32) (startX' : Nat → Int32) (startY' : Nat → Int32) (startPoint' : Nat → Int32) (begun' : Nat → Int32) (rlines' : Nat → Int32) (lastX' : Nat → Int32) (lastY' : Nat → Int32), m_X5_lineTo points lines ltx lty lx ly gy a b c d e f xs ys bg x y = some (points', lines', ltx', lty', lx', ly', gy', xs', ys', bg') ∧ m_X12_point rpoints told px py begins startX startY startPoint begun rlines lastX lastY (nI m) x y 0 = some (rpoints', px', py', begins', startX', startY', startPoint', begun', rlines', lastX', lastY') ∧ RPath m (np + 1) (nl + 1) points' lines' first ftx fty ltx' lty' lx' ly' gy' xs' ys' bg' rpoints' px' py' begins' rlines' lastX' lastY' startX' startY' startPoint' ∧ PFr m rpoints px py begins rlines lastX lastY startX startY startPoint rpoints' px' py' begins' rlines' lastX' lastY' startX' startY' startPoint' := by
  obtain ⟨t0, t1, t2, t3, t4, t5⟩ := hT
  have hP := h.line h0 hn hl x y (snd a c e x y) (snd b d f x y) (vp_nar .boolean 0) (hld_small _) (hld_small _)
  have hq := h.2.1
  have hc := h.1
  subst hc
  have hr := rpoint_ok hm (show np < 900 by omega) hq (told := told) px py begins startX startY startPoint begun rlines lastX lastY x y 0
  rw [t0, t1, t2, t3, t4, t5] at hr
  simp only [if_true] at hr
  refine ⟨_, _, _, _, _, _, _, _, _, _, _, _, _, _, _, _, _, _, _, _, _, ?_, hr, hP, ?_⟩
  · unfold m_X5_lineTo
    simp only [sendX_ok, sendY_ok, bd1_s, nm_s, addPoint_ok hn, bd7_s]
  · intro k h1 h2
    refine ⟨pk_un h2, fun j hj => pk_un (by omega), fun j hj => pk_un (by omega), fun j hj => pk_un (by omega), pk_un h2, pk_un h2, pk_un h2, rfl, rfl, rfl⟩
theorem p_close {m np nl : Nat} {points lines first ftx fty ltx lty lx ly gy : Int32} {xs ys bg rpoints px py begins startX startY startPoint rlines lastX lastY : Nat → Int32} (hm : m ≤ 1) (h0 : 0 < np) (hn : np < 800) (hl : nl + 1 ≤ 300) (h : RPath m np nl points lines first ftx fty ltx lty lx ly gy xs ys bg rpoints px py begins rlines lastX lastY startX startY startPoint) : ∃ (points' : Int32) (lines' : Int32) (ltx' : Int32) (lty' : Int32) (lx' : Int32) (ly' : Int32) (gy' : Int32) (xs' : Nat → Int32) (ys' : Nat → Int32) (bg' : Nat → Int32) (rpoints' : Nat → Int32) (px' : Nat → Int32) (py' : Nat → Int32) (begins' : Nat → Int32) (rlines' : Nat → Int32) (lastX' : Nat → Int32) (lastY' : Nat → Int32), m_X5_close points lines first ftx fty ltx lty lx ly gy xs ys bg = some (points', lines', ltx', lty', lx', ly', gy', xs', ys', bg') ∧ m_X12_close rpoints startPoint px py begins rlines startX lastX startY lastY (nI m) = some (rpoints', px', py', begins', rlines', lastX', lastY') ∧ RPath m (np + 1) (nl + 1) points' lines' first ftx fty ltx' lty' lx' ly' gy' xs' ys' bg' rpoints' px' py' begins' rlines' lastX' lastY' startX startY startPoint ∧ PFr m rpoints px py begins rlines lastX lastY startX startY startPoint rpoints' px' py' begins' rlines' lastX' lastY' startX startY startPoint := by
  obtain ⟨e1, e2, e3, e4, e5, e6, hp, hb⟩ := id h
  obtain ⟨⟨q, hq, hf, hsp⟩, h1, h2, h3, h4, h5⟩ := hb h0
  obtain ⟨g1, g2, g3, g4, g5⟩ := hp q hq
  have hP := h.line h0 hn hl ftx fty (xs q) (ys q) (vp_nar .boolean 0) g4 g5
  rw [h1, h2, g1, g2] at hP
  rw [h1, h2]
  subst e1 hf
  refine ⟨_, _, _, _, _, _, _, _, _, _, _, _, _, _, _, _, _, ?_, ?_, hP, ?_⟩
  · unfold m_X5_close
    have hx : ¬ nI np ≤ nI q := nI_ge hq (by omega)
    simp only [hx, if_false, nm_s, inb_s (show q < 800 by omega) (show 800 < 2 ^ 31 by decide), gd_s, nI_clamp (show q < 2 ^ 31 by omega), addPoint_ok hn, bd7_s, g1, g2]
  · unfold m_X12_close
    simp only [nm_s, gd_s, inb_s (show m < 2 by omega) (show 2 < 2 ^ 31 by decide), nI_clamp (show m < 2 ^ 31 by omega), e2, hsp, n1000, inb_s (show 1000 * m + q < 2000 by omega) (show 2000 < 2 ^ 31 by decide), inb_s (show 1000 * m + np < 2000 by omega) (show 2000 < 2 ^ 31 by decide), nI_clamp (show 1000 * m + q < 2 ^ 31 by omega), nI_clamp (show 1000 * m + np < 2 ^ 31 by omega), nI_1]
  · intro k h1 h2
    refine ⟨pk_un h2, fun j hj => pk_un (by omega), fun j hj => pk_un (by omega), fun j hj => pk_un (by omega), pk_un h2, pk_un h2, pk_un h2, rfl, rfl, rfl⟩
