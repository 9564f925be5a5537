abbrev CM : Type := Int32 × Int32 × Int32 × Int32 × Int32 × Int32 × Int32 × Int32 × Int32 × Int32 × Int32 × Int32 × Int32 × Int32 × Int32 × Int32 × Int32 × Int32 × Int32 × Int32 × Int32 × Int32 × Int32 × Int32 × Int32 × Int32 × Int32 × Int32 × Int32 × (Nat → Int32) × (Nat → Int32) × (Nat → Int32) × (Nat → Int32) × (Nat → Int32) × (Nat → Int32) × (Nat → Int32) × (Nat → Int32) × (Nat → Int32) × (Nat → Int32) × (Nat → Int32) × (Nat → Int32) × (Nat → Int32) × (Nat → Int32) × (Nat → Int32)
abbrev CM.mk (opn : Int32) (col : Int32) (way : Int32) (a : Int32) (b : Int32) (c : Int32) (d : Int32) (e : Int32) (f : Int32) (x : Int32) (y : Int32) (u : Int32) (v : Int32) (na : Int32) (nb : Int32) (nc : Int32) (nd : Int32) (ne : Int32) (nf : Int32) (pts : Int32) (lns : Int32) (fst : Int32) (ftx : Int32) (fty : Int32) (ltx : Int32) (lty : Int32) (lx : Int32) (ly : Int32) (gy : Int32) (xs : Nat → Int32) (ys : Nat → Int32) (bg : Nat → Int32) (sc : Nat → Int32) (sw : Nat → Int32) (sa : Nat → Int32) (sb : Nat → Int32) (sC : Nat → Int32) (sd : Nat → Int32) (se : Nat → Int32) (sf : Nat → Int32) (sx : Nat → Int32) (sy : Nat → Int32) (su : Nat → Int32) (sv : Nat → Int32) : CM := (opn, col, way, a, b, c, d, e, f, x, y, u, v, na, nb, nc, nd, ne, nf, pts, lns, fst, ftx, fty, ltx, lty, lx, ly, gy, xs, ys, bg, sc, sw, sa, sb, sC, sd, se, sf, sx, sy, su, sv)
abbrev CM.opn (z : CM) : Int32 := z.1
abbrev CM.col (z : CM) : Int32 := z.2.1
abbrev CM.way (z : CM) : Int32 := z.2.2.1
abbrev CM.a (z : CM) : Int32 := z.2.2.2.1
abbrev CM.b (z : CM) : Int32 := z.2.2.2.2.1
abbrev CM.c (z : CM) : Int32 := z.2.2.2.2.2.1
abbrev CM.d (z : CM) : Int32 := z.2.2.2.2.2.2.1
abbrev CM.e (z : CM) : Int32 := z.2.2.2.2.2.2.2.1
abbrev CM.f (z : CM) : Int32 := z.2.2.2.2.2.2.2.2.1
abbrev CM.x (z : CM) : Int32 := z.2.2.2.2.2.2.2.2.2.1
abbrev CM.y (z : CM) : Int32 := z.2.2.2.2.2.2.2.2.2.2.1
abbrev CM.u (z : CM) : Int32 := z.2.2.2.2.2.2.2.2.2.2.2.1
abbrev CM.v (z : CM) : Int32 := z.2.2.2.2.2.2.2.2.2.2.2.2.1
abbrev CM.na (z : CM) : Int32 := z.2.2.2.2.2.2.2.2.2.2.2.2.2.1
abbrev CM.nb (z : CM) : Int32 := z.2.2.2.2.2.2.2.2.2.2.2.2.2.2.1
abbrev CM.nc (z : CM) : Int32 := z.2.2.2.2.2.2.2.2.2.2.2.2.2.2.2.1
abbrev CM.nd (z : CM) : Int32 := z.2.2.2.2.2.2.2.2.2.2.2.2.2.2.2.2.1
abbrev CM.ne (z : CM) : Int32 := z.2.2.2.2.2.2.2.2.2.2.2.2.2.2.2.2.2.1
abbrev CM.nf (z : CM) : Int32 := z.2.2.2.2.2.2.2.2.2.2.2.2.2.2.2.2.2.2.1
abbrev CM.pts (z : CM) : Int32 := z.2.2.2.2.2.2.2.2.2.2.2.2.2.2.2.2.2.2.2.1
abbrev CM.lns (z : CM) : Int32 := z.2.2.2.2.2.2.2.2.2.2.2.2.2.2.2.2.2.2.2.2.1
abbrev CM.fst (z : CM) : Int32 := z.2.2.2.2.2.2.2.2.2.2.2.2.2.2.2.2.2.2.2.2.2.1
abbrev CM.ftx (z : CM) : Int32 := z.2.2.2.2.2.2.2.2.2.2.2.2.2.2.2.2.2.2.2.2.2.2.1
abbrev CM.fty (z : CM) : Int32 := z.2.2.2.2.2.2.2.2.2.2.2.2.2.2.2.2.2.2.2.2.2.2.2.1
abbrev CM.ltx (z : CM) : Int32 := z.2.2.2.2.2.2.2.2.2.2.2.2.2.2.2.2.2.2.2.2.2.2.2.2.1
abbrev CM.lty (z : CM) : Int32 := z.2.2.2.2.2.2.2.2.2.2.2.2.2.2.2.2.2.2.2.2.2.2.2.2.2.1
abbrev CM.lx (z : CM) : Int32 := z.2.2.2.2.2.2.2.2.2.2.2.2.2.2.2.2.2.2.2.2.2.2.2.2.2.2.1
abbrev CM.ly (z : CM) : Int32 := z.2.2.2.2.2.2.2.2.2.2.2.2.2.2.2.2.2.2.2.2.2.2.2.2.2.2.2.1
abbrev CM.gy (z : CM) : Int32 := z.2.2.2.2.2.2.2.2.2.2.2.2.2.2.2.2.2.2.2.2.2.2.2.2.2.2.2.2.1
abbrev CM.xs (z : CM) : Nat → Int32 := z.2.2.2.2.2.2.2.2.2.2.2.2.2.2.2.2.2.2.2.2.2.2.2.2.2.2.2.2.2.1
abbrev CM.ys (z : CM) : Nat → Int32 := z.2.2.2.2.2.2.2.2.2.2.2.2.2.2.2.2.2.2.2.2.2.2.2.2.2.2.2.2.2.2.1
abbrev CM.bg (z : CM) : Nat → Int32 := z.2.2.2.2.2.2.2.2.2.2.2.2.2.2.2.2.2.2.2.2.2.2.2.2.2.2.2.2.2.2.2.1
abbrev CM.sc (z : CM) : Nat → Int32 := z.2.2.2.2.2.2.2.2.2.2.2.2.2.2.2.2.2.2.2.2.2.2.2.2.2.2.2.2.2.2.2.2.1
abbrev CM.sw (z : CM) : Nat → Int32 := z.2.2.2.2.2.2.2.2.2.2.2.2.2.2.2.2.2.2.2.2.2.2.2.2.2.2.2.2.2.2.2.2.2.1
abbrev CM.sa (z : CM) : Nat → Int32 := z.2.2.2.2.2.2.2.2.2.2.2.2.2.2.2.2.2.2.2.2.2.2.2.2.2.2.2.2.2.2.2.2.2.2.1
abbrev CM.sb (z : CM) : Nat → Int32 := z.2.2.2.2.2.2.2.2.2.2.2.2.2.2.2.2.2.2.2.2.2.2.2.2.2.2.2.2.2.2.2.2.2.2.2.1
abbrev CM.sC (z : CM) : Nat → Int32 := z.2.2.2.2.2.2.2.2.2.2.2.2.2.2.2.2.2.2.2.2.2.2.2.2.2.2.2.2.2.2.2.2.2.2.2.2.1
abbrev CM.sd (z : CM) : Nat → Int32 := z.2.2.2.2.2.2.2.2.2.2.2.2.2.2.2.2.2.2.2.2.2.2.2.2.2.2.2.2.2.2.2.2.2.2.2.2.2.1
abbrev CM.se (z : CM) : Nat → Int32 := z.2.2.2.2.2.2.2.2.2.2.2.2.2.2.2.2.2.2.2.2.2.2.2.2.2.2.2.2.2.2.2.2.2.2.2.2.2.2.1
abbrev CM.sf (z : CM) : Nat → Int32 := z.2.2.2.2.2.2.2.2.2.2.2.2.2.2.2.2.2.2.2.2.2.2.2.2.2.2.2.2.2.2.2.2.2.2.2.2.2.2.2.1
abbrev CM.sx (z : CM) : Nat → Int32 := z.2.2.2.2.2.2.2.2.2.2.2.2.2.2.2.2.2.2.2.2.2.2.2.2.2.2.2.2.2.2.2.2.2.2.2.2.2.2.2.2.1
abbrev CM.sy (z : CM) : Nat → Int32 := z.2.2.2.2.2.2.2.2.2.2.2.2.2.2.2.2.2.2.2.2.2.2.2.2.2.2.2.2.2.2.2.2.2.2.2.2.2.2.2.2.2.1
abbrev CM.su (z : CM) : Nat → Int32 := z.2.2.2.2.2.2.2.2.2.2.2.2.2.2.2.2.2.2.2.2.2.2.2.2.2.2.2.2.2.2.2.2.2.2.2.2.2.2.2.2.2.2.1
abbrev CM.sv (z : CM) : Nat → Int32 := z.2.2.2.2.2.2.2.2.2.2.2.2.2.2.2.2.2.2.2.2.2.2.2.2.2.2.2.2.2.2.2.2.2.2.2.2.2.2.2.2.2.2.2
abbrev RF : Type := (Nat → Int32) × (Nat → Int32) × (Nat → Int32) × (Nat → Int32) × (Nat → Int32) × (Nat → Int32) × (Nat → Int32) × (Nat → Int32) × (Nat → Int32) × (Nat → Int32) × (Nat → Int32) × (Nat → Int32) × (Nat → Int32) × (Nat → Int32) × (Nat → Int32) × (Nat → Int32)
abbrev RF.mk (told : Nat → Int32) (cut : Nat → Int32) (both : Nat → Int32) (points : Nat → Int32) (px : Nat → Int32) (py : Nat → Int32) (begins : Nat → Int32) (startX : Nat → Int32) (startY : Nat → Int32) (startPoint : Nat → Int32) (begun : Nat → Int32) (lines : Nat → Int32) (lastX : Nat → Int32) (lastY : Nat → Int32) (saves : Nat → Int32) (saved : Nat → Int32) : RF := (told, cut, both, points, px, py, begins, startX, startY, startPoint, begun, lines, lastX, lastY, saves, saved)
abbrev RF.told (z : RF) : Nat → Int32 := z.1
abbrev RF.cut (z : RF) : Nat → Int32 := z.2.1
abbrev RF.both (z : RF) : Nat → Int32 := z.2.2.1
abbrev RF.points (z : RF) : Nat → Int32 := z.2.2.2.1
abbrev RF.px (z : RF) : Nat → Int32 := z.2.2.2.2.1
abbrev RF.py (z : RF) : Nat → Int32 := z.2.2.2.2.2.1
abbrev RF.begins (z : RF) : Nat → Int32 := z.2.2.2.2.2.2.1
abbrev RF.startX (z : RF) : Nat → Int32 := z.2.2.2.2.2.2.2.1
abbrev RF.startY (z : RF) : Nat → Int32 := z.2.2.2.2.2.2.2.2.1
abbrev RF.startPoint (z : RF) : Nat → Int32 := z.2.2.2.2.2.2.2.2.2.1
abbrev RF.begun (z : RF) : Nat → Int32 := z.2.2.2.2.2.2.2.2.2.2.1
abbrev RF.lines (z : RF) : Nat → Int32 := z.2.2.2.2.2.2.2.2.2.2.2.1
abbrev RF.lastX (z : RF) : Nat → Int32 := z.2.2.2.2.2.2.2.2.2.2.2.2.1
abbrev RF.lastY (z : RF) : Nat → Int32 := z.2.2.2.2.2.2.2.2.2.2.2.2.2.1
abbrev RF.saves (z : RF) : Nat → Int32 := z.2.2.2.2.2.2.2.2.2.2.2.2.2.2.1
abbrev RF.saved (z : RF) : Nat → Int32 := z.2.2.2.2.2.2.2.2.2.2.2.2.2.2.2
def RM (m W H no np nl : Nat) (c : CM) (r : RF) : Prop :=
  c.opn = nI no ∧ r.saves m = nI no ∧ no ≤ 8 ∧
  R12 (12 * m) r.told c.col c.way c.a c.b c.c c.d c.e c.f c.x c.y c.u c.v ∧ CBox W H c.x c.y c.u c.v ∧
  (∀ i, i < no → R12 (12 * (8 * m + i)) r.saved (c.sc i) (c.sw i) (c.sa i) (c.sb i) (c.sC i) (c.sd i) (c.se i) (c.sf i) (c.sx i) (c.sy i) (c.su i) (c.sv i) ∧ CBox W H (c.sx i) (c.sy i) (c.su i) (c.sv i)) ∧
  RPath m np nl c.pts c.lns c.fst c.ftx c.fty c.ltx c.lty c.lx c.ly c.gy c.xs c.ys c.bg r.points r.px r.py r.begins r.lines r.lastX r.lastY r.startX r.startY r.startPoint
def RFr (m : Nat) (r r' : RF) : Prop := (∀ j, (j < 12 * m ∨ 12 * m + 12 ≤ j) → r'.told j = r.told j) ∧ (∀ j, (j < 96 * m ∨ 96 * m + 96 ≤ j) → r'.saved j = r.saved j) ∧ (∀ k, k ≠ m → r'.saves k = r.saves k) ∧ PFr m r.points r.px r.py r.begins r.lines r.lastX r.lastY r.startX r.startY r.startPoint r'.points r'.px r'.py r'.begins r'.lines r'.lastX r'.lastY r'.startX r'.startY r'.startPoint
theorem RFr.refl (m : Nat) (r : RF) : RFr m r r := ⟨fun _ _ => rfl, fun _ _ => rfl, fun _ _ => rfl, PFr.refl _ _ _ _ _ _ _ _ _ _ _⟩
theorem RFr.tr {m : Nat} {r r' r'' : RF} (h : RFr m r r') (h' : RFr m r' r'') : RFr m r r'' := ⟨fun j hj => (h'.1 j hj).trans (h.1 j hj), fun j hj => (h'.2.1 j hj).trans (h.2.1 j hj), fun k hk => (h'.2.2.1 k hk).trans (h.2.2.1 k hk), h.2.2.2.tr h'.2.2.2⟩
theorem RM.fr {m k W H no np nl : Nat} {c : CM} {r r' : RF} (h : RM k W H no np nl c r) (hk : k ≤ 1) (hm : m ≤ 1) (hkm : k ≠ m) (hf : RFr m r r') : RM k W H no np nl c r' := by
  obtain ⟨h1, h2, h3, h4, h5, h6, h7⟩ := h
  obtain ⟨f1, f2, f3, f4⟩ := hf
  refine ⟨h1, (f3 k hkm).trans h2, h3, h4.cp (fun j hj => f1 _ (by omega)), h5, fun i hi => ⟨(h6 i hi).1.cp (fun j hj => f2 _ (by omega)), (h6 i hi).2⟩, h7.fr hk hkm f4⟩
theorem RM.TT {m W H no np nl : Nat} {c : CM} {r : RF} (h : RM m W H no np nl c r) : TT m r.told c.a c.b c.c c.d c.e c.f := by
  obtain ⟨t0, t1, t2, t3, t4, t5, _⟩ := h.2.2.2.1
  exact ⟨t0, t1, t2, t3, t4, t5⟩
def wv (f : Nat → Int32) (n p : Nat) : Int32 := if p < n then f p else 0
theorem word_wv {n p : Nat} (hn : n ≤ 1500) (hp : p < 2 ^ 31) (f : Nat → Int32) : m_X10_word (nI n) f (nI p) = some (wv f n p) := by
  unfold wv
  by_cases h : p < n
  · rw [if_pos h, word_ok h hn]
  · rw [if_neg h, word_no (by omega) hp]
theorem wv_in {n p : Nat} (h : p < n) (f : Nat → Int32) : wv f n p = f p := if_pos h
theorem csave_ok {no : Nat} (h : no < 8) (sc sw : Nat → Int32) (col way : Int32) (sa sb sC sd se sf : Nat → Int32) (a b c d e f : Int32) (sx sy su sv : Nat → Int32) (x y u v : Int32) : m_X3_save (nI no) sc sw col way sa sb sC sd se sf a b c d e f sx sy su sv x y u v = some (nI (no + 1), upd sc no col, upd sw no way, upd sa no a, upd sb no b, upd sC no c, upd sd no d, upd se no e, upd sf no f, upd sx no x, upd sy no y, upd su no u, upd sv no v) := by
  unfold m_X3_save m_X6_copyFrom m_X9_copyFrom m_X1_copyFrom m_X1_become
  rw [if_neg (show ¬ (8 : Int32) ≤ nI no from nI_ge (b := 8) h (by decide)), inb_s h (by decide), gd_s, nm_s, nI_clamp (show no < 2 ^ 31 by omega)]
  simp only [bd6_s, bd4_s, bd12_s, nm_s, nI_1]
theorem cback_ok {no : Nat} (h : no < 8) (col way : Int32) (sc sw : Nat → Int32) (a b c d e f : Int32) (sa sb sC sd se sf : Nat → Int32) (x y u v : Int32) (sx sy su sv : Nat → Int32) : m_X3_bringBack (nI (no + 1)) col way sc sw a b c d e f sa sb sC sd se sf x y u v sx sy su sv = some (nI no, sc no, sw no, sa no, sb no, sC no, sd no, se no, sf no, sx no, sy no, su no, sv no) := by
  have e : nI (no + 1) - 1 = nI no := pk_sub (a := no + 1) (b := 1) (by omega)
  unfold m_X3_bringBack m_X6_copyFrom m_X9_copyFrom m_X1_copyFrom m_X1_become
  rw [if_neg (show ¬ nI (no + 1) ≤ (0 : Int32) from nI_nle (by omega) (by omega)), nm_s, e, inb_s h (by decide), gd_s, nm_s, nI_clamp (show no < 2 ^ 31 by omega)]
  simp only [bd6_s, bd4_s, bd12_s]
theorem tab_loop {m : Nat} (hm : m ≤ 1) (f3 bo points px py begins startX startY startPoint begun lines lastX lastY saves saved : Nat → Int32) : ∀ (fu k : Nat) (t : Nat → Int32), k ≤ 6 → 6 < k + fu → ∃ t' : Nat → Int32, lp_X12_follow_315 f3 bo points px py begins startX startY startPoint begun lines lastX lastY saves saved (nI m) fu (nI k) t = some (t', f3, bo, points, px, py, begins, startX, startY, startPoint, begun, lines, lastX, lastY, saves, saved) ∧ (∀ i, k ≤ i → i < 6 → t' (12 * m + i) = bo i) ∧ ∀ j, (j < 12 * m + k ∨ 12 * m + 6 ≤ j) → t' j = t j := by
  intro fu
  induction fu with
  | zero => intro k f h1 h2; omega
  | succ fu ih =>
    intro k t h1 h2
    rw [lp_X12_follow_315]
    by_cases e : k = 6
    · subst e
      exact ⟨t, if_pos (by decide), fun i a b => by omega, fun j _ => rfl⟩
    · have hlt : k < 6 := by omega
      obtain ⟨g, hg, g1, g2⟩ := ih (k + 1) (upd t (12 * m + k) (bo k)) (by omega) (by omega)
      refine ⟨g, ?_, fun i a b => ?_, fun j hj => ?_⟩
      · rw [if_neg (show ¬ (6 : Int32) ≤ nI k from nI_ge (b := 6) hlt (by decide)), n12, inb_s (show 12 * m + k < 24 by omega) (by decide), inb_s hlt (by decide), gd_s, nm_s, gd_s, nm_s, nm_s, nI_clamp (show 12 * m + k < 2 ^ 31 by omega), nI_clamp (show k < 2 ^ 31 by omega), nI_1]
        exact hg
      · by_cases ei : i = k
        · subst ei
          rw [g2 _ (Or.inl (by omega))]
          exact pk_us
        · exact g1 i (by omega) b
      · rw [g2 j (by omega)]
        exact pk_un (by omega)
theorem cut_loop {m : Nat} (hm : m ≤ 1) (cu f4 points px py begins startX startY startPoint begun lines lastX lastY saves saved : Nat → Int32) : ∀ (fu k : Nat) (t : Nat → Int32), k ≤ 4 → 4 < k + fu → ∃ t' : Nat → Int32, lp_X12_follow_359 cu f4 points px py begins startX startY startPoint begun lines lastX lastY saves saved (nI m) fu (nI k) t = some (t', cu, f4, points, px, py, begins, startX, startY, startPoint, begun, lines, lastX, lastY, saves, saved) ∧ (∀ i, k ≤ i → i < 4 → t' (12 * m + 6 + i) = cu i) ∧ ∀ j, (j < 12 * m + 6 + k ∨ 12 * m + 10 ≤ j) → t' j = t j := by
  intro fu
  induction fu with
  | zero => intro k f h1 h2; omega
  | succ fu ih =>
    intro k t h1 h2
    rw [lp_X12_follow_359]
    by_cases e : k = 4
    · subst e
      exact ⟨t, if_pos (by decide), fun i a b => by omega, fun j _ => rfl⟩
    · have hlt : k < 4 := by omega
      have e6 : (12 : Int32) * nI m + 6 + nI k = nI (12 * m + 6 + k) := by rw [show (12 : Int32) * nI m + 6 = nI (12 * m + 6) from n12 m 6, nI_add]
      obtain ⟨g, hg, g1, g2⟩ := ih (k + 1) (upd t (12 * m + 6 + k) (cu k)) (by omega) (by omega)
      refine ⟨g, ?_, fun i a b => ?_, fun j hj => ?_⟩
      · rw [if_neg (show ¬ (4 : Int32) ≤ nI k from nI_ge (b := 4) hlt (by decide)), e6, inb_s (show 12 * m + 6 + k < 24 by omega) (by decide), inb_s hlt (by decide), gd_s, nm_s, gd_s, nm_s, nm_s, nI_clamp (show 12 * m + 6 + k < 2 ^ 31 by omega), nI_clamp (show k < 2 ^ 31 by omega), nI_1]
        exact hg
      · by_cases ei : i = k
        · subst ei
          rw [g2 _ (Or.inl (by omega))]
          exact pk_us
        · exact g1 i (by omega) b
      · rw [g2 j (by omega)]
        exact pk_un (by omega)
theorem far_i {b v : Int32} {B : Int} (hb : b.toInt = B) (h0 : 0 < B) (h : far b v = true) : -B < v.toInt ∧ v.toInt < B := by
  unfold far at h
  have h' := of_decide_eq_true h
  obtain ⟨h1, h2⟩ := h'
  rw [i_le] at h1
  rw [i_lt] at h2
  have e : (-b).toInt = -B := by
    rw [Int32.toInt_neg, hb]
    have := Int32.toInt_lt b
    apply Int.bmod_eq_of_le <;> omega
  rw [e] at h1
  rw [hb] at h2
  omega
theorem inn_i {hi v : Int32} {B : Int} (hb : hi.toInt = B) (h : inn 0 hi v = true) : 0 ≤ v.toInt ∧ v.toInt ≤ B := by
  unfold inn at h
  obtain ⟨h1, h2⟩ := of_decide_eq_true h
  rw [i_le] at h1 h2
  rw [hb] at h2
  exact ⟨h1, h2⟩
theorem nI_ti {a : Nat} (h : a < 2 ^ 31) : (nI a).toInt = a := by
  have := nI_clamp h
  have h2 : ¬ nI a < 0 := nI_pos h
  rw [i_lt] at h2
  unfold Int32.toNatClampNeg at this
  have e0 : (0 : Int32).toInt = 0 := by decide
  omega
theorem nI_back {v : Int32} (h : 0 ≤ v.toInt) : v = nI v.toInt.toNat := by
  apply Int32.toInt_inj.mp
  have := Int32.toInt_lt v
  rw [nI_ti (by omega)]
  omega
theorem cut_box {W H : Nat} (hW : W ≤ 32) (hH : H ≤ 32) {x y u v X Y w h : Int32} (hb : CBox W H x y u v) (hX : -1000000 < X.toInt ∧ X.toInt < 1000000) (hY : -1000000 < Y.toInt ∧ Y.toInt < 1000000) (hw : 0 ≤ w.toInt ∧ w.toInt ≤ 1000000) (hh : 0 ≤ h.toInt ∧ h.toInt ≤ 1000000) : CBox W H (cut4 x y u v X Y w h).1 (cut4 x y u v X Y w h).2.1 (cut4 x y u v X Y w h).2.2.1 (cut4 x y u v X Y w h).2.2.2 := by
  have eu : (X + w).toInt = X.toInt + w.toInt := by
    rw [Int32.toInt_add]
    apply Int.bmod_eq_of_le <;> omega
  have ev : (Y + h).toInt = Y.toInt + h.toInt := by
    rw [Int32.toInt_add]
    apply Int.bmod_eq_of_le <;> omega
  have e0 : (0 : Int32).toInt = 0 := by decide
  have hx : 0 ≤ x.toInt ∧ 0 ≤ y.toInt ∧ u.toInt ≤ W ∧ v.toInt ≤ H := by
    rcases hb with ⟨a, b, c, d, rfl, rfl, rfl, rfl, h1, h2, h3, h4⟩ | ⟨rfl, rfl, rfl, rfl⟩
    · rw [nI_ti (by omega), nI_ti (by omega), nI_ti (by omega), nI_ti (by omega)]
      omega
    · rw [e0]
      omega
  unfold cut4
  generalize hU : X + w = U at eu
  generalize hV : Y + h = V at ev
  by_cases c1 : (if U < u then U else u) ≤ (if x < X then X else x)
  · rw [if_pos c1]
    exact Or.inr ⟨rfl, rfl, rfl, rfl⟩
  · rw [if_neg c1]
    by_cases c2 : (if y < Y then Y else y) < (if V < v then V else v)
    · rw [if_pos c2]
      dsimp only
      refine Or.inl ⟨(if x < X then X else x).toInt.toNat, (if y < Y then Y else y).toInt.toNat, (if U < u then U else u).toInt.toNat, (if V < v then V else v).toInt.toNat, ?_⟩
      have m1 : x.toInt ≤ (if x < X then X else x).toInt := by
        by_cases q : x < X
        · rw [if_pos q]
          rw [i_lt] at q
          omega
        · rw [if_neg q]
          omega
      have m2 : y.toInt ≤ (if y < Y then Y else y).toInt := by
        by_cases q : y < Y
        · rw [if_pos q]
          rw [i_lt] at q
          omega
        · rw [if_neg q]
          omega
      have m3 : (if U < u then U else u).toInt ≤ u.toInt := by
        by_cases q : U < u
        · rw [if_pos q]
          rw [i_lt] at q
          omega
        · rw [if_neg q]
          omega
      have m4 : (if V < v then V else v).toInt ≤ v.toInt := by
        by_cases q : V < v
        · rw [if_pos q]
          rw [i_lt] at q
          omega
        · rw [if_neg q]
          omega
      rw [i_le] at c1
      rw [i_lt] at c2
      refine ⟨nI_back (by omega), nI_back (by omega), nI_back (by omega), nI_back (by omega), by omega, by omega, by omega, by omega⟩
    · rw [if_neg c2]
      exact Or.inr ⟨rfl, rfl, rfl, rfl⟩
theorem bnd_at {f : Nat → Int32} {p : Nat} : ∀ {k : Nat}, bnd f p k = true → ∀ i, 1 ≤ i → i ≤ k → bndk (f p) i (f (p + i)) = true
  | 0, _, i, h1, h2 => by omega
  | k + 1, h, i, h1, h2 => by
    have h' : (bnd f p k && bndk (f p) (k + 1) (f (p + (k + 1)))) = true := h
    rw [Bool.and_eq_true] at h'
    by_cases e : i = k + 1
    · subst e
      exact h'.2
    · exact bnd_at h'.1 i h1 (by omega)
