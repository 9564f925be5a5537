abbrev rb0 (t : Nat → Int32) (r : RF) : RF := (RF.mk t r.cut r.both (upd r.points 1 0) r.px r.py r.begins r.startX r.startY r.startPoint (upd r.begun 1 (vp_nar .boolean 0)) (upd r.lines 1 0) r.lastX r.lastY (upd r.saves 1 0) r.saved)
theorem bp2 {W H : Nat} (hW1 : 1 ≤ W) (hH1 : 1 ≤ H) (c : CM) (r : RF) (sz at_ : Nat → Int32) : ∃ t : Nat → Int32, m_X12_beginPass (nI W) (nI H) sz r.told r.saves at_ r.points r.begun r.lines = some (upd sz 2 0, t, upd r.saves 1 0, upd at_ 1 0, upd r.points 1 0, upd r.begun 1 (vp_nar .boolean 0), upd r.lines 1 0) ∧ RM 1 W H 0 0 0 (c.fresh W H) (rb0 t r) ∧ RFr 1 r (rb0 t r) := by
  obtain ⟨t, h1, h2, h3⟩ := begin_RM (m := 1) (by omega) hW1 hH1 c r at_
  refine ⟨t, ?_, h2, h3⟩
  unfold m_X12_beginPass
  rw [inb_2_3, gd_s, nm_s, tn_2]
  refine (congrArg (fun z => bd6 z _) h1).trans ?_
  rw [bd6_s]
theorem ok_D {W H n : Nat} (hW1 : 1 ≤ W) (hW : W ≤ 32) (hH1 : 1 ≤ H) (hH : H ≤ 32) (hn : n ≤ 1500) {row wd sz : Nat → Int32} (hv : VL row n 0 0 0 false) (hw : ∀ j, j < n → wd (1500 + j) = row j) (hs : sz 1 = nI n) (c : CM) (s : SX) (r : RF) (at_ : Nat → Int32) (lf0 ob0 ja0 pl : Int32) {other : Int32} (hb : zb other) : ∃ (n' : Nat) (c' : CM) (row' wd' sz' t : Nat → Int32) (lf' ob' ja' other' : Int32), m_X8_goThrough lf0 ob0 ja0 c.opn pl c.col c.way c.a c.b c.c c.d c.e c.f (nI W) (nI H) c.x c.y c.u c.v c.pts c.lns c.fst c.ftx c.fty c.ltx c.lty c.lx c.ly c.gy (nI n) row s.ta s.tb s.tc s.td s.te s.tf s.xa s.xb s.xc s.xd s.xe s.xf s.cx s.cy s.cu s.cv c.na c.nb c.nc c.nd c.ne c.nf c.xs c.ys c.bg c.sc c.sw c.sa c.sb c.sC c.sd c.se c.sf c.sx c.sy c.su c.sv 3 = some (lf', ob', ja', c'.opn, 0, c'.col, c'.way, c'.a, c'.b, c'.c, c'.d, c'.e, c'.f, c'.x, c'.y, c'.u, c'.v, c'.pts, c'.lns, c'.fst, c'.ftx, c'.fty, c'.ltx, c'.lty, c'.lx, c'.ly, c'.gy, nI n', row', s.ta, s.tb, s.tc, s.td, s.te, s.tf, s.xa, s.xb, s.xc, s.xd, s.xe, s.xf, s.cx, s.cy, s.cu, s.cv, c'.na, c'.nb, c'.nc, c'.nd, c'.ne, c'.nf, c'.xs, c'.ys, c'.bg, c'.sc, c'.sw, c'.sa, c'.sb, c'.sC, c'.sd, c'.se, c'.sf, c'.sx, c'.sy, c'.su, c'.sv) ∧ m_X12_passD (nI W) (nI H) other sz r.told r.saves at_ r.points r.begun r.lines wd = some (other', sz', t, upd r.saves 1 0, upd at_ 1 0, upd r.points 1 0, upd r.begun 1 (vp_nar .boolean 0), upd r.lines 1 0, wd') ∧ PQ n wd sz at_ r other n' row' wd' sz' (upd at_ 1 0) (rb0 t r) other' := by
  obtain ⟨t, g1, g2, g3⟩ := bp2 hW1 hH1 c r sz at_
  obtain ⟨lf, hl⟩ := lf_ok hn hv
  have hP := pi_0 hn hv hw hs g2
  obtain ⟨k', nl', np', c', r', row', wd', sz', b1, b2, b3⟩ := lockD hW hH lf 0 s 1500 FU FU 0 0 0 0 0 (c.fresh W H) (rb0 t r) row wd (upd sz 2 0) (by omega) (by rw [FU_s]; omega) (by rw [FU_s]; omega) hP (fun _ => rfl)
  obtain ⟨other', sz2, wd2, e1, e2⟩ := ep_ok b3 hb (at_ := at_) g3
  refine ⟨k', c', row', wd2, sz2, t, lf, _, _, other', gth_ok hn b3.hk hl (fun K => b1 K), ?_, e2⟩
  unfold m_X12_passD
  refine (congrArg (fun z => bd7 z _) g1).trans ?_
  rw [bd7_s, jn_s]
  refine (b2 _).trans ?_
  rw [e1, bd3_s]
theorem ok_H {W H n : Nat} (hW1 : 1 ≤ W) (hW : W ≤ 32) (hH1 : 1 ≤ H) (hH : H ≤ 32) (hn : n ≤ 1500) {row wd sz : Nat → Int32} (hv : VL row n 0 0 0 false) (hw : ∀ j, j < n → wd (1500 + j) = row j) (hs : sz 1 = nI n) (c : CM) (s : SX) (r : RF) (at_ : Nat → Int32) (lf0 ob0 ja0 pl : Int32) {other : Int32} (hb : zb other) : ∃ (n' : Nat) (c' : CM) (row' wd' sz' t : Nat → Int32) (lf' ob' ja' other' : Int32), m_X8_goThrough lf0 ob0 ja0 c.opn pl c.col c.way c.a c.b c.c c.d c.e c.f (nI W) (nI H) c.x c.y c.u c.v c.pts c.lns c.fst c.ftx c.fty c.ltx c.lty c.lx c.ly c.gy (nI n) row s.ta s.tb s.tc s.td s.te s.tf s.xa s.xb s.xc s.xd s.xe s.xf s.cx s.cy s.cu s.cv c.na c.nb c.nc c.nd c.ne c.nf c.xs c.ys c.bg c.sc c.sw c.sa c.sb c.sC c.sd c.se c.sf c.sx c.sy c.su c.sv 7 = some (lf', ob', ja', c'.opn, 0, c'.col, c'.way, c'.a, c'.b, c'.c, c'.d, c'.e, c'.f, c'.x, c'.y, c'.u, c'.v, c'.pts, c'.lns, c'.fst, c'.ftx, c'.fty, c'.ltx, c'.lty, c'.lx, c'.ly, c'.gy, nI n', row', s.ta, s.tb, s.tc, s.td, s.te, s.tf, s.xa, s.xb, s.xc, s.xd, s.xe, s.xf, s.cx, s.cy, s.cu, s.cv, c'.na, c'.nb, c'.nc, c'.nd, c'.ne, c'.nf, c'.xs, c'.ys, c'.bg, c'.sc, c'.sw, c'.sa, c'.sb, c'.sC, c'.sd, c'.se, c'.sf, c'.sx, c'.sy, c'.su, c'.sv) ∧ m_X12_passH (nI W) (nI H) other sz r.told r.saves at_ r.points r.begun r.lines wd = some (other', sz', t, upd r.saves 1 0, upd at_ 1 0, upd r.points 1 0, upd r.begun 1 (vp_nar .boolean 0), upd r.lines 1 0, wd') ∧ PQ n wd sz at_ r other n' row' wd' sz' (upd at_ 1 0) (rb0 t r) other' := by
  obtain ⟨t, g1, g2, g3⟩ := bp2 hW1 hH1 c r sz at_
  obtain ⟨lf, hl⟩ := lf_ok hn hv
  have hP := pi_0 hn hv hw hs g2
  obtain ⟨k', nl', np', c', r', row', wd', sz', b1, b2, b3⟩ := lockH hW hH lf 0 s 1500 FU FU 0 0 0 0 0 (c.fresh W H) (rb0 t r) row wd (upd sz 2 0) (by omega) (by rw [FU_s]; omega) (by rw [FU_s]; omega) hP
  obtain ⟨other', sz2, wd2, e1, e2⟩ := ep_ok b3 hb (at_ := at_) g3
  refine ⟨k', c', row', wd2, sz2, t, lf, _, _, other', gth_ok hn b3.hk hl (fun K => b1 K), ?_, e2⟩
  unfold m_X12_passH
  refine (congrArg (fun z => bd7 z _) g1).trans ?_
  rw [bd7_s, jn_s]
  refine (b2 _).trans ?_
  rw [e1, bd3_s]
theorem ok_I {W H n : Nat} (hW1 : 1 ≤ W) (hW : W ≤ 32) (hH1 : 1 ≤ H) (hH : H ≤ 32) (hn : n ≤ 1500) {row wd sz : Nat → Int32} (hv : VL row n 0 0 0 false) (hw : ∀ j, j < n → wd (1500 + j) = row j) (hs : sz 1 = nI n) (c : CM) (s : SX) (r : RF) (at_ : Nat → Int32) (lf0 ob0 ja0 pl : Int32) {other : Int32} (hb : zb other) : ∃ (n' : Nat) (c' : CM) (row' wd' sz' t : Nat → Int32) (lf' ob' ja' other' : Int32), m_X8_goThrough lf0 ob0 ja0 c.opn pl c.col c.way c.a c.b c.c c.d c.e c.f (nI W) (nI H) c.x c.y c.u c.v c.pts c.lns c.fst c.ftx c.fty c.ltx c.lty c.lx c.ly c.gy (nI n) row s.ta s.tb s.tc s.td s.te s.tf s.xa s.xb s.xc s.xd s.xe s.xf s.cx s.cy s.cu s.cv c.na c.nb c.nc c.nd c.ne c.nf c.xs c.ys c.bg c.sc c.sw c.sa c.sb c.sC c.sd c.se c.sf c.sx c.sy c.su c.sv 8 = some (lf', ob', ja', c'.opn, 0, c'.col, c'.way, c'.a, c'.b, c'.c, c'.d, c'.e, c'.f, c'.x, c'.y, c'.u, c'.v, c'.pts, c'.lns, c'.fst, c'.ftx, c'.fty, c'.ltx, c'.lty, c'.lx, c'.ly, c'.gy, nI n', row', s.ta, s.tb, s.tc, s.td, s.te, s.tf, s.xa, s.xb, s.xc, s.xd, s.xe, s.xf, s.cx, s.cy, s.cu, s.cv, c'.na, c'.nb, c'.nc, c'.nd, c'.ne, c'.nf, c'.xs, c'.ys, c'.bg, c'.sc, c'.sw, c'.sa, c'.sb, c'.sC, c'.sd, c'.se, c'.sf, c'.sx, c'.sy, c'.su, c'.sv) ∧ m_X12_passI (nI W) (nI H) other sz r.told r.saves at_ r.points r.begun r.lines wd = some (other', sz', t, upd r.saves 1 0, upd at_ 1 0, upd r.points 1 0, upd r.begun 1 (vp_nar .boolean 0), upd r.lines 1 0, wd') ∧ PQ n wd sz at_ r other n' row' wd' sz' (upd at_ 1 0) (rb0 t r) other' := by
  obtain ⟨t, g1, g2, g3⟩ := bp2 hW1 hH1 c r sz at_
  obtain ⟨lf, hl⟩ := lf_ok hn hv
  have hP := pi_0 hn hv hw hs g2
  obtain ⟨k', nl', np', c', r', row', wd', sz', b1, b2, b3⟩ := lockI hW hH lf 0 s 1500 FU FU 0 0 0 0 0 (c.fresh W H) (rb0 t r) row wd (upd sz 2 0) (by omega) (by rw [FU_s]; omega) (by rw [FU_s]; omega) hP
  obtain ⟨other', sz2, wd2, e1, e2⟩ := ep_ok b3 hb (at_ := at_) g3
  refine ⟨k', c', row', wd2, sz2, t, lf, _, _, other', gth_ok hn b3.hk hl (fun K => b1 K), ?_, e2⟩
  unfold m_X12_passI
  refine (congrArg (fun z => bd7 z _) g1).trans ?_
  rw [bd7_s, jn_s]
  refine (b2 _).trans ?_
  rw [e1, bd3_s]
theorem ok_C {W H n : Nat} (hW1 : 1 ≤ W) (hW : W ≤ 32) (hH1 : 1 ≤ H) (hH : H ≤ 32) (hn : n ≤ 1500) {row wd sz : Nat → Int32} (hv : VL row n 0 0 0 false) (hw : ∀ j, j < n → wd (1500 + j) = row j) (hs : sz 1 = nI n) (c : CM) (s : SX) (r : RF) (at_ : Nat → Int32) (lf0 ob0 ja0 pl : Int32) {other : Int32} (hb : zb other) : ∃ (n' : Nat) (c' : CM) (row' wd' sz' t : Nat → Int32) (lf' ob' ja' other' : Int32), m_X8_goThrough lf0 ob0 ja0 c.opn pl c.col c.way c.a c.b c.c c.d c.e c.f (nI W) (nI H) c.x c.y c.u c.v c.pts c.lns c.fst c.ftx c.fty c.ltx c.lty c.lx c.ly c.gy (nI n) row s.ta s.tb s.tc s.td s.te s.tf s.xa s.xb s.xc s.xd s.xe s.xf s.cx s.cy s.cu s.cv c.na c.nb c.nc c.nd c.ne c.nf c.xs c.ys c.bg c.sc c.sw c.sa c.sb c.sC c.sd c.se c.sf c.sx c.sy c.su c.sv 2 = some (lf', ob', ja', c'.opn, 0, c'.col, c'.way, c'.a, c'.b, c'.c, c'.d, c'.e, c'.f, c'.x, c'.y, c'.u, c'.v, c'.pts, c'.lns, c'.fst, c'.ftx, c'.fty, c'.ltx, c'.lty, c'.lx, c'.ly, c'.gy, nI n', row', s.ta, s.tb, s.tc, s.td, s.te, s.tf, s.xa, s.xb, s.xc, s.xd, s.xe, s.xf, s.cx, s.cy, s.cu, s.cv, c'.na, c'.nb, c'.nc, c'.nd, c'.ne, c'.nf, c'.xs, c'.ys, c'.bg, c'.sc, c'.sw, c'.sa, c'.sb, c'.sC, c'.sd, c'.se, c'.sf, c'.sx, c'.sy, c'.su, c'.sv) ∧ m_X12_passC (nI W) (nI H) other sz r.told r.saves at_ r.points r.begun r.lines wd = some (other', sz', t, upd r.saves 1 0, upd at_ 1 0, upd r.points 1 0, upd r.begun 1 (vp_nar .boolean 0), upd r.lines 1 0, wd') ∧ PQ n wd sz at_ r other n' row' wd' sz' (upd at_ 1 0) (rb0 t r) other' := by
  obtain ⟨t, g1, g2, g3⟩ := bp2 hW1 hH1 c r sz at_
  obtain ⟨lf, hl⟩ := lf_ok hn hv
  have hP := pi_0 hn hv hw hs g2
  obtain ⟨k', nli', nlo', np', bi', c', r', row', wd', sz', b1, b2, b3⟩ := lockC hW hH lf 0 s 1500 FU FU 0 0 0 0 0 0 false (c.fresh W H) (rb0 t r) row wd (upd sz 2 0) (by omega) (by rw [FU_s]; omega) (by rw [FU_s]; omega) hP (Or.inl ⟨rfl, rfl⟩)
  obtain ⟨other', sz2, wd2, e1, e2⟩ := ep_ok b3 hb (at_ := at_) g3
  refine ⟨k', c', row', wd2, sz2, t, lf, _, _, other', gth_ok hn b3.hk hl (fun K => b1 K), ?_, e2⟩
  unfold m_X12_passC
  refine (congrArg (fun z => bd7 z _) g1).trans ?_
  rw [bd7_s, jn_s]
  refine (b2 _).trans ?_
  rw [e1, bd3_s]
theorem ok_A {W H n : Nat} (hW1 : 1 ≤ W) (hW : W ≤ 32) (hH1 : 1 ≤ H) (hH : H ≤ 32) (hn : n ≤ 1500) {row wd sz : Nat → Int32} (hv : VL row n 0 0 0 false) (hw : ∀ j, j < n → wd (1500 + j) = row j) (hs : sz 1 = nI n) (c : CM) (s : SX) (r : RF) (at_ : Nat → Int32) (lf0 ob0 ja0 pl : Int32) {other : Int32} (hb : zb other) : ∃ (n' : Nat) (c' : CM) (row' wd' sz' t : Nat → Int32) (lf' ob' ja' other' : Int32), m_X8_goThrough lf0 ob0 ja0 c.opn pl c.col c.way c.a c.b c.c c.d c.e c.f (nI W) (nI H) c.x c.y c.u c.v c.pts c.lns c.fst c.ftx c.fty c.ltx c.lty c.lx c.ly c.gy (nI n) row s.ta s.tb s.tc s.td s.te s.tf s.xa s.xb s.xc s.xd s.xe s.xf s.cx s.cy s.cu s.cv c.na c.nb c.nc c.nd c.ne c.nf c.xs c.ys c.bg c.sc c.sw c.sa c.sb c.sC c.sd c.se c.sf c.sx c.sy c.su c.sv 0 = some (lf', ob', ja', c'.opn, 0, c'.col, c'.way, c'.a, c'.b, c'.c, c'.d, c'.e, c'.f, c'.x, c'.y, c'.u, c'.v, c'.pts, c'.lns, c'.fst, c'.ftx, c'.fty, c'.ltx, c'.lty, c'.lx, c'.ly, c'.gy, nI n', row', s.ta, s.tb, s.tc, s.td, s.te, s.tf, s.xa, s.xb, s.xc, s.xd, s.xe, s.xf, s.cx, s.cy, s.cu, s.cv, c'.na, c'.nb, c'.nc, c'.nd, c'.ne, c'.nf, c'.xs, c'.ys, c'.bg, c'.sc, c'.sw, c'.sa, c'.sb, c'.sC, c'.sd, c'.se, c'.sf, c'.sx, c'.sy, c'.su, c'.sv) ∧ m_X12_passA (nI W) (nI H) other sz wd r.told r.saves at_ r.points r.begun r.lines = some (other', sz', wd', t, upd r.saves 1 0, upd at_ 1 0, upd r.points 1 0, upd r.begun 1 (vp_nar .boolean 0), upd r.lines 1 0) ∧ PQ n wd sz at_ r other n' row' wd' sz' (upd at_ 1 0) (rb0 t r) other' := by
  obtain ⟨t, g1, g2, g3⟩ := bp2 hW1 hH1 c r sz at_
  obtain ⟨lf, last, l1, l2, l3⟩ := lf_loop hn hs hw 1500 FU FU 0 (-1) (-1) (by omega) (by rw [FU_s]; omega) (by rw [FU_s]; omega) (by omega) ⟨_, _, _, hv⟩ (Or.inl ⟨rfl, rfl⟩)
  have hP := pi_0 hn hv hw hs g2
  obtain ⟨k', own', nli', nlo', np', bi', c', r', row', wd', sz', b1, b2, b3⟩ := lockA hW hH lf last s 1500 FU FU 0 0 0 0 0 0 0 0 false (c.fresh W H) (rb0 t r) row wd (upd sz 2 0) (by omega) (by rw [FU_s]; omega) (by rw [FU_s]; omega) hP rfl (by omega) (l3.elim (fun z => Or.inl ⟨z.1, z.2, rfl⟩) (fun ⟨q, q1, q2, q3⟩ => Or.inr ⟨q, q1, q2, q3, fun _ => ⟨rfl, rfl, rfl⟩⟩))
  obtain ⟨other', sz2, wd2, e1, e2⟩ := ep_ok b3 hb (at_ := at_) g3
  refine ⟨k', c', row', wd2, sz2, t, lf, _, _, other', gth_ok hn b3.hk l1 (fun K => b1 K), ?_, e2⟩
  unfold m_X12_passA
  rw [jn_s]
  refine (l2 _).trans ?_
  refine (congrArg (fun z => bd7 z _) g1).trans ?_
  rw [bd7_s, jn_s]
  refine (b2 _).trans ?_
  rw [e1, bd3_s]
theorem ok_B {W H n : Nat} (hW1 : 1 ≤ W) (hW : W ≤ 32) (hH1 : 1 ≤ H) (hH : H ≤ 32) (hn : n ≤ 1500) {row wd sz : Nat → Int32} (hv : VL row n 0 0 0 false) (hw : ∀ j, j < n → wd (1500 + j) = row j) (hs : sz 1 = nI n) (c : CM) (s : SX) (r : RF) (at_ : Nat → Int32) (lf0 ob0 ja0 pl : Int32) {other : Int32} (hb : zb other) : ∃ (n' : Nat) (c' : CM) (s' : SX) (r' : RF) (row' wd' sz' : Nat → Int32) (lf' ob' ja' other' : Int32), m_X8_goThrough lf0 ob0 ja0 c.opn pl c.col c.way c.a c.b c.c c.d c.e c.f (nI W) (nI H) c.x c.y c.u c.v c.pts c.lns c.fst c.ftx c.fty c.ltx c.lty c.lx c.ly c.gy (nI n) row s.ta s.tb s.tc s.td s.te s.tf s.xa s.xb s.xc s.xd s.xe s.xf s.cx s.cy s.cu s.cv c.na c.nb c.nc c.nd c.ne c.nf c.xs c.ys c.bg c.sc c.sw c.sa c.sb c.sC c.sd c.se c.sf c.sx c.sy c.su c.sv 1 = some (lf', ob', ja', c'.opn, 0, c'.col, c'.way, c'.a, c'.b, c'.c, c'.d, c'.e, c'.f, c'.x, c'.y, c'.u, c'.v, c'.pts, c'.lns, c'.fst, c'.ftx, c'.fty, c'.ltx, c'.lty, c'.lx, c'.ly, c'.gy, nI n', row', s'.ta, s'.tb, s'.tc, s'.td, s'.te, s'.tf, s'.xa, s'.xb, s'.xc, s'.xd, s'.xe, s'.xf, s'.cx, s'.cy, s'.cu, s'.cv, c'.na, c'.nb, c'.nc, c'.nd, c'.ne, c'.nf, c'.xs, c'.ys, c'.bg, c'.sc, c'.sw, c'.sa, c'.sb, c'.sC, c'.sd, c'.se, c'.sf, c'.sx, c'.sy, c'.su, c'.sv) ∧ m_X12_passB (nI W) (nI H) other sz r.told r.saves at_ r.points r.begun r.lines wd r.px r.py r.cut r.both r.begins r.startX r.startY r.startPoint r.lastX r.lastY r.saved = some (other', sz', r'.told, r'.saves, upd at_ 1 0, r'.points, r'.begun, r'.lines, wd', r'.px, r'.py, r'.cut, r'.both, r'.begins, r'.startX, r'.startY, r'.startPoint, r'.lastX, r'.lastY, r'.saved) ∧ PQ n wd sz at_ r other n' row' wd' sz' (upd at_ 1 0) r' other' := by
  obtain ⟨t, g1, g2, g3⟩ := bp2 hW1 hH1 c r sz at_
  obtain ⟨lf, hl⟩ := lf_ok hn hv
  have hP := pi_0 hn hv hw hs g2
  obtain ⟨k', nl', np', c', r', s', row', wd', sz', b1, b2, b3, b4⟩ := lockB hW hH lf 0 1500 FU FU 0 0 0 0 0 (c.fresh W H) (rb0 t r) s row wd (upd sz 2 0) (by omega) (by rw [FU_s]; omega) (by rw [FU_s]; omega) hP
  obtain ⟨other', sz2, wd2, e1, e2⟩ := ep_ok b3 hb (at_ := at_) (g3.tr b4)
  refine ⟨k', c', s', r', row', wd2, sz2, lf, _, _, other', gth_ok hn b3.hk hl (fun K => b1 K), ?_, e2⟩
  unfold m_X12_passB
  refine (congrArg (fun z => bd7 z _) g1).trans ?_
  rw [bd7_s, jn_s]
  refine (b2 _).trans ?_
  rw [e1, bd3_s]
theorem ok_F {W H n : Nat} (hW1 : 1 ≤ W) (hW : W ≤ 32) (hH1 : 1 ≤ H) (hH : H ≤ 32) (hn : n ≤ 1500) {row wd sz : Nat → Int32} (hv : VL row n 0 0 0 false) (hw : ∀ j, j < n → wd (1500 + j) = row j) (hs : sz 1 = nI n) (c : CM) (s : SX) (r : RF) (at_ : Nat → Int32) (lf0 ob0 ja0 pl : Int32) {other : Int32} (hb : zb other) : ∃ (n' : Nat) (c' : CM) (s' : SX) (r' : RF) (row' wd' sz' : Nat → Int32) (lf' ob' ja' other' : Int32), m_X8_goThrough lf0 ob0 ja0 c.opn pl c.col c.way c.a c.b c.c c.d c.e c.f (nI W) (nI H) c.x c.y c.u c.v c.pts c.lns c.fst c.ftx c.fty c.ltx c.lty c.lx c.ly c.gy (nI n) row s.ta s.tb s.tc s.td s.te s.tf s.xa s.xb s.xc s.xd s.xe s.xf s.cx s.cy s.cu s.cv c.na c.nb c.nc c.nd c.ne c.nf c.xs c.ys c.bg c.sc c.sw c.sa c.sb c.sC c.sd c.se c.sf c.sx c.sy c.su c.sv 5 = some (lf', ob', ja', c'.opn, 0, c'.col, c'.way, c'.a, c'.b, c'.c, c'.d, c'.e, c'.f, c'.x, c'.y, c'.u, c'.v, c'.pts, c'.lns, c'.fst, c'.ftx, c'.fty, c'.ltx, c'.lty, c'.lx, c'.ly, c'.gy, nI n', row', s'.ta, s'.tb, s'.tc, s'.td, s'.te, s'.tf, s'.xa, s'.xb, s'.xc, s'.xd, s'.xe, s'.xf, s'.cx, s'.cy, s'.cu, s'.cv, c'.na, c'.nb, c'.nc, c'.nd, c'.ne, c'.nf, c'.xs, c'.ys, c'.bg, c'.sc, c'.sw, c'.sa, c'.sb, c'.sC, c'.sd, c'.se, c'.sf, c'.sx, c'.sy, c'.su, c'.sv) ∧ m_X12_passF (nI W) (nI H) other sz r.told r.saves at_ r.points r.begun r.lines wd r.cut r.both r.px r.py r.begins r.startX r.startY r.startPoint r.lastX r.lastY r.saved = some (other', sz', r'.told, r'.saves, upd at_ 1 0, r'.points, r'.begun, r'.lines, wd', r'.cut, r'.both, r'.px, r'.py, r'.begins, r'.startX, r'.startY, r'.startPoint, r'.lastX, r'.lastY, r'.saved) ∧ PQ n wd sz at_ r other n' row' wd' sz' (upd at_ 1 0) r' other' := by
  obtain ⟨t, g1, g2, g3⟩ := bp2 hW1 hH1 c r sz at_
  obtain ⟨lf, hl⟩ := lf_ok hn hv
  have hP := pi_0 hn hv hw hs g2
  obtain ⟨k', nl', np', c', r', s', row', wd', sz', b1, b2, b3, b4⟩ := lockF hW hH lf 0 1500 FU FU 0 0 0 0 0 (c.fresh W H) (rb0 t r) s row wd (upd sz 2 0) (by omega) (by rw [FU_s]; omega) (by rw [FU_s]; omega) hP
  obtain ⟨other', sz2, wd2, e1, e2⟩ := ep_ok b3 hb (at_ := at_) (g3.tr b4)
  refine ⟨k', c', s', r', row', wd2, sz2, lf, _, _, other', gth_ok hn b3.hk hl (fun K => b1 K), ?_, e2⟩
  unfold m_X12_passF
  refine (congrArg (fun z => bd7 z _) g1).trans ?_
  rw [bd7_s, jn_s]
  refine (b2 _).trans ?_
  rw [e1, bd3_s]
theorem ok_G {W H n : Nat} (hW1 : 1 ≤ W) (hW : W ≤ 32) (hH1 : 1 ≤ H) (hH : H ≤ 32) (hn : n ≤ 1500) {row wd sz : Nat → Int32} (hv : VL row n 0 0 0 false) (hw : ∀ j, j < n → wd (1500 + j) = row j) (hs : sz 1 = nI n) (c : CM) (s : SX) (r : RF) (at_ : Nat → Int32) (lf0 ob0 ja0 pl : Int32) {other : Int32} (hb : zb other) : ∃ (n' : Nat) (c' : CM) (s' : SX) (r' : RF) (row' wd' sz' : Nat → Int32) (lf' ob' ja' other' : Int32), m_X8_goThrough lf0 ob0 ja0 c.opn pl c.col c.way c.a c.b c.c c.d c.e c.f (nI W) (nI H) c.x c.y c.u c.v c.pts c.lns c.fst c.ftx c.fty c.ltx c.lty c.lx c.ly c.gy (nI n) row s.ta s.tb s.tc s.td s.te s.tf s.xa s.xb s.xc s.xd s.xe s.xf s.cx s.cy s.cu s.cv c.na c.nb c.nc c.nd c.ne c.nf c.xs c.ys c.bg c.sc c.sw c.sa c.sb c.sC c.sd c.se c.sf c.sx c.sy c.su c.sv 6 = some (lf', ob', ja', c'.opn, 0, c'.col, c'.way, c'.a, c'.b, c'.c, c'.d, c'.e, c'.f, c'.x, c'.y, c'.u, c'.v, c'.pts, c'.lns, c'.fst, c'.ftx, c'.fty, c'.ltx, c'.lty, c'.lx, c'.ly, c'.gy, nI n', row', s'.ta, s'.tb, s'.tc, s'.td, s'.te, s'.tf, s'.xa, s'.xb, s'.xc, s'.xd, s'.xe, s'.xf, s'.cx, s'.cy, s'.cu, s'.cv, c'.na, c'.nb, c'.nc, c'.nd, c'.ne, c'.nf, c'.xs, c'.ys, c'.bg, c'.sc, c'.sw, c'.sa, c'.sb, c'.sC, c'.sd, c'.se, c'.sf, c'.sx, c'.sy, c'.su, c'.sv) ∧ m_X12_passG (nI W) (nI H) other sz r.told r.saves at_ r.points r.begun r.lines wd r.cut r.both r.px r.py r.begins r.startX r.startY r.startPoint r.lastX r.lastY r.saved = some (other', sz', r'.told, r'.saves, upd at_ 1 0, r'.points, r'.begun, r'.lines, wd', r'.cut, r'.both, r'.px, r'.py, r'.begins, r'.startX, r'.startY, r'.startPoint, r'.lastX, r'.lastY, r'.saved) ∧ PQ n wd sz at_ r other n' row' wd' sz' (upd at_ 1 0) r' other' := by
  obtain ⟨t, g1, g2, g3⟩ := bp2 hW1 hH1 c r sz at_
  obtain ⟨lf, hl⟩ := lf_ok hn hv
  have hP := pi_0 hn hv hw hs g2
  obtain ⟨k', nl', np', c', r', s', ja', row', wd', sz', b1, b2, b3, b4⟩ := lockG hW hH lf 0 1500 FU FU 0 0 0 0 0 (c.fresh W H) (rb0 t r) s (-1) row wd (upd sz 2 0) (by omega) (by rw [FU_s]; omega) (by rw [FU_s]; omega) hP (Or.inl rfl)
  obtain ⟨other', sz2, wd2, e1, e2⟩ := ep_ok b3 hb (at_ := at_) (g3.tr b4)
  refine ⟨k', c', s', r', row', wd2, sz2, lf, _, _, other', gth_ok hn b3.hk hl (fun K => b1 K), ?_, e2⟩
  unfold m_X12_passG
  refine (congrArg (fun z => bd7 z _) g1).trans ?_
  rw [bd7_s, jn_s]
  refine (b2 _).trans ?_
  rw [e1, bd3_s]
theorem ok_E {W H n : Nat} (hW1 : 1 ≤ W) (hW : W ≤ 32) (hH1 : 1 ≤ H) (hH : H ≤ 32) (hn : n ≤ 1500) {row wd sz : Nat → Int32} (hv : VL row n 0 0 0 false) (hw : ∀ j, j < n → wd (1500 + j) = row j) (hs : sz 1 = nI n) (c : CM) (s : SX) (r : RF) (at_ : Nat → Int32) (lf0 ob0 ja0 pl : Int32) {other : Int32} (hb : zb other) : ∃ (n' : Nat) (c' : CM) (r1 r' : RF) (row' wd1 wd' sz1 sz' : Nat → Int32) (lf' ob' ja' o1 other' : Int32), m_X8_goThrough lf0 ob0 ja0 c.opn pl c.col c.way c.a c.b c.c c.d c.e c.f (nI W) (nI H) c.x c.y c.u c.v c.pts c.lns c.fst c.ftx c.fty c.ltx c.lty c.lx c.ly c.gy (nI n) row s.ta s.tb s.tc s.td s.te s.tf s.xa s.xb s.xc s.xd s.xe s.xf s.cx s.cy s.cu s.cv c.na c.nb c.nc c.nd c.ne c.nf c.xs c.ys c.bg c.sc c.sw c.sa c.sb c.sC c.sd c.se c.sf c.sx c.sy c.su c.sv 4 = some (lf', ob', ja', c'.opn, 0, c'.col, c'.way, c'.a, c'.b, c'.c, c'.d, c'.e, c'.f, c'.x, c'.y, c'.u, c'.v, c'.pts, c'.lns, c'.fst, c'.ftx, c'.fty, c'.ltx, c'.lty, c'.lx, c'.ly, c'.gy, nI n', row', s.ta, s.tb, s.tc, s.td, s.te, s.tf, s.xa, s.xb, s.xc, s.xd, s.xe, s.xf, s.cx, s.cy, s.cu, s.cv, c'.na, c'.nb, c'.nc, c'.nd, c'.ne, c'.nf, c'.xs, c'.ys, c'.bg, c'.sc, c'.sw, c'.sa, c'.sb, c'.sC, c'.sd, c'.se, c'.sf, c'.sx, c'.sy, c'.su, c'.sv) ∧ m_X12_passE (nI W) (nI H) other sz r.told r.saves at_ r.points r.begun r.lines wd r.cut r.both r.px r.py r.begins r.startX r.startY r.startPoint r.lastX r.lastY r.saved 10 = some (o1, sz1, r1.told, r1.saves, upd at_ 1 0, r1.points, r1.begun, r1.lines, wd1, r1.cut, r1.both, r1.px, r1.py, r1.begins, r1.startX, r1.startY, r1.startPoint, r1.lastX, r1.lastY, r1.saved) ∧ m_X12_passE (nI W) (nI H) o1 sz1 r1.told r1.saves (upd at_ 1 0) r1.points r1.begun r1.lines wd1 r1.cut r1.both r1.px r1.py r1.begins r1.startX r1.startY r1.startPoint r1.lastX r1.lastY r1.saved 11 = some (other', sz', r'.told, r'.saves, upd (upd at_ 1 0) 1 0, r'.points, r'.begun, r'.lines, wd', r'.cut, r'.both, r'.px, r'.py, r'.begins, r'.startX, r'.startY, r'.startPoint, r'.lastX, r'.lastY, r'.saved) ∧ PQ n wd sz at_ r other n' row' wd' sz' (upd (upd at_ 1 0) 1 0) r' other' := by
  obtain ⟨t, g1, g2, g3⟩ := bp2 hW1 hH1 c r sz at_
  obtain ⟨lf, hl⟩ := lf_ok hn hv
  have hP := pi_0 hn hv hw hs g2
  obtain ⟨m, nl1, np1, c1, r1, M, wd1, sz1, b2, b3, b4, -, -, b5⟩ := lockE1 hW hH 1500 FU 0 0 0 0 0 (c.fresh W H) (rb0 t r) row wd (upd sz 2 0) (by omega) (by rw [FU_s]; omega) hP
  obtain ⟨o1, sz2, wd2, e1, p1, p2, p3, p4, p5, p6, p7, p8, p9, p10⟩ := ep_ok b3 hb (at_ := at_) (g3.tr b4)
  obtain ⟨t2, g4, g5, g6⟩ := bp2 hW1 hH1 c r1 sz2 (upd at_ 1 0)
  have hJ : PJ W H n m row M wd2 sz2 0 0 0 0 0 0 (c.fresh W H) (rb0 t2 r1) row wd2 (upd sz2 2 0) := ⟨hn, p1, by omega, by omega, by omega, by omega, fun _ _ _ => rfl, p3, fun j hj => by omega, fun _ _ => rfl, pk_un (by omega), (pk_un (by omega)).trans p4, pk_us, fun _ j hj => by omega, hv, p2, PV.zero row, g5, by omega⟩
  obtain ⟨k', nl', np', c', r', row', wd', sz', d1, d2, d3, d4⟩ := lockE2 hW hH lf 0 s 1501 FU FU 0 0 0 0 0 0 (c.fresh W H) (rb0 t2 r1) row wd2 (upd sz2 2 0) _ _ b5 (by rw [FU_s]; omega) (by rw [FU_s]; omega) hJ rfl (fun i hi => by omega)
  have hk' := d3.hk
  obtain ⟨ov, g, f1, f2, f3, f4, f5⟩ := endPass_ok (wd := wd') (by omega) (show m ≤ 1500 by omega) d3.s1 d3.s2 (fun ek j hj => by rw [d3.same ek j hj, d3.inp j (by omega)]) p7
  refine ⟨k', c', r1, r', row', wd2, g, sz2, _, lf, _, _, o1, ov, gth_ok hn (by omega) hl (fun K => d1 K), ?_, ?_, by omega, d3.vout.fin (by omega), fun j hj => (f2 j hj).trans (d3.out j hj).symm, pk_us, ((pk_un (by omega)).trans d3.s0).trans p5, fun j hj => ((f3 j (Or.inl hj)).trans (d3.low j hj)).trans (p6 j hj), f4, ?_, (g3.tr b4).tr (g6.tr d4), fun k hk => (pk_un hk).trans (pk_un hk)⟩
  · unfold m_X12_passE
    refine (congrArg (fun z => bd7 z _) g1).trans ?_
    rw [bd7_s, jn_s]
    refine (b2 _).trans ?_
    rw [e1, bd3_s]
  · unfold m_X12_passE
    refine (congrArg (fun z => bd7 z _) g4).trans ?_
    rw [bd7_s, jn_s]
    refine (d2 _).trans ?_
    rw [f1, bd3_s]
  · rw [f5, p8]
    exact ⟨fun ⟨⟨z1, z2⟩, z3⟩ => ⟨z1, by omega⟩, fun ⟨z1, z2⟩ => ⟨⟨z1, by omega⟩, by omega⟩⟩
