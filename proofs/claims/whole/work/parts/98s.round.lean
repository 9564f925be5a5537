theorem PQ.tr {n n1 n2 : Nat} {wd sz at_ row1 wd1 sz1 at1 row2 wd2 sz2 at2 : Nat → Int32} {r r1 r2 : RF} {o o1 o2 : Int32} (h : PQ n wd sz at_ r o n1 row1 wd1 sz1 at1 r1 o1) (h' : PQ n1 wd1 sz1 at1 r1 o1 n2 row2 wd2 sz2 at2 r2 o2) : PQ n wd sz at_ r o n2 row2 wd2 sz2 at2 r2 o2 := by
  obtain ⟨a1, a2, a3, a4, a5, a6, a7, a8, a9, a10⟩ := h
  obtain ⟨b1, b2, b3, b4, b5, b6, b7, b8, b9, b10⟩ := h'
  refine ⟨by omega, b2, b3, b4, b5.trans a5, fun j hj => (b6 j hj).trans (a6 j hj), b7, ?_, a9.tr b9, fun k hk => (b10 k hk).trans (a10 k hk)⟩
  rw [b8, a8]
  exact ⟨fun ⟨⟨z1, z2⟩, z3⟩ => ⟨z1, by omega⟩, fun ⟨z1, z2⟩ => ⟨⟨z1, by omega⟩, by omega⟩⟩
theorem sh_step {W H n n' i fu : Nat} {K : Int32 → Int32 → Int32 → Int32 → Int32 → Int32 → Int32 → Int32 → Int32 → Int32 → Int32 → Int32 → Int32 → Int32 → Int32 → Int32 → Int32 → Int32 → Int32 → Int32 → Int32 → Int32 → Int32 → Int32 → Int32 → Int32 → Int32 → Int32 → (Nat → Int32) → Int32 → Int32 → Int32 → Int32 → Int32 → Int32 → Int32 → Int32 → Int32 → Int32 → Int32 → Int32 → Int32 → Int32 → Int32 → Int32 → Int32 → Int32 → Int32 → Int32 → Int32 → Int32 → (Nat → Int32) → (Nat → Int32) → (Nat → Int32) → (Nat → Int32) → (Nat → Int32) → (Nat → Int32) → (Nat → Int32) → (Nat → Int32) → (Nat → Int32) → (Nat → Int32) → (Nat → Int32) → (Nat → Int32) → (Nat → Int32) → (Nat → Int32) → (Nat → Int32) → Option (Int32 × Int32 × Int32 × Int32 × Int32 × Int32 × Int32 × Int32 × Int32 × Int32 × Int32 × Int32 × Int32 × Int32 × Int32 × Int32 × Int32 × Int32 × Int32 × Int32 × Int32 × Int32 × Int32 × Int32 × Int32 × Int32 × Int32 × Int32 × (Nat → Int32) × Int32 × Int32 × Int32 × Int32 × Int32 × Int32 × Int32 × Int32 × Int32 × Int32 × Int32 × Int32 × Int32 × Int32 × Int32 × Int32 × Int32 × Int32 × Int32 × Int32 × Int32 × Int32 × (Nat → Int32) × (Nat → Int32) × (Nat → Int32) × (Nat → Int32) × (Nat → Int32) × (Nat → Int32) × (Nat → Int32) × (Nat → Int32) × (Nat → Int32) × (Nat → Int32) × (Nat → Int32) × (Nat → Int32) × (Nat → Int32) × (Nat → Int32) × (Nat → Int32))} (hi : i ≤ 8) {lf ob ja pl lf' ob' ja' pl' : Int32} {c c' : CM} {s s' : SX} {row row' : Nat → Int32} (h : m_X8_goThrough lf ob ja c.opn pl c.col c.way c.a c.b c.c c.d c.e c.f (nI W) (nI H) c.x c.y c.u c.v c.pts c.lns c.fst c.ftx c.fty c.ltx c.lty c.lx c.ly c.gy (nI n) row s.ta s.tb s.tc s.td s.te s.tf s.xa s.xb s.xc s.xd s.xe s.xf s.cx s.cy s.cu s.cv c.na c.nb c.nc c.nd c.ne c.nf c.xs c.ys c.bg c.sc c.sw c.sa c.sb c.sC c.sd c.se c.sf c.sx c.sy c.su c.sv (nI i) = some (lf', ob', ja', c'.opn, pl', c'.col, c'.way, c'.a, c'.b, c'.c, c'.d, c'.e, c'.f, c'.x, c'.y, c'.u, c'.v, c'.pts, c'.lns, c'.fst, c'.ftx, c'.fty, c'.ltx, c'.lty, c'.lx, c'.ly, c'.gy, nI n', row', s'.ta, s'.tb, s'.tc, s'.td, s'.te, s'.tf, s'.xa, s'.xb, s'.xc, s'.xd, s'.xe, s'.xf, s'.cx, s'.cy, s'.cu, s'.cv, c'.na, c'.nb, c'.nc, c'.nd, c'.ne, c'.nf, c'.xs, c'.ys, c'.bg, c'.sc, c'.sw, c'.sa, c'.sb, c'.sC, c'.sd, c'.se, c'.sf, c'.sx, c'.sy, c'.su, c'.sv)) : lp_X8_shorten_26 K (nI W) (nI H) (fu + 1) (nI i) lf ob ja (nI n) c.opn pl c.col c.way c.a c.b c.c c.d c.e c.f c.x c.y c.u c.v c.pts c.lns c.fst c.ftx c.fty c.ltx c.lty c.lx c.ly c.gy row s.ta s.tb s.tc s.td s.te s.tf s.xa s.xb s.xc s.xd s.xe s.xf s.cx s.cy s.cu s.cv c.na c.nb c.nc c.nd c.ne c.nf c.xs c.ys c.bg c.sc c.sw c.sa c.sb c.sC c.sd c.se c.sf c.sx c.sy c.su c.sv = lp_X8_shorten_26 K (nI W) (nI H) fu (nI (i + 1)) lf' ob' ja' (nI n') c'.opn pl' c'.col c'.way c'.a c'.b c'.c c'.d c'.e c'.f c'.x c'.y c'.u c'.v c'.pts c'.lns c'.fst c'.ftx c'.fty c'.ltx c'.lty c'.lx c'.ly c'.gy row' s'.ta s'.tb s'.tc s'.td s'.te s'.tf s'.xa s'.xb s'.xc s'.xd s'.xe s'.xf s'.cx s'.cy s'.cu s'.cv c'.na c'.nb c'.nc c'.nd c'.ne c'.nf c'.xs c'.ys c'.bg c'.sc c'.sw c'.sa c'.sb c'.sC c'.sd c'.se c'.sf c'.sx c'.sy c'.su c'.sv := by
  rw [lp_X8_shorten_26, if_neg (show ¬ (8 : Int32) < nI i from nI_nlt (b := i) (a := 8) (by omega) (by decide)), h, bd66_s, nm_s, nI_1]
theorem round_ok {W H n : Nat} (hW1 : 1 ≤ W) (hW : W ≤ 32) (hH1 : 1 ≤ H) (hH : H ≤ 32) (hn : n ≤ 1500) {row wd sz : Nat → Int32} (hv : VL row n 0 0 0 false) (hw : ∀ j, j < n → wd (1500 + j) = row j) (hs : sz 1 = nI n) (c : CM) (s : SX) (r : RF) (at_ : Nat → Int32) (lf ob ja pl : Int32) : ∃ (n' : Nat) (c' : CM) (s' : SX) (r' : RF) (row' wd' sz' at' : Nat → Int32) (lf' ob' ja' other' : Int32), (∀ K : Int32 → Int32 → Int32 → Int32 → Int32 → Int32 → Int32 → Int32 → Int32 → Int32 → Int32 → Int32 → Int32 → Int32 → Int32 → Int32 → Int32 → Int32 → Int32 → Int32 → Int32 → Int32 → Int32 → Int32 → Int32 → Int32 → Int32 → Int32 → (Nat → Int32) → Int32 → Int32 → Int32 → Int32 → Int32 → Int32 → Int32 → Int32 → Int32 → Int32 → Int32 → Int32 → Int32 → Int32 → Int32 → Int32 → Int32 → Int32 → Int32 → Int32 → Int32 → Int32 → (Nat → Int32) → (Nat → Int32) → (Nat → Int32) → (Nat → Int32) → (Nat → Int32) → (Nat → Int32) → (Nat → Int32) → (Nat → Int32) → (Nat → Int32) → (Nat → Int32) → (Nat → Int32) → (Nat → Int32) → (Nat → Int32) → (Nat → Int32) → (Nat → Int32) → Option (Int32 × Int32 × Int32 × Int32 × Int32 × Int32 × Int32 × Int32 × Int32 × Int32 × Int32 × Int32 × Int32 × Int32 × Int32 × Int32 × Int32 × Int32 × Int32 × Int32 × Int32 × Int32 × Int32 × Int32 × Int32 × Int32 × Int32 × Int32 × (Nat → Int32) × Int32 × Int32 × Int32 × Int32 × Int32 × Int32 × Int32 × Int32 × Int32 × Int32 × Int32 × Int32 × Int32 × Int32 × Int32 × Int32 × Int32 × Int32 × Int32 × Int32 × Int32 × Int32 × (Nat → Int32) × (Nat → Int32) × (Nat → Int32) × (Nat → Int32) × (Nat → Int32) × (Nat → Int32) × (Nat → Int32) × (Nat → Int32) × (Nat → Int32) × (Nat → Int32) × (Nat → Int32) × (Nat → Int32) × (Nat → Int32) × (Nat → Int32) × (Nat → Int32)), lp_X8_shorten_26 K (nI W) (nI H) FU 0 lf ob ja (nI n) c.opn pl c.col c.way c.a c.b c.c c.d c.e c.f c.x c.y c.u c.v c.pts c.lns c.fst c.ftx c.fty c.ltx c.lty c.lx c.ly c.gy row s.ta s.tb s.tc s.td s.te s.tf s.xa s.xb s.xc s.xd s.xe s.xf s.cx s.cy s.cu s.cv c.na c.nb c.nc c.nd c.ne c.nf c.xs c.ys c.bg c.sc c.sw c.sa c.sb c.sC c.sd c.se c.sf c.sx c.sy c.su c.sv = K lf' ob' ja' (nI n') c'.opn 0 c'.col c'.way c'.a c'.b c'.c c'.d c'.e c'.f c'.x c'.y c'.u c'.v c'.pts c'.lns c'.fst c'.ftx c'.fty c'.ltx c'.lty c'.lx c'.ly c'.gy row' s'.ta s'.tb s'.tc s'.td s'.te s'.tf s'.xa s'.xb s'.xc s'.xd s'.xe s'.xf s'.cx s'.cy s'.cu s'.cv c'.na c'.nb c'.nc c'.nd c'.ne c'.nf c'.xs c'.ys c'.bg c'.sc c'.sw c'.sa c'.sb c'.sC c'.sd c'.se c'.sf c'.sx c'.sy c'.su c'.sv) ∧ (∀ (K : Int32 → (Nat → Int32) → (Nat → Int32) → (Nat → Int32) → (Nat → Int32) → (Nat → Int32) → (Nat → Int32) → (Nat → Int32) → (Nat → Int32) → (Nat → Int32) → (Nat → Int32) → (Nat → Int32) → (Nat → Int32) → (Nat → Int32) → (Nat → Int32) → (Nat → Int32) → (Nat → Int32) → (Nat → Int32) → (Nat → Int32) → (Nat → Int32) → Option (Int32 × Int32 × Int32 × (Nat → Int32) × (Nat → Int32) × (Nat → Int32) × (Nat → Int32) × (Nat → Int32) × (Nat → Int32) × (Nat → Int32) × (Nat → Int32) × (Nat → Int32) × (Nat → Int32) × (Nat → Int32) × (Nat → Int32) × (Nat → Int32) × (Nat → Int32) × (Nat → Int32) × (Nat → Int32) × (Nat → Int32) × (Nat → Int32) × (Nat → Int32))) (gu : Nat), lp_X12_optimise_61 K (nI W) (nI H) (gu + 1) 1 sz wd r.told r.saves at_ r.points r.begun r.lines r.px r.py r.cut r.both r.begins r.startX r.startY r.startPoint r.lastX r.lastY r.saved = lp_X12_optimise_61 K (nI W) (nI H) gu other' sz' wd' r'.told r'.saves at' r'.points r'.begun r'.lines r'.px r'.py r'.cut r'.both r'.begins r'.startX r'.startY r'.startPoint r'.lastX r'.lastY r'.saved) ∧ PQ n wd sz at_ r 0 n' row' wd' sz' at' r' other' := by
  have z0 : zb (0 : Int32) := Or.inl rfl
  obtain ⟨nA, cA, rowA, wdA, szA, tA, lfA, obA, jaA, oA, gA, fA, pA⟩ := ok_A hW1 hW hH1 hH hn hv hw hs c s r at_ lf ob ja pl z0
  have hnA : nA ≤ 1500 := by have := pA.1; omega
  obtain ⟨nB, cB, sB, rB, rowB, wdB, szB, lfB, obB, jaB, oB, gB, fB, pB⟩ := ok_B hW1 hW hH1 hH hnA pA.2.1 pA.2.2.1 pA.2.2.2.1 cA s (rb0 tA r) (upd at_ 1 0) lfA obA jaA 0 pA.2.2.2.2.2.2.1
  have hnB : nB ≤ 1500 := by have := pB.1; omega
  obtain ⟨nC, cC, rowC, wdC, szC, tC, lfC, obC, jaC, oC, gC, fC, pC⟩ := ok_C hW1 hW hH1 hH hnB pB.2.1 pB.2.2.1 pB.2.2.2.1 cB sB rB (upd (upd at_ 1 0) 1 0) lfB obB jaB 0 pB.2.2.2.2.2.2.1
  have hnC : nC ≤ 1500 := by have := pC.1; omega
  obtain ⟨nD, cD, rowD, wdD, szD, tD, lfD, obD, jaD, oD, gD, fD, pD⟩ := ok_D hW1 hW hH1 hH hnC pC.2.1 pC.2.2.1 pC.2.2.2.1 cC sB (rb0 tC rB) (upd (upd (upd at_ 1 0) 1 0) 1 0) lfC obC jaC 0 pC.2.2.2.2.2.2.1
  have hnD : nD ≤ 1500 := by have := pD.1; omega
  obtain ⟨nE, cE, rE1, rE, rowE, wdE1, wdE, szE1, szE, lfE, obE, jaE, oE1, oE, gE, fE1, fE, pE⟩ := ok_E hW1 hW hH1 hH hnD pD.2.1 pD.2.2.1 pD.2.2.2.1 cD sB (rb0 tD (rb0 tC rB)) (upd (upd (upd (upd at_ 1 0) 1 0) 1 0) 1 0) lfD obD jaD 0 pD.2.2.2.2.2.2.1
  have hnE : nE ≤ 1500 := by have := pE.1; omega
  obtain ⟨nF, cF, sF, rF, rowF, wdF, szF, lfF, obF, jaF, oF, gF, fF, pF⟩ := ok_F hW1 hW hH1 hH hnE pE.2.1 pE.2.2.1 pE.2.2.2.1 cE sB rE (upd (upd (upd (upd (upd (upd at_ 1 0) 1 0) 1 0) 1 0) 1 0) 1 0) lfE obE jaE 0 pE.2.2.2.2.2.2.1
  have hnF : nF ≤ 1500 := by have := pF.1; omega
  obtain ⟨nG, cG, sG, rG, rowG, wdG, szG, lfG, obG, jaG, oG, gG, fG, pG⟩ := ok_G hW1 hW hH1 hH hnF pF.2.1 pF.2.2.1 pF.2.2.2.1 cF sF rF (upd (upd (upd (upd (upd (upd (upd at_ 1 0) 1 0) 1 0) 1 0) 1 0) 1 0) 1 0) lfF obF jaF 0 pF.2.2.2.2.2.2.1
  have hnG : nG ≤ 1500 := by have := pG.1; omega
  obtain ⟨nH, cH, rowH, wdH, szH, tH, lfH, obH, jaH, oH, gH, fH, pH⟩ := ok_H hW1 hW hH1 hH hnG pG.2.1 pG.2.2.1 pG.2.2.2.1 cG sG rG (upd (upd (upd (upd (upd (upd (upd (upd at_ 1 0) 1 0) 1 0) 1 0) 1 0) 1 0) 1 0) 1 0) lfG obG jaG 0 pG.2.2.2.2.2.2.1
  have hnH : nH ≤ 1500 := by have := pH.1; omega
  obtain ⟨nI', cI', rowI, wdI, szI, tI, lfI, obI, jaI, oI, gI, fI, pI⟩ := ok_I hW1 hW hH1 hH hnH pH.2.1 pH.2.2.1 pH.2.2.2.1 cH sG (rb0 tH rG) (upd (upd (upd (upd (upd (upd (upd (upd (upd at_ 1 0) 1 0) 1 0) 1 0) 1 0) 1 0) 1 0) 1 0) 1 0) lfH obH jaH 0 pH.2.2.2.2.2.2.1
  refine ⟨nI', cI', sG, rb0 tI (rb0 tH rG), rowI, wdI, szI, _, lfI, obI, jaI, oI, fun K => ?_, fun K gu => ?_, (((((((pA.tr pB).tr pC).tr pD).tr pE).tr pF).tr pG).tr pH).tr pI⟩
  · obtain ⟨N, hN⟩ : ∃ N : Nat, FU = N + 1 + 1 + 1 + 1 + 1 + 1 + 1 + 1 + 1 + 1 := ⟨999990, rfl⟩
    rw [hN]
    refine (sh_step (i := 0) (by omega) gA).trans ?_
    refine (sh_step (i := 0 + 1) (by omega) gB).trans ?_
    refine (sh_step (i := 0 + 1 + 1) (by omega) gC).trans ?_
    refine (sh_step (i := 0 + 1 + 1 + 1) (by omega) gD).trans ?_
    refine (sh_step (i := 0 + 1 + 1 + 1 + 1) (by omega) gE).trans ?_
    refine (sh_step (i := 0 + 1 + 1 + 1 + 1 + 1) (by omega) gF).trans ?_
    refine (sh_step (i := 0 + 1 + 1 + 1 + 1 + 1 + 1) (by omega) gG).trans ?_
    refine (sh_step (i := 0 + 1 + 1 + 1 + 1 + 1 + 1 + 1) (by omega) gH).trans ?_
    refine (sh_step (i := 0 + 1 + 1 + 1 + 1 + 1 + 1 + 1 + 1) (by omega) gI).trans ?_
    rw [lp_X8_shorten_26, if_pos (by decide)]
  · rw [lp_X12_optimise_61, if_neg (by decide)]
    refine (congrArg (fun z => bd9 z _) fA).trans ?_
    rw [bd9_s]
    refine (congrArg (fun z => bd20 z _) fB).trans ?_
    rw [bd20_s]
    refine (congrArg (fun z => bd9 z _) fC).trans ?_
    rw [bd9_s]
    refine (congrArg (fun z => bd9 z _) fD).trans ?_
    rw [bd9_s]
    refine (congrArg (fun z => bd20 z _) fE1).trans ?_
    rw [bd20_s]
    refine (congrArg (fun z => bd20 z _) fE).trans ?_
    rw [bd20_s]
    refine (congrArg (fun z => bd20 z _) fF).trans ?_
    rw [bd20_s]
    refine (congrArg (fun z => bd20 z _) fG).trans ?_
    rw [bd20_s]
    refine (congrArg (fun z => bd9 z _) fH).trans ?_
    rw [bd9_s]
    refine (congrArg (fun z => bd9 z _) fI).trans ?_
    rw [bd9_s]
def PS (n : Nat) (wd sz at_ : Nat → Int32) (r : RF) (n' : Nat) (row' wd' sz' at' : Nat → Int32) (r' : RF) : Prop := n' ≤ n ∧ VL row' n' 0 0 0 false ∧ (∀ j, j < n' → wd' (1500 + j) = row' j) ∧ sz' 1 = nI n' ∧ sz' 0 = sz 0 ∧ (∀ j, j < 1500 → wd' j = wd j) ∧ RFr 1 r r' ∧ (∀ k, k ≠ 1 → at' k = at_ k)
theorem opt_loop {W H : Nat} (hW1 : 1 ≤ W) (hW : W ≤ 32) (hH1 : 1 ≤ H) (hH : H ≤ 32) : ∀ (N fu gu rd n : Nat) (row wd sz at_ : Nat → Int32) (c : CM) (s : SX) (r : RF) (lf ob ja pl : Int32), n ≤ N → N + 1 < fu → N + 1 < gu → rd + n ≤ 1500 → VL row n 0 0 0 false → (∀ j, j < n → wd (1500 + j) = row j) → sz 1 = nI n → ∃ (n' : Nat) (c' : CM) (s' : SX) (r' : RF) (row' wd' sz' at' : Nat → Int32) (lf' ob' ja' : Int32), lp_X8_shorten_4 (nI W) (nI H) fu 1 (nI rd) lf ob ja (nI n) c.opn pl c.col c.way c.a c.b c.c c.d c.e c.f c.x c.y c.u c.v c.pts c.lns c.fst c.ftx c.fty c.ltx c.lty c.lx c.ly c.gy row s.ta s.tb s.tc s.td s.te s.tf s.xa s.xb s.xc s.xd s.xe s.xf s.cx s.cy s.cu s.cv c.na c.nb c.nc c.nd c.ne c.nf c.xs c.ys c.bg c.sc c.sw c.sa c.sb c.sC c.sd c.se c.sf c.sx c.sy c.su c.sv = some (lf', ob', ja', nI n', c'.opn, 0, c'.col, c'.way, c'.a, c'.b, c'.c, c'.d, c'.e, c'.f, c'.x, c'.y, c'.u, c'.v, c'.pts, c'.lns, c'.fst, c'.ftx, c'.fty, c'.ltx, c'.lty, c'.lx, c'.ly, c'.gy, row', s'.ta, s'.tb, s'.tc, s'.td, s'.te, s'.tf, s'.xa, s'.xb, s'.xc, s'.xd, s'.xe, s'.xf, s'.cx, s'.cy, s'.cu, s'.cv, c'.na, c'.nb, c'.nc, c'.nd, c'.ne, c'.nf, c'.xs, c'.ys, c'.bg, c'.sc, c'.sw, c'.sa, c'.sb, c'.sC, c'.sd, c'.se, c'.sf, c'.sx, c'.sy, c'.su, c'.sv) ∧ (∀ K : Int32 → (Nat → Int32) → (Nat → Int32) → (Nat → Int32) → (Nat → Int32) → (Nat → Int32) → (Nat → Int32) → (Nat → Int32) → (Nat → Int32) → (Nat → Int32) → (Nat → Int32) → (Nat → Int32) → (Nat → Int32) → (Nat → Int32) → (Nat → Int32) → (Nat → Int32) → (Nat → Int32) → (Nat → Int32) → (Nat → Int32) → (Nat → Int32) → Option (Int32 × Int32 × Int32 × (Nat → Int32) × (Nat → Int32) × (Nat → Int32) × (Nat → Int32) × (Nat → Int32) × (Nat → Int32) × (Nat → Int32) × (Nat → Int32) × (Nat → Int32) × (Nat → Int32) × (Nat → Int32) × (Nat → Int32) × (Nat → Int32) × (Nat → Int32) × (Nat → Int32) × (Nat → Int32) × (Nat → Int32) × (Nat → Int32) × (Nat → Int32)), lp_X12_optimise_61 K (nI W) (nI H) gu 1 sz wd r.told r.saves at_ r.points r.begun r.lines r.px r.py r.cut r.both r.begins r.startX r.startY r.startPoint r.lastX r.lastY r.saved = K 0 sz' wd' r'.told r'.saves at' r'.points r'.begun r'.lines r'.px r'.py r'.cut r'.both r'.begins r'.startX r'.startY r'.startPoint r'.lastX r'.lastY r'.saved) ∧ PS n wd sz at_ r n' row' wd' sz' at' r' := by
  intro N
  induction N with
  | zero =>
    intro fu gu rd n row wd sz at_ c s r lf ob ja pl h1 h2 h3 h4 hv hw hs
    obtain ⟨fu, rfl⟩ : ∃ j, fu = j + 1 + 1 := ⟨fu - 2, by omega⟩
    obtain ⟨gu, rfl⟩ : ∃ j, gu = j + 1 + 1 := ⟨gu - 2, by omega⟩
    obtain ⟨n', c', s', r', row', wd', sz', at', lf', ob', ja', other', a1, a2, p1, p2, p3, p4, p5, p6, p7, p8, p9, p10⟩ := round_ok hW1 hW hH1 hH (by omega) hv hw hs c s r at_ lf ob ja pl
    have ho : other' = 0 := p8.mpr ⟨rfl, by omega⟩
    refine ⟨n', c', s', r', row', wd', sz', at', lf', ob', ja', ?_, fun K => ?_, p1, p2, p3, p4, p5, p6, p9, p10⟩
    · rw [lp_X8_shorten_4, if_neg (by decide), if_neg (show ¬ (1500 : Int32) < nI rd from nI_nlt (b := rd) (a := 1500) (by omega) (by decide)), jn_s]
      refine (a1 _).trans ?_
      show jn _ _ = _
      rw [jn_ite, if_pos (nI_le (by omega) (by omega)), nm_s, lp_X8_shorten_4, if_pos rfl]
    · rw [a2 K, ho, lp_X12_optimise_61, if_pos rfl]
  | succ N ih =>
    intro fu gu rd n row wd sz at_ c s r lf ob ja pl h1 h2 h3 h4 hv hw hs
    obtain ⟨fu, rfl⟩ : ∃ j, fu = j + 1 + 1 := ⟨fu - 2, by omega⟩
    obtain ⟨gu, rfl⟩ : ∃ j, gu = j + 1 + 1 := ⟨gu - 2, by omega⟩
    obtain ⟨n', c', s', r', row', wd', sz', at', lf', ob', ja', other', a1, a2, p1, p2, p3, p4, p5, p6, p7, p8, p9, p10⟩ := round_ok hW1 hW hH1 hH (by omega) hv hw hs c s r at_ lf ob ja pl
    by_cases hnn : n' = n
    · have ho : other' = 0 := p8.mpr ⟨rfl, hnn⟩
      refine ⟨n', c', s', r', row', wd', sz', at', lf', ob', ja', ?_, fun K => ?_, p1, p2, p3, p4, p5, p6, p9, p10⟩
      · rw [lp_X8_shorten_4, if_neg (by decide), if_neg (show ¬ (1500 : Int32) < nI rd from nI_nlt (b := rd) (a := 1500) (by omega) (by decide)), jn_s]
        refine (a1 _).trans ?_
        show jn _ _ = _
        rw [jn_ite, if_pos (nI_le (by omega) (by omega)), nm_s, lp_X8_shorten_4, if_pos rfl]
      · rw [a2 K, ho, lp_X12_optimise_61, if_pos rfl]
    · have ho : other' = 1 := p7.resolve_left (fun z => hnn (p8.mp z).2)
      obtain ⟨n2, c2, s2, r2, row2, wd2, sz2, at2, lf2, ob2, ja2, b1, b2, q1, q2, q3, q4, q5, q6, q7, q8⟩ := ih (fu + 1) (gu + 1) (rd + 1) n' row' wd' sz' at' c' s' r' lf' ob' ja' 0 (by omega) (by omega) (by omega) (by omega) p2 p3 p4
      refine ⟨n2, c2, s2, r2, row2, wd2, sz2, at2, lf2, ob2, ja2, ?_, fun K => ?_, by omega, q2, q3, q4, q5.trans p5, fun j hj => (q6 j hj).trans (p6 j hj), p9.tr q7, fun k hk => (q8 k hk).trans (p10 k hk)⟩
      · rw [lp_X8_shorten_4, if_neg (by decide), if_neg (show ¬ (1500 : Int32) < nI rd from nI_nlt (b := rd) (a := 1500) (by omega) (by decide)), jn_s]
        refine (a1 _).trans ?_
        show jn _ _ = _
        rw [jn_ite, if_neg (nI_ge (by omega) (by omega)), nm_s, nI_1]
        exact b1
      · rw [a2 K, ho]
        exact b2 K
