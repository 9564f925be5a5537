def PQ (n : Nat) (wd sz at_ : Nat → Int32) (r : RF) (other : Int32) (n' : Nat) (row' wd' sz' at' : Nat → Int32) (r' : RF) (other' : Int32) : Prop := n' ≤ n ∧ VL row' n' 0 0 0 false ∧ (∀ j, j < n' → wd' (1500 + j) = row' j) ∧ sz' 1 = nI n' ∧ sz' 0 = sz 0 ∧ (∀ j, j < 1500 → wd' j = wd j) ∧ zb other' ∧ (other' = 0 ↔ other = 0 ∧ n' = n) ∧ RFr 1 r r' ∧ (∀ k, k ≠ 1 → at' k = at_ k)
theorem gth_ok {W H n k : Nat} (hn : n ≤ 1500) (hk : k ≤ n) {lf0 lf ob ja ob' ja' pl rule : Int32} {c c' : CM} {row row' : Nat → Int32} {s s' : SX} (hl : m_X10_lastFill (nI n) row = some lf) (h : ∀ K : Int32 → Int32 → Int32 → Int32 → Int32 → Int32 → Int32 → Int32 → Int32 → Int32 → Int32 → Int32 → Int32 → Int32 → Int32 → Int32 → Int32 → Int32 → Int32 → Int32 → Int32 → Int32 → Int32 → Int32 → Int32 → Int32 → (Nat → Int32) → Int32 → Int32 → Int32 → Int32 → Int32 → Int32 → Int32 → Int32 → Int32 → Int32 → Int32 → Int32 → Int32 → Int32 → Int32 → Int32 → Int32 → Int32 → Int32 → Int32 → Int32 → Int32 → (Nat → Int32) → (Nat → Int32) → (Nat → Int32) → (Nat → Int32) → (Nat → Int32) → (Nat → Int32) → (Nat → Int32) → (Nat → Int32) → (Nat → Int32) → (Nat → Int32) → (Nat → Int32) → (Nat → Int32) → (Nat → Int32) → (Nat → Int32) → (Nat → Int32) → Option (Int32 × Int32 × Int32 × Int32 × Int32 × Int32 × Int32 × Int32 × Int32 × Int32 × Int32 × Int32 × Int32 × Int32 × Int32 × Int32 × Int32 × Int32 × Int32 × Int32 × Int32 × Int32 × Int32 × Int32 × Int32 × Int32 × Int32 × Int32 × (Nat → Int32) × Int32 × Int32 × Int32 × Int32 × Int32 × Int32 × Int32 × Int32 × Int32 × Int32 × Int32 × Int32 × Int32 × Int32 × Int32 × Int32 × Int32 × Int32 × Int32 × Int32 × Int32 × Int32 × (Nat → Int32) × (Nat → Int32) × (Nat → Int32) × (Nat → Int32) × (Nat → Int32) × (Nat → Int32) × (Nat → Int32) × (Nat → Int32) × (Nat → Int32) × (Nat → Int32) × (Nat → Int32) × (Nat → Int32) × (Nat → Int32) × (Nat → Int32) × (Nat → Int32)), lp_X8_goThrough_33 (nI n) K lf rule FU 0 0 0 (-1) (c.fresh W H).opn (c.fresh W H).col (c.fresh W H).way (c.fresh W H).a (c.fresh W H).b (c.fresh W H).c (c.fresh W H).d (c.fresh W H).e (c.fresh W H).f (c.fresh W H).x (c.fresh W H).y (c.fresh W H).u (c.fresh W H).v (c.fresh W H).pts (c.fresh W H).lns (c.fresh W H).fst (c.fresh W H).ftx (c.fresh W H).fty (c.fresh W H).ltx (c.fresh W H).lty (c.fresh W H).lx (c.fresh W H).ly (c.fresh W H).gy row s.ta s.tb s.tc s.td s.te s.tf s.xa s.xb s.xc s.xd s.xe s.xf s.cx s.cy s.cu s.cv (c.fresh W H).na (c.fresh W H).nb (c.fresh W H).nc (c.fresh W H).nd (c.fresh W H).ne (c.fresh W H).nf (c.fresh W H).xs (c.fresh W H).ys (c.fresh W H).bg (c.fresh W H).sc (c.fresh W H).sw (c.fresh W H).sa (c.fresh W H).sb (c.fresh W H).sC (c.fresh W H).sd (c.fresh W H).se (c.fresh W H).sf (c.fresh W H).sx (c.fresh W H).sy (c.fresh W H).su (c.fresh W H).sv = K (nI k) ob' ja' c'.opn c'.col c'.way c'.a c'.b c'.c c'.d c'.e c'.f c'.x c'.y c'.u c'.v c'.pts c'.lns c'.fst c'.ftx c'.fty c'.ltx c'.lty c'.lx c'.ly c'.gy row' s'.ta s'.tb s'.tc s'.td s'.te s'.tf s'.xa s'.xb s'.xc s'.xd s'.xe s'.xf s'.cx s'.cy s'.cu s'.cv c'.na c'.nb c'.nc c'.nd c'.ne c'.nf c'.xs c'.ys c'.bg c'.sc c'.sw c'.sa c'.sb c'.sC c'.sd c'.se c'.sf c'.sx c'.sy c'.su c'.sv) : m_X8_goThrough lf0 ob ja c.opn pl c.col c.way c.a c.b c.c c.d c.e c.f (nI W) (nI H) c.x c.y c.u c.v c.pts c.lns c.fst c.ftx c.fty c.ltx c.lty c.lx c.ly c.gy (nI n) row s.ta s.tb s.tc s.td s.te s.tf s.xa s.xb s.xc s.xd s.xe s.xf s.cx s.cy s.cu s.cv c.na c.nb c.nc c.nd c.ne c.nf c.xs c.ys c.bg c.sc c.sw c.sa c.sb c.sC c.sd c.se c.sf c.sx c.sy c.su c.sv rule = some (lf, ob', ja', c'.opn, 0, c'.col, c'.way, c'.a, c'.b, c'.c, c'.d, c'.e, c'.f, c'.x, c'.y, c'.u, c'.v, c'.pts, c'.lns, c'.fst, c'.ftx, c'.fty, c'.ltx, c'.lty, c'.lx, c'.ly, c'.gy, nI k, row', s'.ta, s'.tb, s'.tc, s'.td, s'.te, s'.tf, s'.xa, s'.xb, s'.xc, s'.xd, s'.xe, s'.xf, s'.cx, s'.cy, s'.cu, s'.cv, c'.na, c'.nb, c'.nc, c'.nd, c'.ne, c'.nf, c'.xs, c'.ys, c'.bg, c'.sc, c'.sw, c'.sa, c'.sb, c'.sC, c'.sd, c'.se, c'.sf, c'.sx, c'.sy, c'.su, c'.sv) := by
  unfold m_X8_goThrough m_X3_restart m_X6_becomeFirst m_X9_becomePlain m_X1_become m_X5_becomeEmpty
  rw [bd6_s, bd4_s, bd12_s, bd3_s, bd17_s, hl, bd1_s, jn_s]
  refine (h _).trans ?_
  rw [cutTo_ok hn hk, bd1_s]
theorem lf_loop {f : Nat → Int32} {n : Nat} (hn : n ≤ 1500) {sz wd : Nat → Int32} (hs : sz 1 = nI n) (hw : ∀ j, j < n → wd (1500 + j) = f j) : ∀ (N fu gu p : Nat) (acc rac : Int32), n ≤ p + N → N < fu → N < gu → p ≤ n → TL f n p → ((acc = -1 ∧ rac = -1) ∨ ∃ q : Nat, q < n ∧ acc = nI q ∧ rac = nI (1500 + q)) → ∃ lf last : Int32, lp_X10_lastFill_4 (nI n) f fu acc (nI p) = some lf ∧ (∀ K : Int32 → Option (Int32 × (Nat → Int32) × (Nat → Int32) × (Nat → Int32) × (Nat → Int32) × (Nat → Int32) × (Nat → Int32) × (Nat → Int32) × (Nat → Int32)), lp_X12_passA_6 sz K wd gu rac (nI (1500 + p)) = K last) ∧ ((lf = -1 ∧ last = -1) ∨ ∃ q : Nat, q < n ∧ lf = nI q ∧ last = nI (1500 + q)) := by
  intro N
  induction N with
  | zero =>
    intro fu gu p acc rac h1 h2 h3 h4 ht hr
    obtain ⟨fu, rfl⟩ : ∃ j, fu = j + 1 := ⟨fu - 1, by omega⟩
    obtain ⟨gu, rfl⟩ : ∃ j, gu = j + 1 := ⟨gu - 1, by omega⟩
    refine ⟨acc, rac, ?_, fun K => ?_, hr⟩
    · rw [lp_X10_lastFill_4, if_pos (nI_le (by omega) (by omega))]
    · rw [lp_X12_passA_6, endPlace_ok hs, bd1_s, if_pos (nI_le (by omega) (by omega))]
  | succ N ih =>
    intro fu gu p acc rac h1 h2 h3 h4 ht hr
    obtain ⟨fu, rfl⟩ : ∃ j, fu = j + 1 := ⟨fu - 1, by omega⟩
    obtain ⟨gu, rfl⟩ : ∃ j, gu = j + 1 := ⟨gu - 1, by omega⟩
    by_cases hp : p < n
    · obtain ⟨k1, k2, k3, k4⟩ := ht.step hn hp
      have hc := cl_ge (f p)
      have wp : wd (1500 + p) = f p := hw p hp
      obtain ⟨lf, last, e1, e2, e3⟩ := ih fu gu (p + cl (f p)) (if f p = 9 then nI p else acc) (if f p = 9 then nI (1500 + p) else rac) (by omega) (by omega) (by omega) k1 k4 (by
        by_cases z : f p = 9
        · rw [if_pos z, if_pos z]
          exact Or.inr ⟨p, hp, rfl, rfl⟩
        · rw [if_neg z, if_neg z]
          exact hr)
      refine ⟨lf, last, ?_, fun K => ?_, e3⟩
      · rw [lp_X10_lastFill_4, if_neg (nI_ge hp (by omega)), inb_s (show p < 1500 by omega) (by decide), gd_s, nm_s, nI_clamp (show p < 2 ^ 31 by omega), jn_ite, lenAt_ok hp hn, bd1_s, nm_s, nI_add]
        exact e1
      · rw [lp_X12_passA_6, endPlace_ok hs, bd1_s, if_neg (nI_ge (by omega) (by omega)), inb_s (show 1500 + p < 4500 by omega) (by decide), gd_s, nm_s, nI_clamp (show 1500 + p < 2 ^ 31 by omega), wp, jn_ite, behind_ok (by omega), wp, bd1_s, Nat.add_assoc]
        exact e2 K
    · refine ⟨acc, rac, ?_, fun K => ?_, hr⟩
      · rw [lp_X10_lastFill_4, if_pos (nI_le (by omega) (by omega))]
      · rw [lp_X12_passA_6, endPlace_ok hs, bd1_s, if_pos (nI_le (by omega) (by omega))]
theorem lf_ok {f : Nat → Int32} {n : Nat} (hn : n ≤ 1500) (hv : VL f n 0 0 0 false) : ∃ lf : Int32, m_X10_lastFill (nI n) f = some lf := by
  obtain ⟨lf, -, h, -⟩ := lf_loop hn (f := f) (sz := fun _ => nI n) (wd := fun j => f (j - 1500)) rfl (fun j hj => by show f (1500 + j - 1500) = f j; rw [Nat.add_sub_cancel_left]) 1500 FU FU 0 (-1) (-1) (by omega) (by rw [FU_s]; omega) (by rw [FU_s]; omega) (by omega) ⟨_, _, _, hv⟩ (Or.inl ⟨rfl, rfl⟩)
  exact ⟨lf, h⟩
theorem bp_ok {W H : Nat} (hW1 : 1 ≤ W) (hH1 : 1 ≤ H) (c : CM) (r : RF) (sz at_ : Nat → Int32) : ∃ r1 : RF, m_X12_beginPass (nI W) (nI H) sz r.told r.saves at_ r.points r.begun r.lines = some (upd sz 2 0, r1.told, r1.saves, upd at_ 1 0, r1.points, r1.begun, r1.lines) ∧ RM 1 W H 0 0 0 (c.fresh W H) r1 ∧ RFr 1 r r1 ∧ r1.cut = r.cut ∧ r1.both = r.both ∧ r1.px = r.px ∧ r1.py = r.py ∧ r1.begins = r.begins ∧ r1.startX = r.startX ∧ r1.startY = r.startY ∧ r1.startPoint = r.startPoint ∧ r1.lastX = r.lastX ∧ r1.lastY = r.lastY ∧ r1.saved = r.saved := by
  obtain ⟨t, h1, h2, h3⟩ := begin_RM (m := 1) (by omega) hW1 hH1 c r at_
  refine ⟨_, ?_, h2, h3, rfl, rfl, rfl, rfl, rfl, rfl, rfl, rfl, rfl, rfl, rfl⟩
  unfold m_X12_beginPass
  rw [inb_2_3, gd_s, nm_s, tn_2]
  refine (congrArg (fun z => bd6 z _) h1).trans ?_
  rw [bd6_s]
theorem pi_0 {W H n : Nat} (hn : n ≤ 1500) {row wd sz : Nat → Int32} (hv : VL row n 0 0 0 false) (hw : ∀ j, j < n → wd (1500 + j) = row j) (h1 : sz 1 = nI n) {c : CM} {r : RF} (hm : RM 1 W H 0 0 0 c r) : PI W H n row wd sz 0 0 0 0 false 0 0 0 c r row wd (upd sz 2 0) :=
  ⟨hn, by omega, by omega, fun _ _ _ => rfl, hw, fun j hj => by omega, fun _ _ => rfl, pk_un (by omega), (pk_un (by omega)).trans h1, pk_us, fun _ j hj => by omega, hv, PV.zero row, hm, by omega⟩
theorem ep_ok {W H n : Nat} {f wd0 sz0 : Nat → Int32} {k noi nli : Nat} {bi : Bool} {nlo np : Nat} {c : CM} {r : RF} {row wd sz : Nat → Int32} (h : PI W H n f wd0 sz0 n k noi nli bi 0 nlo np c r row wd sz) {other : Int32} (hb : zb other) {at_ : Nat → Int32} {r0 rr : RF} (hF : RFr 1 r0 rr) : ∃ (other' : Int32) (sz' wd' : Nat → Int32), m_X12_endPass other sz wd = some (other', sz', wd') ∧ PQ n wd0 sz0 at_ r0 other k row wd' sz' (upd at_ 1 0) rr other' := by
  have hn := h.hn
  have hk := h.hk
  obtain ⟨ov, g, e1, e2, e3, e4, e5⟩ := endPass_ok (wd := wd) (by omega) hn h.s1 h.s2 (fun ek j hj => by rw [h.same ek j hj, h.inp j (by omega)]) hb
  exact ⟨ov, _, g, e1, hk, h.vout.fin (by omega), fun j hj => (e2 j hj).trans (h.out j hj).symm, pk_us, (pk_un (by omega)).trans h.s0, fun j hj => (e3 j (Or.inl hj)).trans (h.low j hj), e4, e5, hF, fun k hk => pk_un hk⟩
