def VL (f : Nat → Int32) (n p no nl : Nat) (b : Bool) : Prop := (vr f n FU p no nl b).1 = 0 ∧ (vr f n FU p no nl b).2.2.1 = 0
theorem vr_fu {f : Nat → Int32} {n : Nat} : ∀ (fu gu p o k : Nat) (b : Bool), n < p + fu → n < p + gu → 0 < fu → 0 < gu → vr f n fu p o k b = vr f n gu p o k b
  | 0, _, _, _, _, _, _, _, h, _ => absurd h (by omega)
  | _ + 1, 0, _, _, _, _, _, _, _, h => absurd h (by omega)
  | fu + 1, gu + 1, p, o, k, b, h1, h2, _, _ => by
    by_cases hp : p < n
    · by_cases hw : fw f n p = 0
      · by_cases ho : (ord (f p) o k b).1 = 0
        · rw [vr_step hp hw ho, vr_step hp hw ho]
          have := cl_ge (f p)
          have := (fw_len hw).1
          exact vr_fu fu gu _ _ _ _ (by omega) (by omega) (by omega) (by omega)
        · rw [vr_ord hp hw ho, vr_ord hp hw ho]
      · rw [vr_word hp hw, vr_word hp hw]
    · rw [vr, vr, if_pos (by omega), if_pos (by omega)]
theorem FU_s : FU = 999999 + 1 := rfl
theorem VL.step {f : Nat → Int32} {n p no nl : Nat} {b : Bool} (hn : n ≤ 1500) (hp : p < n) (h : VL f n p no nl b) : fw f n p = 0 ∧ (ord (f p) no nl b).1 = 0 ∧ VL f n (p + cl (f p)) (ord (f p) no nl b).2.1 (ord (f p) no nl b).2.2.1 (ord (f p) no nl b).2.2.2 := by
  unfold VL at h
  rw [FU_s] at h
  by_cases hw : fw f n p = 0
  · by_cases ho : (ord (f p) no nl b).1 = 0
    · rw [vr_step hp hw ho] at h
      refine ⟨hw, ho, ?_⟩
      unfold VL
      rw [vr_fu FU 999999 _ _ _ _ (by rw [FU_s]; omega) (by omega) (by rw [FU_s]; omega) (by omega)]
      exact h
    · rw [vr_ord hp hw ho] at h
      exact absurd h.1 ho
  · rw [vr_word hp hw] at h
    exact absurd h.1 hw
theorem VL.mk' {f : Nat → Int32} {n p no nl : Nat} {b : Bool} (hn : n ≤ 1500) (hp : p < n) (hw : fw f n p = 0) (ho : (ord (f p) no nl b).1 = 0) (h : VL f n (p + cl (f p)) (ord (f p) no nl b).2.1 (ord (f p) no nl b).2.2.1 (ord (f p) no nl b).2.2.2) : VL f n p no nl b := by
  unfold VL
  rw [FU_s, vr_step hp hw ho, vr_fu 999999 FU _ _ _ _ (by omega) (by rw [FU_s]; omega) (by omega) (by rw [FU_s]; omega)]
  exact h
theorem VL.fin {f : Nat → Int32} {n p no nl : Nat} {b : Bool} (hp : n ≤ p) : VL f n p no nl b ↔ no = 0 := by
  unfold VL
  rw [FU_s, vr, if_pos hp]
  exact ⟨fun h => h.2, fun h => ⟨rfl, h⟩⟩
theorem VL.le {f : Nat → Int32} {n p no nl : Nat} {b : Bool} (hn : n ≤ 1500) (hp : p < n) (h : VL f n p no nl b) : p + cl (f p) ≤ n := (fw_len (h.step hn hp).1).1
theorem vf_VL {f : Nat → Int32} {n : Nat} : vfault f n = 0 ↔ VL f n 0 0 0 false := by
  unfold vfault VL
  by_cases q : (vr f n FU 0 0 0 false).1 = 0
  · rw [if_pos q]
    by_cases q2 : (vr f n FU 0 0 0 false).2.2.1 = 0
    · rw [if_pos q2]
      exact ⟨fun _ => ⟨q, q2⟩, fun _ => rfl⟩
    · rw [if_neg q2]
      exact ⟨fun h => absurd h (by omega), fun h => absurd h.2 q2⟩
  · rw [if_neg q]
    exact ⟨fun h => absurd h q, fun h => absurd h.1 q⟩
theorem VL.congr {f g : Nat → Int32} {n p no nl : Nat} {b : Bool} (h : ∀ j, j < n → f j = g j) (hv : VL f n p no nl b) : VL g n p no nl b := by
  unfold VL at hv ⊢
  rw [← vr_congr h]
  exact hv
theorem next_ok {m W H no np nl n p : Nat} {c : CM} {r : RF} {f wd at_ ch px sh : Nat → Int32} (hm : m ≤ 1) (h : RM m W H no np nl c r) (hW : W ≤ 32) (hH : H ≤ 32) (hn : n ≤ 1500) (hp : p < n) (heq : ∀ j, j < n → f j = wd (1500 * m + j)) (hv : VL f n p no nl (decide (0 < np))) (hb : 3 * np ≤ p + 3 * nl) (hat : at_ m = nI p) (hz : ∀ i, i < 1024 → ch i = 0) (hs : RS W H px sh) : ∃ (no' np' nl' : Nat) (c' : CM) (r' : RF) (ch' px' sh' : Nat → Int32) (fl pa : Int32 → Int32), (∀ fi qa : Int32, m_X3_doNext c.opn (nI p) fi qa (nI n) f c.pts c.lns c.fst c.ftx c.fty c.ltx c.lty c.lx c.ly c.gy c.bg c.col c.way c.ys c.x c.y c.u c.v c.xs ch (nI W) (nI H) (W * H) px c.a c.b c.c c.d c.e c.f c.na c.nb c.nc c.nd c.ne c.nf c.sc c.sw c.sa c.sb c.sC c.sd c.se c.sf c.sx c.sy c.su c.sv = some (1, c'.opn, nI (p + cl (f p)), fl fi, pa qa, c'.pts, c'.lns, c'.fst, c'.ftx, c'.fty, c'.ltx, c'.lty, c'.lx, c'.ly, c'.gy, c'.bg, c'.col, c'.way, c'.ys, c'.x, c'.y, c'.u, c'.v, c'.xs, ch', px', c'.a, c'.b, c'.c, c'.d, c'.e, c'.f, c'.na, c'.nb, c'.nc, c'.nd, c'.ne, c'.nf, c'.sc, c'.sw, c'.sa, c'.sb, c'.sC, c'.sd, c'.se, c'.sf, c'.sx, c'.sy, c'.su, c'.sv)) ∧ (∀ fi qa : Int32, m_X12_next fi qa at_ wd r.told r.points r.begins r.py r.px sh r.cut r.both r.startX r.startY r.startPoint r.begun r.lines r.lastX r.lastY r.saves r.saved (nI m) = some (if m = 0 then fl fi else fi, if m = 0 then pa qa else qa, upd at_ m (nI (p + cl (f p))), r'.told, r'.points, r'.begins, r'.py, r'.px, sh', r'.cut, r'.both, r'.startX, r'.startY, r'.startPoint, r'.begun, r'.lines, r'.lastX, r'.lastY, r'.saves, r'.saved)) ∧ RM m W H no' np' nl' c' r' ∧ RFr m r r' ∧ VL f n (p + cl (f p)) no' nl' (decide (0 < np')) ∧ 3 * np' ≤ p + cl (f p) + 3 * nl' ∧ (∀ i, i < 1024 → ch' i = 0) ∧ RS W H px' sh' := by
  obtain ⟨hw, ho, hv'⟩ := hv.step hn hp
  have hle := (fw_len hw).1
  have hcl := cl_ge (f p)
  have hcl7 := cl_le (f p)
  have e0 : wd (1500 * m + p) = f p := (heq p hp).symm
  have t0 : (1500 : Int32) * nI m + nI p = nI (1500 * m + p) := by
    show nI 1500 * nI m + nI p = _
    rw [pk_mul, nI_add]
  have t1 : nI p + (1 + nI (cl (f p) - 1)) = nI (p + cl (f p)) := by
    show nI p + (nI 1 + nI (cl (f p) - 1)) = _
    rw [nI_add, nI_add, show p + (1 + (cl (f p) - 1)) = p + cl (f p) by omega]
  by_cases h9 : f p = 9
  · have hcl2 : cl (f p) = 2 := by rw [h9]; rfl
    obtain ⟨d, ch', px', sh', k1, k2, k3, k4⟩ := fill_ok hm h hW hH hz hs (f (p + 1))
    have e9 : ord (f p) no nl (decide (0 < np)) = (0, no, nl, decide (0 < np)) := by rw [h9]; simp [ord]
    rw [e9] at hv'
    refine ⟨no, np, nl, c, r, ch', px', sh', fun fi => fi + (if d ≤ 0 then 0 else 1), fun qa => (qa + d) &&& 1073741823, fun fi qa => ?_, fun fi qa => ?_, h, RFr.refl m r, hv', by omega, k2, k3⟩
    · unfold m_X3_doNext
      rw [if_pos (nI_lt hp (by omega)), lenAt_ok hp hn, bd1_s, nm_s, nI_add, word_ok hp hn, bd1_s, if_pos h9, show nI p + 1 = nI (p + 1) from nI_add p 1, word_ok (show p + 1 < n by omega) hn, bd1_s, k1, bd3_s, jn_ite, nm_s, nm_s]
    · unfold m_X12_next
      rw [inb_s (show m < 2 by omega) (by decide), gd_s, nm_s, nI_clamp (show m < 2 ^ 31 by omega), hat, nm_s, t0, gd_s, nm_s, inb_s (show 1500 * m + p < 4500 by omega) (by decide), gd_s, nm_s, nI_clamp (show 1500 * m + p < 2 ^ 31 by omega), e0, more_cl, bd1_s, nm_s, t1, gd_s, nm_s, gd_s, nm_s, if_pos h9, show nI (1500 * m + p) + 1 = nI (1500 * m + p + 1) from nI_add (1500 * m + p) 1, inb_s (show 1500 * m + p + 1 < 4500 by omega) (by decide), gd_s, nm_s, nI_clamp (show 1500 * m + p + 1 < 2 ^ 31 by omega), show 1500 * m + p + 1 = 1500 * m + (p + 1) by omega, ← heq (p + 1) (by omega), k4]
      by_cases h0 : m = 0
      · rw [if_pos h0, if_pos h0, if_pos h0, bd3_s]
      · rw [if_neg h0, if_neg h0, if_neg h0, bd3_s]
  · obtain ⟨np', b1, b2, c', r', k1, k2, -, k3, k4⟩ := follow_ok (wd := wd) hm h hn (show 1500 * m ≤ 3000 by omega) hle (fun j hj => by rw [heq (p + j) (by omega), Nat.add_assoc]) hW hH hw h9 ho hb
    rw [b2] at hv'
    refine ⟨_, np', _, c', r', ch, px, sh, id, id, fun fi qa => ?_, fun fi qa => ?_, k3, k4, hv', b1, hz, hs⟩
    · unfold m_X3_doNext
      rw [if_pos (nI_lt hp (by omega)), lenAt_ok hp hn, bd1_s, nm_s, nI_add, word_ok hp hn, bd1_s, if_neg h9, k1, bd44_s]
      rfl
    · unfold m_X12_next
      rw [inb_s (show m < 2 by omega) (by decide), gd_s, nm_s, nI_clamp (show m < 2 ^ 31 by omega), hat, nm_s, t0, gd_s, nm_s, inb_s (show 1500 * m + p < 4500 by omega) (by decide), gd_s, nm_s, nI_clamp (show 1500 * m + p < 2 ^ 31 by omega), e0, more_cl, bd1_s, nm_s, t1, gd_s, nm_s, gd_s, nm_s, if_neg h9, k2, bd16_s]
      by_cases h0 : m = 0
      · rw [if_pos h0, if_pos h0]
        rfl
      · rw [if_neg h0, if_neg h0]
theorem run_lock {m W H n : Nat} {f wd size : Nat → Int32} {most : Int32} (hm : m ≤ 1) (hW : W ≤ 32) (hH : H ≤ 32) (hn : n ≤ 1500) (heq : ∀ j, j < n → f j = wd (1500 * m + j)) (hsz : size m = nI n) (hmo : ¬ most < 0) : ∀ (N fu gu k no np nl p : Nat) (c : CM) (r : RF) (at_ ch px sh : Nat → Int32) (fi qa rfi rqa : Int32), n ≤ p + N → p ≤ n → k < 200000 → N + 2 < fu → N + 1 < gu → k + N < 200000 → RM m W H no np nl c r → VL f n p no nl (decide (0 < np)) → 3 * np ≤ p + 3 * nl → at_ m = nI p → (∀ i, i < 1024 → ch i = 0) → RS W H px sh → ∃ (no' np' nl' p' : Nat) (c' : CM) (r' : RF) (at' ch' px' sh' : Nat → Int32) (fi' qa' rfi' rqa' : Int32), (∀ K : Int32 → Int32 → Int32 → Int32 → Int32 → Int32 → Int32 → Int32 → Int32 → Int32 → Int32 → Int32 → Int32 → Int32 → Int32 → Int32 → Int32 → Int32 → Int32 → Int32 → Int32 → Int32 → Int32 → Int32 → Int32 → Int32 → (Nat → Int32) → (Nat → Int32) → (Nat → Int32) → (Nat → Int32) → (Nat → Int32) → Int32 → Int32 → Int32 → Int32 → Int32 → Int32 → (Nat → Int32) → (Nat → Int32) → (Nat → Int32) → (Nat → Int32) → (Nat → Int32) → (Nat → Int32) → (Nat → Int32) → (Nat → Int32) → (Nat → Int32) → (Nat → Int32) → (Nat → Int32) → (Nat → Int32) → Option (Int32 × Int32 × Int32 × Int32 × Int32 × Int32 × Int32 × Int32 × Int32 × Int32 × Int32 × Int32 × Int32 × Int32 × Int32 × Int32 × Int32 × Int32 × Int32 × Int32 × Int32 × Int32 × Int32 × Int32 × Int32 × Int32 × Int32 × (Nat → Int32) × (Nat → Int32) × (Nat → Int32) × (Nat → Int32) × (Nat → Int32) × Int32 × Int32 × Int32 × Int32 × Int32 × Int32 × (Nat → Int32) × (Nat → Int32) × (Nat → Int32) × (Nat → Int32) × (Nat → Int32) × (Nat → Int32) × (Nat → Int32) × (Nat → Int32) × (Nat → Int32) × (Nat → Int32) × (Nat → Int32) × (Nat → Int32)), lp_X3_run_9 K most (nI n) f (nI W) (nI H) (W * H) fu 1 (nI k) c.opn (nI p) fi qa c.col c.way c.a c.b c.c c.d c.e c.f c.x c.y c.u c.v c.pts c.lns c.fst c.ftx c.fty c.ltx c.lty c.lx c.ly c.gy c.bg c.ys c.xs ch px c.na c.nb c.nc c.nd c.ne c.nf c.sc c.sw c.sa c.sb c.sC c.sd c.se c.sf c.sx c.sy c.su c.sv = K c'.opn (nI p') fi' qa' c'.col c'.way c'.a c'.b c'.c c'.d c'.e c'.f c'.x c'.y c'.u c'.v c'.pts c'.lns c'.fst c'.ftx c'.fty c'.ltx c'.lty c'.lx c'.ly c'.gy c'.bg c'.ys c'.xs ch' px' c'.na c'.nb c'.nc c'.nd c'.ne c'.nf c'.sc c'.sw c'.sa c'.sb c'.sC c'.sd c'.se c'.sf c'.sx c'.sy c'.su c'.sv) ∧ (∀ K : Int32 → Int32 → (Nat → Int32) → (Nat → Int32) → (Nat → Int32) → (Nat → Int32) → (Nat → Int32) → (Nat → Int32) → (Nat → Int32) → (Nat → Int32) → (Nat → Int32) → (Nat → Int32) → (Nat → Int32) → (Nat → Int32) → (Nat → Int32) → (Nat → Int32) → (Nat → Int32) → (Nat → Int32) → (Nat → Int32) → (Nat → Int32) → Option (Int32 × Int32 × Int32 × (Nat → Int32) × (Nat → Int32) × (Nat → Int32) × (Nat → Int32) × (Nat → Int32) × (Nat → Int32) × (Nat → Int32) × (Nat → Int32) × (Nat → Int32) × (Nat → Int32) × (Nat → Int32) × (Nat → Int32) × (Nat → Int32) × (Nat → Int32) × (Nat → Int32) × (Nat → Int32) × (Nat → Int32) × (Nat → Int32)), lp_X12_renderBy_7 most K (nI m) size wd gu (nI k) rfi rqa r.told r.saves at_ r.points r.begun r.lines r.begins r.py r.px sh r.cut r.both r.startX r.startY r.startPoint r.lastX r.lastY r.saved = K rfi' rqa' r'.told r'.saves at' r'.points r'.begun r'.lines r'.begins r'.py r'.px sh' r'.cut r'.both r'.startX r'.startY r'.startPoint r'.lastX r'.lastY r'.saved) ∧ p' ≤ n ∧ RM m W H no' np' nl' c' r' ∧ RFr m r r' ∧ (∀ j, j ≠ m → at' j = at_ j) ∧ VL f n p' no' nl' (decide (0 < np')) ∧ 3 * np' ≤ p' + 3 * nl' ∧ at' m = nI p' ∧ (∀ i, i < 1024 → ch' i = 0) ∧ RS W H px' sh' ∧ (m = 0 → fi = rfi → qa = rqa → fi' = rfi' ∧ qa' = rqa') ∧ (m ≠ 0 → rfi' = rfi ∧ rqa' = rqa) := by
  intro N
  induction N with
  | zero =>
    intro fu gu k no np nl p c r at_ ch px sh fi qa rfi rqa h1 h2 h3 h4 h5 h6 h hv hb hat hz hs
    obtain ⟨fu, rfl⟩ : ∃ j, fu = j + 2 := ⟨fu - 2, by omega⟩
    obtain ⟨gu, rfl⟩ : ∃ j, gu = j + 1 := ⟨gu - 1, by omega⟩
    refine ⟨no, np, nl, p, c, r, at_, ch, px, sh, fi, qa, rfi, rqa, fun K => ?_, fun K => ?_, h2, h, RFr.refl m r, fun _ _ => rfl, hv, hb, hat, hz, hs, fun _ a b => ⟨a, b⟩, fun _ => ⟨rfl, rfl⟩⟩
    · rw [lp_X3_run_9, if_neg (by decide)]
      by_cases q : most ≤ nI k
      · rw [if_pos q]
      · rw [if_neg q]
        unfold m_X3_doNext
        rw [if_neg (nI_nlt (by omega) (by omega)), bd50_s, nm_s, lp_X3_run_9, if_pos rfl]
    · rw [lp_X12_renderBy_7]
      by_cases q : most ≤ nI k
      · rw [if_pos q]
      · rw [if_neg q, inb_s (show m < 2 by omega) (by decide), gd_s, nm_s, nI_clamp (show m < 2 ^ 31 by omega), hat, inb_s (show m < 3 by omega) (by decide), gd_s, nm_s, hsz, if_pos (nI_le (by omega) (by omega))]
  | succ N ih =>
    intro fu gu k no np nl p c r at_ ch px sh fi qa rfi rqa h1 h2 h3 h4 h5 h6 h hv hb hat hz hs
    obtain ⟨fu, rfl⟩ : ∃ j, fu = j + 2 := ⟨fu - 2, by omega⟩
    obtain ⟨gu, rfl⟩ : ∃ j, gu = j + 1 := ⟨gu - 1, by omega⟩
    by_cases q : most ≤ nI k
    · refine ⟨no, np, nl, p, c, r, at_, ch, px, sh, fi, qa, rfi, rqa, fun K => ?_, fun K => ?_, h2, h, RFr.refl m r, fun _ _ => rfl, hv, hb, hat, hz, hs, fun _ a b => ⟨a, b⟩, fun _ => ⟨rfl, rfl⟩⟩
      · rw [lp_X3_run_9, if_neg (by decide), if_pos q]
      · rw [lp_X12_renderBy_7, if_pos q]
    by_cases hp : p < n
    · obtain ⟨no1, np1, nl1, c1, r1, ch1, px1, sh1, fl, pa, a1, a2, a3, a4, a5, a6, a7, a8⟩ := next_ok hm h hW hH hn hp heq hv hb hat hz hs
      have hle := hv.le hn hp
      have hcl := cl_ge (f p)
      obtain ⟨no', np', nl', p', c', r', at', ch', px', sh', fi', qa', rfi', rqa', b1, b2, b3, b4, b5, b6, b7, b8, b9, b10, b11, b12, b13⟩ := ih (fu + 1) gu (k + 1) no1 np1 nl1 (p + cl (f p)) c1 r1 (upd at_ m (nI (p + cl (f p)))) ch1 px1 sh1 (fl fi) (pa qa) (if m = 0 then fl rfi else rfi) (if m = 0 then pa rqa else rqa) (by omega) hle (by omega) (by omega) (by omega) (by omega) a3 a5 a6 pk_us a7 a8
      refine ⟨no', np', nl', p', c', r', at', ch', px', sh', fi', qa', rfi', rqa', fun K => ?_, fun K => ?_, b3, b4, a4.tr b5, fun j hj => (b6 j hj).trans (pk_un hj), b7, b8, b9, b10, b11, fun m0 e1 e2 => ?_, fun m0 => ?_⟩
      · rw [lp_X3_run_9, if_neg (by decide), if_neg q, a1, bd50_s, nm_s, nI_1]
        exact b1 K
      · rw [lp_X12_renderBy_7, if_neg q, inb_s (show m < 2 by omega) (by decide), gd_s, nm_s, nI_clamp (show m < 2 ^ 31 by omega), hat, inb_s (show m < 3 by omega) (by decide), gd_s, nm_s, hsz, if_neg (nI_ge hp (by omega)), a2, bd20_s, nm_s, nI_1]
        exact b2 K
      · rw [if_pos m0, if_pos m0] at b12
        exact b12 m0 (by rw [e1]) (by rw [e2])
      · have := b13 m0
        rw [if_neg m0, if_neg m0] at this
        exact this
    · refine ⟨no, np, nl, p, c, r, at_, ch, px, sh, fi, qa, rfi, rqa, fun K => ?_, fun K => ?_, h2, h, RFr.refl m r, fun _ _ => rfl, hv, hb, hat, hz, hs, fun _ a b => ⟨a, b⟩, fun _ => ⟨rfl, rfl⟩⟩
      · rw [lp_X3_run_9, if_neg (by decide), if_neg q]
        unfold m_X3_doNext
        rw [if_neg (nI_nlt (by omega) (by omega)), bd50_s, nm_s, lp_X3_run_9, if_pos rfl]
      · rw [lp_X12_renderBy_7, if_neg q, inb_s (show m < 2 by omega) (by decide), gd_s, nm_s, nI_clamp (show m < 2 ^ 31 by omega), hat, inb_s (show m < 3 by omega) (by decide), gd_s, nm_s, hsz, if_pos (nI_le (by omega) (by omega))]
def CM.fresh (W H : Nat) (c : CM) : CM := (CM.mk 0 (-16777216) 0 65536 0 0 65536 0 0 0 0 (nI W) (nI H) c.na c.nb c.nc c.nd c.ne c.nf 0 0 0 c.ftx c.fty c.ltx c.lty c.lx c.ly c.gy c.xs c.ys c.bg c.sc c.sw c.sa c.sb c.sC c.sd c.se c.sf c.sx c.sy c.su c.sv)
theorem begin_RM {m W H : Nat} (hm : m ≤ 1) (hW1 : 1 ≤ W) (hH1 : 1 ≤ H) (c : CM) (r : RF) (at_ : Nat → Int32) : ∃ t : Nat → Int32, m_X12_begin (nI W) (nI H) r.told r.saves at_ r.points r.begun r.lines (nI m) = some (t, upd r.saves m 0, upd at_ m 0, upd r.points m 0, upd r.begun m (vp_nar .boolean 0), upd r.lines m 0) ∧ RM m W H 0 0 0 (c.fresh W H) (RF.mk t r.cut r.both (upd r.points m 0) r.px r.py r.begins r.startX r.startY r.startPoint (upd r.begun m (vp_nar .boolean 0)) (upd r.lines m 0) r.lastX r.lastY (upd r.saves m 0) r.saved) ∧ RFr m r (RF.mk t r.cut r.both (upd r.points m 0) r.px r.py r.begins r.startX r.startY r.startPoint (upd r.begun m (vp_nar .boolean 0)) (upd r.lines m 0) r.lastX r.lastY (upd r.saves m 0) r.saved) := by
  obtain ⟨t, h1, h2, h3⟩ := begin_ok hm (nI W) (nI H) r.told r.saves at_ r.points r.begun r.lines
  refine ⟨t, h1, ⟨rfl, pk_us, by omega, h2, Or.inl ⟨0, 0, W, H, rfl, rfl, rfl, rfl, by omega, Nat.le_refl _, by omega, Nat.le_refl _⟩, fun i hi => by omega, rfl, pk_us, by omega, rfl, pk_us, by omega, fun j hj => by omega, fun hj => by omega⟩, h3, fun _ _ => rfl, fun k hk => pk_un hk, fun k k1 k2 => ⟨pk_un k2, fun _ _ => rfl, fun _ _ => rfl, fun _ _ => rfl, pk_un k2, rfl, rfl, rfl, rfl, rfl⟩⟩
theorem run_ok {m W H n : Nat} {f wd size : Nat → Int32} {most : Int32} (hm : m ≤ 1) (hW1 : 1 ≤ W) (hW : W ≤ 32) (hH1 : 1 ≤ H) (hH : H ≤ 32) (hn : n ≤ 1500) (heq : ∀ j, j < n → f j = wd (1500 * m + j)) (hsz : size m = nI n) (hmo : ¬ most < 0) (hv : VL f n 0 0 0 false) (c : CM) (r : RF) (pl fi qa rfi rqa : Int32) (at_ : Nat → Int32) {ch px sh : Nat → Int32} (hz : ∀ i, i < 1024 → ch i = 0) (hs : RS W H px sh) : ∃ (a : Bool) (no' np' nl' p' : Nat) (c' : CM) (r' : RF) (at' ch' px' sh' : Nat → Int32) (fi' qa' rfi' rqa' : Int32), m_X3_run c.opn pl fi qa c.col c.way c.a c.b c.c c.d c.e c.f (nI W) (nI H) c.x c.y c.u c.v c.pts c.lns c.fst c.ftx c.fty c.ltx c.lty c.lx c.ly c.gy (nI n) f c.bg c.ys c.xs ch (W * H) px c.na c.nb c.nc c.nd c.ne c.nf c.sc c.sw c.sa c.sb c.sC c.sd c.se c.sf c.sx c.sy c.su c.sv most = some (bI a, c'.opn, nI p', fi', qa', c'.col, c'.way, c'.a, c'.b, c'.c, c'.d, c'.e, c'.f, c'.x, c'.y, c'.u, c'.v, c'.pts, c'.lns, c'.fst, c'.ftx, c'.fty, c'.ltx, c'.lty, c'.lx, c'.ly, c'.gy, c'.bg, c'.ys, c'.xs, ch', px', c'.na, c'.nb, c'.nc, c'.nd, c'.ne, c'.nf, c'.sc, c'.sw, c'.sa, c'.sb, c'.sC, c'.sd, c'.se, c'.sf, c'.sx, c'.sy, c'.su, c'.sv) ∧ m_X12_renderBy (nI W) (nI H) rfi rqa r.told r.saves at_ r.points r.begun r.lines size wd r.begins r.py r.px sh r.cut r.both r.startX r.startY r.startPoint r.lastX r.lastY r.saved (nI m) most = some (bI (!a), rfi', rqa', r'.told, r'.saves, at', r'.points, r'.begun, r'.lines, r'.begins, r'.py, r'.px, sh', r'.cut, r'.both, r'.startX, r'.startY, r'.startPoint, r'.lastX, r'.lastY, r'.saved) ∧ p' ≤ n ∧ RM m W H no' np' nl' c' r' ∧ RFr m r r' ∧ (∀ j, j ≠ m → at' j = at_ j) ∧ VL f n p' no' nl' (decide (0 < np')) ∧ 3 * np' ≤ p' + 3 * nl' ∧ at' m = nI p' ∧ (∀ i, i < 1024 → ch' i = 0) ∧ RS W H px' sh' ∧ (m = 0 → fi = rfi → qa = rqa → fi' = rfi' ∧ qa' = rqa') ∧ (m ≠ 0 → rfi' = rfi ∧ rqa' = rqa) := by
  obtain ⟨t, h1, h2, h3⟩ := begin_RM hm hW1 hH1 c r at_
  obtain ⟨no', np', nl', p', c', r', at', ch', px', sh', fi', qa', rfi', rqa', b1, b2, b3, b4, b5, b6, b7, b8, b9, b10, b11, b12, b13⟩ := run_lock hm hW hH hn heq hsz hmo 1500 FU FU 0 0 0 0 0 _ _ (upd at_ m 0) ch px sh fi qa rfi rqa (by omega) (by omega) (by omega) (by show 1500 + 2 < 1000000; omega) (by show 1500 + 1 < 1000000; omega) (by omega) h2 hv (by omega) pk_us hz hs
  refine ⟨decide (¬ p' < n), no', np', nl', p', c', r', at', ch', px', sh', fi', qa', rfi', rqa', ?_, ?_, b3, b4, h3.tr b5, fun j hj => (b6 j hj).trans (pk_un hj), b7, b8, b9, b10, b11, b12, b13⟩
  · unfold m_X3_run m_X3_restart m_X6_becomeFirst m_X9_becomePlain m_X1_become m_X5_becomeEmpty
    rw [bd6_s, bd4_s, bd12_s, bd3_s, bd17_s, jn_s]
    refine (b1 _).trans ?_
    by_cases q : p' < n
    · rw [if_pos (nI_lt q (by omega)), show decide (¬ p' < n) = false from decide_eq_false (fun z => z q)]
      rfl
    · rw [if_neg (nI_nlt (by omega) (by omega)), show decide (¬ p' < n) = true from decide_eq_true q]
      rfl
  · unfold m_X12_renderBy
    rw [h1, bd6_s, jn_s]
    refine (b2 _).trans ?_
    rw [inb_s (show m < 2 by omega) (by decide), gd_s, nm_s, nI_clamp (show m < 2 ^ 31 by omega), b9, inb_s (show m < 3 by omega) (by decide), gd_s, nm_s, hsz]
    by_cases q : p' < n
    · rw [if_neg (show ¬ nI p' = nI n by rw [nI_eq (by omega) (by omega)]; omega), show decide (¬ p' < n) = false from decide_eq_false (fun z => z q)]
      rfl
    · rw [if_pos (show nI p' = nI n by rw [nI_eq (by omega) (by omega)]; omega), show decide (¬ p' < n) = true from decide_eq_true q]
      rfl
