def est (w code arg : Int32) (no : Nat) (cur : Int32) (st : Nat → Int32) : Int32 × (Nat → Int32) := if code = 1 then (cur, upd st no cur) else if code = 2 then (st (no - 1), st) else if code = w then (arg, st) else (cur, st)
def SCf (c c' : CM) (code arg : Int32) (no : Nat) : Prop := (c'.col, c'.sc) = est 10 code arg no c.col c.sc ∧ (c'.way, c'.sw) = est 11 code arg no c.way c.sw
theorem sc_0 {c c' : CM} {code arg : Int32} {no : Nat} (h1 : ¬ code = 1) (h2 : ¬ code = 2) (h3 : ¬ code = 10) (h4 : ¬ code = 11) (e1 : c'.col = c.col) (e2 : c'.sc = c.sc) (e3 : c'.way = c.way) (e4 : c'.sw = c.sw) : SCf c c' code arg no := by
  unfold SCf est
  rw [if_neg h1, if_neg h2, if_neg h3, if_neg h1, if_neg h2, if_neg h4, e1, e2, e3, e4]
  exact ⟨rfl, rfl⟩
theorem follow_1 {m W H no np nl n p o : Nat} {c : CM} {r : RF} {f wd : Nat → Int32} (hm : m ≤ 1) (h : RM m W H no np nl c r) (hn : n ≤ 1500) (ho : o ≤ 3000) (hp : p + cl (f p) ≤ n) (heq : ∀ j, j < cl (f p) → f (p + j) = wd (o + p + j)) (hc : f p = 1) (hno : no < 8) : ∃ (c' : CM) (r' : RF), m_X3_follow (nI n) f c.opn c.col c.way c.a c.b c.c c.d c.e c.f c.x c.y c.u c.v c.na c.nb c.nc c.nd c.ne c.nf c.pts c.lns c.fst c.ftx c.fty c.ltx c.lty c.lx c.ly c.gy c.xs c.ys c.bg c.sc c.sw c.sa c.sb c.sC c.sd c.se c.sf c.sx c.sy c.su c.sv (nI p) = some (c'.opn, c'.col, c'.way, c'.a, c'.b, c'.c, c'.d, c'.e, c'.f, c'.x, c'.y, c'.u, c'.v, c'.na, c'.nb, c'.nc, c'.nd, c'.ne, c'.nf, c'.pts, c'.lns, c'.fst, c'.ftx, c'.fty, c'.ltx, c'.lty, c'.lx, c'.ly, c'.gy, c'.xs, c'.ys, c'.bg, c'.sc, c'.sw, c'.sa, c'.sb, c'.sC, c'.sd, c'.se, c'.sf, c'.sx, c'.sy, c'.su, c'.sv) ∧ m_X12_follow wd r.told r.cut r.both r.points r.px r.py r.begins r.startX r.startY r.startPoint r.begun r.lines r.lastX r.lastY r.saves r.saved (nI m) (nI (o + p)) = some (r'.told, r'.cut, r'.both, r'.points, r'.px, r'.py, r'.begins, r'.startX, r'.startY, r'.startPoint, r'.begun, r'.lines, r'.lastX, r'.lastY, r'.saves, r'.saved) ∧ SCf c c' (f p) (f (p + 1)) no ∧ RM m W H (no + 1) np nl c' r' ∧ RFr m r r' := by
  have hcl : cl (f p) = 1 := by rw [hc]; rfl
  rw [hcl] at hp heq
  have hrc : wd (o + p) = 1 := by
    have := heq 0 (by omega)
    rw [Nat.add_zero, Nat.add_zero] at this
    rw [← this, hc]
  have s1 : nI p + 1 = nI (p + 1) := nI_add p 1
  have s2 : nI p + 2 = nI (p + 2) := nI_add p 2
  have q1 : nI (o + p) + 1 = nI (o + p + 1) := nI_add (o + p) 1
  obtain ⟨h1, h2, h3, h4, h5, h6, h7⟩ := id h
  obtain ⟨g, hg, g1, g2⟩ := rsave_ok hm hno r.told r.saved
  refine ⟨(CM.mk (nI (no + 1)) c.col c.way c.a c.b c.c c.d c.e c.f c.x c.y c.u c.v c.na c.nb c.nc c.nd c.ne c.nf c.pts c.lns c.fst c.ftx c.fty c.ltx c.lty c.lx c.ly c.gy c.xs c.ys c.bg (upd c.sc no c.col) (upd c.sw no c.way) (upd c.sa no c.a) (upd c.sb no c.b) (upd c.sC no c.c) (upd c.sd no c.d) (upd c.se no c.e) (upd c.sf no c.f) (upd c.sx no c.x) (upd c.sy no c.y) (upd c.su no c.u) (upd c.sv no c.v)), (RF.mk r.told r.cut r.both r.points r.px r.py r.begins r.startX r.startY r.startPoint r.begun r.lines r.lastX r.lastY (upd r.saves m (nI (no + 1))) g), ?_, ?_, by unfold SCf est; rw [hc]; simp, ⟨rfl, pk_us, by omega, h4, h5, fun i hi => ?_, h7⟩, fun _ _ => rfl, fun j hj => g2 j (by omega), fun k hk => pk_un hk, PFr.refl _ _ _ _ _ _ _ _ _ _ _⟩
  · unfold m_X3_follow
    rw [s1, word_wv hn (show p + 1 < 2 ^ 31 by omega), bd1_s, s2, word_wv hn (show p + 2 < 2 ^ 31 by omega), bd1_s, word_ok (show p < n by omega) hn, bd1_s, hc, if_pos rfl]
    rw [h1, csave_ok hno, bd13_s]
  · unfold m_X12_follow
    rw [nm_s, q1, inb_s (show o + p < 4500 by omega) (by decide), gd_s, nm_s, nI_clamp (show o + p < 2 ^ 31 by omega), hrc, jn_s, jn_s, if_pos rfl]
    rw [inb_s (show m < 2 by omega) (show 2 < 2 ^ 31 by decide), gd_s, nm_s, nI_clamp (show m < 2 ^ 31 by omega), h2, hg, bd2_s, gd_s, nm_s, nm_s, gd_s, nm_s, nI_1]
  · by_cases e : i = no
    · subst e
      show R12 _ g (upd c.sc i c.col i) (upd c.sw i c.way i) (upd c.sa i c.a i) (upd c.sb i c.b i) (upd c.sC i c.c i) (upd c.sd i c.d i) (upd c.se i c.e i) (upd c.sf i c.f i) (upd c.sx i c.x i) (upd c.sy i c.y i) (upd c.su i c.u i) (upd c.sv i c.v i) ∧ CBox W H (upd c.sx i c.x i) (upd c.sy i c.y i) (upd c.su i c.u i) (upd c.sv i c.v i)
      simp only [pk_us]
      exact ⟨h4.cp g1, h5⟩
    · show R12 _ g (upd c.sc no c.col i) (upd c.sw no c.way i) (upd c.sa no c.a i) (upd c.sb no c.b i) (upd c.sC no c.c i) (upd c.sd no c.d i) (upd c.se no c.e i) (upd c.sf no c.f i) (upd c.sx no c.x i) (upd c.sy no c.y i) (upd c.su no c.u i) (upd c.sv no c.v i) ∧ CBox W H (upd c.sx no c.x i) (upd c.sy no c.y i) (upd c.su no c.u i) (upd c.sv no c.v i)
      simp only [pk_un e]
      exact ⟨(h6 i (by omega)).1.cp (fun j hj => g2 _ (by omega)), (h6 i (by omega)).2⟩
theorem follow_2 {m W H no np nl n p o : Nat} {c : CM} {r : RF} {f wd : Nat → Int32} (hm : m ≤ 1) (h : RM m W H no np nl c r) (hn : n ≤ 1500) (ho : o ≤ 3000) (hp : p + cl (f p) ≤ n) (heq : ∀ j, j < cl (f p) → f (p + j) = wd (o + p + j)) (hc : f p = 2) (hno : no ≠ 0) : ∃ (c' : CM) (r' : RF), m_X3_follow (nI n) f c.opn c.col c.way c.a c.b c.c c.d c.e c.f c.x c.y c.u c.v c.na c.nb c.nc c.nd c.ne c.nf c.pts c.lns c.fst c.ftx c.fty c.ltx c.lty c.lx c.ly c.gy c.xs c.ys c.bg c.sc c.sw c.sa c.sb c.sC c.sd c.se c.sf c.sx c.sy c.su c.sv (nI p) = some (c'.opn, c'.col, c'.way, c'.a, c'.b, c'.c, c'.d, c'.e, c'.f, c'.x, c'.y, c'.u, c'.v, c'.na, c'.nb, c'.nc, c'.nd, c'.ne, c'.nf, c'.pts, c'.lns, c'.fst, c'.ftx, c'.fty, c'.ltx, c'.lty, c'.lx, c'.ly, c'.gy, c'.xs, c'.ys, c'.bg, c'.sc, c'.sw, c'.sa, c'.sb, c'.sC, c'.sd, c'.se, c'.sf, c'.sx, c'.sy, c'.su, c'.sv) ∧ m_X12_follow wd r.told r.cut r.both r.points r.px r.py r.begins r.startX r.startY r.startPoint r.begun r.lines r.lastX r.lastY r.saves r.saved (nI m) (nI (o + p)) = some (r'.told, r'.cut, r'.both, r'.points, r'.px, r'.py, r'.begins, r'.startX, r'.startY, r'.startPoint, r'.begun, r'.lines, r'.lastX, r'.lastY, r'.saves, r'.saved) ∧ SCf c c' (f p) (f (p + 1)) no ∧ RM m W H (no - 1) np nl c' r' ∧ RFr m r r' := by
  have hcl : cl (f p) = 1 := by rw [hc]; rfl
  rw [hcl] at hp heq
  have hrc : wd (o + p) = 2 := by
    have := heq 0 (by omega)
    rw [Nat.add_zero, Nat.add_zero] at this
    rw [← this, hc]
  have s1 : nI p + 1 = nI (p + 1) := nI_add p 1
  have s2 : nI p + 2 = nI (p + 2) := nI_add p 2
  have q1 : nI (o + p) + 1 = nI (o + p + 1) := nI_add (o + p) 1
  obtain ⟨k, rfl⟩ : ∃ k, no = k + 1 := ⟨no - 1, by omega⟩
  obtain ⟨h1, h2, h3, h4, h5, h6, h7⟩ := id h
  have hk : k < 8 := by omega
  have ek : nI (k + 1) - 1 = nI k := pk_sub (a := k + 1) (b := 1) (by omega)
  obtain ⟨g, hg, g1, g2⟩ := rback_ok hm hk r.told r.saved
  refine ⟨(CM.mk (nI k) (c.sc k) (c.sw k) (c.sa k) (c.sb k) (c.sC k) (c.sd k) (c.se k) (c.sf k) (c.sx k) (c.sy k) (c.su k) (c.sv k) c.na c.nb c.nc c.nd c.ne c.nf c.pts c.lns c.fst c.ftx c.fty c.ltx c.lty c.lx c.ly c.gy c.xs c.ys c.bg c.sc c.sw c.sa c.sb c.sC c.sd c.se c.sf c.sx c.sy c.su c.sv), (RF.mk g r.cut r.both r.points r.px r.py r.begins r.startX r.startY r.startPoint r.begun r.lines r.lastX r.lastY (upd r.saves m (nI k)) r.saved), ?_, ?_, by unfold SCf est; rw [hc]; simp, ⟨rfl, pk_us, by omega, (h6 k (by omega)).1.cp g1, (h6 k (by omega)).2, fun i hi => h6 i (by omega), h7⟩, fun j hj => g2 j hj, fun _ _ => rfl, fun k hk => pk_un hk, PFr.refl _ _ _ _ _ _ _ _ _ _ _⟩
  · unfold m_X3_follow
    rw [s1, word_wv hn (show p + 1 < 2 ^ 31 by omega), bd1_s, s2, word_wv hn (show p + 2 < 2 ^ 31 by omega), bd1_s, word_ok (show p < n by omega) hn, bd1_s, hc, if_neg (by decide), if_pos rfl]
    rw [h1, cback_ok hk, bd13_s]
  · unfold m_X12_follow
    rw [nm_s, q1, inb_s (show o + p < 4500 by omega) (by decide), gd_s, nm_s, nI_clamp (show o + p < 2 ^ 31 by omega), hrc, jn_s, jn_s, if_neg (by decide), if_pos rfl]
    rw [inb_s (show m < 2 by omega) (show 2 < 2 ^ 31 by decide), gd_s, nm_s, nI_clamp (show m < 2 ^ 31 by omega), h2, ek, nm_s, gd_s, nm_s, gd_s, nm_s, pk_us, hg, bd2_s]
theorem follow_3 {m W H no np nl n p o : Nat} {c : CM} {r : RF} {f wd : Nat → Int32} (hm : m ≤ 1) (h : RM m W H no np nl c r) (hn : n ≤ 1500) (ho : o ≤ 3000) (hp : p + cl (f p) ≤ n) (heq : ∀ j, j < cl (f p) → f (p + j) = wd (o + p + j)) (hc : f p = 3) : ∃ (c' : CM) (r' : RF), m_X3_follow (nI n) f c.opn c.col c.way c.a c.b c.c c.d c.e c.f c.x c.y c.u c.v c.na c.nb c.nc c.nd c.ne c.nf c.pts c.lns c.fst c.ftx c.fty c.ltx c.lty c.lx c.ly c.gy c.xs c.ys c.bg c.sc c.sw c.sa c.sb c.sC c.sd c.se c.sf c.sx c.sy c.su c.sv (nI p) = some (c'.opn, c'.col, c'.way, c'.a, c'.b, c'.c, c'.d, c'.e, c'.f, c'.x, c'.y, c'.u, c'.v, c'.na, c'.nb, c'.nc, c'.nd, c'.ne, c'.nf, c'.pts, c'.lns, c'.fst, c'.ftx, c'.fty, c'.ltx, c'.lty, c'.lx, c'.ly, c'.gy, c'.xs, c'.ys, c'.bg, c'.sc, c'.sw, c'.sa, c'.sb, c'.sC, c'.sd, c'.se, c'.sf, c'.sx, c'.sy, c'.su, c'.sv) ∧ m_X12_follow wd r.told r.cut r.both r.points r.px r.py r.begins r.startX r.startY r.startPoint r.begun r.lines r.lastX r.lastY r.saves r.saved (nI m) (nI (o + p)) = some (r'.told, r'.cut, r'.both, r'.points, r'.px, r'.py, r'.begins, r'.startX, r'.startY, r'.startPoint, r'.begun, r'.lines, r'.lastX, r'.lastY, r'.saves, r'.saved) ∧ SCf c c' (f p) (f (p + 1)) no ∧ RM m W H no 0 0 c' r' ∧ RFr m r r' := by
  have hcl : cl (f p) = 1 := by rw [hc]; rfl
  rw [hcl] at hp heq
  have hrc : wd (o + p) = 3 := by
    have := heq 0 (by omega)
    rw [Nat.add_zero, Nat.add_zero] at this
    rw [← this, hc]
  have s1 : nI p + 1 = nI (p + 1) := nI_add p 1
  have s2 : nI p + 2 = nI (p + 2) := nI_add p 2
  have q1 : nI (o + p) + 1 = nI (o + p + 1) := nI_add (o + p) 1
  obtain ⟨h1, h2, h3, h4, h5, h6, h7⟩ := id h
  refine ⟨(CM.mk c.opn c.col c.way c.a c.b c.c c.d c.e c.f c.x c.y c.u c.v c.na c.nb c.nc c.nd c.ne c.nf 0 0 0 c.ftx c.fty c.ltx c.lty c.lx c.ly c.gy c.xs c.ys c.bg c.sc c.sw c.sa c.sb c.sC c.sd c.se c.sf c.sx c.sy c.su c.sv), (RF.mk r.told r.cut r.both (upd r.points m 0) r.px r.py r.begins r.startX r.startY r.startPoint (upd r.begun m (vp_nar .boolean 0)) (upd r.lines m 0) r.lastX r.lastY r.saves r.saved), ?_, ?_, by unfold SCf est; rw [hc]; simp, ⟨h1, h2, h3, h4, h5, h6, rfl, pk_us, by omega, rfl, pk_us, by omega, fun j hj => by omega, fun hj => by omega⟩, fun _ _ => rfl, fun _ _ => rfl, fun _ _ => rfl, fun k k1 k2 => ⟨pk_un k2, fun _ _ => rfl, fun _ _ => rfl, fun _ _ => rfl, pk_un k2, rfl, rfl, rfl, rfl, rfl⟩⟩
  · unfold m_X3_follow
    rw [s1, word_wv hn (show p + 1 < 2 ^ 31 by omega), bd1_s, s2, word_wv hn (show p + 2 < 2 ^ 31 by omega), bd1_s, word_ok (show p < n by omega) hn, bd1_s, hc, if_neg (by decide), if_neg (by decide), if_pos rfl]
    rfl
  · unfold m_X12_follow
    rw [nm_s, q1, inb_s (show o + p < 4500 by omega) (by decide), gd_s, nm_s, nI_clamp (show o + p < 2 ^ 31 by omega), hrc, jn_s, jn_s, if_neg (by decide), if_neg (by decide), if_pos rfl]
    rw [noPath_ok hm, bd3_s]
theorem follow_4 {m W H no np nl n p o : Nat} {c : CM} {r : RF} {f wd : Nat → Int32} (hm : m ≤ 1) (h : RM m W H no np nl c r) (hn : n ≤ 1500) (ho : o ≤ 3000) (hp : p + cl (f p) ≤ n) (heq : ∀ j, j < cl (f p) → f (p + j) = wd (o + p + j)) (hc : f p = 4) (hb : np < 800) : ∃ (c' : CM) (r' : RF), m_X3_follow (nI n) f c.opn c.col c.way c.a c.b c.c c.d c.e c.f c.x c.y c.u c.v c.na c.nb c.nc c.nd c.ne c.nf c.pts c.lns c.fst c.ftx c.fty c.ltx c.lty c.lx c.ly c.gy c.xs c.ys c.bg c.sc c.sw c.sa c.sb c.sC c.sd c.se c.sf c.sx c.sy c.su c.sv (nI p) = some (c'.opn, c'.col, c'.way, c'.a, c'.b, c'.c, c'.d, c'.e, c'.f, c'.x, c'.y, c'.u, c'.v, c'.na, c'.nb, c'.nc, c'.nd, c'.ne, c'.nf, c'.pts, c'.lns, c'.fst, c'.ftx, c'.fty, c'.ltx, c'.lty, c'.lx, c'.ly, c'.gy, c'.xs, c'.ys, c'.bg, c'.sc, c'.sw, c'.sa, c'.sb, c'.sC, c'.sd, c'.se, c'.sf, c'.sx, c'.sy, c'.su, c'.sv) ∧ m_X12_follow wd r.told r.cut r.both r.points r.px r.py r.begins r.startX r.startY r.startPoint r.begun r.lines r.lastX r.lastY r.saves r.saved (nI m) (nI (o + p)) = some (r'.told, r'.cut, r'.both, r'.points, r'.px, r'.py, r'.begins, r'.startX, r'.startY, r'.startPoint, r'.begun, r'.lines, r'.lastX, r'.lastY, r'.saves, r'.saved) ∧ SCf c c' (f p) (f (p + 1)) no ∧ RM m W H no (np + 1) nl c' r' ∧ RFr m r r' := by
  have hcl : cl (f p) = 3 := by rw [hc]; rfl
  rw [hcl] at hp heq
  have hrc : wd (o + p) = 4 := by
    have := heq 0 (by omega)
    rw [Nat.add_zero, Nat.add_zero] at this
    rw [← this, hc]
  have s1 : nI p + 1 = nI (p + 1) := nI_add p 1
  have s2 : nI p + 2 = nI (p + 2) := nI_add p 2
  have q1 : nI (o + p) + 1 = nI (o + p + 1) := nI_add (o + p) 1
  have w1 := heq 1 (by omega)
  have w2 := heq 2 (by omega)
  obtain ⟨h1, h2, h3, h4, h5, h6, h7⟩ := id h
  obtain ⟨points', first', ftx', fty', ltx', lty', lx', ly', gy', xs', ys', bg', rpoints', px', py', begins', startX', startY', startPoint', begun', rlines', lastX', lastY', hC, hR, hP, hF⟩ := p_begin hm hb h7 h.TT (begun := r.begun) (f (p + 1)) (f (p + 2))
  refine ⟨(CM.mk c.opn c.col c.way c.a c.b c.c c.d c.e c.f c.x c.y c.u c.v c.na c.nb c.nc c.nd c.ne c.nf points' c.lns first' ftx' fty' ltx' lty' lx' ly' gy' xs' ys' bg' c.sc c.sw c.sa c.sb c.sC c.sd c.se c.sf c.sx c.sy c.su c.sv), (RF.mk r.told r.cut r.both rpoints' px' py' begins' startX' startY' startPoint' begun' rlines' lastX' lastY' r.saves r.saved), ?_, ?_, by unfold SCf est; rw [hc]; simp, ⟨h1, h2, h3, h4, h5, h6, hP⟩, fun _ _ => rfl, fun _ _ => rfl, fun _ _ => rfl, hF⟩
  · unfold m_X3_follow
    rw [s1, word_wv hn (show p + 1 < 2 ^ 31 by omega), bd1_s, s2, word_wv hn (show p + 2 < 2 ^ 31 by omega), bd1_s, word_ok (show p < n by omega) hn, bd1_s, hc, if_neg (by decide), if_neg (by decide), if_neg (by decide), if_pos rfl]
    rw [wv_in (show p + 1 < n by omega), wv_in (show p + 2 < n by omega), hC, bd12_s]
  · unfold m_X12_follow
    rw [nm_s, q1, inb_s (show o + p < 4500 by omega) (by decide), gd_s, nm_s, nI_clamp (show o + p < 2 ^ 31 by omega), hrc, jn_s, jn_s, if_neg (by decide), if_neg (by decide), if_neg (by decide), if_pos rfl]
    have q2 : nI (o + p + 1) + 1 = nI (o + p + 2) := nI_add (o + p + 1) 1
    have q3 : nI (o + p + 1) + 2 = nI (o + p + 3) := nI_add (o + p + 1) 2
    have q4 : nI (o + p + 1) + 3 = nI (o + p + 4) := nI_add (o + p + 1) 3
    rw [inb_s (show o + p + 1 < 4500 by omega) (show 4500 < 2 ^ 31 by decide), gd_s, nm_s, q2, inb_s (show o + p + 2 < 4500 by omega) (show 4500 < 2 ^ 31 by decide), gd_s, nm_s, gd_s, nm_s, jn_s, if_pos rfl, nI_clamp (show o + p + 1 < 2 ^ 31 by omega), nI_clamp (show o + p + 2 < 2 ^ 31 by omega), ← w1, ← w2]
    show bd11 _ _ = _
    rw [hR, bd11_s]
theorem follow_5 {m W H no np nl n p o : Nat} {c : CM} {r : RF} {f wd : Nat → Int32} (hm : m ≤ 1) (h : RM m W H no np nl c r) (hn : n ≤ 1500) (ho : o ≤ 3000) (hp : p + cl (f p) ≤ n) (heq : ∀ j, j < cl (f p) → f (p + j) = wd (o + p + j)) (hc : f p = 5) (h0 : 0 < np) (hb : np < 800) (hl : nl + 1 ≤ 300) : ∃ (c' : CM) (r' : RF), m_X3_follow (nI n) f c.opn c.col c.way c.a c.b c.c c.d c.e c.f c.x c.y c.u c.v c.na c.nb c.nc c.nd c.ne c.nf c.pts c.lns c.fst c.ftx c.fty c.ltx c.lty c.lx c.ly c.gy c.xs c.ys c.bg c.sc c.sw c.sa c.sb c.sC c.sd c.se c.sf c.sx c.sy c.su c.sv (nI p) = some (c'.opn, c'.col, c'.way, c'.a, c'.b, c'.c, c'.d, c'.e, c'.f, c'.x, c'.y, c'.u, c'.v, c'.na, c'.nb, c'.nc, c'.nd, c'.ne, c'.nf, c'.pts, c'.lns, c'.fst, c'.ftx, c'.fty, c'.ltx, c'.lty, c'.lx, c'.ly, c'.gy, c'.xs, c'.ys, c'.bg, c'.sc, c'.sw, c'.sa, c'.sb, c'.sC, c'.sd, c'.se, c'.sf, c'.sx, c'.sy, c'.su, c'.sv) ∧ m_X12_follow wd r.told r.cut r.both r.points r.px r.py r.begins r.startX r.startY r.startPoint r.begun r.lines r.lastX r.lastY r.saves r.saved (nI m) (nI (o + p)) = some (r'.told, r'.cut, r'.both, r'.points, r'.px, r'.py, r'.begins, r'.startX, r'.startY, r'.startPoint, r'.begun, r'.lines, r'.lastX, r'.lastY, r'.saves, r'.saved) ∧ SCf c c' (f p) (f (p + 1)) no ∧ RM m W H no (np + 1) (nl + 1) c' r' ∧ RFr m r r' := by
  have hcl : cl (f p) = 3 := by rw [hc]; rfl
  rw [hcl] at hp heq
  have hrc : wd (o + p) = 5 := by
    have := heq 0 (by omega)
    rw [Nat.add_zero, Nat.add_zero] at this
    rw [← this, hc]
  have s1 : nI p + 1 = nI (p + 1) := nI_add p 1
  have s2 : nI p + 2 = nI (p + 2) := nI_add p 2
  have q1 : nI (o + p) + 1 = nI (o + p + 1) := nI_add (o + p) 1
  have w1 := heq 1 (by omega)
  have w2 := heq 2 (by omega)
  obtain ⟨h1, h2, h3, h4, h5, h6, h7⟩ := id h
  obtain ⟨points', lines', ltx', lty', lx', ly', gy', xs', ys', bg', rpoints', px', py', begins', startX', startY', startPoint', begun', rlines', lastX', lastY', hC, hR, hP, hF⟩ := p_line hm h0 hb hl h7 h.TT (begun := r.begun) (f (p + 1)) (f (p + 2))
  refine ⟨(CM.mk c.opn c.col c.way c.a c.b c.c c.d c.e c.f c.x c.y c.u c.v c.na c.nb c.nc c.nd c.ne c.nf points' lines' c.fst c.ftx c.fty ltx' lty' lx' ly' gy' xs' ys' bg' c.sc c.sw c.sa c.sb c.sC c.sd c.se c.sf c.sx c.sy c.su c.sv), (RF.mk r.told r.cut r.both rpoints' px' py' begins' startX' startY' startPoint' begun' rlines' lastX' lastY' r.saves r.saved), ?_, ?_, by unfold SCf est; rw [hc]; simp, ⟨h1, h2, h3, h4, h5, h6, hP⟩, fun _ _ => rfl, fun _ _ => rfl, fun _ _ => rfl, hF⟩
  · unfold m_X3_follow
    rw [s1, word_wv hn (show p + 1 < 2 ^ 31 by omega), bd1_s, s2, word_wv hn (show p + 2 < 2 ^ 31 by omega), bd1_s, word_ok (show p < n by omega) hn, bd1_s, hc, if_neg (by decide), if_neg (by decide), if_neg (by decide), if_neg (by decide), if_pos rfl]
    rw [wv_in (show p + 1 < n by omega), wv_in (show p + 2 < n by omega), hC, bd10_s]
  · unfold m_X12_follow
    rw [nm_s, q1, inb_s (show o + p < 4500 by omega) (by decide), gd_s, nm_s, nI_clamp (show o + p < 2 ^ 31 by omega), hrc, jn_s, jn_s, if_neg (by decide), if_neg (by decide), if_neg (by decide), if_neg (by decide), if_pos rfl]
    have q2 : nI (o + p + 1) + 1 = nI (o + p + 2) := nI_add (o + p + 1) 1
    have q3 : nI (o + p + 1) + 2 = nI (o + p + 3) := nI_add (o + p + 1) 2
    have q4 : nI (o + p + 1) + 3 = nI (o + p + 4) := nI_add (o + p + 1) 3
    rw [inb_s (show o + p + 1 < 4500 by omega) (show 4500 < 2 ^ 31 by decide), gd_s, nm_s, q2, inb_s (show o + p + 2 < 4500 by omega) (show 4500 < 2 ^ 31 by decide), gd_s, nm_s, gd_s, nm_s, jn_s, if_neg (by decide), nI_clamp (show o + p + 1 < 2 ^ 31 by omega), nI_clamp (show o + p + 2 < 2 ^ 31 by omega), ← w1, ← w2]
    show bd11 _ _ = _
    rw [hR, bd11_s]
theorem follow_6 {m W H no np nl n p o : Nat} {c : CM} {r : RF} {f wd : Nat → Int32} (hm : m ≤ 1) (h : RM m W H no np nl c r) (hn : n ≤ 1500) (ho : o ≤ 3000) (hp : p + cl (f p) ≤ n) (heq : ∀ j, j < cl (f p) → f (p + j) = wd (o + p + j)) (hc : f p = 6) (h0 : 0 < np) (hb : np + 8 ≤ 800) (hl : nl + 8 ≤ 300) : ∃ (c' : CM) (r' : RF), m_X3_follow (nI n) f c.opn c.col c.way c.a c.b c.c c.d c.e c.f c.x c.y c.u c.v c.na c.nb c.nc c.nd c.ne c.nf c.pts c.lns c.fst c.ftx c.fty c.ltx c.lty c.lx c.ly c.gy c.xs c.ys c.bg c.sc c.sw c.sa c.sb c.sC c.sd c.se c.sf c.sx c.sy c.su c.sv (nI p) = some (c'.opn, c'.col, c'.way, c'.a, c'.b, c'.c, c'.d, c'.e, c'.f, c'.x, c'.y, c'.u, c'.v, c'.na, c'.nb, c'.nc, c'.nd, c'.ne, c'.nf, c'.pts, c'.lns, c'.fst, c'.ftx, c'.fty, c'.ltx, c'.lty, c'.lx, c'.ly, c'.gy, c'.xs, c'.ys, c'.bg, c'.sc, c'.sw, c'.sa, c'.sb, c'.sC, c'.sd, c'.se, c'.sf, c'.sx, c'.sy, c'.su, c'.sv) ∧ m_X12_follow wd r.told r.cut r.both r.points r.px r.py r.begins r.startX r.startY r.startPoint r.begun r.lines r.lastX r.lastY r.saves r.saved (nI m) (nI (o + p)) = some (r'.told, r'.cut, r'.both, r'.points, r'.px, r'.py, r'.begins, r'.startX, r'.startY, r'.startPoint, r'.begun, r'.lines, r'.lastX, r'.lastY, r'.saves, r'.saved) ∧ SCf c c' (f p) (f (p + 1)) no ∧ RM m W H no (np + 8) (nl + 8) c' r' ∧ RFr m r r' := by
  have hcl : cl (f p) = 5 := by rw [hc]; rfl
  rw [hcl] at hp heq
  have hrc : wd (o + p) = 6 := by
    have := heq 0 (by omega)
    rw [Nat.add_zero, Nat.add_zero] at this
    rw [← this, hc]
  have s1 : nI p + 1 = nI (p + 1) := nI_add p 1
  have s2 : nI p + 2 = nI (p + 2) := nI_add p 2
  have q1 : nI (o + p) + 1 = nI (o + p + 1) := nI_add (o + p) 1
  have w1 := heq 1 (by omega)
  have w2 := heq 2 (by omega)
  have w3 := heq 3 (by omega)
  have w4 := heq 4 (by omega)
  obtain ⟨h1, h2, h3, h4, h5, h6, h7⟩ := id h
  obtain ⟨points', lines', ltx', lty', lx', ly', gy', xs', ys', bg', rpoints', px', py', begins', startX', startY', startPoint', begun', rlines', lastX', lastY', hC, hR, hP, hF⟩ := p_curve hm h0 hb hl h7 h.TT (begun := r.begun) (f (p + 1)) (f (p + 2)) (f (p + 3)) (f (p + 4))
  refine ⟨(CM.mk c.opn c.col c.way c.a c.b c.c c.d c.e c.f c.x c.y c.u c.v c.na c.nb c.nc c.nd c.ne c.nf points' lines' c.fst c.ftx c.fty ltx' lty' lx' ly' gy' xs' ys' bg' c.sc c.sw c.sa c.sb c.sC c.sd c.se c.sf c.sx c.sy c.su c.sv), (RF.mk r.told r.cut r.both rpoints' px' py' begins' startX' startY' startPoint' begun' rlines' lastX' lastY' r.saves r.saved), ?_, ?_, by unfold SCf est; rw [hc]; simp, ⟨h1, h2, h3, h4, h5, h6, hP⟩, fun _ _ => rfl, fun _ _ => rfl, fun _ _ => rfl, hF⟩
  · unfold m_X3_follow
    rw [s1, word_wv hn (show p + 1 < 2 ^ 31 by omega), bd1_s, s2, word_wv hn (show p + 2 < 2 ^ 31 by omega), bd1_s, word_ok (show p < n by omega) hn, bd1_s, hc, if_neg (by decide), if_neg (by decide), if_neg (by decide), if_neg (by decide), if_neg (by decide), if_pos rfl]
    rw [wv_in (show p + 1 < n by omega), wv_in (show p + 2 < n by omega), show nI p + 3 = nI (p + 3) from nI_add p 3, word_ok (show p + 3 < n by omega) hn, bd1_s, show nI p + 4 = nI (p + 4) from nI_add p 4, word_ok (show p + 4 < n by omega) hn, bd1_s, hC, bd10_s]
  · unfold m_X12_follow
    rw [nm_s, q1, inb_s (show o + p < 4500 by omega) (by decide), gd_s, nm_s, nI_clamp (show o + p < 2 ^ 31 by omega), hrc, jn_s, jn_s, if_neg (by decide), if_neg (by decide), if_neg (by decide), if_neg (by decide), if_neg (by decide), if_pos rfl]
    have q2 : nI (o + p + 1) + 1 = nI (o + p + 2) := nI_add (o + p + 1) 1
    have q3 : nI (o + p + 1) + 2 = nI (o + p + 3) := nI_add (o + p + 1) 2
    have q4 : nI (o + p + 1) + 3 = nI (o + p + 4) := nI_add (o + p + 1) 3
    rw [inb_s (show o + p + 1 < 4500 by omega) (show 4500 < 2 ^ 31 by decide), gd_s, nm_s, q2, inb_s (show o + p + 2 < 4500 by omega) (show 4500 < 2 ^ 31 by decide), gd_s, nm_s, q3, inb_s (show o + p + 3 < 4500 by omega) (show 4500 < 2 ^ 31 by decide), gd_s, nm_s, q4, inb_s (show o + p + 4 < 4500 by omega) (show 4500 < 2 ^ 31 by decide), gd_s, nm_s, nI_clamp (show o + p + 1 < 2 ^ 31 by omega), nI_clamp (show o + p + 2 < 2 ^ 31 by omega), nI_clamp (show o + p + 3 < 2 ^ 31 by omega), nI_clamp (show o + p + 4 < 2 ^ 31 by omega), ← w1, ← w2, ← w3, ← w4]
    rw [hR, bd11_s]
theorem follow_7 {m W H no np nl n p o : Nat} {c : CM} {r : RF} {f wd : Nat → Int32} (hm : m ≤ 1) (h : RM m W H no np nl c r) (hn : n ≤ 1500) (ho : o ≤ 3000) (hp : p + cl (f p) ≤ n) (heq : ∀ j, j < cl (f p) → f (p + j) = wd (o + p + j)) (hc : f p = 7) (h0 : 0 < np) (hb : np < 800) (hl : nl + 1 ≤ 300) : ∃ (c' : CM) (r' : RF), m_X3_follow (nI n) f c.opn c.col c.way c.a c.b c.c c.d c.e c.f c.x c.y c.u c.v c.na c.nb c.nc c.nd c.ne c.nf c.pts c.lns c.fst c.ftx c.fty c.ltx c.lty c.lx c.ly c.gy c.xs c.ys c.bg c.sc c.sw c.sa c.sb c.sC c.sd c.se c.sf c.sx c.sy c.su c.sv (nI p) = some (c'.opn, c'.col, c'.way, c'.a, c'.b, c'.c, c'.d, c'.e, c'.f, c'.x, c'.y, c'.u, c'.v, c'.na, c'.nb, c'.nc, c'.nd, c'.ne, c'.nf, c'.pts, c'.lns, c'.fst, c'.ftx, c'.fty, c'.ltx, c'.lty, c'.lx, c'.ly, c'.gy, c'.xs, c'.ys, c'.bg, c'.sc, c'.sw, c'.sa, c'.sb, c'.sC, c'.sd, c'.se, c'.sf, c'.sx, c'.sy, c'.su, c'.sv) ∧ m_X12_follow wd r.told r.cut r.both r.points r.px r.py r.begins r.startX r.startY r.startPoint r.begun r.lines r.lastX r.lastY r.saves r.saved (nI m) (nI (o + p)) = some (r'.told, r'.cut, r'.both, r'.points, r'.px, r'.py, r'.begins, r'.startX, r'.startY, r'.startPoint, r'.begun, r'.lines, r'.lastX, r'.lastY, r'.saves, r'.saved) ∧ SCf c c' (f p) (f (p + 1)) no ∧ RM m W H no (np + 1) (nl + 1) c' r' ∧ RFr m r r' := by
  have hcl : cl (f p) = 1 := by rw [hc]; rfl
  rw [hcl] at hp heq
  have hrc : wd (o + p) = 7 := by
    have := heq 0 (by omega)
    rw [Nat.add_zero, Nat.add_zero] at this
    rw [← this, hc]
  have s1 : nI p + 1 = nI (p + 1) := nI_add p 1
  have s2 : nI p + 2 = nI (p + 2) := nI_add p 2
  have q1 : nI (o + p) + 1 = nI (o + p + 1) := nI_add (o + p) 1
  obtain ⟨h1, h2, h3, h4, h5, h6, h7⟩ := id h
  obtain ⟨points', lines', ltx', lty', lx', ly', gy', xs', ys', bg', rpoints', px', py', begins', rlines', lastX', lastY', hC, hR, hP, hF⟩ := p_close hm h0 hb hl h7
  refine ⟨(CM.mk c.opn c.col c.way c.a c.b c.c c.d c.e c.f c.x c.y c.u c.v c.na c.nb c.nc c.nd c.ne c.nf points' lines' c.fst c.ftx c.fty ltx' lty' lx' ly' gy' xs' ys' bg' c.sc c.sw c.sa c.sb c.sC c.sd c.se c.sf c.sx c.sy c.su c.sv), (RF.mk r.told r.cut r.both rpoints' px' py' begins' r.startX r.startY r.startPoint r.begun rlines' lastX' lastY' r.saves r.saved), ?_, ?_, by unfold SCf est; rw [hc]; simp, ⟨h1, h2, h3, h4, h5, h6, hP⟩, fun _ _ => rfl, fun _ _ => rfl, fun _ _ => rfl, hF⟩
  · unfold m_X3_follow
    rw [s1, word_wv hn (show p + 1 < 2 ^ 31 by omega), bd1_s, s2, word_wv hn (show p + 2 < 2 ^ 31 by omega), bd1_s, word_ok (show p < n by omega) hn, bd1_s, hc, if_neg (by decide), if_neg (by decide), if_neg (by decide), if_neg (by decide), if_neg (by decide), if_neg (by decide), if_pos rfl]
    rw [hC, bd10_s]
  · unfold m_X12_follow
    rw [nm_s, q1, inb_s (show o + p < 4500 by omega) (by decide), gd_s, nm_s, nI_clamp (show o + p < 2 ^ 31 by omega), hrc, jn_s, jn_s, if_neg (by decide), if_neg (by decide), if_neg (by decide), if_neg (by decide), if_neg (by decide), if_neg (by decide), if_pos rfl]
    skip
    rw [hR, bd7_s]
theorem follow_8 {m W H no np nl n p o : Nat} {c : CM} {r : RF} {f wd : Nat → Int32} (hm : m ≤ 1) (h : RM m W H no np nl c r) (hn : n ≤ 1500) (ho : o ≤ 3000) (hp : p + cl (f p) ≤ n) (heq : ∀ j, j < cl (f p) → f (p + j) = wd (o + p + j)) (hc : f p = 8) (hb : np + 5 ≤ 800) (hl : nl + 4 ≤ 300) : ∃ (c' : CM) (r' : RF), m_X3_follow (nI n) f c.opn c.col c.way c.a c.b c.c c.d c.e c.f c.x c.y c.u c.v c.na c.nb c.nc c.nd c.ne c.nf c.pts c.lns c.fst c.ftx c.fty c.ltx c.lty c.lx c.ly c.gy c.xs c.ys c.bg c.sc c.sw c.sa c.sb c.sC c.sd c.se c.sf c.sx c.sy c.su c.sv (nI p) = some (c'.opn, c'.col, c'.way, c'.a, c'.b, c'.c, c'.d, c'.e, c'.f, c'.x, c'.y, c'.u, c'.v, c'.na, c'.nb, c'.nc, c'.nd, c'.ne, c'.nf, c'.pts, c'.lns, c'.fst, c'.ftx, c'.fty, c'.ltx, c'.lty, c'.lx, c'.ly, c'.gy, c'.xs, c'.ys, c'.bg, c'.sc, c'.sw, c'.sa, c'.sb, c'.sC, c'.sd, c'.se, c'.sf, c'.sx, c'.sy, c'.su, c'.sv) ∧ m_X12_follow wd r.told r.cut r.both r.points r.px r.py r.begins r.startX r.startY r.startPoint r.begun r.lines r.lastX r.lastY r.saves r.saved (nI m) (nI (o + p)) = some (r'.told, r'.cut, r'.both, r'.points, r'.px, r'.py, r'.begins, r'.startX, r'.startY, r'.startPoint, r'.begun, r'.lines, r'.lastX, r'.lastY, r'.saves, r'.saved) ∧ SCf c c' (f p) (f (p + 1)) no ∧ RM m W H no (np + 5) (nl + 4) c' r' ∧ RFr m r r' := by
  have hcl : cl (f p) = 5 := by rw [hc]; rfl
  rw [hcl] at hp heq
  have hrc : wd (o + p) = 8 := by
    have := heq 0 (by omega)
    rw [Nat.add_zero, Nat.add_zero] at this
    rw [← this, hc]
  have s1 : nI p + 1 = nI (p + 1) := nI_add p 1
  have s2 : nI p + 2 = nI (p + 2) := nI_add p 2
  have q1 : nI (o + p) + 1 = nI (o + p + 1) := nI_add (o + p) 1
  have w1 := heq 1 (by omega)
  have w2 := heq 2 (by omega)
  have w3 := heq 3 (by omega)
  have w4 := heq 4 (by omega)
  obtain ⟨h1, h2, h3, h4, h5, h6, h7⟩ := id h
  obtain ⟨points', lines', first', ftx', fty', ltx', lty', lx', ly', gy', xs', ys', bg', rpoints', px', py', begins', startX', startY', startPoint', begun', rlines', lastX', lastY', hC, hR, hP, hF⟩ := p_box hm hb hl h7 h.TT (begun := r.begun) (f (p + 1)) (f (p + 2)) (f (p + 3)) (f (p + 4))
  refine ⟨(CM.mk c.opn c.col c.way c.a c.b c.c c.d c.e c.f c.x c.y c.u c.v c.na c.nb c.nc c.nd c.ne c.nf points' lines' first' ftx' fty' ltx' lty' lx' ly' gy' xs' ys' bg' c.sc c.sw c.sa c.sb c.sC c.sd c.se c.sf c.sx c.sy c.su c.sv), (RF.mk r.told r.cut r.both rpoints' px' py' begins' startX' startY' startPoint' begun' rlines' lastX' lastY' r.saves r.saved), ?_, ?_, by unfold SCf est; rw [hc]; simp, ⟨h1, h2, h3, h4, h5, h6, hP⟩, fun _ _ => rfl, fun _ _ => rfl, fun _ _ => rfl, hF⟩
  · unfold m_X3_follow
    rw [s1, word_wv hn (show p + 1 < 2 ^ 31 by omega), bd1_s, s2, word_wv hn (show p + 2 < 2 ^ 31 by omega), bd1_s, word_ok (show p < n by omega) hn, bd1_s, hc, if_neg (by decide), if_neg (by decide), if_neg (by decide), if_neg (by decide), if_neg (by decide), if_neg (by decide), if_neg (by decide), if_pos rfl]
    rw [wv_in (show p + 1 < n by omega), wv_in (show p + 2 < n by omega), show nI p + 3 = nI (p + 3) from nI_add p 3, word_ok (show p + 3 < n by omega) hn, bd1_s, show nI p + 4 = nI (p + 4) from nI_add p 4, word_ok (show p + 4 < n by omega) hn, bd1_s, hC, bd13_s]
  · unfold m_X12_follow
    rw [nm_s, q1, inb_s (show o + p < 4500 by omega) (by decide), gd_s, nm_s, nI_clamp (show o + p < 2 ^ 31 by omega), hrc, jn_s, jn_s, if_neg (by decide), if_neg (by decide), if_neg (by decide), if_neg (by decide), if_neg (by decide), if_neg (by decide), if_neg (by decide), if_pos rfl]
    have q2 : nI (o + p + 1) + 1 = nI (o + p + 2) := nI_add (o + p + 1) 1
    have q3 : nI (o + p + 1) + 2 = nI (o + p + 3) := nI_add (o + p + 1) 2
    have q4 : nI (o + p + 1) + 3 = nI (o + p + 4) := nI_add (o + p + 1) 3
    rw [inb_s (show o + p + 1 < 4500 by omega) (show 4500 < 2 ^ 31 by decide), gd_s, nm_s, q2, inb_s (show o + p + 2 < 4500 by omega) (show 4500 < 2 ^ 31 by decide), gd_s, nm_s, q3, inb_s (show o + p + 3 < 4500 by omega) (show 4500 < 2 ^ 31 by decide), gd_s, nm_s, q4, inb_s (show o + p + 4 < 4500 by omega) (show 4500 < 2 ^ 31 by decide), gd_s, nm_s, nI_clamp (show o + p + 1 < 2 ^ 31 by omega), nI_clamp (show o + p + 2 < 2 ^ 31 by omega), nI_clamp (show o + p + 3 < 2 ^ 31 by omega), nI_clamp (show o + p + 4 < 2 ^ 31 by omega), ← w1, ← w2, ← w3, ← w4]
    rw [hR, bd11_s]
theorem follow_10 {m W H no np nl n p o : Nat} {c : CM} {r : RF} {f wd : Nat → Int32} (hm : m ≤ 1) (h : RM m W H no np nl c r) (hn : n ≤ 1500) (ho : o ≤ 3000) (hp : p + cl (f p) ≤ n) (heq : ∀ j, j < cl (f p) → f (p + j) = wd (o + p + j)) (hc : f p = 10) : ∃ (c' : CM) (r' : RF), m_X3_follow (nI n) f c.opn c.col c.way c.a c.b c.c c.d c.e c.f c.x c.y c.u c.v c.na c.nb c.nc c.nd c.ne c.nf c.pts c.lns c.fst c.ftx c.fty c.ltx c.lty c.lx c.ly c.gy c.xs c.ys c.bg c.sc c.sw c.sa c.sb c.sC c.sd c.se c.sf c.sx c.sy c.su c.sv (nI p) = some (c'.opn, c'.col, c'.way, c'.a, c'.b, c'.c, c'.d, c'.e, c'.f, c'.x, c'.y, c'.u, c'.v, c'.na, c'.nb, c'.nc, c'.nd, c'.ne, c'.nf, c'.pts, c'.lns, c'.fst, c'.ftx, c'.fty, c'.ltx, c'.lty, c'.lx, c'.ly, c'.gy, c'.xs, c'.ys, c'.bg, c'.sc, c'.sw, c'.sa, c'.sb, c'.sC, c'.sd, c'.se, c'.sf, c'.sx, c'.sy, c'.su, c'.sv) ∧ m_X12_follow wd r.told r.cut r.both r.points r.px r.py r.begins r.startX r.startY r.startPoint r.begun r.lines r.lastX r.lastY r.saves r.saved (nI m) (nI (o + p)) = some (r'.told, r'.cut, r'.both, r'.points, r'.px, r'.py, r'.begins, r'.startX, r'.startY, r'.startPoint, r'.begun, r'.lines, r'.lastX, r'.lastY, r'.saves, r'.saved) ∧ SCf c c' (f p) (f (p + 1)) no ∧ RM m W H no np nl c' r' ∧ RFr m r r' := by
  have hcl : cl (f p) = 2 := by rw [hc]; rfl
  rw [hcl] at hp heq
  have hrc : wd (o + p) = 10 := by
    have := heq 0 (by omega)
    rw [Nat.add_zero, Nat.add_zero] at this
    rw [← this, hc]
  have s1 : nI p + 1 = nI (p + 1) := nI_add p 1
  have s2 : nI p + 2 = nI (p + 2) := nI_add p 2
  have q1 : nI (o + p) + 1 = nI (o + p + 1) := nI_add (o + p) 1
  have w1 := heq 1 (by omega)
  obtain ⟨h1, h2, h3, h4, h5, h6, h7⟩ := id h
  obtain ⟨t0, t1, t2, t3, t4, t5, t6, t7, t8, t9, t10, t11⟩ := h4
  have e10 : (12 : Int32) * nI m + 10 = nI (12 * m + 10) := n12 m 10
  refine ⟨(CM.mk c.opn (f (p + 1)) c.way c.a c.b c.c c.d c.e c.f c.x c.y c.u c.v c.na c.nb c.nc c.nd c.ne c.nf c.pts c.lns c.fst c.ftx c.fty c.ltx c.lty c.lx c.ly c.gy c.xs c.ys c.bg c.sc c.sw c.sa c.sb c.sC c.sd c.se c.sf c.sx c.sy c.su c.sv), (RF.mk (upd r.told (12 * m + 10) (f (p + 1))) r.cut r.both r.points r.px r.py r.begins r.startX r.startY r.startPoint r.begun r.lines r.lastX r.lastY r.saves r.saved), ?_, ?_, by unfold SCf est; rw [hc]; simp, ⟨h1, h2, h3, ?_, h5, h6, h7⟩, fun j hj => pk_un (by omega), fun _ _ => rfl, fun _ _ => rfl, PFr.refl _ _ _ _ _ _ _ _ _ _ _⟩
  · unfold m_X3_follow
    rw [s1, word_wv hn (show p + 1 < 2 ^ 31 by omega), bd1_s, s2, word_wv hn (show p + 2 < 2 ^ 31 by omega), bd1_s, word_ok (show p < n by omega) hn, bd1_s, hc, if_neg (by decide), if_neg (by decide), if_neg (by decide), if_neg (by decide), if_neg (by decide), if_neg (by decide), if_neg (by decide), if_neg (by decide), if_neg (by decide), if_pos rfl]
    rw [bd1_s, wv_in (show p + 1 < n by omega)]
  · unfold m_X12_follow
    rw [nm_s, q1, inb_s (show o + p < 4500 by omega) (by decide), gd_s, nm_s, nI_clamp (show o + p < 2 ^ 31 by omega), hrc, jn_s, jn_s, if_neg (by decide), if_neg (by decide), if_neg (by decide), if_neg (by decide), if_neg (by decide), if_neg (by decide), if_neg (by decide), if_neg (by decide), if_neg (by decide), if_pos rfl]
    rw [gd_s, nm_s, inb_s (show o + p + 1 < 4500 by omega) (show 4500 < 2 ^ 31 by decide), gd_s, nm_s, e10, inb_s (show 12 * m + 10 < 24 by omega) (by decide), gd_s, nm_s, nI_clamp (show 12 * m + 10 < 2 ^ 31 by omega), nI_clamp (show o + p + 1 < 2 ^ 31 by omega), ← w1]
  · refine ⟨?_, ?_, ?_, ?_, ?_, ?_, ?_, ?_, ?_, ?_, ?_, ?_⟩ <;> first | exact pk_us | (show upd _ _ _ _ = _; rw [pk_un (by omega)]; assumption)
theorem follow_11 {m W H no np nl n p o : Nat} {c : CM} {r : RF} {f wd : Nat → Int32} (hm : m ≤ 1) (h : RM m W H no np nl c r) (hn : n ≤ 1500) (ho : o ≤ 3000) (hp : p + cl (f p) ≤ n) (heq : ∀ j, j < cl (f p) → f (p + j) = wd (o + p + j)) (hc : f p = 11) : ∃ (c' : CM) (r' : RF), m_X3_follow (nI n) f c.opn c.col c.way c.a c.b c.c c.d c.e c.f c.x c.y c.u c.v c.na c.nb c.nc c.nd c.ne c.nf c.pts c.lns c.fst c.ftx c.fty c.ltx c.lty c.lx c.ly c.gy c.xs c.ys c.bg c.sc c.sw c.sa c.sb c.sC c.sd c.se c.sf c.sx c.sy c.su c.sv (nI p) = some (c'.opn, c'.col, c'.way, c'.a, c'.b, c'.c, c'.d, c'.e, c'.f, c'.x, c'.y, c'.u, c'.v, c'.na, c'.nb, c'.nc, c'.nd, c'.ne, c'.nf, c'.pts, c'.lns, c'.fst, c'.ftx, c'.fty, c'.ltx, c'.lty, c'.lx, c'.ly, c'.gy, c'.xs, c'.ys, c'.bg, c'.sc, c'.sw, c'.sa, c'.sb, c'.sC, c'.sd, c'.se, c'.sf, c'.sx, c'.sy, c'.su, c'.sv) ∧ m_X12_follow wd r.told r.cut r.both r.points r.px r.py r.begins r.startX r.startY r.startPoint r.begun r.lines r.lastX r.lastY r.saves r.saved (nI m) (nI (o + p)) = some (r'.told, r'.cut, r'.both, r'.points, r'.px, r'.py, r'.begins, r'.startX, r'.startY, r'.startPoint, r'.begun, r'.lines, r'.lastX, r'.lastY, r'.saves, r'.saved) ∧ SCf c c' (f p) (f (p + 1)) no ∧ RM m W H no np nl c' r' ∧ RFr m r r' := by
  have hcl : cl (f p) = 2 := by rw [hc]; rfl
  rw [hcl] at hp heq
  have hrc : wd (o + p) = 11 := by
    have := heq 0 (by omega)
    rw [Nat.add_zero, Nat.add_zero] at this
    rw [← this, hc]
  have s1 : nI p + 1 = nI (p + 1) := nI_add p 1
  have s2 : nI p + 2 = nI (p + 2) := nI_add p 2
  have q1 : nI (o + p) + 1 = nI (o + p + 1) := nI_add (o + p) 1
  have w1 := heq 1 (by omega)
  obtain ⟨h1, h2, h3, h4, h5, h6, h7⟩ := id h
  obtain ⟨t0, t1, t2, t3, t4, t5, t6, t7, t8, t9, t10, t11⟩ := h4
  have e10 : (12 : Int32) * nI m + 11 = nI (12 * m + 11) := n12 m 11
  refine ⟨(CM.mk c.opn c.col (f (p + 1)) c.a c.b c.c c.d c.e c.f c.x c.y c.u c.v c.na c.nb c.nc c.nd c.ne c.nf c.pts c.lns c.fst c.ftx c.fty c.ltx c.lty c.lx c.ly c.gy c.xs c.ys c.bg c.sc c.sw c.sa c.sb c.sC c.sd c.se c.sf c.sx c.sy c.su c.sv), (RF.mk (upd r.told (12 * m + 11) (f (p + 1))) r.cut r.both r.points r.px r.py r.begins r.startX r.startY r.startPoint r.begun r.lines r.lastX r.lastY r.saves r.saved), ?_, ?_, by unfold SCf est; rw [hc]; simp, ⟨h1, h2, h3, ?_, h5, h6, h7⟩, fun j hj => pk_un (by omega), fun _ _ => rfl, fun _ _ => rfl, PFr.refl _ _ _ _ _ _ _ _ _ _ _⟩
  · unfold m_X3_follow
    rw [s1, word_wv hn (show p + 1 < 2 ^ 31 by omega), bd1_s, s2, word_wv hn (show p + 2 < 2 ^ 31 by omega), bd1_s, word_ok (show p < n by omega) hn, bd1_s, hc, if_neg (by decide), if_neg (by decide), if_neg (by decide), if_neg (by decide), if_neg (by decide), if_neg (by decide), if_neg (by decide), if_neg (by decide), if_neg (by decide), if_neg (by decide), if_pos rfl]
    rw [bd1_s, wv_in (show p + 1 < n by omega)]
  · unfold m_X12_follow
    rw [nm_s, q1, inb_s (show o + p < 4500 by omega) (by decide), gd_s, nm_s, nI_clamp (show o + p < 2 ^ 31 by omega), hrc, jn_s, jn_s, if_neg (by decide), if_neg (by decide), if_neg (by decide), if_neg (by decide), if_neg (by decide), if_neg (by decide), if_neg (by decide), if_neg (by decide), if_neg (by decide), if_neg (by decide), if_pos rfl]
    rw [gd_s, nm_s, inb_s (show o + p + 1 < 4500 by omega) (show 4500 < 2 ^ 31 by decide), gd_s, nm_s, e10, inb_s (show 12 * m + 11 < 24 by omega) (by decide), gd_s, nm_s, nI_clamp (show 12 * m + 11 < 2 ^ 31 by omega), nI_clamp (show o + p + 1 < 2 ^ 31 by omega), ← w1]
  · refine ⟨?_, ?_, ?_, ?_, ?_, ?_, ?_, ?_, ?_, ?_, ?_, ?_⟩ <;> first | exact pk_us | (show upd _ _ _ _ = _; rw [pk_un (by omega)]; assumption)
theorem follow_12 {m W H no np nl n p o : Nat} {c : CM} {r : RF} {f wd : Nat → Int32} (hm : m ≤ 1) (h : RM m W H no np nl c r) (hn : n ≤ 1500) (ho : o ≤ 3000) (hp : p + cl (f p) ≤ n) (heq : ∀ j, j < cl (f p) → f (p + j) = wd (o + p + j)) (hc : f p = 12) : ∃ (c' : CM) (r' : RF), m_X3_follow (nI n) f c.opn c.col c.way c.a c.b c.c c.d c.e c.f c.x c.y c.u c.v c.na c.nb c.nc c.nd c.ne c.nf c.pts c.lns c.fst c.ftx c.fty c.ltx c.lty c.lx c.ly c.gy c.xs c.ys c.bg c.sc c.sw c.sa c.sb c.sC c.sd c.se c.sf c.sx c.sy c.su c.sv (nI p) = some (c'.opn, c'.col, c'.way, c'.a, c'.b, c'.c, c'.d, c'.e, c'.f, c'.x, c'.y, c'.u, c'.v, c'.na, c'.nb, c'.nc, c'.nd, c'.ne, c'.nf, c'.pts, c'.lns, c'.fst, c'.ftx, c'.fty, c'.ltx, c'.lty, c'.lx, c'.ly, c'.gy, c'.xs, c'.ys, c'.bg, c'.sc, c'.sw, c'.sa, c'.sb, c'.sC, c'.sd, c'.se, c'.sf, c'.sx, c'.sy, c'.su, c'.sv) ∧ m_X12_follow wd r.told r.cut r.both r.points r.px r.py r.begins r.startX r.startY r.startPoint r.begun r.lines r.lastX r.lastY r.saves r.saved (nI m) (nI (o + p)) = some (r'.told, r'.cut, r'.both, r'.points, r'.px, r'.py, r'.begins, r'.startX, r'.startY, r'.startPoint, r'.begun, r'.lines, r'.lastX, r'.lastY, r'.saves, r'.saved) ∧ SCf c c' (f p) (f (p + 1)) no ∧ RM m W H no np nl c' r' ∧ RFr m r r' := by
  have hcl : cl (f p) = 7 := by rw [hc]; rfl
  rw [hcl] at hp heq
  have hrc : wd (o + p) = 12 := by
    have := heq 0 (by omega)
    rw [Nat.add_zero, Nat.add_zero] at this
    rw [← this, hc]
  have s1 : nI p + 1 = nI (p + 1) := nI_add p 1
  have s2 : nI p + 2 = nI (p + 2) := nI_add p 2
  have q1 : nI (o + p) + 1 = nI (o + p + 1) := nI_add (o + p) 1
  have w1 := heq 1 (by omega)
  have w2 := heq 2 (by omega)
  have w3 := heq 3 (by omega)
  have w4 := heq 4 (by omega)
  have w5 := heq 5 (by omega)
  have w6 := heq 6 (by omega)
  obtain ⟨h1, h2, h3, h4, h5, h6, h7⟩ := id h
  obtain ⟨t0, t1, t2, t3, t4, t5, t6, t7, t8, t9, t10, t11⟩ := h4
  obtain ⟨bo, hb, b0, b1, b2, b3, b4, b5⟩ := rcomposeTold_ok hm (show o + p + 1 + 5 < 4500 by omega) r.told wd r.both
  obtain ⟨t', ht, k1, k2⟩ := tab_loop hm r.cut bo r.points r.px r.py r.begins r.startX r.startY r.startPoint r.begun r.lines r.lastX r.lastY r.saves r.saved FU 0 r.told (by omega) (by show 6 < 0 + 1000000; omega)
  have x0 := k1 0 (by omega) (by omega)
  have x1 := k1 1 (by omega) (by omega)
  have x2 := k1 2 (by omega) (by omega)
  have x3 := k1 3 (by omega) (by omega)
  have x4 := k1 4 (by omega) (by omega)
  have x5 := k1 5 (by omega) (by omega)
  rw [b0, t0, t2] at x0
  rw [b1, t1, t3] at x1
  rw [b2, t0, t2] at x2
  rw [b3, t1, t3] at x3
  rw [b4, t0, t2, t4] at x4
  rw [b5, t1, t3, t5] at x5
  rw [← w1, ← w2] at x0 x1
  rw [← w3, ← w4] at x2 x3
  rw [← w5, ← w6] at x4 x5
  obtain ⟨v1, hv1⟩ : ∃ z, z = tq c.a c.c (f (p + 1)) (f (p + 2)) := ⟨_, rfl⟩
  obtain ⟨v2, hv2⟩ : ∃ z, z = tq c.b c.d (f (p + 1)) (f (p + 2)) := ⟨_, rfl⟩
  obtain ⟨v3, hv3⟩ : ∃ z, z = tq c.a c.c (f (p + 3)) (f (p + 4)) := ⟨_, rfl⟩
  obtain ⟨v4, hv4⟩ : ∃ z, z = tq c.b c.d (f (p + 3)) (f (p + 4)) := ⟨_, rfl⟩
  obtain ⟨v5, hv5⟩ : ∃ z, z = c.e + tq c.a c.c (f (p + 5)) (f (p + 6)) := ⟨_, rfl⟩
  obtain ⟨v6, hv6⟩ : ∃ z, z = c.f + tq c.b c.d (f (p + 5)) (f (p + 6)) := ⟨_, rfl⟩
  rw [← hv1] at x0
  rw [← hv2] at x1
  rw [← hv3] at x2
  rw [← hv4] at x3
  rw [← hv5] at x4
  rw [← hv6] at x5
  refine ⟨(CM.mk c.opn c.col c.way v1 v2 v3 v4 v5 v6 c.x c.y c.u c.v (f (p + 1)) (f (p + 2)) (f (p + 3)) (f (p + 4)) (f (p + 5)) (f (p + 6)) c.pts c.lns c.fst c.ftx c.fty c.ltx c.lty c.lx c.ly c.gy c.xs c.ys c.bg c.sc c.sw c.sa c.sb c.sC c.sd c.se c.sf c.sx c.sy c.su c.sv), (RF.mk t' r.cut bo r.points r.px r.py r.begins r.startX r.startY r.startPoint r.begun r.lines r.lastX r.lastY r.saves r.saved), ?_, ?_, sc_0 (by rw [hc]; decide) (by rw [hc]; decide) (by rw [hc]; decide) (by rw [hc]; decide) rfl rfl rfl rfl, ⟨h1, h2, h3, ?_, h5, h6, h7⟩, fun j hj => k2 j (by omega), fun _ _ => rfl, fun _ _ => rfl, PFr.refl _ _ _ _ _ _ _ _ _ _ _⟩
  · unfold m_X3_follow
    rw [s1, word_wv hn (show p + 1 < 2 ^ 31 by omega), bd1_s, s2, word_wv hn (show p + 2 < 2 ^ 31 by omega), bd1_s, word_ok (show p < n by omega) hn, bd1_s, hc, if_neg (by decide), if_neg (by decide), if_neg (by decide), if_neg (by decide), if_neg (by decide), if_neg (by decide), if_neg (by decide), if_neg (by decide), if_neg (by decide), if_neg (by decide), if_neg (by decide), if_pos rfl]
    rw [readFrom_ok hn (by omega), bd6_s, goBehind_ok, bd6_s, ← hv1, ← hv2, ← hv3, ← hv4, ← hv5, ← hv6]
  · unfold m_X12_follow
    rw [nm_s, q1, inb_s (show o + p < 4500 by omega) (by decide), gd_s, nm_s, nI_clamp (show o + p < 2 ^ 31 by omega), hrc, jn_s, jn_s, if_neg (by decide), if_neg (by decide), if_neg (by decide), if_neg (by decide), if_neg (by decide), if_neg (by decide), if_neg (by decide), if_neg (by decide), if_neg (by decide), if_neg (by decide), if_neg (by decide), if_pos rfl]
    rw [hb, bd1_s]
    exact ht
  · exact ⟨x0, x1, x2, x3, x4, x5, (k2 _ (by omega)).trans t6, (k2 _ (by omega)).trans t7, (k2 _ (by omega)).trans t8, (k2 _ (by omega)).trans t9, (k2 _ (by omega)).trans t10, (k2 _ (by omega)).trans t11⟩
theorem follow_13 {m W H no np nl n p o : Nat} {c : CM} {r : RF} {f wd : Nat → Int32} (hm : m ≤ 1) (h : RM m W H no np nl c r) (hn : n ≤ 1500) (ho : o ≤ 3000) (hp : p + cl (f p) ≤ n) (heq : ∀ j, j < cl (f p) → f (p + j) = wd (o + p + j)) (hc : f p = 13) (hW : W ≤ 32) (hH : H ≤ 32) (hbd : bnd f p 4 = true) : ∃ (c' : CM) (r' : RF), m_X3_follow (nI n) f c.opn c.col c.way c.a c.b c.c c.d c.e c.f c.x c.y c.u c.v c.na c.nb c.nc c.nd c.ne c.nf c.pts c.lns c.fst c.ftx c.fty c.ltx c.lty c.lx c.ly c.gy c.xs c.ys c.bg c.sc c.sw c.sa c.sb c.sC c.sd c.se c.sf c.sx c.sy c.su c.sv (nI p) = some (c'.opn, c'.col, c'.way, c'.a, c'.b, c'.c, c'.d, c'.e, c'.f, c'.x, c'.y, c'.u, c'.v, c'.na, c'.nb, c'.nc, c'.nd, c'.ne, c'.nf, c'.pts, c'.lns, c'.fst, c'.ftx, c'.fty, c'.ltx, c'.lty, c'.lx, c'.ly, c'.gy, c'.xs, c'.ys, c'.bg, c'.sc, c'.sw, c'.sa, c'.sb, c'.sC, c'.sd, c'.se, c'.sf, c'.sx, c'.sy, c'.su, c'.sv) ∧ m_X12_follow wd r.told r.cut r.both r.points r.px r.py r.begins r.startX r.startY r.startPoint r.begun r.lines r.lastX r.lastY r.saves r.saved (nI m) (nI (o + p)) = some (r'.told, r'.cut, r'.both, r'.points, r'.px, r'.py, r'.begins, r'.startX, r'.startY, r'.startPoint, r'.begun, r'.lines, r'.lastX, r'.lastY, r'.saves, r'.saved) ∧ SCf c c' (f p) (f (p + 1)) no ∧ RM m W H no np nl c' r' ∧ RFr m r r' := by
  have hcl : cl (f p) = 5 := by rw [hc]; rfl
  rw [hcl] at hp heq
  have hrc : wd (o + p) = 13 := by
    have := heq 0 (by omega)
    rw [Nat.add_zero, Nat.add_zero] at this
    rw [← this, hc]
  have s1 : nI p + 1 = nI (p + 1) := nI_add p 1
  have s2 : nI p + 2 = nI (p + 2) := nI_add p 2
  have q1 : nI (o + p) + 1 = nI (o + p + 1) := nI_add (o + p) 1
  have w1 := heq 1 (by omega)
  have w2 := heq 2 (by omega)
  have w3 := heq 3 (by omega)
  have w4 := heq 4 (by omega)
  obtain ⟨h1, h2, h3, h4, h5, h6, h7⟩ := id h
  obtain ⟨t0, t1, t2, t3, t4, t5, t6, t7, t8, t9, t10, t11⟩ := h4
  obtain ⟨g, hg, gq⟩ := rclip_ok hm (show o + p + 1 + 3 < 4500 by omega) wd r.told r.cut
  rw [t6, t7, t8, t9, show o + p + 1 + 1 = o + p + 2 from rfl, show o + p + 1 + 2 = o + p + 3 from rfl, show o + p + 1 + 3 = o + p + 4 from rfl, ← w1, ← w2, ← w3, ← w4] at gq
  obtain ⟨t', ht, k1, k2⟩ := cut_loop hm g r.both r.points r.px r.py r.begins r.startX r.startY r.startPoint r.begun r.lines r.lastX r.lastY r.saves r.saved FU 0 r.told (by omega) (by show 4 < 0 + 1000000; omega)
  have x0 := k1 0 (by omega) (by omega)
  have x1 := k1 1 (by omega) (by omega)
  have x2 := k1 2 (by omega) (by omega)
  have x3 := k1 3 (by omega) (by omega)
  have y1 := bnd_at hbd 1 (by omega) (by omega)
  have y2 := bnd_at hbd 2 (by omega) (by omega)
  have y3 := bnd_at hbd 3 (by omega) (by omega)
  have y4 := bnd_at hbd 4 (by omega) (by omega)
  rw [hc] at y1 y2 y3 y4
  have hcb := cut_box hW hH h5 (far_i (b := 1000000) (B := 1000000) (by decide) (by decide) y1) (far_i (b := 1000000) (B := 1000000) (by decide) (by decide) y2) (inn_i (hi := 1000000) (B := 1000000) (by decide) y3) (inn_i (hi := 1000000) (B := 1000000) (by decide) y4)
  rw [← gq] at hcb
  refine ⟨(CM.mk c.opn c.col c.way c.a c.b c.c c.d c.e c.f (g 0) (g 1) (g 2) (g 3) c.na c.nb c.nc c.nd c.ne c.nf c.pts c.lns c.fst c.ftx c.fty c.ltx c.lty c.lx c.ly c.gy c.xs c.ys c.bg c.sc c.sw c.sa c.sb c.sC c.sd c.se c.sf c.sx c.sy c.su c.sv), (RF.mk t' g r.both r.points r.px r.py r.begins r.startX r.startY r.startPoint r.begun r.lines r.lastX r.lastY r.saves r.saved), ?_, ?_, sc_0 (by rw [hc]; decide) (by rw [hc]; decide) (by rw [hc]; decide) (by rw [hc]; decide) rfl rfl rfl rfl, ⟨h1, h2, h3, ?_, hcb, h6, h7⟩, fun j hj => k2 j (by omega), fun _ _ => rfl, fun _ _ => rfl, PFr.refl _ _ _ _ _ _ _ _ _ _ _⟩
  · unfold m_X3_follow
    rw [s1, word_wv hn (show p + 1 < 2 ^ 31 by omega), bd1_s, s2, word_wv hn (show p + 2 < 2 ^ 31 by omega), bd1_s, word_ok (show p < n by omega) hn, bd1_s, hc, if_neg (by decide), if_neg (by decide), if_neg (by decide), if_neg (by decide), if_neg (by decide), if_neg (by decide), if_neg (by decide), if_neg (by decide), if_neg (by decide), if_neg (by decide), if_neg (by decide), if_neg (by decide), if_pos rfl]
    rw [narrowBy_ok hn (by omega), ← gq, bd4_s]
  · unfold m_X12_follow
    rw [nm_s, q1, inb_s (show o + p < 4500 by omega) (by decide), gd_s, nm_s, nI_clamp (show o + p < 2 ^ 31 by omega), hrc, jn_s, jn_s, if_neg (by decide), if_neg (by decide), if_neg (by decide), if_neg (by decide), if_neg (by decide), if_neg (by decide), if_neg (by decide), if_neg (by decide), if_neg (by decide), if_neg (by decide), if_neg (by decide), if_neg (by decide), if_pos rfl]
    rw [hg, bd1_s]
    exact ht
  · exact ⟨(k2 _ (by omega)).trans t0, (k2 _ (by omega)).trans t1, (k2 _ (by omega)).trans t2, (k2 _ (by omega)).trans t3, (k2 _ (by omega)).trans t4, (k2 _ (by omega)).trans t5, x0, x1, x2, x3, (k2 _ (by omega)).trans t10, (k2 _ (by omega)).trans t11⟩
theorem follow_14 {m W H no np nl n p o : Nat} {c : CM} {r : RF} {f wd : Nat → Int32} (hm : m ≤ 1) (h : RM m W H no np nl c r) (hn : n ≤ 1500) (ho : o ≤ 3000) (hp : p + cl (f p) ≤ n) (heq : ∀ j, j < cl (f p) → f (p + j) = wd (o + p + j)) (hc : f p = 14) : ∃ (c' : CM) (r' : RF), m_X3_follow (nI n) f c.opn c.col c.way c.a c.b c.c c.d c.e c.f c.x c.y c.u c.v c.na c.nb c.nc c.nd c.ne c.nf c.pts c.lns c.fst c.ftx c.fty c.ltx c.lty c.lx c.ly c.gy c.xs c.ys c.bg c.sc c.sw c.sa c.sb c.sC c.sd c.se c.sf c.sx c.sy c.su c.sv (nI p) = some (c'.opn, c'.col, c'.way, c'.a, c'.b, c'.c, c'.d, c'.e, c'.f, c'.x, c'.y, c'.u, c'.v, c'.na, c'.nb, c'.nc, c'.nd, c'.ne, c'.nf, c'.pts, c'.lns, c'.fst, c'.ftx, c'.fty, c'.ltx, c'.lty, c'.lx, c'.ly, c'.gy, c'.xs, c'.ys, c'.bg, c'.sc, c'.sw, c'.sa, c'.sb, c'.sC, c'.sd, c'.se, c'.sf, c'.sx, c'.sy, c'.su, c'.sv) ∧ m_X12_follow wd r.told r.cut r.both r.points r.px r.py r.begins r.startX r.startY r.startPoint r.begun r.lines r.lastX r.lastY r.saves r.saved (nI m) (nI (o + p)) = some (r'.told, r'.cut, r'.both, r'.points, r'.px, r'.py, r'.begins, r'.startX, r'.startY, r'.startPoint, r'.begun, r'.lines, r'.lastX, r'.lastY, r'.saves, r'.saved) ∧ SCf c c' (f p) (f (p + 1)) no ∧ RM m W H no np nl c' r' ∧ RFr m r r' := by
  have hcl : cl (f p) = 1 := by rw [hc]; rfl
  rw [hcl] at hp heq
  have hrc : wd (o + p) = 14 := by
    have := heq 0 (by omega)
    rw [Nat.add_zero, Nat.add_zero] at this
    rw [← this, hc]
  have s1 : nI p + 1 = nI (p + 1) := nI_add p 1
  have s2 : nI p + 2 = nI (p + 2) := nI_add p 2
  have q1 : nI (o + p) + 1 = nI (o + p + 1) := nI_add (o + p) 1
  obtain ⟨h1, h2, h3, h4, h5, h6, h7⟩ := id h
  obtain ⟨t0, t1, t2, t3, t4, t5, t6, t7, t8, t9, t10, t11⟩ := h4
  obtain ⟨t', ht, k1, k2⟩ := plain_ok hm r.told
  refine ⟨(CM.mk c.opn c.col c.way 65536 0 0 65536 0 0 c.x c.y c.u c.v c.na c.nb c.nc c.nd c.ne c.nf c.pts c.lns c.fst c.ftx c.fty c.ltx c.lty c.lx c.ly c.gy c.xs c.ys c.bg c.sc c.sw c.sa c.sb c.sC c.sd c.se c.sf c.sx c.sy c.su c.sv), (RF.mk t' r.cut r.both r.points r.px r.py r.begins r.startX r.startY r.startPoint r.begun r.lines r.lastX r.lastY r.saves r.saved), ?_, ?_, sc_0 (by rw [hc]; decide) (by rw [hc]; decide) (by rw [hc]; decide) (by rw [hc]; decide) rfl rfl rfl rfl, ⟨h1, h2, h3, ?_, h5, h6, h7⟩, fun j hj => k2 j (by omega), fun _ _ => rfl, fun _ _ => rfl, PFr.refl _ _ _ _ _ _ _ _ _ _ _⟩
  · unfold m_X3_follow
    rw [s1, word_wv hn (show p + 1 < 2 ^ 31 by omega), bd1_s, s2, word_wv hn (show p + 2 < 2 ^ 31 by omega), bd1_s, word_ok (show p < n by omega) hn, bd1_s, hc, if_neg (by decide), if_neg (by decide), if_neg (by decide), if_neg (by decide), if_neg (by decide), if_neg (by decide), if_neg (by decide), if_neg (by decide), if_neg (by decide), if_neg (by decide), if_neg (by decide), if_neg (by decide), if_neg (by decide), if_pos rfl]
    rfl
  · unfold m_X12_follow
    rw [nm_s, q1, inb_s (show o + p < 4500 by omega) (by decide), gd_s, nm_s, nI_clamp (show o + p < 2 ^ 31 by omega), hrc, jn_s, jn_s, if_neg (by decide), if_neg (by decide), if_neg (by decide), if_neg (by decide), if_neg (by decide), if_neg (by decide), if_neg (by decide), if_neg (by decide), if_neg (by decide), if_neg (by decide), if_neg (by decide), if_neg (by decide), if_neg (by decide), if_pos rfl]
    rw [ht, bd1_s]
  · exact ⟨k1 0 (by omega), k1 1 (by omega), k1 2 (by omega), k1 3 (by omega), k1 4 (by omega), k1 5 (by omega), (k2 _ (by omega)).trans t6, (k2 _ (by omega)).trans t7, (k2 _ (by omega)).trans t8, (k2 _ (by omega)).trans t9, (k2 _ (by omega)).trans t10, (k2 _ (by omega)).trans t11⟩
theorem cmd14 {c : Int32} (h1 : ¬ c < 1) (h2 : c ≤ 14) : c = 1 ∨ c = 2 ∨ c = 3 ∨ c = 4 ∨ c = 5 ∨ c = 6 ∨ c = 7 ∨ c = 8 ∨ c = 9 ∨ c = 10 ∨ c = 11 ∨ c = 12 ∨ c = 13 ∨ c = 14 := by
  have e1 : (1 : Int32).toInt = 1 := by decide
  have e2 : (14 : Int32).toInt = 14 := by decide
  rw [i_lt, e1] at h1
  rw [i_le, e2] at h2
  have h3 : c = nI c.toInt.toNat := nI_back (by omega)
  generalize hk : c.toInt.toNat = k at h3
  have hk1 : 1 ≤ k := by omega
  have hk2 : k ≤ 14 := by omega
  subst h3
  have : k = 1 ∨ k = 2 ∨ k = 3 ∨ k = 4 ∨ k = 5 ∨ k = 6 ∨ k = 7 ∨ k = 8 ∨ k = 9 ∨ k = 10 ∨ k = 11 ∨ k = 12 ∨ k = 13 ∨ k = 14 := by omega
  rcases this with rfl | rfl | rfl | rfl | rfl | rfl | rfl | rfl | rfl | rfl | rfl | rfl | rfl | rfl
  · exact Or.inl rfl
  · exact Or.inr (Or.inl rfl)
  · exact Or.inr (Or.inr (Or.inl rfl))
  · exact Or.inr (Or.inr (Or.inr (Or.inl rfl)))
  · exact Or.inr (Or.inr (Or.inr (Or.inr (Or.inl rfl))))
  · exact Or.inr (Or.inr (Or.inr (Or.inr (Or.inr (Or.inl rfl)))))
  · exact Or.inr (Or.inr (Or.inr (Or.inr (Or.inr (Or.inr (Or.inl rfl))))))
  · exact Or.inr (Or.inr (Or.inr (Or.inr (Or.inr (Or.inr (Or.inr (Or.inl rfl)))))))
  · exact Or.inr (Or.inr (Or.inr (Or.inr (Or.inr (Or.inr (Or.inr (Or.inr (Or.inl rfl))))))))
  · exact Or.inr (Or.inr (Or.inr (Or.inr (Or.inr (Or.inr (Or.inr (Or.inr (Or.inr (Or.inl rfl)))))))))
  · exact Or.inr (Or.inr (Or.inr (Or.inr (Or.inr (Or.inr (Or.inr (Or.inr (Or.inr (Or.inr (Or.inl rfl))))))))))
  · exact Or.inr (Or.inr (Or.inr (Or.inr (Or.inr (Or.inr (Or.inr (Or.inr (Or.inr (Or.inr (Or.inr (Or.inl rfl)))))))))))
  · exact Or.inr (Or.inr (Or.inr (Or.inr (Or.inr (Or.inr (Or.inr (Or.inr (Or.inr (Or.inr (Or.inr (Or.inr (Or.inl rfl))))))))))))
  · exact Or.inr (Or.inr (Or.inr (Or.inr (Or.inr (Or.inr (Or.inr (Or.inr (Or.inr (Or.inr (Or.inr (Or.inr (Or.inr (rfl)))))))))))))
theorem follow_ok {m W H no np nl n p o : Nat} {c : CM} {r : RF} {f wd : Nat → Int32} (hm : m ≤ 1) (h : RM m W H no np nl c r) (hn : n ≤ 1500) (ho : o ≤ 3000) (hp : p + cl (f p) ≤ n) (heq : ∀ j, j < cl (f p) → f (p + j) = wd (o + p + j)) (hW : W ≤ 32) (hH : H ≤ 32) (hw : fw f n p = 0) (h9 : f p ≠ 9) (hor : (ord (f p) no nl (decide (0 < np))).1 = 0) (hb : 3 * np ≤ p + 3 * nl) : ∃ np' : Nat, 3 * np' ≤ p + cl (f p) + 3 * (ord (f p) no nl (decide (0 < np))).2.2.1 ∧ (ord (f p) no nl (decide (0 < np))).2.2.2 = decide (0 < np') ∧ ∃ (c' : CM) (r' : RF), m_X3_follow (nI n) f c.opn c.col c.way c.a c.b c.c c.d c.e c.f c.x c.y c.u c.v c.na c.nb c.nc c.nd c.ne c.nf c.pts c.lns c.fst c.ftx c.fty c.ltx c.lty c.lx c.ly c.gy c.xs c.ys c.bg c.sc c.sw c.sa c.sb c.sC c.sd c.se c.sf c.sx c.sy c.su c.sv (nI p) = some (c'.opn, c'.col, c'.way, c'.a, c'.b, c'.c, c'.d, c'.e, c'.f, c'.x, c'.y, c'.u, c'.v, c'.na, c'.nb, c'.nc, c'.nd, c'.ne, c'.nf, c'.pts, c'.lns, c'.fst, c'.ftx, c'.fty, c'.ltx, c'.lty, c'.lx, c'.ly, c'.gy, c'.xs, c'.ys, c'.bg, c'.sc, c'.sw, c'.sa, c'.sb, c'.sC, c'.sd, c'.se, c'.sf, c'.sx, c'.sy, c'.su, c'.sv) ∧ m_X12_follow wd r.told r.cut r.both r.points r.px r.py r.begins r.startX r.startY r.startPoint r.begun r.lines r.lastX r.lastY r.saves r.saved (nI m) (nI (o + p)) = some (r'.told, r'.cut, r'.both, r'.points, r'.px, r'.py, r'.begins, r'.startX, r'.startY, r'.startPoint, r'.begun, r'.lines, r'.lastX, r'.lastY, r'.saves, r'.saved) ∧ SCf c c' (f p) (f (p + 1)) no ∧ RM m W H (ord (f p) no nl (decide (0 < np))).2.1 np' (ord (f p) no nl (decide (0 < np))).2.2.1 c' r' ∧ RFr m r r' := by
  have hle : nl ≤ 300 := h.2.2.2.2.2.2.2.2.2.2.2.1
  have hle' := (ord_le h.2.2.1 hle hor).2
  obtain ⟨-, c1, c2⟩ := fw_len hw
  rcases cmd14 c1 c2 with hc | hc | hc | hc | hc | hc | hc | hc | hc | hc | hc | hc | hc | hc
  · have hcl : cl (f p) = 1 := by rw [hc]; rfl
    rw [hcl]
    rw [hc] at hor hle'
    by_cases q : no + 1 ≤ 8
    · have e : ord (f p) no nl (decide (0 < np)) = (0, no + 1, nl, decide (0 < np)) := by rw [hc]; simp [ord, q]
      rw [e]
      exact ⟨np, by dsimp only; omega, rfl, follow_1 hm h hn ho hp heq hc (by omega)⟩
    · simp [ord, q] at hor
  · have hcl : cl (f p) = 1 := by rw [hc]; rfl
    rw [hcl]
    rw [hc] at hor hle'
    by_cases q : no = 0
    · simp [ord, q] at hor
    · have e : ord (f p) no nl (decide (0 < np)) = (0, no - 1, nl, decide (0 < np)) := by rw [hc]; simp [ord, q]
      rw [e]
      exact ⟨np, by dsimp only; omega, rfl, follow_2 hm h hn ho hp heq hc q⟩
  · have hcl : cl (f p) = 1 := by rw [hc]; rfl
    rw [hcl]
    rw [hc] at hor hle'
    have e : ord (f p) no nl (decide (0 < np)) = (0, no, 0, false) := by rw [hc]; simp [ord]
    rw [e]
    exact ⟨0, by omega, rfl, follow_3 hm h hn ho hp heq hc⟩
  · have hcl : cl (f p) = 3 := by rw [hc]; rfl
    rw [hcl]
    rw [hc] at hor hle'
    have e : ord (f p) no nl (decide (0 < np)) = (0, no, nl, true) := by rw [hc]; simp [ord]
    rw [e]
    exact ⟨np + 1, by dsimp only; omega, by simp, follow_4 hm h hn ho hp heq hc (by omega)⟩
  · have hcl : cl (f p) = 3 := by rw [hc]; rfl
    rw [hcl]
    rw [hc] at hor hle'
    by_cases q : 0 < np
    · by_cases ql : nl + 1 ≤ 300
      · have e : ord (f p) no nl (decide (0 < np)) = (0, no, nl + 1, true) := by rw [hc]; simp [ord, q, ql]
        rw [e]
        exact ⟨np + 1, by dsimp only; omega, by simp, follow_5 hm h hn ho hp heq hc q (by omega) (by omega)⟩
      · simp [ord, q, ql] at hor
    · simp [ord, q] at hor
  · have hcl : cl (f p) = 5 := by rw [hc]; rfl
    rw [hcl]
    rw [hc] at hor hle'
    by_cases q : 0 < np
    · by_cases ql : nl + 8 ≤ 300
      · have e : ord (f p) no nl (decide (0 < np)) = (0, no, nl + 8, true) := by rw [hc]; simp [ord, q, ql]
        rw [e]
        exact ⟨np + 8, by dsimp only; omega, by simp, follow_6 hm h hn ho hp heq hc q (by omega) (by omega)⟩
      · simp [ord, q, ql] at hor
    · simp [ord, q] at hor
  · have hcl : cl (f p) = 1 := by rw [hc]; rfl
    rw [hcl]
    rw [hc] at hor hle'
    by_cases q : 0 < np
    · by_cases ql : nl + 1 ≤ 300
      · have e : ord (f p) no nl (decide (0 < np)) = (0, no, nl + 1, true) := by rw [hc]; simp [ord, q, ql]
        rw [e]
        exact ⟨np + 1, by dsimp only; omega, by simp, follow_7 hm h hn ho hp heq hc q (by omega) (by omega)⟩
      · simp [ord, q, ql] at hor
    · simp [ord, q] at hor
  · have hcl : cl (f p) = 5 := by rw [hc]; rfl
    rw [hcl]
    rw [hc] at hor hle'
    by_cases ql : nl + 4 ≤ 300
    · have e : ord (f p) no nl (decide (0 < np)) = (0, no, nl + 4, true) := by rw [hc]; simp [ord, ql]
      rw [e]
      exact ⟨np + 5, by dsimp only; omega, by simp, follow_8 hm h hn ho hp heq hc (by omega) (by omega)⟩
    · simp [ord, ql] at hor
  · exact absurd hc h9
  · have hcl : cl (f p) = 2 := by rw [hc]; rfl
    rw [hcl]
    rw [hc] at hor hle'
    have e : ord (f p) no nl (decide (0 < np)) = (0, no, nl, decide (0 < np)) := by rw [hc]; simp [ord]
    rw [e]
    exact ⟨np, by dsimp only; omega, rfl, follow_10 hm h hn ho hp heq hc ⟩
  · have hcl : cl (f p) = 2 := by rw [hc]; rfl
    rw [hcl]
    rw [hc] at hor hle'
    have e : ord (f p) no nl (decide (0 < np)) = (0, no, nl, decide (0 < np)) := by rw [hc]; simp [ord]
    rw [e]
    exact ⟨np, by dsimp only; omega, rfl, follow_11 hm h hn ho hp heq hc ⟩
  · have hcl : cl (f p) = 7 := by rw [hc]; rfl
    rw [hcl]
    rw [hc] at hor hle'
    have e : ord (f p) no nl (decide (0 < np)) = (0, no, nl, decide (0 < np)) := by rw [hc]; simp [ord]
    rw [e]
    exact ⟨np, by dsimp only; omega, rfl, follow_12 hm h hn ho hp heq hc ⟩
  · have hcl : cl (f p) = 5 := by rw [hc]; rfl
    rw [hcl]
    rw [hc] at hor hle'
    have e : ord (f p) no nl (decide (0 < np)) = (0, no, nl, decide (0 < np)) := by rw [hc]; simp [ord]
    rw [e]
    exact ⟨np, by dsimp only; omega, rfl, follow_13 hm h hn ho hp heq hc hW hH (by have := fw_bnd hw; rw [hcl] at this; exact this)⟩
  · have hcl : cl (f p) = 1 := by rw [hc]; rfl
    rw [hcl]
    rw [hc] at hor hle'
    have e : ord (f p) no nl (decide (0 < np)) = (0, no, nl, decide (0 < np)) := by rw [hc]; simp [ord]
    rw [e]
    exact ⟨np, by dsimp only; omega, rfl, follow_14 hm h hn ho hp heq hc ⟩
