theorem goesA_0 {n a own : Nat} {lf ja : Int32} {row : Nat → Int32} {s : SX} {c : CM} (h : nI a ≤ lf) (code : Int32) : m_X8_goes lf (nI own) ja (nI n) row s.ta s.tb s.tc s.td s.te s.tf s.xa s.xb s.xc s.xd s.xe s.xf c.col c.way c.a c.b c.c c.d c.e c.f s.cx s.cy s.cu s.cv c.x c.y c.u c.v c.pts c.lx c.ly c.gy 0 (nI a) code = some (0, nI own, ja, row, s.ta, s.tb, s.tc, s.td, s.te, s.tf, s.xa, s.xb, s.xc, s.xd, s.xe, s.xf, s.cx, s.cy, s.cu, s.cv) := by
  unfold m_X8_goes
  rw [if_pos rfl, if_pos h]
theorem goesA_1 {n a own : Nat} {lf ja : Int32} {row : Nat → Int32} {s : SX} {c : CM} (h : ¬ nI a ≤ lf) : m_X8_goes lf (nI own) ja (nI n) row s.ta s.tb s.tc s.td s.te s.tf s.xa s.xb s.xc s.xd s.xe s.xf c.col c.way c.a c.b c.c c.d c.e c.f s.cx s.cy s.cu s.cv c.x c.y c.u c.v c.pts c.lx c.ly c.gy 0 (nI a) 1 = some (1, nI (own + 1), ja, row, s.ta, s.tb, s.tc, s.td, s.te, s.tf, s.xa, s.xb, s.xc, s.xd, s.xe, s.xf, s.cx, s.cy, s.cu, s.cv) := by
  unfold m_X8_goes m_X8_goesBehindFills
  rw [if_pos rfl, if_neg h]
  simp only [jn_s, nm_s, eq_self, if_true, show ¬ (1 : Int32) = 2 by decide, if_false, nI_1]
  rfl
theorem goesA_2 {n a own : Nat} {lf ja : Int32} {row : Nat → Int32} {s : SX} {c : CM} (h : ¬ nI a ≤ lf) (ho : own + 1 < 2 ^ 31) : m_X8_goes lf (nI (own + 1)) ja (nI n) row s.ta s.tb s.tc s.td s.te s.tf s.xa s.xb s.xc s.xd s.xe s.xf c.col c.way c.a c.b c.c c.d c.e c.f s.cx s.cy s.cu s.cv c.x c.y c.u c.v c.pts c.lx c.ly c.gy 0 (nI a) 2 = some (1, nI own, ja, row, s.ta, s.tb, s.tc, s.td, s.te, s.tf, s.xa, s.xb, s.xc, s.xd, s.xe, s.xf, s.cx, s.cy, s.cu, s.cv) := by
  have e : nI (own + 1) - 1 = nI own := pk_sub (a := own + 1) (b := 1) (by omega)
  unfold m_X8_goes m_X8_goesBehindFills
  rw [if_pos rfl, if_neg h]
  simp only [jn_s, nm_s, eq_self, if_true, show ¬ (2 : Int32) = 1 by decide, if_false, show ¬ nI (own + 1) = (0 : Int32) from nI_ne0 (by omega) ho, e]
  rfl
theorem goesA_2z {n a : Nat} {lf ja : Int32} {row : Nat → Int32} {s : SX} {c : CM} (h : ¬ nI a ≤ lf) : m_X8_goes lf (nI 0) ja (nI n) row s.ta s.tb s.tc s.td s.te s.tf s.xa s.xb s.xc s.xd s.xe s.xf c.col c.way c.a c.b c.c c.d c.e c.f s.cx s.cy s.cu s.cv c.x c.y c.u c.v c.pts c.lx c.ly c.gy 0 (nI a) 2 = some (0, nI 0, ja, row, s.ta, s.tb, s.tc, s.td, s.te, s.tf, s.xa, s.xb, s.xc, s.xd, s.xe, s.xf, s.cx, s.cy, s.cu, s.cv) := by
  unfold m_X8_goes m_X8_goesBehindFills
  rw [if_pos rfl, if_neg h]
  simp only [jn_s, nm_s, eq_self, if_true, show ¬ (2 : Int32) = 1 by decide, if_false, show nI 0 = (0 : Int32) from rfl]
  rfl
theorem goesA_x {n a own : Nat} {lf ja : Int32} {row : Nat → Int32} {s : SX} {c : CM} (h : ¬ nI a ≤ lf) {code : Int32} (c1 : ¬ code = 1) (c2 : ¬ code = 2) : m_X8_goes lf (nI own) ja (nI n) row s.ta s.tb s.tc s.td s.te s.tf s.xa s.xb s.xc s.xd s.xe s.xf c.col c.way c.a c.b c.c c.d c.e c.f s.cx s.cy s.cu s.cv c.x c.y c.u c.v c.pts c.lx c.ly c.gy 0 (nI a) code = some (1, nI own, ja, row, s.ta, s.tb, s.tc, s.td, s.te, s.tf, s.xa, s.xb, s.xc, s.xd, s.xe, s.xf, s.cx, s.cy, s.cu, s.cv) := by
  unfold m_X8_goes m_X8_goesBehindFills
  rw [if_pos rfl, if_neg h]
  simp only [jn_s, nm_s, c1, c2, if_false]
  rfl
theorem lockA {W H n : Nat} {f wd0 sz0 : Nat → Int32} (hW : W ≤ 32) (hH : H ≤ 32) (lf last : Int32) (s : SX) : ∀ (N fu gu a k noi noo own nli nlo np : Nat) (bi : Bool) (c : CM) (r : RF) (row wd sz : Nat → Int32), n ≤ a + N → N < fu → N < gu → PI W H n f wd0 sz0 a k noi nli bi noo nlo np c r row wd sz → noi = noo + own → noi ≤ 8 → ((lf = -1 ∧ last = -1 ∧ noo = 0) ∨ ∃ q : Nat, q < n ∧ lf = nI q ∧ last = nI (1500 + q) ∧ (a ≤ q → own = 0 ∧ nli = nlo ∧ bi = decide (0 < np))) → ∃ (k' own' nli' nlo' np' : Nat) (bi' : Bool) (c' : CM) (r' : RF) (row' wd' sz' : Nat → Int32), (∀ K : Int32 → Int32 → Int32 → Int32 → Int32 → Int32 → Int32 → Int32 → Int32 → Int32 → Int32 → Int32 → Int32 → Int32 → Int32 → Int32 → Int32 → Int32 → Int32 → Int32 → Int32 → Int32 → Int32 → Int32 → Int32 → Int32 → (Nat → Int32) → Int32 → Int32 → Int32 → Int32 → Int32 → Int32 → Int32 → Int32 → Int32 → Int32 → Int32 → Int32 → Int32 → Int32 → Int32 → Int32 → Int32 → Int32 → Int32 → Int32 → Int32 → Int32 → (Nat → Int32) → (Nat → Int32) → (Nat → Int32) → (Nat → Int32) → (Nat → Int32) → (Nat → Int32) → (Nat → Int32) → (Nat → Int32) → (Nat → Int32) → (Nat → Int32) → (Nat → Int32) → (Nat → Int32) → (Nat → Int32) → (Nat → Int32) → (Nat → Int32) → Option (Int32 × Int32 × Int32 × Int32 × Int32 × Int32 × Int32 × Int32 × Int32 × Int32 × Int32 × Int32 × Int32 × Int32 × Int32 × Int32 × Int32 × Int32 × Int32 × Int32 × Int32 × Int32 × Int32 × Int32 × Int32 × Int32 × Int32 × Int32 × (Nat → Int32) × Int32 × Int32 × Int32 × Int32 × Int32 × Int32 × Int32 × Int32 × Int32 × Int32 × Int32 × Int32 × Int32 × Int32 × Int32 × Int32 × Int32 × Int32 × Int32 × Int32 × Int32 × Int32 × (Nat → Int32) × (Nat → Int32) × (Nat → Int32) × (Nat → Int32) × (Nat → Int32) × (Nat → Int32) × (Nat → Int32) × (Nat → Int32) × (Nat → Int32) × (Nat → Int32) × (Nat → Int32) × (Nat → Int32) × (Nat → Int32) × (Nat → Int32) × (Nat → Int32)), lp_X8_goThrough_33 (nI n) K lf 0 fu (nI k) (nI a) (nI own) (-1) c.opn c.col c.way c.a c.b c.c c.d c.e c.f c.x c.y c.u c.v c.pts c.lns c.fst c.ftx c.fty c.ltx c.lty c.lx c.ly c.gy row s.ta s.tb s.tc s.td s.te s.tf s.xa s.xb s.xc s.xd s.xe s.xf s.cx s.cy s.cu s.cv c.na c.nb c.nc c.nd c.ne c.nf c.xs c.ys c.bg c.sc c.sw c.sa c.sb c.sC c.sd c.se c.sf c.sx c.sy c.su c.sv = K (nI k') (nI own') (-1) c'.opn c'.col c'.way c'.a c'.b c'.c c'.d c'.e c'.f c'.x c'.y c'.u c'.v c'.pts c'.lns c'.fst c'.ftx c'.fty c'.ltx c'.lty c'.lx c'.ly c'.gy row' s.ta s.tb s.tc s.td s.te s.tf s.xa s.xb s.xc s.xd s.xe s.xf s.cx s.cy s.cu s.cv c'.na c'.nb c'.nc c'.nd c'.ne c'.nf c'.xs c'.ys c'.bg c'.sc c'.sw c'.sa c'.sb c'.sC c'.sd c'.se c'.sf c'.sx c'.sy c'.su c'.sv) ∧ (∀ K : (Nat → Int32) → (Nat → Int32) → Option (Int32 × (Nat → Int32) × (Nat → Int32) × (Nat → Int32) × (Nat → Int32) × (Nat → Int32) × (Nat → Int32) × (Nat → Int32) × (Nat → Int32)), lp_X12_passA_50 K last gu (nI own) (nI (1500 + a)) sz wd = K sz' wd') ∧ PI W H n f wd0 sz0 n k' 0 nli' bi' 0 nlo' np' c' r' row' wd' sz' := by
  intro N
  induction N with
  | zero =>
    intro fu gu a k noi noo own nli nlo np bi c r row wd sz h1 h2 h3 h hno h8 hi
    have hn := h.hn
    have ha := h.ha
    obtain ⟨fu, rfl⟩ : ∃ j, fu = j + 1 := ⟨fu - 1, by omega⟩
    obtain ⟨gu, rfl⟩ : ∃ j, gu = j + 1 := ⟨gu - 1, by omega⟩
    obtain rfl : a = n := by omega
    have h0 : noi = 0 := (VL.fin (Nat.le_refl _)).mp h.vin
    obtain ⟨rfl, rfl⟩ : noo = 0 ∧ own = 0 := by omega
    subst h0
    refine ⟨k, 0, nli, nlo, np, bi, c, r, row, wd, sz, fun K => gt_end hn (Nat.le_refl _) (by omega) K _ _ _ _ _ _ _ _ _, fun K => ?_, h⟩
    rw [lp_X12_passA_50, endPlace_ok h.s1, bd1_s, if_pos (nI_le (Nat.le_refl _) (by omega))]
  | succ N ih =>
    intro fu gu a k noi noo own nli nlo np bi c r row wd sz h1 h2 h3 h hno h8 hi
    have hn := h.hn
    have ha := h.ha
    obtain ⟨fu, rfl⟩ : ∃ j, fu = j + 1 := ⟨fu - 1, by omega⟩
    obtain ⟨gu, rfl⟩ : ∃ j, gu = j + 1 := ⟨gu - 1, by omega⟩
    by_cases hp : a < n
    · skip
      obtain ⟨q1, q2, q3⟩ := h.vin.step hn hp
      obtain ⟨q4, q5, q6⟩ := fw_len q1
      have hc := cl_ge (f a)
      have ra : row a = f a := h.tail a (Nat.le_refl _) hp
      have wa : wd (1500 + a) = f a := h.inp a hp
      have hj : ¬ nI a = (-1 : Int32) := by
        intro z
        have := nI_ti (show a < 2 ^ 31 by omega)
        rw [z] at this
        have e1 : (-1 : Int32).toInt = -1 := by decide
        omega
      have e6 := behind_ok (p := 1500 + a) (by omega) wd
      rw [wa, Nat.add_assoc] at e6
      have h10 : ¬ (1 : Int32) = 0 := by decide
      have z32 : ∀ m : Nat, nI m + 0 = nI m := fun m => Int32.add_zero _
      have s32 : ∀ m : Nat, nI m - 0 = nI m := fun m => Int32.sub_zero _
      have keepA : ∀ (own1 : Nat), (ord (f a) noo nlo (decide (0 < np))).1 = 0 → (∀ K : (Nat → Int32) → (Nat → Int32) → Option (Int32 × (Nat → Int32) × (Nat → Int32) × (Nat → Int32) × (Nat → Int32) × (Nat → Int32) × (Nat → Int32) × (Nat → Int32) × (Nat → Int32)), ∀ wd1 sz1 : Nat → Int32, m_X12_keepCommand wd sz (nI (1500 + a)) = some (wd1, sz1) → m_X12_behind wd1 (nI (1500 + a)) = some (nI (1500 + (a + cl (f a)))) → lp_X12_passA_50 K last (gu + 1) (nI own) (nI (1500 + a)) sz wd = lp_X12_passA_50 K last gu (nI own1) (nI (1500 + (a + cl (f a)))) sz1 wd1) → m_X8_goes lf (nI own) (-1) (nI n) row s.ta s.tb s.tc s.td s.te s.tf s.xa s.xb s.xc s.xd s.xe s.xf c.col c.way c.a c.b c.c c.d c.e c.f s.cx s.cy s.cu s.cv c.x c.y c.u c.v c.pts c.lx c.ly c.gy 0 (nI a) (row a) = some (0, nI own1, -1, row, s.ta, s.tb, s.tc, s.td, s.te, s.tf, s.xa, s.xb, s.xc, s.xd, s.xe, s.xf, s.cx, s.cy, s.cu, s.cv) → (ord (f a) noi nli bi).2.1 = (ord (f a) noo nlo (decide (0 < np))).2.1 + own1 → (ord (f a) noi nli bi).2.1 ≤ 8 → (∀ np1 : Nat, (ord (f a) noo nlo (decide (0 < np))).2.2.2 = decide (0 < np1) → ((lf = -1 ∧ last = -1 ∧ (ord (f a) noo nlo (decide (0 < np))).2.1 = 0) ∨ ∃ q : Nat, q < n ∧ lf = nI q ∧ last = nI (1500 + q) ∧ ((a + cl (f a)) ≤ q → own1 = 0 ∧ (ord (f a) noi nli bi).2.2.1 = (ord (f a) noo nlo (decide (0 < np))).2.2.1 ∧ (ord (f a) noi nli bi).2.2.2 = decide (0 < np1)))) → ∃ (k' own' nli' nlo' np' : Nat) (bi' : Bool) (c' : CM) (r' : RF) (row' wd' sz' : Nat → Int32), (∀ K : Int32 → Int32 → Int32 → Int32 → Int32 → Int32 → Int32 → Int32 → Int32 → Int32 → Int32 → Int32 → Int32 → Int32 → Int32 → Int32 → Int32 → Int32 → Int32 → Int32 → Int32 → Int32 → Int32 → Int32 → Int32 → Int32 → (Nat → Int32) → Int32 → Int32 → Int32 → Int32 → Int32 → Int32 → Int32 → Int32 → Int32 → Int32 → Int32 → Int32 → Int32 → Int32 → Int32 → Int32 → Int32 → Int32 → Int32 → Int32 → Int32 → Int32 → (Nat → Int32) → (Nat → Int32) → (Nat → Int32) → (Nat → Int32) → (Nat → Int32) → (Nat → Int32) → (Nat → Int32) → (Nat → Int32) → (Nat → Int32) → (Nat → Int32) → (Nat → Int32) → (Nat → Int32) → (Nat → Int32) → (Nat → Int32) → (Nat → Int32) → Option (Int32 × Int32 × Int32 × Int32 × Int32 × Int32 × Int32 × Int32 × Int32 × Int32 × Int32 × Int32 × Int32 × Int32 × Int32 × Int32 × Int32 × Int32 × Int32 × Int32 × Int32 × Int32 × Int32 × Int32 × Int32 × Int32 × Int32 × Int32 × (Nat → Int32) × Int32 × Int32 × Int32 × Int32 × Int32 × Int32 × Int32 × Int32 × Int32 × Int32 × Int32 × Int32 × Int32 × Int32 × Int32 × Int32 × Int32 × Int32 × Int32 × Int32 × Int32 × Int32 × (Nat → Int32) × (Nat → Int32) × (Nat → Int32) × (Nat → Int32) × (Nat → Int32) × (Nat → Int32) × (Nat → Int32) × (Nat → Int32) × (Nat → Int32) × (Nat → Int32) × (Nat → Int32) × (Nat → Int32) × (Nat → Int32) × (Nat → Int32) × (Nat → Int32)), lp_X8_goThrough_33 (nI n) K lf 0 (fu + 1) (nI k) (nI a) (nI own) (-1) c.opn c.col c.way c.a c.b c.c c.d c.e c.f c.x c.y c.u c.v c.pts c.lns c.fst c.ftx c.fty c.ltx c.lty c.lx c.ly c.gy row s.ta s.tb s.tc s.td s.te s.tf s.xa s.xb s.xc s.xd s.xe s.xf s.cx s.cy s.cu s.cv c.na c.nb c.nc c.nd c.ne c.nf c.xs c.ys c.bg c.sc c.sw c.sa c.sb c.sC c.sd c.se c.sf c.sx c.sy c.su c.sv = K (nI k') (nI own') (-1) c'.opn c'.col c'.way c'.a c'.b c'.c c'.d c'.e c'.f c'.x c'.y c'.u c'.v c'.pts c'.lns c'.fst c'.ftx c'.fty c'.ltx c'.lty c'.lx c'.ly c'.gy row' s.ta s.tb s.tc s.td s.te s.tf s.xa s.xb s.xc s.xd s.xe s.xf s.cx s.cy s.cu s.cv c'.na c'.nb c'.nc c'.nd c'.ne c'.nf c'.xs c'.ys c'.bg c'.sc c'.sw c'.sa c'.sb c'.sC c'.sd c'.se c'.sf c'.sx c'.sy c'.su c'.sv) ∧ (∀ K : (Nat → Int32) → (Nat → Int32) → Option (Int32 × (Nat → Int32) × (Nat → Int32) × (Nat → Int32) × (Nat → Int32) × (Nat → Int32) × (Nat → Int32) × (Nat → Int32) × (Nat → Int32)), lp_X12_passA_50 K last (gu + 1) (nI own) (nI (1500 + a)) sz wd = K sz' wd') ∧ PI W H n f wd0 sz0 n k' 0 nli' bi' 0 nlo' np' c' r' row' wd' sz' := by
        intro own1 hor href hg hno h8 hinv
        obtain ⟨np1, c1, r1, row1, wd1, sz1, m1, -, -, -, m5, m6, m7, m8, -⟩ := h.keep hW hH hp hor
        obtain ⟨k', own', nli', nlo', np', bi', c', r', row', wd', sz', b1, b2, b3⟩ := ih fu gu (a + cl (f a)) (k + cl (f a)) _ _ own1 _ _ np1 _ c1 r1 row1 wd1 sz1 (by omega) (by omega) (by omega) m8 hno h8 (hinv np1 m7)
        have wa1 : wd1 (1500 + a) = f a := m8.inp a hp
        have e5 := behind_ok (p := 1500 + a) (by omega) wd1
        rw [wa1, Nat.add_assoc] at e5
        refine ⟨k', own', nli', nlo', np', bi', c', r', row', wd', sz', fun K => ?_, fun K => ?_, b3⟩
        · rw [gt_keep hn hp hj hg m1 (by rw [ra]; exact m5), ra]
          exact b1 K
        · rw [href K wd1 sz1 m6 e5]
          exact b2 K
      have skipA : ∀ (own1 : Nat), (∀ K : (Nat → Int32) → (Nat → Int32) → Option (Int32 × (Nat → Int32) × (Nat → Int32) × (Nat → Int32) × (Nat → Int32) × (Nat → Int32) × (Nat → Int32) × (Nat → Int32) × (Nat → Int32)), lp_X12_passA_50 K last (gu + 1) (nI own) (nI (1500 + a)) sz wd = lp_X12_passA_50 K last gu (nI own1) (nI (1500 + (a + cl (f a)))) sz wd) → m_X8_goes lf (nI own) (-1) (nI n) row s.ta s.tb s.tc s.td s.te s.tf s.xa s.xb s.xc s.xd s.xe s.xf c.col c.way c.a c.b c.c c.d c.e c.f s.cx s.cy s.cu s.cv c.x c.y c.u c.v c.pts c.lx c.ly c.gy 0 (nI a) (row a) = some (1, nI own1, -1, row, s.ta, s.tb, s.tc, s.td, s.te, s.tf, s.xa, s.xb, s.xc, s.xd, s.xe, s.xf, s.cx, s.cy, s.cu, s.cv) → (ord (f a) noi nli bi).2.1 = noo + own1 → (ord (f a) noi nli bi).2.1 ≤ 8 → ((lf = -1 ∧ last = -1 ∧ noo = 0) ∨ ∃ q : Nat, q < n ∧ lf = nI q ∧ last = nI (1500 + q) ∧ ((a + cl (f a)) ≤ q → own1 = 0 ∧ (ord (f a) noi nli bi).2.2.1 = nlo ∧ (ord (f a) noi nli bi).2.2.2 = decide (0 < np))) → ∃ (k' own' nli' nlo' np' : Nat) (bi' : Bool) (c' : CM) (r' : RF) (row' wd' sz' : Nat → Int32), (∀ K : Int32 → Int32 → Int32 → Int32 → Int32 → Int32 → Int32 → Int32 → Int32 → Int32 → Int32 → Int32 → Int32 → Int32 → Int32 → Int32 → Int32 → Int32 → Int32 → Int32 → Int32 → Int32 → Int32 → Int32 → Int32 → Int32 → (Nat → Int32) → Int32 → Int32 → Int32 → Int32 → Int32 → Int32 → Int32 → Int32 → Int32 → Int32 → Int32 → Int32 → Int32 → Int32 → Int32 → Int32 → Int32 → Int32 → Int32 → Int32 → Int32 → Int32 → (Nat → Int32) → (Nat → Int32) → (Nat → Int32) → (Nat → Int32) → (Nat → Int32) → (Nat → Int32) → (Nat → Int32) → (Nat → Int32) → (Nat → Int32) → (Nat → Int32) → (Nat → Int32) → (Nat → Int32) → (Nat → Int32) → (Nat → Int32) → (Nat → Int32) → Option (Int32 × Int32 × Int32 × Int32 × Int32 × Int32 × Int32 × Int32 × Int32 × Int32 × Int32 × Int32 × Int32 × Int32 × Int32 × Int32 × Int32 × Int32 × Int32 × Int32 × Int32 × Int32 × Int32 × Int32 × Int32 × Int32 × Int32 × Int32 × (Nat → Int32) × Int32 × Int32 × Int32 × Int32 × Int32 × Int32 × Int32 × Int32 × Int32 × Int32 × Int32 × Int32 × Int32 × Int32 × Int32 × Int32 × Int32 × Int32 × Int32 × Int32 × Int32 × Int32 × (Nat → Int32) × (Nat → Int32) × (Nat → Int32) × (Nat → Int32) × (Nat → Int32) × (Nat → Int32) × (Nat → Int32) × (Nat → Int32) × (Nat → Int32) × (Nat → Int32) × (Nat → Int32) × (Nat → Int32) × (Nat → Int32) × (Nat → Int32) × (Nat → Int32)), lp_X8_goThrough_33 (nI n) K lf 0 (fu + 1) (nI k) (nI a) (nI own) (-1) c.opn c.col c.way c.a c.b c.c c.d c.e c.f c.x c.y c.u c.v c.pts c.lns c.fst c.ftx c.fty c.ltx c.lty c.lx c.ly c.gy row s.ta s.tb s.tc s.td s.te s.tf s.xa s.xb s.xc s.xd s.xe s.xf s.cx s.cy s.cu s.cv c.na c.nb c.nc c.nd c.ne c.nf c.xs c.ys c.bg c.sc c.sw c.sa c.sb c.sC c.sd c.se c.sf c.sx c.sy c.su c.sv = K (nI k') (nI own') (-1) c'.opn c'.col c'.way c'.a c'.b c'.c c'.d c'.e c'.f c'.x c'.y c'.u c'.v c'.pts c'.lns c'.fst c'.ftx c'.fty c'.ltx c'.lty c'.lx c'.ly c'.gy row' s.ta s.tb s.tc s.td s.te s.tf s.xa s.xb s.xc s.xd s.xe s.xf s.cx s.cy s.cu s.cv c'.na c'.nb c'.nc c'.nd c'.ne c'.nf c'.xs c'.ys c'.bg c'.sc c'.sw c'.sa c'.sb c'.sC c'.sd c'.se c'.sf c'.sx c'.sy c'.su c'.sv) ∧ (∀ K : (Nat → Int32) → (Nat → Int32) → Option (Int32 × (Nat → Int32) × (Nat → Int32) × (Nat → Int32) × (Nat → Int32) × (Nat → Int32) × (Nat → Int32) × (Nat → Int32) × (Nat → Int32)), lp_X12_passA_50 K last (gu + 1) (nI own) (nI (1500 + a)) sz wd = K sz' wd') ∧ PI W H n f wd0 sz0 n k' 0 nli' bi' 0 nlo' np' c' r' row' wd' sz' := by
        intro own1 href hg hno h8 hinv
        have hs := h.skip hp
        obtain ⟨k', own', nli', nlo', np', bi', c', r', row', wd', sz', b1, b2, b3⟩ := ih fu gu (a + cl (f a)) k _ _ own1 _ _ np _ c r row wd sz (by omega) (by omega) (by omega) hs hno h8 hinv
        refine ⟨k', own', nli', nlo', np', bi', c', r', row', wd', sz', fun K => ?_, fun K => ?_, b3⟩
        · rw [gt_skip hn hp hj hg, if_neg (by decide), ra]
          exact b1 K
        · rw [href K]
          exact b2 K
      have ho8 : (ord (f a) noi nli bi).2.1 ≤ 8 := by
        rcases cmd14 q5 q6 with y | y | y | y | y | y | y | y | y | y | y | y | y | y
        · rw [y] at q2 ⊢
          by_cases z : noi + 1 ≤ 8
          · simp [ord, z]
          · simp [ord, z] at q2
        · rw [y] at q2 ⊢
          by_cases z : noi = 0
          · simp [ord, z] at q2
          · simp [ord, z]
            omega
        · rw [y]
          simp [ord]
          omega
        · rw [ord_dr q5 q6 (by rw [y]; decide) q2]
          omega
        · rw [ord_dr q5 q6 (by rw [y]; decide) q2]
          omega
        · rw [ord_dr q5 q6 (by rw [y]; decide) q2]
          omega
        · rw [ord_dr q5 q6 (by rw [y]; decide) q2]
          omega
        · rw [ord_dr q5 q6 (by rw [y]; decide) q2]
          omega
        · rw [y]
          simp [ord]
          omega
        · rw [y]
          simp [ord]
          omega
        · rw [y]
          simp [ord]
          omega
        · rw [y]
          simp [ord]
          omega
        · rw [y]
          simp [ord]
          omega
        · rw [y]
          simp [ord]
          omega
      by_cases hle : nI a ≤ lf
      · obtain ⟨q, hqn, rfl, rfl, hq3⟩ : ∃ q : Nat, q < n ∧ lf = nI q ∧ last = nI (1500 + q) ∧ (a ≤ q → own = 0 ∧ nli = nlo ∧ bi = decide (0 < np)) := by
          rcases hi with ⟨y1, -, -⟩ | y
          · rw [y1, i_le, nI_ti (by omega)] at hle
            have e1 : (-1 : Int32).toInt = -1 := by decide
            omega
          · exact y
        have haq : a ≤ q := by
          rw [nI_leI (by omega) (by omega)] at hle
          exact hle
        obtain ⟨rfl, rfl, rfl⟩ := hq3 haq
        have hA : nI (1500 + a) ≤ nI (1500 + q) := nI_le (by omega) (by omega)
        have hL : ¬ nI (1500 + q) = (-1 : Int32) := by
          intro z
          have := nI_ti (show 1500 + q < 2 ^ 31 by omega)
          rw [z] at this
          have e1 : (-1 : Int32).toInt = -1 := by decide
          omega
        obtain rfl : noi = noo := by omega
        refine keepA 0 q2 (fun K wd1 sz1 m6 e5 => ?_) (goesA_0 hle _) (by omega) ho8 (fun np1 m7 => Or.inr ⟨q, hqn, rfl, rfl, fun _ => ⟨rfl, rfl, m7⟩⟩)
        rw [lp_X12_passA_50, endPlace_ok h.s1, bd1_s, if_neg (nI_ge (by omega) (by omega)), inb_s (show 1500 + a < 4500 by omega) (by decide), gd_s, nm_s, nI_clamp (show 1500 + a < 2 ^ 31 by omega), wa]
        simp only [jn_s, nm_s, hA, hL, h10, eq_self, if_true, if_false, m6, bd2_s, e5, bd1_s, z32, s32]
      · have hA : ¬ nI (1500 + a) ≤ last := by
          rcases hi with ⟨-, y2, -⟩ | ⟨q, hqn, rfl, rfl, -⟩
          · rw [y2, i_le, nI_ti (by omega)]
            have e1 : (-1 : Int32).toInt = -1 := by decide
            omega
          · rw [nI_leI (by omega) (by omega)] at hle ⊢
            omega
        have hinv' : ∀ (noo2 own2 nli2 nlo2 np2 : Nat) (bi2 : Bool), (noo = 0 → noo2 = 0) → ((lf = -1 ∧ last = -1 ∧ noo2 = 0) ∨ ∃ q : Nat, q < n ∧ lf = nI q ∧ last = nI (1500 + q) ∧ ((a + cl (f a)) ≤ q → own2 = 0 ∧ nli2 = nlo2 ∧ bi2 = decide (0 < np2))) := by
          intro noo2 own2 nli2 nlo2 np2 bi2 h02
          rcases hi with ⟨y1, y2, y3⟩ | ⟨q, hqn, y1, y2, -⟩
          · exact Or.inl ⟨y1, y2, h02 y3⟩
          · refine Or.inr ⟨q, hqn, y1, y2, fun z => ?_⟩
            rw [y1, nI_leI (by omega) (by omega)] at hle
            omega
        by_cases c1 : f a = 1
        · have z8 : noi + 1 ≤ 8 := by
            by_cases z : noi + 1 ≤ 8
            · exact z
            · rw [c1] at q2
              simp [ord, z] at q2
          have o1 : ord (f a) noi nli bi = (0, noi + 1, nli, bi) := by rw [c1]; simp [ord, z8]
          refine skipA (own + 1) (fun K => ?_) (by rw [ra, c1]; exact goesA_1 hle) (by rw [o1]; dsimp only; omega) ho8 (hinv' _ _ _ _ _ _ id)
          rw [lp_X12_passA_50, endPlace_ok h.s1, bd1_s, if_neg (nI_ge (by omega) (by omega)), inb_s (show 1500 + a < 4500 by omega) (by decide), gd_s, nm_s, nI_clamp (show 1500 + a < 2 ^ 31 by omega), wa]
          rw [c1] at e6 ⊢
          by_cases hL : last = -1
          · rw [hL] at hA ⊢
            simp only [jn_s, nm_s, hA, h10, eq_self, if_true, if_false, show ¬ (1 : Int32) = 2 by decide, e6, bd1_s, s32, nI_1]
          · skip
            simp only [jn_s, nm_s, hA, hL, h10, eq_self, if_true, if_false, show ¬ (1 : Int32) = 2 by decide, e6, bd1_s, s32, nI_1]
        · by_cases c2 : f a = 2
          · have hno : noi ≠ 0 := by
              intro z
              rw [c2] at q2
              simp [ord, z] at q2
            have o1 : ord (f a) noi nli bi = (0, noi - 1, nli, bi) := by rw [c2]; simp [ord, hno]
            by_cases h0 : own = 0
            · subst h0
              have hnoo : noo ≠ 0 := by omega
              have hL : ¬ last = -1 := by
                rcases hi with ⟨-, -, y3⟩ | ⟨q, hqn, -, rfl, -⟩
                · exact absurd y3 hnoo
                · intro z
                  have := nI_ti (show 1500 + q < 2 ^ 31 by omega)
                  rw [z] at this
                  have e1 : (-1 : Int32).toInt = -1 := by decide
                  omega
              have o2 : ord (f a) noo nlo (decide (0 < np)) = (0, noo - 1, nlo, decide (0 < np)) := by rw [c2]; simp [ord, hnoo]
              refine keepA 0 (by rw [o2]) (fun K wd1 sz1 m6 e5 => ?_) (by rw [ra, c2]; exact goesA_2z hle) (by rw [o1, o2]; dsimp only; omega) ho8 (fun np1 m7 => hinv' _ _ _ _ _ _ (fun z => absurd z hnoo))
              rw [lp_X12_passA_50, endPlace_ok h.s1, bd1_s, if_neg (nI_ge (by omega) (by omega)), inb_s (show 1500 + a < 4500 by omega) (by decide), gd_s, nm_s, nI_clamp (show 1500 + a < 2 ^ 31 by omega), wa]
              rw [c2] at e5 ⊢
              simp only [jn_s, nm_s, hA, hL, h10, eq_self, if_true, if_false, show ¬ (2 : Int32) = 1 by decide, show nI 0 ≤ (0 : Int32) by decide, m6, bd2_s, e5, bd1_s, z32, s32]
            · obtain ⟨o', rfl⟩ : ∃ j, own = j + 1 := ⟨own - 1, by omega⟩
              have x0 : ¬ nI (o' + 1) + 0 ≤ (0 : Int32) := by
                rw [z32]
                exact nI_nle (by omega) (by omega)
              have x1 : nI (o' + 1) + 0 - 1 = nI o' := by
                rw [z32]
                exact pk_sub (a := o' + 1) (b := 1) (by omega)
              refine skipA o' (fun K => ?_) (by rw [ra, c2]; exact goesA_2 hle (by omega)) (by rw [o1]; dsimp only; omega) ho8 (hinv' _ _ _ _ _ _ id)
              rw [lp_X12_passA_50, endPlace_ok h.s1, bd1_s, if_neg (nI_ge (by omega) (by omega)), inb_s (show 1500 + a < 4500 by omega) (by decide), gd_s, nm_s, nI_clamp (show 1500 + a < 2 ^ 31 by omega), wa]
              rw [c2] at e6 ⊢
              by_cases hL : last = -1
              · rw [hL] at hA ⊢
                simp only [jn_s, nm_s, hA, h10, eq_self, if_true, if_false, show ¬ (2 : Int32) = 1 by decide, x0, x1, e6, bd1_s]
              · simp only [jn_s, nm_s, hA, hL, h10, eq_self, if_true, if_false, show ¬ (2 : Int32) = 1 by decide, x0, x1, e6, bd1_s]
          · have o1 : (ord (f a) noi nli bi).2.1 = noi := by
              by_cases hd : 4 ≤ f a ∧ f a ≤ 8
              · exact ord_dr q5 q6 hd q2
              · rcases cmd14 q5 q6 with y | y | y | y | y | y | y | y | y | y | y | y | y | y
                · exact absurd y c1
                · exact absurd y c2
                · rw [y]; simp [ord]
                · exact absurd (by rw [y]; decide) hd
                · exact absurd (by rw [y]; decide) hd
                · exact absurd (by rw [y]; decide) hd
                · exact absurd (by rw [y]; decide) hd
                · exact absurd (by rw [y]; decide) hd
                · rw [y]; simp [ord]
                · rw [y]; simp [ord]
                · rw [y]; simp [ord]
                · rw [y]; simp [ord]
                · rw [y]; simp [ord]
                · rw [y]; simp [ord]
            refine skipA own (fun K => ?_) (goesA_x hle (by rw [ra]; exact c1) (by rw [ra]; exact c2)) (by rw [o1]; exact hno) ho8 (hinv' _ _ _ _ _ _ id)
            rw [lp_X12_passA_50, endPlace_ok h.s1, bd1_s, if_neg (nI_ge (by omega) (by omega)), inb_s (show 1500 + a < 4500 by omega) (by decide), gd_s, nm_s, nI_clamp (show 1500 + a < 2 ^ 31 by omega), wa]
            by_cases hL : last = -1
            · rw [hL] at hA ⊢
              simp only [jn_s, nm_s, hA, h10, c1, c2, eq_self, if_true, if_false, e6, bd1_s, z32, s32]
            · simp only [jn_s, nm_s, hA, hL, h10, c1, c2, eq_self, if_true, if_false, e6, bd1_s, z32, s32]
    · obtain rfl : a = n := by omega
      have h0 : noi = 0 := (VL.fin (Nat.le_refl _)).mp h.vin
      obtain ⟨rfl, rfl⟩ : noo = 0 ∧ own = 0 := by omega
      subst h0
      refine ⟨k, 0, nli, nlo, np, bi, c, r, row, wd, sz, fun K => gt_end hn (Nat.le_refl _) (by omega) K _ _ _ _ _ _ _ _ _, fun K => ?_, h⟩
      rw [lp_X12_passA_50, endPlace_ok h.s1, bd1_s, if_pos (nI_le (Nat.le_refl _) (by omega))]
