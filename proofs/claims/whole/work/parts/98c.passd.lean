theorem goesD {n a np : Nat} (hnp : np ≤ 800) {lf ob ja : Int32} {row : Nat → Int32} {s : SX} {c : CM} (hp : c.pts = nI np) (code : Int32) : m_X8_goes lf ob ja (nI n) row s.ta s.tb s.tc s.td s.te s.tf s.xa s.xb s.xc s.xd s.xe s.xf c.col c.way c.a c.b c.c c.d c.e c.f s.cx s.cy s.cu s.cv c.x c.y c.u c.v c.pts c.lx c.ly c.gy 3 (nI a) code = some (bI (decide (code = 3 ∧ np = 0)), ob, ja, row, s.ta, s.tb, s.tc, s.td, s.te, s.tf, s.xa, s.xb, s.xc, s.xd, s.xe, s.xf, s.cx, s.cy, s.cu, s.cv) := by
  unfold m_X8_goes
  rw [if_neg (by decide), if_neg (by decide), if_neg (by decide), if_pos rfl]
  by_cases e : code = 3
  · rw [if_pos e]
    unfold m_X5_isBegun
    rw [hp]
    by_cases z : np = 0
    · rw [if_pos (show nI np ≤ (0 : Int32) by rw [z]; decide), bd1_s, if_pos rfl, show decide (code = 3 ∧ np = 0) = true from decide_eq_true ⟨e, z⟩]
      rfl
    · rw [if_neg (nI_nle (by omega) (by omega)), bd1_s, if_neg (by decide), show decide (code = 3 ∧ np = 0) = false from decide_eq_false (fun q => z q.2)]
      rfl
  · rw [if_neg e, show decide (code = 3 ∧ np = 0) = false from decide_eq_false (fun q => e q.1)]
    rfl
theorem ord_b {c : Int32} {o k : Nat} {b : Bool} (h : (ord c o k b).1 = 0) (hb : b = false → k = 0) (h1 : ¬ c < 1) (h14 : c ≤ 14) : (ord c o k b).2.2.2 = (if c = 3 then false else b || decide (4 ≤ c ∧ c ≤ 8)) ∧ ((ord c o k b).2.2.2 = false → (ord c o k b).2.2.1 = 0) := by
  rcases cmd14 h1 h14 with rfl | rfl | rfl | rfl | rfl | rfl | rfl | rfl | rfl | rfl | rfl | rfl | rfl | rfl
  · by_cases q : o + 1 ≤ 8
    · have e : ord 1 o k b = (0, o + 1, k, b) := by simp [ord, q]
      rw [e]
      exact ⟨by cases b <;> rfl, hb⟩
    · simp [ord, q] at h
  · by_cases q : o = 0
    · simp [ord, q] at h
    · have e : ord 2 o k b = (0, o - 1, k, b) := by simp [ord, q]
      rw [e]
      exact ⟨by cases b <;> rfl, hb⟩
  · have e : ord 3 o k b = (0, o, 0, false) := by simp [ord]
    rw [e]
    exact ⟨rfl, fun _ => rfl⟩
  · have e : ord 4 o k b = (0, o, k, true) := by simp [ord]
    rw [e]
    exact ⟨by cases b <;> rfl, fun z => by simp at z⟩
  · cases b
    · simp [ord] at h
    · by_cases q : k + 1 ≤ 300
      · have e : ord 5 o k true = (0, o, k + 1, true) := by simp [ord, q]
        rw [e]
        exact ⟨rfl, fun z => by simp at z⟩
      · simp [ord, q] at h
  · cases b
    · simp [ord] at h
    · by_cases q : k + 8 ≤ 300
      · have e : ord 6 o k true = (0, o, k + 8, true) := by simp [ord, q]
        rw [e]
        exact ⟨rfl, fun z => by simp at z⟩
      · simp [ord, q] at h
  · cases b
    · simp [ord] at h
    · by_cases q : k + 1 ≤ 300
      · have e : ord 7 o k true = (0, o, k + 1, true) := by simp [ord, q]
        rw [e]
        exact ⟨rfl, fun z => by simp at z⟩
      · simp [ord, q] at h
  · by_cases q : k + 4 ≤ 300
    · have e : ord 8 o k b = (0, o, k + 4, true) := by simp [ord, q]
      rw [e]
      exact ⟨by cases b <;> rfl, fun z => by simp at z⟩
    · simp [ord, q] at h
  · have e : ord 9 o k b = (0, o, k, b) := by simp [ord]
    rw [e]
    exact ⟨by cases b <;> rfl, hb⟩
  · have e : ord 10 o k b = (0, o, k, b) := by simp [ord]
    rw [e]
    exact ⟨by cases b <;> rfl, hb⟩
  · have e : ord 11 o k b = (0, o, k, b) := by simp [ord]
    rw [e]
    exact ⟨by cases b <;> rfl, hb⟩
  · have e : ord 12 o k b = (0, o, k, b) := by simp [ord]
    rw [e]
    exact ⟨by cases b <;> rfl, hb⟩
  · have e : ord 13 o k b = (0, o, k, b) := by simp [ord]
    rw [e]
    exact ⟨by cases b <;> rfl, hb⟩
  · have e : ord 14 o k b = (0, o, k, b) := by simp [ord]
    rw [e]
    exact ⟨by cases b <;> rfl, hb⟩
theorem draws_ok (c : Int32) : m_X12_draws c = some (bI (decide (4 ≤ c ∧ c ≤ 8))) := by
  unfold m_X12_draws
  by_cases h1 : c < 4
  · rw [if_pos h1, show decide (4 ≤ c ∧ c ≤ 8) = false from decide_eq_false (fun z => absurd z.1 (Int32.not_le.mpr h1))]
    rfl
  · rw [if_neg h1]
    by_cases h2 : 8 < c
    · rw [if_pos h2, show decide (4 ≤ c ∧ c ≤ 8) = false from decide_eq_false (fun z => absurd z.2 (Int32.not_le.mpr h2))]
      rfl
    · rw [if_neg h2, show decide (4 ≤ c ∧ c ≤ 8) = true from decide_eq_true ⟨Int32.not_lt.mp h1, Int32.not_lt.mp h2⟩]
      rfl
theorem lockD {W H n : Nat} {f wd0 sz0 : Nat → Int32} (hW : W ≤ 32) (hH : H ≤ 32) (lf ob : Int32) (s : SX) : ∀ (N fu gu a k no nl np : Nat) (c : CM) (r : RF) (row wd sz : Nat → Int32), n ≤ a + N → N < fu → N < gu → PI W H n f wd0 sz0 a k no nl (decide (0 < np)) no nl np c r row wd sz → (np = 0 → nl = 0) → ∃ (k' nl' np' : Nat) (c' : CM) (r' : RF) (row' wd' sz' : Nat → Int32), (∀ K : Int32 → Int32 → Int32 → Int32 → Int32 → Int32 → Int32 → Int32 → Int32 → Int32 → Int32 → Int32 → Int32 → Int32 → Int32 → Int32 → Int32 → Int32 → Int32 → Int32 → Int32 → Int32 → Int32 → Int32 → Int32 → Int32 → (Nat → Int32) → Int32 → Int32 → Int32 → Int32 → Int32 → Int32 → Int32 → Int32 → Int32 → Int32 → Int32 → Int32 → Int32 → Int32 → Int32 → Int32 → Int32 → Int32 → Int32 → Int32 → Int32 → Int32 → (Nat → Int32) → (Nat → Int32) → (Nat → Int32) → (Nat → Int32) → (Nat → Int32) → (Nat → Int32) → (Nat → Int32) → (Nat → Int32) → (Nat → Int32) → (Nat → Int32) → (Nat → Int32) → (Nat → Int32) → (Nat → Int32) → (Nat → Int32) → (Nat → Int32) → Option (Int32 × Int32 × Int32 × Int32 × Int32 × Int32 × Int32 × Int32 × Int32 × Int32 × Int32 × Int32 × Int32 × Int32 × Int32 × Int32 × Int32 × Int32 × Int32 × Int32 × Int32 × Int32 × Int32 × Int32 × Int32 × Int32 × Int32 × Int32 × (Nat → Int32) × Int32 × Int32 × Int32 × Int32 × Int32 × Int32 × Int32 × Int32 × Int32 × Int32 × Int32 × Int32 × Int32 × Int32 × Int32 × Int32 × Int32 × Int32 × Int32 × Int32 × Int32 × Int32 × (Nat → Int32) × (Nat → Int32) × (Nat → Int32) × (Nat → Int32) × (Nat → Int32) × (Nat → Int32) × (Nat → Int32) × (Nat → Int32) × (Nat → Int32) × (Nat → Int32) × (Nat → Int32) × (Nat → Int32) × (Nat → Int32) × (Nat → Int32) × (Nat → Int32)), lp_X8_goThrough_33 (nI n) K lf 3 fu (nI k) (nI a) ob (-1) c.opn c.col c.way c.a c.b c.c c.d c.e c.f c.x c.y c.u c.v c.pts c.lns c.fst c.ftx c.fty c.ltx c.lty c.lx c.ly c.gy row s.ta s.tb s.tc s.td s.te s.tf s.xa s.xb s.xc s.xd s.xe s.xf s.cx s.cy s.cu s.cv c.na c.nb c.nc c.nd c.ne c.nf c.xs c.ys c.bg c.sc c.sw c.sa c.sb c.sC c.sd c.se c.sf c.sx c.sy c.su c.sv = K (nI k') ob (-1) c'.opn c'.col c'.way c'.a c'.b c'.c c'.d c'.e c'.f c'.x c'.y c'.u c'.v c'.pts c'.lns c'.fst c'.ftx c'.fty c'.ltx c'.lty c'.lx c'.ly c'.gy row' s.ta s.tb s.tc s.td s.te s.tf s.xa s.xb s.xc s.xd s.xe s.xf s.cx s.cy s.cu s.cv c'.na c'.nb c'.nc c'.nd c'.ne c'.nf c'.xs c'.ys c'.bg c'.sc c'.sw c'.sa c'.sb c'.sC c'.sd c'.se c'.sf c'.sx c'.sy c'.su c'.sv) ∧ (∀ K : (Nat → Int32) → (Nat → Int32) → Option (Int32 × (Nat → Int32) × (Nat → Int32) × (Nat → Int32) × (Nat → Int32) × (Nat → Int32) × (Nat → Int32) × (Nat → Int32) × (Nat → Int32)), lp_X12_passD_10 K gu (bI (decide (np = 0))) (nI (1500 + a)) sz wd = K sz' wd') ∧ PI W H n f wd0 sz0 n k' 0 nl' (decide (0 < np')) 0 nl' np' c' r' row' wd' sz' := by
  intro N
  induction N with
  | zero =>
    intro fu gu a k no nl np c r row wd sz h1 h2 h3 h hz
    have hn := h.hn
    have ha := h.ha
    obtain ⟨fu, rfl⟩ : ∃ j, fu = j + 1 := ⟨fu - 1, by omega⟩
    obtain ⟨gu, rfl⟩ : ∃ j, gu = j + 1 := ⟨gu - 1, by omega⟩
    obtain rfl : a = n := by omega
    have h0 : no = 0 := (VL.fin (Nat.le_refl _)).mp h.vin
    subst h0
    refine ⟨k, nl, np, c, r, row, wd, sz, fun K => gt_end hn (Nat.le_refl _) (by omega) K _ _ _ _ _ _ _ _ _, fun K => ?_, h⟩
    rw [lp_X12_passD_10, endPlace_ok h.s1, bd1_s, if_pos (nI_le (Nat.le_refl _) (by omega))]
  | succ N ih =>
    intro fu gu a k no nl np c r row wd sz h1 h2 h3 h hz
    have hn := h.hn
    have ha := h.ha
    obtain ⟨fu, rfl⟩ : ∃ j, fu = j + 1 := ⟨fu - 1, by omega⟩
    obtain ⟨gu, rfl⟩ : ∃ j, gu = j + 1 := ⟨gu - 1, by omega⟩
    by_cases hp : a < n
    · obtain ⟨q1, q2, q3⟩ := h.vin.step hn hp
      obtain ⟨q4, q5, q6⟩ := fw_len q1
      have hc := cl_ge (f a)
      have ra : row a = f a := h.tail a (Nat.le_refl _) hp
      have wa : wd (1500 + a) = f a := h.inp a hp
      have hnp : np ≤ 800 := h.mach.2.2.2.2.2.2.2.2.1
      have hpt : c.pts = nI np := h.mach.2.2.2.2.2.2.1
      obtain ⟨ob1, ob2⟩ := ord_b q2 (fun z => hz (by have := of_decide_eq_false z; omega)) q5 q6
      have hg := goesD (n := n) (a := a) (lf := lf) (ob := ob) (ja := -1) (row := row) (s := s) hnp hpt (row a)
      have hj : ¬ nI a = (-1 : Int32) := by
        intro z
        have := nI_ti (show a < 2 ^ 31 by omega)
        rw [z] at this
        have e1 : (-1 : Int32).toInt = -1 := by decide
        omega
      rw [ra] at hg
      by_cases e : f a = 3 ∧ np = 0
      · obtain ⟨e3, e0⟩ := e
        have hs := h.skip hp
        have eo : ord (f a) no nl (decide (0 < np)) = (0, no, 0, false) := by rw [e3]; simp [ord]
        rw [eo] at hs
        have hnl := hz e0
        subst e0 hnl
        obtain ⟨k', nl', np', c', r', row', wd', sz', b1, b2, b3⟩ := ih fu gu (a + cl (f a)) k no 0 0 c r row wd sz (by omega) (by omega) (by omega) hs (fun _ => rfl)
        refine ⟨k', nl', np', c', r', row', wd', sz', fun K => ?_, fun K => ?_, b3⟩
        · rw [gt_skip hn hp hj (by rw [ra, hg, show decide (f a = 3 ∧ 0 = 0) = true from decide_eq_true ⟨e3, rfl⟩]; rfl), if_neg (by decide), ra]
          exact b1 K
        · rw [lp_X12_passD_10, endPlace_ok h.s1, bd1_s, if_neg (nI_ge (by omega) (by omega)), inb_s (show 1500 + a < 4500 by omega) (by decide), gd_s, nm_s, nI_clamp (show 1500 + a < 2 ^ 31 by omega), wa]
          simp only [jn_s]
          rw [if_pos e3, if_neg (by decide), if_pos e3, behind_ok (by omega), wa, bd1_s, Nat.add_assoc]
          exact b2 K
      · obtain ⟨np1, c1, r1, row1, wd1, sz1, m1, -, -, -, m5, m6, m7, m8, -⟩ := h.keep hW hH hp q2
        have m8' := m8
        rw [m7] at m8'
        obtain ⟨k', nl', np', c', r', row', wd', sz', b1, b2, b3⟩ := ih fu gu (a + cl (f a)) (k + cl (f a)) _ _ np1 c1 r1 row1 wd1 sz1 (by omega) (by omega) (by omega) m8' (fun z => ob2 (by rw [m7]; exact decide_eq_false (by omega)))
        have wa1 : wd1 (1500 + a) = f a := m8.inp a hp
        refine ⟨k', nl', np', c', r', row', wd', sz', fun K => ?_, fun K => ?_, b3⟩
        · rw [gt_keep hn hp hj (by rw [ra, hg, show decide (f a = 3 ∧ np = 0) = false from decide_eq_false e]; rfl) m1 (by rw [ra]; exact m5), ra]
          exact b1 K
        · have hfl : bI (decide (np1 = 0)) = (if f a = 3 then 1 else if bI (decide (np = 0)) = 0 then 0 else if bI (decide (4 ≤ f a ∧ f a ≤ 8)) = 0 then 1 else 0) := by
            have hd : decide (np1 = 0) = !(decide (0 < np1)) := by
              by_cases z : np1 = 0
              · simp [z]
              · simp [z]; omega
            rw [hd, ← m7, ob1]
            by_cases z3 : f a = 3
            · rw [if_pos z3, if_pos z3]
              rfl
            · rw [if_neg z3, if_neg z3]
              by_cases z0 : np = 0
              · rw [z0]
                cases decide (4 ≤ f a ∧ f a ≤ 8) <;> rfl
              · rw [show decide (0 < np) = true from decide_eq_true (by omega), show decide (np = 0) = false from decide_eq_false z0]
                rfl
          rw [hfl] at b2
          have e5 := behind_ok (p := 1500 + a) (by omega) wd1
          rw [wa1, Nat.add_assoc] at e5
          rw [lp_X12_passD_10, endPlace_ok h.s1, bd1_s, if_neg (nI_ge (by omega) (by omega)), inb_s (show 1500 + a < 4500 by omega) (by decide), gd_s, nm_s, nI_clamp (show 1500 + a < 2 ^ 31 by omega), wa]
          simp only [jn_s, m6, bd2_s, draws_ok, bd1_s, e5]
          by_cases z3 : f a = 3
          · have z0 : ¬ np = 0 := fun z => e ⟨z3, z⟩
            rw [if_pos z3, if_pos (by rw [show decide (np = 0) = false from decide_eq_false z0]; rfl), if_pos z3]
            rw [if_pos z3] at b2
            exact b2 K
          · rw [if_neg z3, if_neg z3]
            rw [if_neg z3] at b2
            by_cases y0 : bI (decide (np = 0)) = 0
            · rw [if_pos y0]
              rw [if_pos y0] at b2
              exact b2 K
            · rw [if_neg y0]
              rw [if_neg y0] at b2
              by_cases y1 : bI (decide (4 ≤ f a ∧ f a ≤ 8)) = 0
              · rw [if_pos y1]
                rw [if_pos y1] at b2
                exact b2 K
              · rw [if_neg y1]
                rw [if_neg y1] at b2
                exact b2 K
    · obtain rfl : a = n := by omega
      have h0 : no = 0 := (VL.fin (Nat.le_refl _)).mp h.vin
      subst h0
      refine ⟨k, nl, np, c, r, row, wd, sz, fun K => gt_end hn (Nat.le_refl _) (by omega) K _ _ _ _ _ _ _ _ _, fun K => ?_, h⟩
      rw [lp_X12_passD_10, endPlace_ok h.s1, bd1_s, if_pos (nI_le (Nat.le_refl _) (by omega))]
