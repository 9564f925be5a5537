def SCo (c : Int32) : Bool := decide (c = 3 ∨ c = 9)
theorem set_C (c : Int32) (h1 : ¬ c < 1) (h2 : c ≤ 14) : ((520 : Int32) &&& ((1 : Int32) <<< (c &&& 31))) = 0 ↔ ¬ SCo c = true := by
  rcases cmd14 h1 h2 with rfl | rfl | rfl | rfl | rfl | rfl | rfl | rfl | rfl | rfl | rfl | rfl | rfl | rfl <;> decide
theorem la_C {f : Nat → Int32} {n : Nat} (hn : n ≤ 1500) {sz wd : Nat → Int32} (hs : sz 1 = nI n) (hw : ∀ j, j < n → wd (1500 + j) = f j) (K : Int32 → Option (Int32 × (Nat → Int32) × (Nat → Int32) × (Nat → Int32) × (Nat → Int32) × (Nat → Int32) × (Nat → Int32) × (Nat → Int32) × (Nat → Int32))) : ∀ (N gu p : Nat), n ≤ p + N → N < gu → p ≤ n → TL f n p → lp_X12_passC_22 sz K wd gu (nI (1500 + p)) = K (nI (1500 + nx f n SCo 2000 p)) := by
  intro N
  induction N with
  | zero =>
    intro gu p h1 h2 h3 ht
    obtain ⟨gu, rfl⟩ : ∃ j, gu = j + 1 := ⟨gu - 1, by omega⟩
    rw [lp_X12_passC_22, endPlace_ok hs, bd1_s, if_pos (nI_le (by omega) (by omega)), nx_end (by omega)]
  | succ N ih =>
    intro gu p h1 h2 h3 ht
    obtain ⟨gu, rfl⟩ : ∃ j, gu = j + 1 := ⟨gu - 1, by omega⟩
    by_cases hp : p < n
    · obtain ⟨k1, k2, k3, k4⟩ := ht.step hn hp
      have hc := cl_ge (f p)
      have wp : wd (1500 + p) = f p := hw p hp
      have e6 := behind_ok (p := 1500 + p) (by omega) wd
      rw [wp, Nat.add_assoc] at e6
      rw [lp_X12_passC_22, endPlace_ok hs, bd1_s, if_neg (nI_ge (by omega) (by omega)), inb_s (show 1500 + p < 4500 by omega) (by decide), gd_s, nm_s, nI_clamp (show 1500 + p < 2 ^ 31 by omega), wp, e6]
      simp only [gd_s, nm_s, bd1_s]
      by_cases q : SCo (f p) = true
      · rw [nx_in hp q]
        have q' := of_decide_eq_true q
        by_cases z3 : f p = 3
        · rw [if_pos z3]
        · rw [if_neg z3, if_pos (q'.elim (fun z => absurd z z3) id)]
      · have q' := fun z => q (decide_eq_true z)
        rw [nx_go hn hp q]
        rw [if_neg (fun z => q' (Or.inl z)), if_neg (fun z => q' (Or.inr z))]
        exact ih gu _ (by omega) (by omega) k1 k4
    · rw [lp_X12_passC_22, endPlace_ok hs, bd1_s, if_pos (nI_le (by omega) (by omega)), nx_end (by omega)]
theorem goesC {n a : Nat} (hn : n ≤ 1500) (hp : a < n) {lf ob ja : Int32} {row : Nat → Int32} {s : SX} {c : CM} (ht : TL row n a) : m_X8_goes lf ob ja (nI n) row s.ta s.tb s.tc s.td s.te s.tf s.xa s.xb s.xc s.xd s.xe s.xf c.col c.way c.a c.b c.c c.d c.e c.f s.cx s.cy s.cu s.cv c.x c.y c.u c.v c.pts c.lx c.ly c.gy 2 (nI a) (row a) = some (bI (decide ((4 ≤ row a ∧ row a ≤ 8) ∧ ¬ fb row n SCo (a + cl (row a)) = 9)), ob, ja, row, s.ta, s.tb, s.tc, s.td, s.te, s.tf, s.xa, s.xb, s.xc, s.xd, s.xe, s.xf, s.cx, s.cy, s.cu, s.cv) := by
  unfold m_X8_goes
  rw [if_neg (by decide), if_neg (by decide), if_pos rfl]
  by_cases h1 : row a < 4
  · rw [if_pos h1, show decide ((4 ≤ row a ∧ row a ≤ 8) ∧ ¬ fb row n SCo (a + cl (row a)) = 9) = false from decide_eq_false (fun q => absurd q.1.1 (Int32.not_le.mpr h1))]
    rfl
  · rw [if_neg h1]
    by_cases h2 : 8 < row a
    · rw [if_pos h2, show decide ((4 ≤ row a ∧ row a ≤ 8) ∧ ¬ fb row n SCo (a + cl (row a)) = 9) = false from decide_eq_false (fun q => absurd q.1.2 (Int32.not_le.mpr h2))]
      rfl
    · rw [if_neg h2, firstBehind_ok hn set_C hp ht, bd1_s]
      by_cases z : fb row n SCo (a + cl (row a)) = 9
      · rw [if_pos z, show decide ((4 ≤ row a ∧ row a ≤ 8) ∧ ¬ fb row n SCo (a + cl (row a)) = 9) = false from decide_eq_false (fun q => q.2 z)]
        rfl
      · rw [if_neg z, show decide ((4 ≤ row a ∧ row a ≤ 8) ∧ ¬ fb row n SCo (a + cl (row a)) = 9) = true from decide_eq_true ⟨⟨Int32.not_lt.mp h1, Int32.not_lt.mp h2⟩, z⟩]
        rfl
theorem ord_nd {c : Int32} (h1 : ¬ c < 1) (h14 : c ≤ 14) (hd : ¬ (4 ≤ c ∧ c ≤ 8)) (h3 : ¬ c = 3) (o k : Nat) (b : Bool) : ord c o k b = ((ord c o 0 false).1, (ord c o 0 false).2.1, k, b) := by
  rcases cmd14 h1 h14 with rfl | rfl | rfl | rfl | rfl | rfl | rfl | rfl | rfl | rfl | rfl | rfl | rfl | rfl
  · by_cases q : o + 1 ≤ 8
    · simp [ord, q]
    · simp [ord, q]
  · by_cases q : o = 0
    · simp [ord, q]
    · simp [ord, q]
  · exact absurd rfl h3
  · exact absurd (by decide) hd
  · exact absurd (by decide) hd
  · exact absurd (by decide) hd
  · exact absurd (by decide) hd
  · exact absurd (by decide) hd
  · simp [ord]
  · simp [ord]
  · simp [ord]
  · simp [ord]
  · simp [ord]
  · simp [ord]
theorem ord_dr {c : Int32} (h1 : ¬ c < 1) (h14 : c ≤ 14) (hd : 4 ≤ c ∧ c ≤ 8) {o k : Nat} {b : Bool} (h : (ord c o k b).1 = 0) : (ord c o k b).2.1 = o := by
  rcases cmd14 h1 h14 with rfl | rfl | rfl | rfl | rfl | rfl | rfl | rfl | rfl | rfl | rfl | rfl | rfl | rfl
  · exact absurd hd (by decide)
  · exact absurd hd (by decide)
  · exact absurd hd (by decide)
  · simp [ord]
  · cases b
    · simp [ord] at h
    · by_cases q : k + 1 ≤ 300
      · simp [ord, q]
      · simp [ord, q] at h
  · cases b
    · simp [ord] at h
    · by_cases q : k + 8 ≤ 300
      · simp [ord, q]
      · simp [ord, q] at h
  · cases b
    · simp [ord] at h
    · by_cases q : k + 1 ≤ 300
      · simp [ord, q]
      · simp [ord, q] at h
  · by_cases q : k + 4 ≤ 300
    · simp [ord, q]
    · simp [ord, q] at h
  · exact absurd hd (by decide)
  · exact absurd hd (by decide)
  · exact absurd hd (by decide)
  · exact absurd hd (by decide)
  · exact absurd hd (by decide)
  · exact absurd hd (by decide)
theorem lockC {W H n : Nat} {f wd0 sz0 : Nat → Int32} (hW : W ≤ 32) (hH : H ≤ 32) (lf ob : Int32) (s : SX) : ∀ (N fu gu a k no nli nlo np : Nat) (bi : Bool) (c : CM) (r : RF) (row wd sz : Nat → Int32), n ≤ a + N → N < fu → N < gu → PI W H n f wd0 sz0 a k no nli bi no nlo np c r row wd sz → ((nli = nlo ∧ bi = decide (0 < np)) ∨ ¬ fb f n SCo a = 9) → ∃ (k' nli' nlo' np' : Nat) (bi' : Bool) (c' : CM) (r' : RF) (row' wd' sz' : Nat → Int32), (∀ K : Int32 → Int32 → Int32 → Int32 → Int32 → Int32 → Int32 → Int32 → Int32 → Int32 → Int32 → Int32 → Int32 → Int32 → Int32 → Int32 → Int32 → Int32 → Int32 → Int32 → Int32 → Int32 → Int32 → Int32 → Int32 → Int32 → (Nat → Int32) → Int32 → Int32 → Int32 → Int32 → Int32 → Int32 → Int32 → Int32 → Int32 → Int32 → Int32 → Int32 → Int32 → Int32 → Int32 → Int32 → Int32 → Int32 → Int32 → Int32 → Int32 → Int32 → (Nat → Int32) → (Nat → Int32) → (Nat → Int32) → (Nat → Int32) → (Nat → Int32) → (Nat → Int32) → (Nat → Int32) → (Nat → Int32) → (Nat → Int32) → (Nat → Int32) → (Nat → Int32) → (Nat → Int32) → (Nat → Int32) → (Nat → Int32) → (Nat → Int32) → Option (Int32 × Int32 × Int32 × Int32 × Int32 × Int32 × Int32 × Int32 × Int32 × Int32 × Int32 × Int32 × Int32 × Int32 × Int32 × Int32 × Int32 × Int32 × Int32 × Int32 × Int32 × Int32 × Int32 × Int32 × Int32 × Int32 × Int32 × Int32 × (Nat → Int32) × Int32 × Int32 × Int32 × Int32 × Int32 × Int32 × Int32 × Int32 × Int32 × Int32 × Int32 × Int32 × Int32 × Int32 × Int32 × Int32 × Int32 × Int32 × Int32 × Int32 × Int32 × Int32 × (Nat → Int32) × (Nat → Int32) × (Nat → Int32) × (Nat → Int32) × (Nat → Int32) × (Nat → Int32) × (Nat → Int32) × (Nat → Int32) × (Nat → Int32) × (Nat → Int32) × (Nat → Int32) × (Nat → Int32) × (Nat → Int32) × (Nat → Int32) × (Nat → Int32)), lp_X8_goThrough_33 (nI n) K lf 2 fu (nI k) (nI a) ob (-1) c.opn c.col c.way c.a c.b c.c c.d c.e c.f c.x c.y c.u c.v c.pts c.lns c.fst c.ftx c.fty c.ltx c.lty c.lx c.ly c.gy row s.ta s.tb s.tc s.td s.te s.tf s.xa s.xb s.xc s.xd s.xe s.xf s.cx s.cy s.cu s.cv c.na c.nb c.nc c.nd c.ne c.nf c.xs c.ys c.bg c.sc c.sw c.sa c.sb c.sC c.sd c.se c.sf c.sx c.sy c.su c.sv = K (nI k') ob (-1) c'.opn c'.col c'.way c'.a c'.b c'.c c'.d c'.e c'.f c'.x c'.y c'.u c'.v c'.pts c'.lns c'.fst c'.ftx c'.fty c'.ltx c'.lty c'.lx c'.ly c'.gy row' s.ta s.tb s.tc s.td s.te s.tf s.xa s.xb s.xc s.xd s.xe s.xf s.cx s.cy s.cu s.cv c'.na c'.nb c'.nc c'.nd c'.ne c'.nf c'.xs c'.ys c'.bg c'.sc c'.sw c'.sa c'.sb c'.sC c'.sd c'.se c'.sf c'.sx c'.sy c'.su c'.sv) ∧ (∀ K : (Nat → Int32) → (Nat → Int32) → Option (Int32 × (Nat → Int32) × (Nat → Int32) × (Nat → Int32) × (Nat → Int32) × (Nat → Int32) × (Nat → Int32) × (Nat → Int32) × (Nat → Int32)), lp_X12_passC_8 K gu (nI (1500 + a)) sz wd = K sz' wd') ∧ PI W H n f wd0 sz0 n k' 0 nli' bi' 0 nlo' np' c' r' row' wd' sz' := by
  intro N
  induction N with
  | zero =>
    intro fu gu a k no nli nlo np bi c r row wd sz h1 h2 h3 h hq
    have hn := h.hn
    have ha := h.ha
    obtain ⟨fu, rfl⟩ : ∃ j, fu = j + 1 := ⟨fu - 1, by omega⟩
    obtain ⟨gu, rfl⟩ : ∃ j, gu = j + 1 := ⟨gu - 1, by omega⟩
    obtain rfl : a = n := by omega
    have h0 : no = 0 := (VL.fin (Nat.le_refl _)).mp h.vin
    subst h0
    refine ⟨k, nli, nlo, np, bi, c, r, row, wd, sz, fun K => gt_end hn (Nat.le_refl _) (by omega) K _ _ _ _ _ _ _ _ _, fun K => ?_, h⟩
    rw [lp_X12_passC_8, endPlace_ok h.s1, bd1_s, if_pos (nI_le (Nat.le_refl _) (by omega))]
  | succ N ih =>
    intro fu gu a k no nli nlo np bi c r row wd sz h1 h2 h3 h hq
    have hn := h.hn
    have ha := h.ha
    obtain ⟨fu, rfl⟩ : ∃ j, fu = j + 1 := ⟨fu - 1, by omega⟩
    obtain ⟨gu, rfl⟩ : ∃ j, gu = j + 1 := ⟨gu - 1, by omega⟩
    by_cases hp : a < n
    · skip
      obtain ⟨q1, q2, q3⟩ := h.vin.step hn hp
      obtain ⟨q4, q5, q6⟩ := fw_len q1
      have hc := cl_ge (f a)
      have ra : row a = f a := h.tail a (Nat.le_refl _) hp
      have wa : wd (1500 + a) = f a := h.inp a hp
      have hj : ¬ nI a = (-1 : Int32) := by
        intro z
        have := nI_ti (show a < 2 ^ 31 by omega)
        rw [z] at this
        have e1 : (-1 : Int32).toInt = -1 := by decide
        omega
      have htr : TL row n a := ⟨_, _, _, VL.tail hn 1500 a _ _ _ (by omega) h.tail h.vin⟩
      have htf : TL f n (a + cl (f a)) := ⟨_, _, _, q3⟩
      have hg := goesC (lf := lf) (ob := ob) (ja := -1) (s := s) (c := c) hn hp htr
      have e6 := behind_ok (p := 1500 + a) (by omega) wd
      rw [wa, Nat.add_assoc] at e6
      have efb := (fb_tail (S := SCo) hn 1500 (a + cl (f a)) (by omega) (fun j j1 j2 => h.tail j (by omega) j2)).2
      obtain ⟨n1, n2⟩ := nx_ok (S := SCo) hn 1500 (a + cl (f a)) (by omega) q4 htf
      have hla := fun K => la_C hn h.s1 h.inp K 1500 FU (a + cl (f a)) (by omega) (by rw [FU_s]; omega) q4 htf
      have hst : ∀ J : Int32 → Option (Int32 × (Nat → Int32) × (Nat → Int32) × (Nat → Int32) × (Nat → Int32) × (Nat → Int32) × (Nat → Int32) × (Nat → Int32) × (Nat → Int32)), jn J (fun K84 => jn (K84 0) (fun K83 => if nI (1500 + n) ≤ nI (1500 + nx f n SCo 2000 (a + cl (f a))) then K83 else gd (inb (nI (1500 + nx f n SCo 2000 (a + cl (f a)))) 4500) (nm (wd (nI (1500 + nx f n SCo 2000 (a + cl (f a)))).toNatClampNeg) (fun a_49 => if a_49 = 9 then K84 1 else K83)))) = J (bI (decide (fb f n SCo (a + cl (f a)) = 9))) := by
        intro J
        rw [fb_nx, jn_s, jn_s]
        generalize nx f n SCo 2000 (a + cl (f a)) = q at n1 n2
        by_cases z : q < n
        · rw [if_neg (nI_ge (by omega) (by omega)), inb_s (show 1500 + q < 4500 by omega) (by decide), gd_s, nm_s, nI_clamp (show 1500 + q < 2 ^ 31 by omega), h.inp q z, if_pos z]
          by_cases y : f q = 9
          · rw [if_pos y, show decide (f q = 9) = true from decide_eq_true y]
            rfl
          · rw [if_neg y, show decide (f q = 9) = false from decide_eq_false y]
            rfl
        · rw [if_pos (nI_le (by omega) (by omega)), if_neg z]
          rfl
      have hkeep : ¬ ((4 ≤ f a ∧ f a ≤ 8) ∧ ¬ fb f n SCo (a + cl (f a)) = 9) → (ord (f a) no nlo (decide (0 < np))).1 = 0 → (∀ np1 : Nat, (ord (f a) no nlo (decide (0 < np))).2.2.2 = decide (0 < np1) → (ord (f a) no nli bi).2.1 = (ord (f a) no nlo (decide (0 < np))).2.1 ∧ (((ord (f a) no nli bi).2.2.1 = (ord (f a) no nlo (decide (0 < np))).2.2.1 ∧ (ord (f a) no nli bi).2.2.2 = decide (0 < np1)) ∨ ¬ fb f n SCo (a + cl (f a)) = 9)) → ∃ (k' nli' nlo' np' : Nat) (bi' : Bool) (c' : CM) (r' : RF) (row' wd' sz' : Nat → Int32), (∀ K : Int32 → Int32 → Int32 → Int32 → Int32 → Int32 → Int32 → Int32 → Int32 → Int32 → Int32 → Int32 → Int32 → Int32 → Int32 → Int32 → Int32 → Int32 → Int32 → Int32 → Int32 → Int32 → Int32 → Int32 → Int32 → Int32 → (Nat → Int32) → Int32 → Int32 → Int32 → Int32 → Int32 → Int32 → Int32 → Int32 → Int32 → Int32 → Int32 → Int32 → Int32 → Int32 → Int32 → Int32 → Int32 → Int32 → Int32 → Int32 → Int32 → Int32 → (Nat → Int32) → (Nat → Int32) → (Nat → Int32) → (Nat → Int32) → (Nat → Int32) → (Nat → Int32) → (Nat → Int32) → (Nat → Int32) → (Nat → Int32) → (Nat → Int32) → (Nat → Int32) → (Nat → Int32) → (Nat → Int32) → (Nat → Int32) → (Nat → Int32) → Option (Int32 × Int32 × Int32 × Int32 × Int32 × Int32 × Int32 × Int32 × Int32 × Int32 × Int32 × Int32 × Int32 × Int32 × Int32 × Int32 × Int32 × Int32 × Int32 × Int32 × Int32 × Int32 × Int32 × Int32 × Int32 × Int32 × Int32 × Int32 × (Nat → Int32) × Int32 × Int32 × Int32 × Int32 × Int32 × Int32 × Int32 × Int32 × Int32 × Int32 × Int32 × Int32 × Int32 × Int32 × Int32 × Int32 × Int32 × Int32 × Int32 × Int32 × Int32 × Int32 × (Nat → Int32) × (Nat → Int32) × (Nat → Int32) × (Nat → Int32) × (Nat → Int32) × (Nat → Int32) × (Nat → Int32) × (Nat → Int32) × (Nat → Int32) × (Nat → Int32) × (Nat → Int32) × (Nat → Int32) × (Nat → Int32) × (Nat → Int32) × (Nat → Int32)), lp_X8_goThrough_33 (nI n) K lf 2 (fu + 1) (nI k) (nI a) ob (-1) c.opn c.col c.way c.a c.b c.c c.d c.e c.f c.x c.y c.u c.v c.pts c.lns c.fst c.ftx c.fty c.ltx c.lty c.lx c.ly c.gy row s.ta s.tb s.tc s.td s.te s.tf s.xa s.xb s.xc s.xd s.xe s.xf s.cx s.cy s.cu s.cv c.na c.nb c.nc c.nd c.ne c.nf c.xs c.ys c.bg c.sc c.sw c.sa c.sb c.sC c.sd c.se c.sf c.sx c.sy c.su c.sv = K (nI k') ob (-1) c'.opn c'.col c'.way c'.a c'.b c'.c c'.d c'.e c'.f c'.x c'.y c'.u c'.v c'.pts c'.lns c'.fst c'.ftx c'.fty c'.ltx c'.lty c'.lx c'.ly c'.gy row' s.ta s.tb s.tc s.td s.te s.tf s.xa s.xb s.xc s.xd s.xe s.xf s.cx s.cy s.cu s.cv c'.na c'.nb c'.nc c'.nd c'.ne c'.nf c'.xs c'.ys c'.bg c'.sc c'.sw c'.sa c'.sb c'.sC c'.sd c'.se c'.sf c'.sx c'.sy c'.su c'.sv) ∧ (∀ K : (Nat → Int32) → (Nat → Int32) → Option (Int32 × (Nat → Int32) × (Nat → Int32) × (Nat → Int32) × (Nat → Int32) × (Nat → Int32) × (Nat → Int32) × (Nat → Int32) × (Nat → Int32)), lp_X12_passC_8 K (gu + 1) (nI (1500 + a)) sz wd = K sz' wd') ∧ PI W H n f wd0 sz0 n k' 0 nli' bi' 0 nlo' np' c' r' row' wd' sz' := by
        intro e hor hst2
        obtain ⟨np1, c1, r1, row1, wd1, sz1, m1, -, -, -, m5, m6, m7, m8, -⟩ := h.keep hW hH hp hor
        obtain ⟨y1, y2⟩ := hst2 np1 m7
        rw [y1] at m8
        obtain ⟨k', nli', nlo', np', bi', c', r', row', wd', sz', b1, b2, b3⟩ := ih fu gu (a + cl (f a)) (k + cl (f a)) _ _ _ np1 _ c1 r1 row1 wd1 sz1 (by omega) (by omega) (by omega) m8 y2
        have wa1 : wd1 (1500 + a) = f a := m8.inp a hp
        have e5 := behind_ok (p := 1500 + a) (by omega) wd1
        rw [wa1, Nat.add_assoc] at e5
        refine ⟨k', nli', nlo', np', bi', c', r', row', wd', sz', fun K => ?_, fun K => ?_, b3⟩
        · rw [gt_keep hn hp hj (by rw [hg, ra, efb, show decide ((4 ≤ f a ∧ f a ≤ 8) ∧ ¬ fb f n SCo (a + cl (f a)) = 9) = false from decide_eq_false e]; rfl) m1 (by rw [ra]; exact m5), ra]
          exact b1 K
        · rw [lp_X12_passC_8, endPlace_ok h.s1, bd1_s, if_neg (nI_ge (by omega) (by omega)), e6, bd1_s, jn_s, hla, bd1_s, hst, inb_s (show 1500 + a < 4500 by omega) (by decide), gd_s, nm_s, nI_clamp (show 1500 + a < 2 ^ 31 by omega), wa, draws_ok, bd1_s]
          simp only [jn_s, m6, bd2_s, e5, bd1_s]
          by_cases z1 : 4 ≤ f a ∧ f a ≤ 8
          · rw [if_neg (by rw [show decide (4 ≤ f a ∧ f a ≤ 8) = true from decide_eq_true z1]; decide), if_neg (by rw [show decide (fb f n SCo (a + cl (f a)) = 9) = true from decide_eq_true (Classical.byContradiction fun z => e ⟨z1, z⟩)]; decide)]
            exact b2 K
          · rw [if_pos (by rw [show decide (4 ≤ f a ∧ f a ≤ 8) = false from decide_eq_false z1]; rfl)]
            exact b2 K
      by_cases e : ((4 ≤ f a ∧ f a ≤ 8) ∧ ¬ fb f n SCo (a + cl (f a)) = 9)
      · have hs := h.skip hp
        rw [ord_dr q5 q6 e.1 q2] at hs
        obtain ⟨k', nli', nlo', np', bi', c', r', row', wd', sz', b1, b2, b3⟩ := ih fu gu (a + cl (f a)) k no _ _ np _ c r row wd sz (by omega) (by omega) (by omega) hs (Or.inr e.2)
        refine ⟨k', nli', nlo', np', bi', c', r', row', wd', sz', fun K => ?_, fun K => ?_, b3⟩
        · rw [gt_skip hn hp hj (by rw [hg, ra, efb, show decide ((4 ≤ f a ∧ f a ≤ 8) ∧ ¬ fb f n SCo (a + cl (f a)) = 9) = true from decide_eq_true e]; rfl), if_neg (by decide), ra]
          exact b1 K
        · rw [lp_X12_passC_8, endPlace_ok h.s1, bd1_s, if_neg (nI_ge (by omega) (by omega)), e6, bd1_s, jn_s, hla, bd1_s, hst, inb_s (show 1500 + a < 4500 by omega) (by decide), gd_s, nm_s, nI_clamp (show 1500 + a < 2 ^ 31 by omega), wa, draws_ok, bd1_s]
          simp only [jn_s]
          rw [if_neg (by rw [show decide (4 ≤ f a ∧ f a ≤ 8) = true from decide_eq_true e.1]; decide), if_pos (by rw [show decide (fb f n SCo (a + cl (f a)) = 9) = false from decide_eq_false e.2]; rfl), e6, bd1_s]
          exact b2 K
      · by_cases z1 : 4 ≤ f a ∧ f a ≤ 8
        · have z9 : fb f n SCo (a + cl (f a)) = 9 := Classical.byContradiction fun z => e ⟨z1, z⟩
          have hS : ¬ SCo (f a) = true := by
            intro z
            have z' := of_decide_eq_true z
            rcases z' with z' | z' <;> rw [z'] at z1 <;> exact absurd z1 (by decide)
          have hfa : fb f n SCo a = 9 := by rw [fb_go hn hp hS]; exact z9
          obtain ⟨rfl, rfl⟩ := hq.resolve_right (fun z => z hfa)
          exact hkeep e q2 (fun np1 m7 => ⟨rfl, Or.inl ⟨rfl, m7⟩⟩)
        · by_cases z3 : f a = 3
          · have eo : ∀ k b, ord (f a) no k b = (0, no, 0, false) := fun k b => by rw [z3]; simp [ord]
            refine hkeep e (by rw [eo]) (fun np1 m7 => ?_)
            rw [eo] at m7 ⊢
            rw [eo]
            exact ⟨rfl, Or.inl ⟨rfl, m7⟩⟩
          · have o1 := ord_nd q5 q6 z1 z3 no nli bi
            have o2 := ord_nd q5 q6 z1 z3 no nlo (decide (0 < np))
            refine hkeep e (by rw [o2]; rw [o1] at q2; exact q2) (fun np1 m7 => ?_)
            rw [o2] at m7 ⊢
            rw [o1]
            refine ⟨rfl, ?_⟩
            rcases hq with ⟨y1, y2⟩ | y
            · exact Or.inl ⟨y1, y2.trans m7⟩
            · have hS : ¬ SCo (f a) = true := by
                intro z
                have z' := of_decide_eq_true z
                rcases z' with z' | z'
                · exact z3 z'
                · exact y (by rw [fb_in hp z]; exact z')
              rw [fb_go hn hp hS] at y
              exact Or.inr y
    · obtain rfl : a = n := by omega
      have h0 : no = 0 := (VL.fin (Nat.le_refl _)).mp h.vin
      subst h0
      refine ⟨k, nli, nlo, np, bi, c, r, row, wd, sz, fun K => gt_end hn (Nat.le_refl _) (by omega) K _ _ _ _ _ _ _ _ _, fun K => ?_, h⟩
      rw [lp_X12_passC_8, endPlace_ok h.s1, bd1_s, if_pos (nI_le (Nat.le_refl _) (by omega))]
