def same12 (c : CM) (row : Nat → Int32) (a : Nat) : Bool := decide (tq c.a c.c (row (a + 1)) (row (a + 2)) = c.a) && decide (tq c.b c.d (row (a + 1)) (row (a + 2)) = c.b) && decide (tq c.a c.c (row (a + 3)) (row (a + 4)) = c.c) && decide (tq c.b c.d (row (a + 3)) (row (a + 4)) = c.d) && decide (c.e + tq c.a c.c (row (a + 5)) (row (a + 6)) = c.e) && decide (c.f + tq c.b c.d (row (a + 5)) (row (a + 6)) = c.f)
def same14 (c : CM) : Bool := decide ((65536 : Int32) = c.a) && decide ((0 : Int32) = c.b) && decide ((0 : Int32) = c.c) && decide ((65536 : Int32) = c.d) && decide ((0 : Int32) = c.e) && decide ((0 : Int32) = c.f)
theorem goesG_n {n a : Nat} (hn : n ≤ 1500) (hp : a < n) {lf ob ja : Int32} {row : Nat → Int32} {s : SX} {c : CM} (h1 : ¬ row a = 12) (h2 : ¬ row a = 14) : m_X8_goes lf ob ja (nI n) row s.ta s.tb s.tc s.td s.te s.tf s.xa s.xb s.xc s.xd s.xe s.xf c.col c.way c.a c.b c.c c.d c.e c.f s.cx s.cy s.cu s.cv c.x c.y c.u c.v c.pts c.lx c.ly c.gy 6 (nI a) (row a) = some (0, ob, ja, row, s.ta, s.tb, s.tc, s.td, s.te, s.tf, s.xa, s.xb, s.xc, s.xd, s.xe, s.xf, s.cx, s.cy, s.cu, s.cv) := by
  unfold m_X8_goes m_X8_isIdleTable m_X8_joinsNext
  rw [if_neg (by decide), if_neg (by decide), if_neg (by decide), if_neg (by decide), if_neg (by decide), if_neg (by decide), if_pos rfl, jn_s, if_neg h1, if_neg h2, bd13_s, if_pos rfl, lenAt_ok hp hn, bd1_s, nm_s, if_neg h1, bd15_s, if_pos rfl]
theorem idle14 {n a : Nat} {row : Nat → Int32} {s : SX} {c : CM} : m_X8_isIdleTable s.ta s.tb s.tc s.td s.te s.tf s.xa s.xb s.xc s.xd s.xe s.xf (nI n) row c.a c.b c.c c.d c.e c.f (nI a) 14 = some (bI (same14 c), 65536, 0, 0, 65536, 0, 0, s.xa, s.xb, s.xc, s.xd, s.xe, s.xf) := by
  unfold m_X8_isIdleTable m_X9_becomePlain
  rw [jn_s, if_neg (by decide), if_pos rfl, bd6_s, jn_s, if_neg (by decide)]
  show bd1 _ _ = _
  rw [same6, bd1_s]
  rfl
theorem goesG_14 {n a : Nat} (hn : n ≤ 1500) (hp : a < n) {lf ob ja : Int32} {row : Nat → Int32} {s : SX} {c : CM} (h2 : row a = 14) : ∃ s' : SX, m_X8_goes lf ob ja (nI n) row s.ta s.tb s.tc s.td s.te s.tf s.xa s.xb s.xc s.xd s.xe s.xf c.col c.way c.a c.b c.c c.d c.e c.f s.cx s.cy s.cu s.cv c.x c.y c.u c.v c.pts c.lx c.ly c.gy 6 (nI a) (row a) = some (bI (same14 c), ob, ja, row, s'.ta, s'.tb, s'.tc, s'.td, s'.te, s'.tf, s'.xa, s'.xb, s'.xc, s'.xd, s'.xe, s'.xf, s'.cx, s'.cy, s'.cu, s'.cv) := by
  refine ⟨(SX.mk 65536 0 0 65536 0 0 s.xa s.xb s.xc s.xd s.xe s.xf s.cx s.cy s.cu s.cv), ?_⟩
  unfold m_X8_goes m_X8_joinsNext
  rw [if_neg (by decide), if_neg (by decide), if_neg (by decide), if_neg (by decide), if_neg (by decide), if_neg (by decide), if_pos rfl, h2, idle14, bd13_s]
  cases same14 c
  · rw [if_pos (show bI false = 0 from rfl), ← h2, lenAt_ok hp hn, bd1_s, nm_s, if_neg (by rw [h2]; decide), bd15_s, if_pos rfl]
    rfl
  · rw [if_neg (show ¬ bI true = 0 by decide)]
    rfl
theorem idle12 {n a : Nat} (hn : n ≤ 1500) (hp : a + 7 ≤ n) {row : Nat → Int32} {s : SX} {c : CM} : m_X8_isIdleTable s.ta s.tb s.tc s.td s.te s.tf s.xa s.xb s.xc s.xd s.xe s.xf (nI n) row c.a c.b c.c c.d c.e c.f (nI a) 12 = some (bI (same12 c row a), tq c.a c.c (row (a + 1)) (row (a + 2)), tq c.b c.d (row (a + 1)) (row (a + 2)), tq c.a c.c (row (a + 3)) (row (a + 4)), tq c.b c.d (row (a + 3)) (row (a + 4)), c.e + tq c.a c.c (row (a + 5)) (row (a + 6)), c.f + tq c.b c.d (row (a + 5)) (row (a + 6)), (row (a + 1)), (row (a + 2)), (row (a + 3)), (row (a + 4)), (row (a + 5)), (row (a + 6))) := by
  unfold m_X8_isIdleTable m_X9_becomePlain m_X9_copyFrom
  rw [jn_s, if_pos rfl, bd6_s, jn_s, if_pos rfl, readFrom_ok hn hp, bd6_s, bd6_s, goBehind_ok, bd6_s]
  show bd1 _ _ = _
  rw [same6, bd1_s]
  rfl
theorem goesG_12 {n a : Nat} (hn : n ≤ 1500) (hp : a + 7 ≤ n) {lf ob ja : Int32} {row : Nat → Int32} {s : SX} {c : CM} (h2 : row a = 12) (hs : same12 c row a = true) : ∃ s' : SX, m_X8_goes lf ob ja (nI n) row s.ta s.tb s.tc s.td s.te s.tf s.xa s.xb s.xc s.xd s.xe s.xf c.col c.way c.a c.b c.c c.d c.e c.f s.cx s.cy s.cu s.cv c.x c.y c.u c.v c.pts c.lx c.ly c.gy 6 (nI a) (row a) = some (1, ob, ja, row, s'.ta, s'.tb, s'.tc, s'.td, s'.te, s'.tf, s'.xa, s'.xb, s'.xc, s'.xd, s'.xe, s'.xf, s'.cx, s'.cy, s'.cu, s'.cv) := by
  refine ⟨(SX.mk (tq c.a c.c (row (a + 1)) (row (a + 2))) (tq c.b c.d (row (a + 1)) (row (a + 2))) (tq c.a c.c (row (a + 3)) (row (a + 4))) (tq c.b c.d (row (a + 3)) (row (a + 4))) (c.e + tq c.a c.c (row (a + 5)) (row (a + 6))) (c.f + tq c.b c.d (row (a + 5)) (row (a + 6))) (row (a + 1)) (row (a + 2)) (row (a + 3)) (row (a + 4)) (row (a + 5)) (row (a + 6)) s.cx s.cy s.cu s.cv), ?_⟩
  unfold m_X8_goes
  rw [if_neg (by decide), if_neg (by decide), if_neg (by decide), if_neg (by decide), if_neg (by decide), if_neg (by decide), if_pos rfl, h2, idle12 hn hp, bd13_s, hs, if_neg (by decide)]
theorem goesG_12n {n a : Nat} (hn : n ≤ 1500) (hp : a + 7 ≤ n) {lf ob ja : Int32} {row : Nat → Int32} {s : SX} {c : CM} (h2 : row a = 12) (hs : same12 c row a = false) (hj : ¬ (wv row n (a + 7) = 12 ∧ wh6 row a = true ∧ wh6 row (a + 7) = true ∧ FT row a (a + 7) = true)) (hq : wv row n (a + 7) = 12 → a + 7 + 7 ≤ n) : ∃ s' : SX, m_X8_goes lf ob ja (nI n) row s.ta s.tb s.tc s.td s.te s.tf s.xa s.xb s.xc s.xd s.xe s.xf c.col c.way c.a c.b c.c c.d c.e c.f s.cx s.cy s.cu s.cv c.x c.y c.u c.v c.pts c.lx c.ly c.gy 6 (nI a) (row a) = some (0, ob, ja, row, s'.ta, s'.tb, s'.tc, s'.td, s'.te, s'.tf, s'.xa, s'.xb, s'.xc, s'.xd, s'.xe, s'.xf, s'.cx, s'.cy, s'.cu, s'.cv) := by
  have hcl : cl (row a) = 7 := by rw [h2]; rfl
  unfold m_X8_goes m_X8_joinsNext
  rw [if_neg (by decide), if_neg (by decide), if_neg (by decide), if_neg (by decide), if_neg (by decide), if_neg (by decide), if_pos rfl, h2, idle12 hn hp, bd13_s, hs, if_pos (show bI false = 0 from rfl), lenAt_ok (show a < n by omega) hn, hcl, bd1_s, nm_s, if_pos rfl, nI_add, word_wv hn (show a + 7 < 2 ^ 31 by omega), bd1_s]
  by_cases z1 : wv row n (a + 7) = 12
  · rw [if_pos z1, readFrom_ok hn hp, bd6_s, readFrom_ok hn (hq z1), bd6_s, isWhole_6, bd1_s]
    cases z2 : wh6 row a
    · rw [if_pos (show bI false = 0 from rfl), bd15_s, if_pos rfl]
      exact ⟨(SX.mk (row (a + 1)) (row (a + 2)) (row (a + 3)) (row (a + 4)) (row (a + 5)) (row (a + 6)) (row (a + 7 + 1)) (row (a + 7 + 2)) (row (a + 7 + 3)) (row (a + 7 + 4)) (row (a + 7 + 5)) (row (a + 7 + 6)) s.cx s.cy s.cu s.cv), rfl⟩
    · rw [if_neg (show ¬ bI true = 0 by decide), isWhole_6, bd1_s]
      cases z3 : wh6 row (a + 7)
      · rw [if_pos (show bI false = 0 from rfl), bd15_s, if_pos rfl]
        exact ⟨(SX.mk (row (a + 1)) (row (a + 2)) (row (a + 3)) (row (a + 4)) (row (a + 5)) (row (a + 6)) (row (a + 7 + 1)) (row (a + 7 + 2)) (row (a + 7 + 3)) (row (a + 7 + 4)) (row (a + 7 + 5)) (row (a + 7 + 6)) s.cx s.cy s.cu s.cv), rfl⟩
      · rw [if_neg (show ¬ bI true = 0 by decide), fitsBehind_ok z2 z3, bd1_s]
        cases z4 : FT row a (a + 7)
        · rw [if_pos (show bI false = 0 from rfl), bd15_s, if_pos rfl]
          exact ⟨(SX.mk (row (a + 1)) (row (a + 2)) (row (a + 3)) (row (a + 4)) (row (a + 5)) (row (a + 6)) (row (a + 7 + 1)) (row (a + 7 + 2)) (row (a + 7 + 3)) (row (a + 7 + 4)) (row (a + 7 + 5)) (row (a + 7 + 6)) s.cx s.cy s.cu s.cv), rfl⟩
        · exact absurd ⟨z1, z2, z3, z4⟩ hj
  · rw [if_neg z1, bd15_s, if_pos rfl]
    exact ⟨(SX.mk (tq c.a c.c (row (a + 1)) (row (a + 2))) (tq c.b c.d (row (a + 1)) (row (a + 2))) (tq c.a c.c (row (a + 3)) (row (a + 4))) (tq c.b c.d (row (a + 3)) (row (a + 4))) (c.e + tq c.a c.c (row (a + 5)) (row (a + 6))) (c.f + tq c.b c.d (row (a + 5)) (row (a + 6))) (row (a + 1)) (row (a + 2)) (row (a + 3)) (row (a + 4)) (row (a + 5)) (row (a + 6)) s.cx s.cy s.cu s.cv), rfl⟩
def rowJ (row : Nat → Int32) (a : Nat) : Nat → Int32 := upd (upd (upd (upd (upd (upd row (a + 7 + 1) (tq (row (a + 1)) (row (a + 3)) (row (a + 7 + 1)) (row (a + 7 + 2)))) (a + 7 + 2) (tq (row (a + 2)) (row (a + 4)) (row (a + 7 + 1)) (row (a + 7 + 2)))) (a + 7 + 3) (tq (row (a + 1)) (row (a + 3)) (row (a + 7 + 3)) (row (a + 7 + 4)))) (a + 7 + 4) (tq (row (a + 2)) (row (a + 4)) (row (a + 7 + 3)) (row (a + 7 + 4)))) (a + 7 + 5) ((row (a + 5)) + tq (row (a + 1)) (row (a + 3)) (row (a + 7 + 5)) (row (a + 7 + 6)))) (a + 7 + 6) ((row (a + 6)) + tq (row (a + 2)) (row (a + 4)) (row (a + 7 + 5)) (row (a + 7 + 6)))
theorem goesG_j {n a : Nat} (hn : n ≤ 1500) (hp : a + 7 + 7 ≤ n) {lf ob ja : Int32} {row : Nat → Int32} {s : SX} {c : CM} (h2 : row a = 12) (hs : same12 c row a = false) (z1 : row (a + 7) = 12) (z2 : wh6 row a = true) (z3 : wh6 row (a + 7) = true) (z4 : FT row a (a + 7) = true) : ∃ s' : SX, m_X8_goes lf ob ja (nI n) row s.ta s.tb s.tc s.td s.te s.tf s.xa s.xb s.xc s.xd s.xe s.xf c.col c.way c.a c.b c.c c.d c.e c.f s.cx s.cy s.cu s.cv c.x c.y c.u c.v c.pts c.lx c.ly c.gy 6 (nI a) (row a) = some (1, ob, nI (a + 7), rowJ row a, s'.ta, s'.tb, s'.tc, s'.td, s'.te, s'.tf, s'.xa, s'.xb, s'.xc, s'.xd, s'.xe, s'.xf, s'.cx, s'.cy, s'.cu, s'.cv) := by
  have hcl : cl (row a) = 7 := by rw [h2]; rfl
  have k1 : nI (a + 7) + 1 = nI (a + 7 + 1) := nI_add (a + 7) 1
  have k2 : nI (a + 7) + 2 = nI (a + 7 + 2) := nI_add (a + 7) 2
  have k3 : nI (a + 7) + 3 = nI (a + 7 + 3) := nI_add (a + 7) 3
  have k4 : nI (a + 7) + 4 = nI (a + 7 + 4) := nI_add (a + 7) 4
  have k5 : nI (a + 7) + 5 = nI (a + 7 + 5) := nI_add (a + 7) 5
  have k6 : nI (a + 7) + 6 = nI (a + 7 + 6) := nI_add (a + 7) 6
  refine ⟨(SX.mk (tq (row (a + 1)) (row (a + 3)) (row (a + 7 + 1)) (row (a + 7 + 2))) (tq (row (a + 2)) (row (a + 4)) (row (a + 7 + 1)) (row (a + 7 + 2))) (tq (row (a + 1)) (row (a + 3)) (row (a + 7 + 3)) (row (a + 7 + 4))) (tq (row (a + 2)) (row (a + 4)) (row (a + 7 + 3)) (row (a + 7 + 4))) ((row (a + 5)) + tq (row (a + 1)) (row (a + 3)) (row (a + 7 + 5)) (row (a + 7 + 6))) ((row (a + 6)) + tq (row (a + 2)) (row (a + 4)) (row (a + 7 + 5)) (row (a + 7 + 6))) (row (a + 7 + 1)) (row (a + 7 + 2)) (row (a + 7 + 3)) (row (a + 7 + 4)) (row (a + 7 + 5)) (row (a + 7 + 6)) s.cx s.cy s.cu s.cv), ?_⟩
  unfold m_X8_goes m_X8_joinsNext m_X9_writeTo
  rw [if_neg (by decide), if_neg (by decide), if_neg (by decide), if_neg (by decide), if_neg (by decide), if_neg (by decide), if_pos rfl, h2, idle12 hn (by omega), bd13_s, hs, if_pos (show bI false = 0 from rfl), lenAt_ok (show a < n by omega) hn, hcl, bd1_s, nm_s, if_pos rfl, nI_add, word_ok (show a + 7 < n by omega) hn, bd1_s, if_pos z1, readFrom_ok hn (by omega), bd6_s, readFrom_ok hn hp, bd6_s, isWhole_6, bd1_s, z2, if_neg (show ¬ bI true = 0 by decide), isWhole_6, bd1_s, z3, if_neg (show ¬ bI true = 0 by decide), fitsBehind_ok z2 z3, bd1_s, z4, if_neg (show ¬ bI true = 0 by decide), goBehind_ok, bd6_s, k1, k2, k3, k4, k5, k6, put_in hn (show a + 7 + 1 < n by omega), bd1_s, put_in hn (show a + 7 + 2 < n by omega), bd1_s, put_in hn (show a + 7 + 3 < n by omega), bd1_s, put_in hn (show a + 7 + 4 < n by omega), bd1_s, put_in hn (show a + 7 + 5 < n by omega), bd1_s, put_in hn (show a + 7 + 6 < n by omega), bd1_s, bd1_s, bd15_s, if_neg (by decide)]
  rfl
