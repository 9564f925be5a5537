theorem ofi_wh {v : Int32} (h : (v &&& 65535) = 0) : v = Int32.ofInt (65536 * (hi v).toInt) := by
  rw [← wh_hi h, ofi_id]
theorem assoc1 {ta tc p1 p2 p3 p4 q1 q2 : Int32} (h1 : (p1 &&& 65535) = 0) (h2 : (p2 &&& 65535) = 0) (h3 : (p3 &&& 65535) = 0) (h4 : (p4 &&& 65535) = 0) (k1 : (q1 &&& 65535) = 0) (k2 : (q2 &&& 65535) = 0) (f1 : sho (fx p1 p3 q1 q2) = true) (f2 : sho (fx p2 p4 q1 q2) = true) : tq ta tc (tq p1 p3 q1 q2) (tq p2 p4 q1 q2) = tq (tq ta tc p1 p2) (tq ta tc p3 p4) q1 q2 := by
  have g1 := of_decide_eq_true f1
  have g2 := of_decide_eq_true f2
  rw [tq_x (tq_j h1 h3 k1 k2 g1) (tq_j h2 h4 k1 k2 g2), tq_w k1 k2, tq_w h1 h2, tq_w h3 h4, ofi_add, ofi_mul, ofi_mul, ofi_add, ofi_mul, ofi_mul, ofi_id, ofi_id, ofi_id, ofi_id, ofi_id, ofi_id]
  exact ring_a _ _ _ _ _ _ _ _
theorem je_int {p1 p3 p5 q5 q6 : Int32} (h1 : (p1 &&& 65535) = 0) (h3 : (p3 &&& 65535) = 0) (h5 : (p5 &&& 65535) = 0) (k5 : (q5 &&& 65535) = 0) (k6 : (q6 &&& 65535) = 0) (f : sho (fx p1 p3 q5 q6 + (hi p5).toInt) = true) : (p5 + tq p1 p3 q5 q6).toInt = 65536 * (fx p1 p3 q5 q6 + (hi p5).toInt) := by
  have g := of_decide_eq_true f
  have e1 : tq p1 p3 q5 q6 = Int32.ofInt (65536 * fx p1 p3 q5 q6) := by
    rw [ofi_tq (wh_hi k5) (wh_hi k6), wh_hi h1, wh_hi h3]
    congr 1
    unfold fx
    rw [Int.mul_add, Int.mul_assoc, Int.mul_assoc]
  have e2 : p5 + tq p1 p3 q5 q6 = Int32.ofInt (65536 * (fx p1 p3 q5 q6 + (hi p5).toInt)) := by
    rw [e1, Int.mul_add, ofi_add, ← ofi_wh h5, Int32.add_comm]
  rw [e2, Int32.toInt_ofInt]
  generalize fx p1 p3 q5 q6 + (hi p5).toInt = X at g
  show Int.bmod (65536 * X) 4294967296 = _
  apply Int.bmod_eq_of_le <;> omega
theorem assoc2 {te ta tc p1 p2 p3 p4 p5 p6 q5 q6 : Int32} (h1 : (p1 &&& 65535) = 0) (h2 : (p2 &&& 65535) = 0) (h3 : (p3 &&& 65535) = 0) (h4 : (p4 &&& 65535) = 0) (h5 : (p5 &&& 65535) = 0) (h6 : (p6 &&& 65535) = 0) (k5 : (q5 &&& 65535) = 0) (k6 : (q6 &&& 65535) = 0) (f1 : sho (fx p1 p3 q5 q6 + (hi p5).toInt) = true) (f2 : sho (fx p2 p4 q5 q6 + (hi p6).toInt) = true) : te + tq ta tc (p5 + tq p1 p3 q5 q6) (p6 + tq p2 p4 q5 q6) = te + tq ta tc p5 p6 + tq (tq ta tc p1 p2) (tq ta tc p3 p4) q5 q6 := by
  rw [tq_x (je_int h1 h3 h5 k5 k6 f1) (je_int h2 h4 h6 k5 k6 f2), tq_w k5 k6, tq_w h1 h2, tq_w h3 h4, tq_w h5 h6]
  unfold fx
  rw [ofi_add, ofi_add, ofi_mul, ofi_mul, ofi_add, ofi_add, ofi_mul, ofi_mul, ofi_id, ofi_id, ofi_id, ofi_id, ofi_id, ofi_id, ofi_id, ofi_id]
  exact ring_e _ _ _ _ _ _ _ _ _ _ _
theorem rfollow_12 {q : Nat} (hq : q + 7 ≤ 4500) {wd : Nat → Int32} (hc : wd q = 12) (r : RF) : ∃ t' bo : Nat → Int32, m_X12_follow wd r.told r.cut r.both r.points r.px r.py r.begins r.startX r.startY r.startPoint r.begun r.lines r.lastX r.lastY r.saves r.saved 1 (nI q) = some (t', r.cut, bo, r.points, r.px, r.py, r.begins, r.startX, r.startY, r.startPoint, r.begun, r.lines, r.lastX, r.lastY, r.saves, r.saved) ∧ t' 12 = tq (r.told 12) (r.told 14) (wd (q + 1)) (wd (q + 2)) ∧ t' 13 = tq (r.told 13) (r.told 15) (wd (q + 1)) (wd (q + 2)) ∧ t' 14 = tq (r.told 12) (r.told 14) (wd (q + 3)) (wd (q + 4)) ∧ t' 15 = tq (r.told 13) (r.told 15) (wd (q + 3)) (wd (q + 4)) ∧ t' 16 = (r.told 16) + tq (r.told 12) (r.told 14) (wd (q + 5)) (wd (q + 6)) ∧ t' 17 = (r.told 17) + tq (r.told 13) (r.told 15) (wd (q + 5)) (wd (q + 6)) ∧ (∀ j, (j < 12 ∨ 18 ≤ j) → t' j = r.told j) := by
  have q1 : nI q + 1 = nI (q + 1) := nI_add q 1
  obtain ⟨bo, hb, b0, b1, b2, b3, b4, b5⟩ := rcomposeTold_ok (m := 1) (by omega) (show q + 1 + 5 < 4500 by omega) r.told wd r.both
  obtain ⟨t', ht, k1, k2⟩ := tab_loop (m := 1) (by omega) r.cut bo r.points r.px r.py r.begins r.startX r.startY r.startPoint r.begun r.lines r.lastX r.lastY r.saves r.saved FU 0 r.told (by omega) (by rw [FU_s]; omega)
  refine ⟨t', bo, ?_, (k1 0 (by omega) (by omega)).trans b0, (k1 1 (by omega) (by omega)).trans b1, (k1 2 (by omega) (by omega)).trans b2, (k1 3 (by omega) (by omega)).trans b3, (k1 4 (by omega) (by omega)).trans b4, (k1 5 (by omega) (by omega)).trans b5, fun j hj => k2 j (by omega)⟩
  unfold m_X12_follow
  rw [nm_s, q1, inb_s (show q < 4500 by omega) (by decide), gd_s, nm_s, nI_clamp (show q < 2 ^ 31 by omega), hc, jn_s, jn_s, if_neg (by decide), if_neg (by decide), if_neg (by decide), if_neg (by decide), if_neg (by decide), if_neg (by decide), if_neg (by decide), if_neg (by decide), if_neg (by decide), if_neg (by decide), if_neg (by decide), if_pos rfl]
  refine (congrArg (fun z => bd1 z _) hb).trans ?_
  rw [bd1_s]
  exact ht
theorem cfollow_12 {n p : Nat} (hn : n ≤ 1500) (hp : p + 7 ≤ n) {row : Nat → Int32} (hc : row p = 12) (c : CM) : m_X3_follow (nI n) row c.opn c.col c.way c.a c.b c.c c.d c.e c.f c.x c.y c.u c.v c.na c.nb c.nc c.nd c.ne c.nf c.pts c.lns c.fst c.ftx c.fty c.ltx c.lty c.lx c.ly c.gy c.xs c.ys c.bg c.sc c.sw c.sa c.sb c.sC c.sd c.se c.sf c.sx c.sy c.su c.sv (nI p) = some (c.opn, c.col, c.way, (tq c.a c.c (row (p + 1)) (row (p + 2))), (tq c.b c.d (row (p + 1)) (row (p + 2))), (tq c.a c.c (row (p + 3)) (row (p + 4))), (tq c.b c.d (row (p + 3)) (row (p + 4))), (c.e + tq c.a c.c (row (p + 5)) (row (p + 6))), (c.f + tq c.b c.d (row (p + 5)) (row (p + 6))), c.x, c.y, c.u, c.v, (row (p + 1)), (row (p + 2)), (row (p + 3)), (row (p + 4)), (row (p + 5)), (row (p + 6)), c.pts, c.lns, c.fst, c.ftx, c.fty, c.ltx, c.lty, c.lx, c.ly, c.gy, c.xs, c.ys, c.bg, c.sc, c.sw, c.sa, c.sb, c.sC, c.sd, c.se, c.sf, c.sx, c.sy, c.su, c.sv) := by
  have s1 : nI p + 1 = nI (p + 1) := nI_add p 1
  have s2 : nI p + 2 = nI (p + 2) := nI_add p 2
  unfold m_X3_follow
  rw [s1, word_wv hn (show p + 1 < 2 ^ 31 by omega), bd1_s, s2, word_wv hn (show p + 2 < 2 ^ 31 by omega), bd1_s, word_ok (show p < n by omega) hn, bd1_s, hc, if_neg (by decide), if_neg (by decide), if_neg (by decide), if_neg (by decide), if_neg (by decide), if_neg (by decide), if_neg (by decide), if_neg (by decide), if_neg (by decide), if_neg (by decide), if_neg (by decide), if_pos rfl, readFrom_ok hn hp, bd6_s, goBehind_ok, bd6_s]
theorem g180_loop {k : Nat} (hk : k + 7 ≤ 1500) {sz bo : Nat → Int32} (hs : sz 2 = nI k) : ∀ (d i N : Nat) (g : Nat → Int32), i + d = 6 → d < N → ∃ g' : Nat → Int32, (∀ K : (Nat → Int32) → Option (Int32 × (Nat → Int32) × (Nat → Int32) × (Nat → Int32) × (Nat → Int32) × (Nat → Int32) × (Nat → Int32) × (Nat → Int32) × (Nat → Int32) × (Nat → Int32) × (Nat → Int32) × (Nat → Int32) × (Nat → Int32) × (Nat → Int32) × (Nat → Int32) × (Nat → Int32) × (Nat → Int32) × (Nat → Int32) × (Nat → Int32) × (Nat → Int32)), lp_X12_passG_180 K sz bo N (nI i) g = K g') ∧ (∀ j, i ≤ j → j < 6 → g' (3000 + k + 1 + j) = bo j) ∧ (∀ x, (x < 3000 + k + 1 + i ∨ 3000 + k + 7 ≤ x) → g' x = g x) := by
  intro d
  induction d with
  | zero =>
    intro i N g h1 h2
    obtain ⟨N, rfl⟩ : ∃ j, N = j + 1 := ⟨N - 1, by omega⟩
    obtain rfl : i = 6 := by omega
    exact ⟨g, fun K => by rw [lp_X12_passG_180, if_pos (by decide)], fun j a b => by omega, fun x _ => rfl⟩
  | succ d ih =>
    intro i N g h1 h2
    obtain ⟨N, rfl⟩ : ∃ j, N = j + 1 := ⟨N - 1, by omega⟩
    have t1 : (3000 : Int32) + nI k + 1 + nI i = nI (3000 + k + 1 + i) := by
      show nI 3000 + nI k + nI 1 + nI i = _
      rw [nI_add, nI_add, nI_add]
    obtain ⟨g', e1, e2, e3⟩ := ih (i + 1) N (upd g (3000 + k + 1 + i) (bo i)) (by omega) (by omega)
    refine ⟨g', fun K => ?_, fun j j1 j2 => ?_, fun x hx => ?_⟩
    · rw [lp_X12_passG_180, if_neg (show ¬ (6 : Int32) ≤ nI i from nI_ge (b := 6) (by omega) (by decide)), inb_2_3, gd_s, nm_s, tn_2, hs, inb_s (show i < 6 by omega) (by decide), gd_s, nm_s, nI_clamp (show i < 2 ^ 31 by omega), t1, inb_s (show 3000 + k + 1 + i < 4500 by omega) (by decide), gd_s, nm_s, nI_clamp (show 3000 + k + 1 + i < 2 ^ 31 by omega), nm_s, nI_1]
      exact e1 K
    · by_cases e : j = i
      · subst e
        rw [e3 _ (Or.inl (by omega)), pk_us]
      · exact e2 j (by omega) j2
    · rw [e3 x (by omega), pk_un (by omega)]
theorem g180_all {k : Nat} (hk : k + 7 ≤ 1500) {sz bo : Nat → Int32} (hs : sz 2 = nI k) (g : Nat → Int32) : ∃ g' : Nat → Int32, (∀ K : (Nat → Int32) → Option (Int32 × (Nat → Int32) × (Nat → Int32) × (Nat → Int32) × (Nat → Int32) × (Nat → Int32) × (Nat → Int32) × (Nat → Int32) × (Nat → Int32) × (Nat → Int32) × (Nat → Int32) × (Nat → Int32) × (Nat → Int32) × (Nat → Int32) × (Nat → Int32) × (Nat → Int32) × (Nat → Int32) × (Nat → Int32) × (Nat → Int32) × (Nat → Int32)), lp_X12_passG_180 K sz bo FU 0 g = K g') ∧ (∀ j, j < 6 → g' (3000 + k + 1 + j) = bo j) ∧ (∀ x, (x < 3000 + k + 1 ∨ 3000 + k + 7 ≤ x) → g' x = g x) := by
  obtain ⟨g', e1, e2, e3⟩ := g180_loop (bo := bo) hk hs 6 0 FU g (by omega) (by rw [FU_s]; omega)
  exact ⟨g', e1, fun j hj => e2 j (by omega) hj, fun x hx => e3 x (by omega)⟩
theorem jn_id {α : Type} (X : α) (B : α → α) (h : ∀ Y, B Y = Y) : jn X B = X := h X
