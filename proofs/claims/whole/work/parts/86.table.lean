def tq (a c p q : Int32) : Int32 := (((a.toInt64 * p.toInt64) + (c.toInt64 * q.toInt64) + 32768) >>> ((16 : Int32).toInt64 &&& 63)).toInt32
theorem goBehind_ok (a b c d e f a2 b2 c2 d2 e2 f2 : Int32) : m_X9_goBehind a b c d e f a2 b2 c2 d2 e2 f2 = some (tq a c a2 b2, tq b d a2 b2, tq a c c2 d2, tq b d c2 d2, e + tq a c e2 f2, f + tq b d e2 f2) := by
  unfold m_X9_goBehind m_X9_rounded
  rfl
theorem nI_k {p : Nat} (k : Nat) : nI p + nI k = nI (p + k) := nI_add p k
theorem readFrom_ok {n p : Nat} (hn : n ≤ 1500) (hp : p + 7 ≤ n) (f : Nat → Int32) (a b c d e g : Int32) : m_X9_readFrom (nI n) f a b c d e g (nI p) = some (f (p + 1), f (p + 2), f (p + 3), f (p + 4), f (p + 5), f (p + 6)) := by
  have w : ∀ k : Nat, k ≤ 6 → m_X10_word (nI n) f (nI p + nI k) = some (f (p + k)) := fun k hk => by rw [nI_add]; exact word_ok (by omega) hn f
  unfold m_X9_readFrom
  rw [show m_X10_word (nI n) f (nI p + 1) = _ from w 1 (by omega), show m_X10_word (nI n) f (nI p + 2) = _ from w 2 (by omega), show m_X10_word (nI n) f (nI p + 3) = _ from w 3 (by omega), show m_X10_word (nI n) f (nI p + 4) = _ from w 4 (by omega), show m_X10_word (nI n) f (nI p + 5) = _ from w 5 (by omega), show m_X10_word (nI n) f (nI p + 6) = _ from w 6 (by omega)]
  rfl
theorem rcompose_ok {q : Nat} (hq : q + 5 < 4500) (wd both : Nat → Int32) (a b c d e f : Int32) : m_X12_compose wd both a b c d e f (nI q) = some (upd (upd (upd (upd (upd (upd both 0 (tq a c (wd q) (wd (q + 1)))) 1 (tq b d (wd q) (wd (q + 1)))) 2 (tq a c (wd (q + 2)) (wd (q + 3)))) 3 (tq b d (wd (q + 2)) (wd (q + 3)))) 4 (tq a c (wd (q + 4)) (wd (q + 5)) + e)) 5 (tq b d (wd (q + 4)) (wd (q + 5)) + f)) := by
  have t1 : nI q + 1 = nI (q + 1) := nI_add q 1
  have t2 : nI q + 2 = nI (q + 2) := nI_add q 2
  have t3 : nI q + 3 = nI (q + 3) := nI_add q 3
  have t4 : nI q + 4 = nI (q + 4) := nI_add q 4
  have t5 : nI q + 5 = nI (q + 5) := nI_add q 5
  have i : ∀ k, k < 4500 → inb (nI k) 4500 = true := fun k hk => inb_s hk (by decide)
  have c' : ∀ k, k < 4500 → (nI k).toNatClampNeg = k := fun k hk => nI_clamp (by omega)
  unfold m_X12_compose m_X12_rounded
  simp only [nm_s, gd_s, t1, t2, t3, t4, t5, i q (by omega), i (q + 1) (by omega), i (q + 2) (by omega), i (q + 3) (by omega), i (q + 4) (by omega), i (q + 5) (by omega), c' q (by omega), c' (q + 1) (by omega), c' (q + 2) (by omega), c' (q + 3) (by omega), c' (q + 4) (by omega), c' (q + 5) (by omega), bd1_s, inb_0_6, inb_1_6, inb_2_6, inb_3_6, inb_4_6, inb_5_6, tn_0, tn_1, tn_2, tn_3, tn_4, tn_5]
  rfl
theorem rcomposeTold_ok {m q : Nat} (hm : m ≤ 1) (hq : q + 5 < 4500) (told wd both : Nat → Int32) : ∃ bo : Nat → Int32, m_X12_composeTold told wd both (nI m) (nI q) = some bo ∧ bo 0 = tq (told (12 * m)) (told (12 * m + 2)) (wd q) (wd (q + 1)) ∧ bo 1 = tq (told (12 * m + 1)) (told (12 * m + 3)) (wd q) (wd (q + 1)) ∧ bo 2 = tq (told (12 * m)) (told (12 * m + 2)) (wd (q + 2)) (wd (q + 3)) ∧ bo 3 = tq (told (12 * m + 1)) (told (12 * m + 3)) (wd (q + 2)) (wd (q + 3)) ∧ bo 4 = told (12 * m + 4) + tq (told (12 * m)) (told (12 * m + 2)) (wd (q + 4)) (wd (q + 5)) ∧ bo 5 = told (12 * m + 5) + tq (told (12 * m + 1)) (told (12 * m + 3)) (wd (q + 4)) (wd (q + 5)) := by
  have t0 : (12 : Int32) * nI m = nI (12 * m) := pk_mul 12 m
  have t1 : nI (12 * m) + 1 = nI (12 * m + 1) := nI_add (12 * m) 1
  have t2 : nI (12 * m) + 2 = nI (12 * m + 2) := nI_add (12 * m) 2
  have t3 : nI (12 * m) + 3 = nI (12 * m + 3) := nI_add (12 * m) 3
  have t4 : nI (12 * m) + 4 = nI (12 * m + 4) := nI_add (12 * m) 4
  have t5 : nI (12 * m) + 5 = nI (12 * m + 5) := nI_add (12 * m) 5
  have i24 : ∀ k, k < 24 → inb (nI k) 24 = true := fun k hk => inb_s hk (by decide)
  have c24 : ∀ k, k < 24 → (nI k).toNatClampNeg = k := fun k hk => nI_clamp (by omega)
  refine ⟨_, ?_, ?_⟩
  · unfold m_X12_composeTold
    simp only [nm_s, gd_s, t0, t1, t2, t3, t4, t5, i24 (12 * m) (by omega), i24 (12 * m + 1) (by omega), i24 (12 * m + 2) (by omega), i24 (12 * m + 3) (by omega), i24 (12 * m + 4) (by omega), i24 (12 * m + 5) (by omega), c24 (12 * m) (by omega), c24 (12 * m + 1) (by omega), c24 (12 * m + 2) (by omega), c24 (12 * m + 3) (by omega), c24 (12 * m + 4) (by omega), c24 (12 * m + 5) (by omega), rcompose_ok hq, bd1_s]
    rfl
  · refine ⟨?_, ?_, ?_, ?_, ?_, ?_⟩ <;> simp [upd, Int32.add_comm]
def cut4 (x y u v X Y w h : Int32) : Int32 × Int32 × Int32 × Int32 :=
  if (if X + w < u then X + w else u) ≤ (if x < X then X else x) then (0, 0, 0, 0)
  else if (if y < Y then Y else y) < (if Y + h < v then Y + h else v) then ((if x < X then X else x), (if y < Y then Y else y), (if X + w < u then X + w else u), (if Y + h < v then Y + h else v))
  else (0, 0, 0, 0)
theorem narrowBy_ok {n p : Nat} (hn : n ≤ 1500) (hp : p + 5 ≤ n) (f : Nat → Int32) (x y u v : Int32) : m_X1_narrowBy (nI n) f x y u v (nI p) = some (cut4 x y u v (f (p + 1)) (f (p + 2)) (f (p + 3)) (f (p + 4))) := by
  have w : ∀ k : Nat, k ≤ 4 → m_X10_word (nI n) f (nI p + nI k) = some (f (p + k)) := fun k hk => by rw [nI_add]; exact word_ok (by omega) hn f
  unfold m_X1_narrowBy m_X1_become cut4
  rw [show m_X10_word (nI n) f (nI p + 1) = _ from w 1 (by omega), show m_X10_word (nI n) f (nI p + 2) = _ from w 2 (by omega), show m_X10_word (nI n) f (nI p + 3) = _ from w 3 (by omega), show m_X10_word (nI n) f (nI p + 4) = _ from w 4 (by omega)]
  simp only [bd1_s, nm_s, jn_s, bd4_s]
  split
  · rfl
  · split <;> rfl
theorem zero4 (f : Nat → Int32) : ∃ g : Nat → Int32, lp_X12_clip_209 FU 0 f = some g ∧ g 0 = 0 ∧ g 1 = 0 ∧ g 2 = 0 ∧ g 3 = 0 := by
  refine ⟨upd (upd (upd (upd f 0 0) 1 0) 2 0) 3 0, ?_, by simp [upd], by simp [upd], by simp [upd], by simp [upd]⟩
  rw [show lp_X12_clip_209 FU 0 f = lp_X12_clip_209 (999995 + 1 + 1 + 1 + 1 + 1) 0 f from rfl, lp_X12_clip_209, lp_X12_clip_209, lp_X12_clip_209, lp_X12_clip_209, lp_X12_clip_209]
  rfl
theorem sw_max (a b : Int32) : (if a ≤ b then b else a) = (if b < a then a else b) := by
  by_cases h : b < a
  · rw [if_pos h, if_neg (fun q => absurd h (Int32.not_lt.mpr q))]
  · rw [if_neg h, if_pos (Int32.not_lt.mp h)]
