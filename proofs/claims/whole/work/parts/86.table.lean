def tq (a c p q : Int32) : Int32 := (((a.toInt64 * p.toInt64) + (c.toInt64 * q.toInt64) + 32768) >>> ((16 : Int32).toInt64 &&& 63)).toInt32
theorem goBehind_ok (a b c d e f a2 b2 c2 d2 e2 f2 : Int32) : m_X9_goBehind a b c d e f a2 b2 c2 d2 e2 f2 = some (tq a c a2 b2, tq b d a2 b2, tq a c c2 d2, tq b d c2 d2, e + tq a c e2 f2, f + tq b d e2 f2) := by
  unfold m_X9_goBehind m_X9_rounded
  rfl
theorem nI_k {p : Nat} (k : Nat) : nI p + nI k = nI (p + k) := nI_add p k
theorem readFrom_ok {n p : Nat} (hn : n ≤ 1500) (hp : p + 7 ≤ n) (f : Nat → Int32) (a b c d e g : Int32) : m_X9_readFrom (nI n) f a b c d e g (nI p) = some (f (p + 1), f (p + 2), f (p + 3), f (p + 4), f (p + 5), f (p + 6)) := by
  have w : ∀ k : Nat, k ≤ 6 → m_X10_word (nI n) f (nI p + nI k) = some (f (p + k)) := fun k hk => by rw [nI_add]; exact word_ok (by omega) hn f
  unfold m_X9_readFrom
  rw [show m_X10_word (nI n) f (nI p + 1) = _ from w 1 (by omega), show m_X10_word (nI n) f (nI p + 2) = _ from w 2 (by omega), show m_X10_word (nI n) f (nI p + 3) = _ from w 3 (by omega), show m_X10_word (nI n) f (nI p + 4) = _ from w 4 (by omega), show m_X10_word (nI n) f (nI p + 5) = _ from w 5 (by omega), show m_X10_word (nI n) f (nI p + 6) = _ from w 6 (by omega)]
  rfl
theorem rcompose_ok {q : Nat} (hq : q + 5 < 4500) (wd both : Nat → Int32) (a b c d e f : Int32) : m_X12_compose wd both a b c d e f (nI q) = some (upd (upd (upd (upd (upd (upd both 0 (tq a c (wd q) (wd (q + 1)))) 1 (tq b d (wd q) (wd (q + 1)))) 2 (tq a c (wd (q + 2)) (wd (q + 3)))) 3 (tq b d (wd (q + 2)) (wd (q + 3)))) 4 (tq a c (wd (q + 4)) (wd (q + 5)) + e)) 5 (tq b d (wd (q + 4)) (wd (q + 5)) + f)) := by
  have t1 : nI q + 1 = nI (q + 1) := nI_add q 1
  have t2 : nI q + 2 = nI (q + 2) := nI_add q 2
  have t3 : nI q + 3 = nI (q + 3) := nI_add q 3
  have t4 : nI q + 4 = nI (q + 4) := nI_add q 4
  have t5 : nI q + 5 = nI (q + 5) := nI_add q 5
  have i : ∀ k, k < 4500 → inb (nI k) 4500 = true := fun k hk => inb_s hk (by decide)
  have c' : ∀ k, k < 4500 → (nI k).toNatClampNeg = k := fun k hk => nI_clamp (by omega)
  unfold m_X12_compose m_X12_rounded
  simp only [nm_s, gd_s, t1, t2, t3, t4, t5, i q (by omega), i (q + 1) (by omega), i (q + 2) (by omega), i (q + 3) (by omega), i (q + 4) (by omega), i (q + 5) (by omega), c' q (by omega), c' (q + 1) (by omega), c' (q + 2) (by omega), c' (q + 3) (by omega), c' (q + 4) (by omega), c' (q + 5) (by omega), bd1_s, inb_0_6, inb_1_6, inb_2_6, inb_3_6, inb_4_6, inb_5_6, tn_0, tn_1, tn_2, tn_3, tn_4, tn_5]
  rfl
theorem rcomposeTold_ok {m q : Nat} (hm : m ≤ 1) (hq : q + 5 < 4500) (told wd both : Nat → Int32) : ∃ bo : Nat → Int32, m_X12_composeTold told wd both (nI m) (nI q) = some bo ∧ bo 0 = tq (told (12 * m)) (told (12 * m + 2)) (wd q) (wd (q + 1)) ∧ bo 1 = tq (told (12 * m + 1)) (told (12 * m + 3)) (wd q) (wd (q + 1)) ∧ bo 2 = tq (told (12 * m)) (told (12 * m + 2)) (wd (q + 2)) (wd (q + 3)) ∧ bo 3 = tq (told (12 * m + 1)) (told (12 * m + 3)) (wd (q + 2)) (wd (q + 3)) ∧ bo 4 = told (12 * m + 4) + tq (told (12 * m)) (told (12 * m + 2)) (wd (q + 4)) (wd (q + 5)) ∧ bo 5 = told (12 * m + 5) + tq (told (12 * m + 1)) (told (12 * m + 3)) (wd (q + 4)) (wd (q + 5)) := by
  have t0 : (12 : Int32) * nI m = nI (12 * m) := pk_mul 12 m
  have t1 : nI (12 * m) + 1 = nI (12 * m + 1) := nI_add (12 * m) 1
  have t2 : nI (12 * m) + 2 = nI (12 * m + 2) := nI_add (12 * m) 2
  have t3 : nI (12 * m) + 3 = nI (12 * m + 3) := nI_add (12 * m) 3
  have t4 : nI (12 * m) + 4 = nI (12 * m + 4) := nI_add (12 * m) 4
  have t5 : nI (12 * m) + 5 = nI (12 * m + 5) := nI_add (12 * m) 5
  have i24 : ∀ k, k < 24 → inb (nI k) 24 = true := fun k hk => inb_s hk (by decide)
  have c24 : ∀ k, k < 24 → (nI k).toNatClampNeg = k := fun k hk => nI_clamp (by omega)
  refine ⟨upd (upd (upd (upd (upd (upd both 0 (tq (told (12 * m)) (told (12 * m + 2)) (wd q) (wd (q + 1)))) 1 (tq (told (12 * m + 1)) (told (12 * m + 3)) (wd q) (wd (q + 1)))) 2 (tq (told (12 * m)) (told (12 * m + 2)) (wd (q + 2)) (wd (q + 3)))) 3 (tq (told (12 * m + 1)) (told (12 * m + 3)) (wd (q + 2)) (wd (q + 3)))) 4 (tq (told (12 * m)) (told (12 * m + 2)) (wd (q + 4)) (wd (q + 5)) + told (12 * m + 4))) 5 (tq (told (12 * m + 1)) (told (12 * m + 3)) (wd (q + 4)) (wd (q + 5)) + told (12 * m + 5)), ?_, ?_⟩
  · unfold m_X12_composeTold
    simp only [nm_s, gd_s, t0, t1, t2, t3, t4, t5, i24 (12 * m) (by omega), i24 (12 * m + 1) (by omega), i24 (12 * m + 2) (by omega), i24 (12 * m + 3) (by omega), i24 (12 * m + 4) (by omega), i24 (12 * m + 5) (by omega), c24 (12 * m) (by omega), c24 (12 * m + 1) (by omega), c24 (12 * m + 2) (by omega), c24 (12 * m + 3) (by omega), c24 (12 * m + 4) (by omega), c24 (12 * m + 5) (by omega), rcompose_ok hq, bd1_s]
  · refine ⟨?_, ?_, ?_, ?_, ?_, ?_⟩ <;> simp [upd, Int32.add_comm]
def cut4 (x y u v X Y w h : Int32) : Int32 × Int32 × Int32 × Int32 :=
  if (if X + w < u then X + w else u) ≤ (if x < X then X else x) then (0, 0, 0, 0)
  else if (if y < Y then Y else y) < (if Y + h < v then Y + h else v) then ((if x < X then X else x), (if y < Y then Y else y), (if X + w < u then X + w else u), (if Y + h < v then Y + h else v))
  else (0, 0, 0, 0)
theorem narrowBy_ok {n p : Nat} (hn : n ≤ 1500) (hp : p + 5 ≤ n) (f : Nat → Int32) (x y u v : Int32) : m_X1_narrowBy (nI n) f x y u v (nI p) = some (cut4 x y u v (f (p + 1)) (f (p + 2)) (f (p + 3)) (f (p + 4))) := by
  have w : ∀ k : Nat, k ≤ 4 → m_X10_word (nI n) f (nI p + nI k) = some (f (p + k)) := fun k hk => by rw [nI_add]; exact word_ok (by omega) hn f
  unfold m_X1_narrowBy m_X1_become cut4
  rw [show m_X10_word (nI n) f (nI p + 1) = _ from w 1 (by omega), show m_X10_word (nI n) f (nI p + 2) = _ from w 2 (by omega), show m_X10_word (nI n) f (nI p + 3) = _ from w 3 (by omega), show m_X10_word (nI n) f (nI p + 4) = _ from w 4 (by omega)]
  simp only [bd1_s, nm_s, jn_s, bd4_s]
  generalize (if f (p + 1) + f (p + 3) < u then f (p + 1) + f (p + 3) else u) = A
  generalize (if x < f (p + 1) then f (p + 1) else x) = B
  generalize (if f (p + 2) + f (p + 4) < v then f (p + 2) + f (p + 4) else v) = C
  generalize (if y < f (p + 2) then f (p + 2) else y) = D
  by_cases h : A ≤ B
  · simp [h]
  · by_cases k : D < C
    · simp [h, k]
    · simp [h, k]
theorem clip_end (n : Nat) (f : Nat → Int32) : lp_X12_clip_209 (n + 1) 4 f = some f := by
  rw [lp_X12_clip_209]
  exact if_pos (by decide)
theorem clip_s0 (n : Nat) (f : Nat → Int32) : lp_X12_clip_209 (n + 1) 0 f = lp_X12_clip_209 n 1 (upd f 0 0) := by
  rw [lp_X12_clip_209, if_neg (by decide)]
  rfl
theorem clip_s1 (n : Nat) (f : Nat → Int32) : lp_X12_clip_209 (n + 1) 1 f = lp_X12_clip_209 n 2 (upd f 1 0) := by
  rw [lp_X12_clip_209, if_neg (by decide)]
  rfl
theorem clip_s2 (n : Nat) (f : Nat → Int32) : lp_X12_clip_209 (n + 1) 2 f = lp_X12_clip_209 n 3 (upd f 2 0) := by
  rw [lp_X12_clip_209, if_neg (by decide)]
  rfl
theorem clip_s3 (n : Nat) (f : Nat → Int32) : lp_X12_clip_209 (n + 1) 3 f = lp_X12_clip_209 n 4 (upd f 3 0) := by
  rw [lp_X12_clip_209, if_neg (by decide)]
  rfl
theorem zero4 (f : Nat → Int32) : lp_X12_clip_209 FU 0 f = some (upd (upd (upd (upd f 0 0) 1 0) 2 0) 3 0) :=
  (clip_s0 (FU - 1) f).trans ((clip_s1 (FU - 2) _).trans ((clip_s2 (FU - 3) _).trans ((clip_s3 (FU - 4) _).trans (clip_end (FU - 5) _))))
theorem sw_max (a b : Int32) : (if a ≤ b then b else a) = (if b < a then a else b) := by
  by_cases h : b < a
  · rw [if_pos h, if_neg (fun q => absurd h (Int32.not_lt.mpr q))]
  · rw [if_neg h, if_pos (Int32.not_lt.mp h)]
theorem sw_min (a b : Int32) : (if a ≤ b then a else b) = (if b < a then b else a) := by
  by_cases h : b < a
  · rw [if_pos h, if_neg (fun q => absurd h (Int32.not_lt.mpr q))]
  · rw [if_neg h, if_pos (Int32.not_lt.mp h)]
theorem jn_ite {α β : Type} (K : α → β) (c : Prop) [Decidable c] (a b : α) : jn K (fun k => if c then k a else k b) = K (if c then a else b) := by
  show (if c then K a else K b) = _
  by_cases h : c
  · rw [if_pos h, if_pos h]
  · rw [if_neg h, if_neg h]
theorem rclip_ok {m q : Nat} (hm : m ≤ 1) (hq : q + 3 < 4500) (wd told four : Nat → Int32) : ∃ g : Nat → Int32, m_X12_clip wd told four (nI m) (nI q) = some g ∧ (g 0, g 1, g 2, g 3) = cut4 (told (12 * m + 6)) (told (12 * m + 7)) (told (12 * m + 8)) (told (12 * m + 9)) (wd q) (wd (q + 1)) (wd (q + 2)) (wd (q + 3)) := by
  have t0 : (12 : Int32) * nI m = nI (12 * m) := pk_mul 12 m
  have t6 : nI (12 * m) + 6 = nI (12 * m + 6) := nI_add (12 * m) 6
  have t7 : nI (12 * m + 6) + 1 = nI (12 * m + 7) := nI_add (12 * m + 6) 1
  have t8 : nI (12 * m + 6) + 2 = nI (12 * m + 8) := nI_add (12 * m + 6) 2
  have t9 : nI (12 * m + 6) + 3 = nI (12 * m + 9) := nI_add (12 * m + 6) 3
  have q1 : nI q + 1 = nI (q + 1) := nI_add q 1
  have q2 : nI q + 2 = nI (q + 2) := nI_add q 2
  have q3 : nI q + 3 = nI (q + 3) := nI_add q 3
  have i24 : ∀ k, k < 24 → inb (nI k) 24 = true := fun k hk => inb_s hk (by decide)
  have c24 : ∀ k, k < 24 → (nI k).toNatClampNeg = k := fun k hk => nI_clamp (by omega)
  have i : ∀ k, k < 4500 → inb (nI k) 4500 = true := fun k hk => inb_s hk (by decide)
  have c' : ∀ k, k < 4500 → (nI k).toNatClampNeg = k := fun k hk => nI_clamp (by omega)
  have j0 : inb 0 4 = true := by decide
  have j1 : inb 1 4 = true := by decide
  have j2 : inb 2 4 = true := by decide
  have j3 : inb 3 4 = true := by decide
  unfold m_X12_clip
  simp only [nm_s, gd_s, t0, t6, t7, t8, t9, q1, q2, q3, i q (by omega), i (q + 1) (by omega), i (q + 2) (by omega), i (q + 3) (by omega), c' q (by omega), c' (q + 1) (by omega), c' (q + 2) (by omega), c' (q + 3) (by omega), i24 (12 * m + 6) (by omega), i24 (12 * m + 7) (by omega), i24 (12 * m + 8) (by omega), i24 (12 * m + 9) (by omega), c24 (12 * m + 6) (by omega), c24 (12 * m + 7) (by omega), c24 (12 * m + 8) (by omega), c24 (12 * m + 9) (by omega), j0, j1, j2, j3, tn_0, tn_1, tn_2, tn_3, jn_ite, sw_max, sw_min, zero4]
  unfold cut4
  generalize (if wd q + wd (q + 2) < told (12 * m + 8) then wd q + wd (q + 2) else told (12 * m + 8)) = A
  generalize (if told (12 * m + 6) < wd q then wd q else told (12 * m + 6)) = B
  generalize (if wd (q + 1) + wd (q + 3) < told (12 * m + 9) then wd (q + 1) + wd (q + 3) else told (12 * m + 9)) = C
  generalize (if told (12 * m + 7) < wd (q + 1) then wd (q + 1) else told (12 * m + 7)) = D
  simp only [jn_s, upd, Nat.reduceEqDiff, if_true, if_false]
  by_cases h : A ≤ B
  · simp [h, upd]
  · by_cases k : D < C
    · simp [h, k, upd]
    · simp [h, k, upd]
