def wh6 (f : Nat → Int32) (p : Nat) : Bool := decide ((f (p + 1) &&& 65535) = 0) && decide ((f (p + 2) &&& 65535) = 0) && decide ((f (p + 3) &&& 65535) = 0) && decide ((f (p + 4) &&& 65535) = 0) && decide ((f (p + 5) &&& 65535) = 0) && decide ((f (p + 6) &&& 65535) = 0)
theorem wh6_iff {f : Nat → Int32} {p : Nat} : wh6 f p = true ↔ ((f (p + 1) &&& 65535) = 0 ∧ (f (p + 2) &&& 65535) = 0 ∧ (f (p + 3) &&& 65535) = 0 ∧ (f (p + 4) &&& 65535) = 0 ∧ (f (p + 5) &&& 65535) = 0 ∧ (f (p + 6) &&& 65535) = 0) := by
  unfold wh6
  simp only [Bool.and_eq_true, decide_eq_true_eq]
  constructor
  · rintro ⟨⟨⟨⟨⟨h1, h2⟩, h3⟩, h4⟩, h5⟩, h6⟩
    exact ⟨h1, h2, h3, h4, h5, h6⟩
  · rintro ⟨h1, h2, h3, h4, h5, h6⟩
    exact ⟨⟨⟨⟨⟨h1, h2⟩, h3⟩, h4⟩, h5⟩, h6⟩
theorem isWhole_6 (f : Nat → Int32) (p : Nat) : m_X9_isWhole (f (p + 1)) (f (p + 2)) (f (p + 3)) (f (p + 4)) (f (p + 5)) (f (p + 6)) = some (bI (wh6 f p)) := by
  rw [isWhole_ok]
  congr 2
  cases h : wh6 f p
  · exact decide_eq_false (fun z => by rw [wh6_iff.mpr z] at h; exact absurd h (by decide))
  · exact decide_eq_true (wh6_iff.mp h)
theorem round_step (wd : Nat → Int32) {p : Nat} (hp : p + 6 < 4500) (n : Nat) (b : Bool) {k : Nat} (h1 : 1 ≤ k) (hk : k ≤ 6) : lp_X12_areRound_4 (nI p) wd (n + 1) (bI b) (nI k) = lp_X12_areRound_4 (nI p) wd n (bI (b && decide ((wd (p + k) &&& 65535) = 0))) (nI (k + 1)) := by
  rw [lp_X12_areRound_4, if_neg (show ¬ (6 : Int32) < nI k from nI_nlt (b := k) (a := 6) (by omega) (by decide)), jn_s, jn_s, nI_add, inb_s (show p + k < 4500 by omega) (by decide), nI_clamp (show p + k < 2 ^ 31 by omega)]
  cases b
  · rw [if_pos (show bI false = 0 from rfl)]
    show nm _ _ = _
    rw [nm_s, nI_1]
    rfl
  · rw [if_neg (show ¬ bI true = 0 by decide), gd_s, nm_s]
    by_cases z : (wd (p + k) &&& 65535) = 0
    · rw [if_pos z]
      show nm _ _ = _
      rw [nm_s, nI_1, decide_eq_true z]
      rfl
    · rw [if_neg z]
      show nm _ _ = _
      rw [nm_s, nI_1, decide_eq_false z]
      rfl
theorem areRound_ok (wd : Nat → Int32) {p : Nat} (hp : p + 6 < 4500) : m_X12_areRound wd (nI p) = some (bI (wh6 wd p)) := by
  unfold m_X12_areRound
  obtain ⟨N, hN⟩ : ∃ N : Nat, FU = N + 1 + 1 + 1 + 1 + 1 + 1 + 1 := ⟨999993, rfl⟩
  rw [hN]
  refine (round_step wd hp _ true (k := 1) (by omega) (by omega)).trans ?_
  rw [round_step wd hp _ _ (k := 1 + 1) (by omega) (by omega), round_step wd hp _ _ (k := 1 + 1 + 1) (by omega) (by omega), round_step wd hp _ _ (k := 1 + 1 + 1 + 1) (by omega) (by omega), round_step wd hp _ _ (k := 1 + 1 + 1 + 1 + 1) (by omega) (by omega), round_step wd hp _ _ (k := 1 + 1 + 1 + 1 + 1 + 1) (by omega) (by omega), lp_X12_areRound_4, if_pos (by decide)]
  rw [Bool.true_and]
  rfl
def fx (u v x y : Int32) : Int := (hi u).toInt * (hi x).toInt + (hi v).toInt * (hi y).toInt
def sho (X : Int) : Bool := decide (-32768 ≤ X ∧ X ≤ 32767)
def FT (f : Nat → Int32) (p q : Nat) : Bool := sho (fx (f (p + 1)) (f (p + 3)) (f (q + 1)) (f (q + 2))) && sho (fx (f (p + 2)) (f (p + 4)) (f (q + 1)) (f (q + 2))) && sho (fx (f (p + 1)) (f (p + 3)) (f (q + 3)) (f (q + 4))) && sho (fx (f (p + 2)) (f (p + 4)) (f (q + 3)) (f (q + 4))) && sho (fx (f (p + 1)) (f (p + 3)) (f (q + 5)) (f (q + 6)) + (hi (f (p + 5))).toInt) && sho (fx (f (p + 2)) (f (p + 4)) (f (q + 5)) (f (q + 6)) + (hi (f (p + 6))).toInt)
theorem whole_ok (wd : Nat → Int32) {i : Nat} (h : i < 4500) : m_X12_whole wd (nI i) = some (hi (wd i)).toInt64 := by
  unfold m_X12_whole
  rw [inb_s h (by decide), gd_s, nm_s, nI_clamp (show i < 2 ^ 31 by omega)]
  rfl
theorem hmul (a b : Int32) : ((hi a).toInt64 * (hi b).toInt64).toInt = (hi a).toInt * (hi b).toInt ∧ -1073741824 ≤ (hi a).toInt * (hi b).toInt ∧ (hi a).toInt * (hi b).toInt ≤ 1073741824 := by
  have h1 := hi_rng a
  have h2 := hi_rng b
  have hb := mul_bd (a := (hi a).toInt) (b := (hi b).toInt) (B := 32768) (C := 32768) (by omega) (by omega)
  refine ⟨?_, by omega, by omega⟩
  rw [l_mul] <;> rw [l_of, l_of] <;> omega
theorem fx_rng (u v x y : Int32) : -2147483648 ≤ fx u v x y ∧ fx u v x y ≤ 2147483648 := by
  have h1 := (hmul u x).2
  have h2 := (hmul v y).2
  unfold fx
  omega
theorem r_fx (u v x y : Int32) : ((hi u).toInt64 * (hi x).toInt64 + (hi v).toInt64 * (hi y).toInt64).toInt = fx u v x y := by
  have h1 := hmul u x
  have h2 := hmul v y
  unfold fx
  rw [l_add] <;> rw [h1.1, h2.1] <;> omega
theorem r_fx0 (u v x y : Int32) : (((hi u).toInt64 * (hi x).toInt64 + (hi v).toInt64 * (hi y).toInt64) + 0).toInt = fx u v x y := by
  have h := fx_rng u v x y
  have e0 : (0 : Int64).toInt = 0 := by decide
  rw [l_add] <;> rw [r_fx, e0] <;> omega
theorem r_fxe (u v x y t : Int32) : (((hi u).toInt64 * (hi x).toInt64 + (hi v).toInt64 * (hi y).toInt64) + (hi t).toInt64).toInt = fx u v x y + (hi t).toInt := by
  have h := fx_rng u v x y
  have h2 := hi_rng t
  rw [l_add] <;> rw [r_fx, l_of] <;> omega
theorem fb_step (wd : Nat → Int32) {p q : Nat} (hp : p + 6 < 4500) (hq : q + 6 < 4500) (n : Nat) (b : Bool) {k : Nat} (hk : k = 1 ∨ k = 3 ∨ k = 5) : lp_X12_fitBoth_5 wd (nI p) (nI q) (n + 1) (bI b) (nI k) = lp_X12_fitBoth_5 wd (nI p) (nI q) n (bI (b && sho (fx (wd (p + 1)) (wd (p + 3)) (wd (q + k)) (wd (q + k + 1)) + (if k = 5 then (hi (wd (p + 5))).toInt else 0)) && sho (fx (wd (p + 2)) (wd (p + 4)) (wd (q + k)) (wd (q + k + 1)) + (if k = 5 then (hi (wd (p + 6))).toInt else 0)))) (nI (k + 2)) := by
  have hk7 : k < 7 := by omega
  have p1 : nI p + 1 = nI (p + 1) := nI_add p 1
  have p2 : nI p + 2 = nI (p + 2) := nI_add p 2
  have p3 : nI p + 3 = nI (p + 3) := nI_add p 3
  have p4 : nI p + 4 = nI (p + 4) := nI_add p 4
  have p5 : nI p + 5 = nI (p + 5) := nI_add p 5
  have p6 : nI p + 6 = nI (p + 6) := nI_add p 6
  have k2 : nI k + 2 = nI (k + 2) := nI_add k 2
  have q1 : nI (q + k) + 1 = nI (q + k + 1) := nI_add (q + k) 1
  have d1 : ∀ t : Int64, ∀ T : Int, t.toInt = T → -32768 ≤ T ∧ T ≤ 32767 → m_X12_isShort (((hi (wd (p + 1))).toInt64 * (hi (wd (q + k))).toInt64 + (hi (wd (p + 3))).toInt64 * (hi (wd (q + k + 1))).toInt64) + t) = some (bI (sho (fx (wd (p + 1)) (wd (p + 3)) (wd (q + k)) (wd (q + k + 1)) + T))) := fun t T ht hT => short_ok (by
    have h := fx_rng (wd (p + 1)) (wd (p + 3)) (wd (q + k)) (wd (q + k + 1))
    rw [l_add] <;> rw [r_fx, ht] <;> omega)
  have d2 : ∀ t : Int64, ∀ T : Int, t.toInt = T → -32768 ≤ T ∧ T ≤ 32767 → m_X12_isShort (((hi (wd (p + 2))).toInt64 * (hi (wd (q + k))).toInt64 + (hi (wd (p + 4))).toInt64 * (hi (wd (q + k + 1))).toInt64) + t) = some (bI (sho (fx (wd (p + 2)) (wd (p + 4)) (wd (q + k)) (wd (q + k + 1)) + T))) := fun t T ht hT => short_ok (by
    have h := fx_rng (wd (p + 2)) (wd (p + 4)) (wd (q + k)) (wd (q + k + 1))
    rw [l_add] <;> rw [r_fx, ht] <;> omega)
  have fin : ∀ (t1 t2 : Int64) (T1 T2 : Int), t1.toInt = T1 → t2.toInt = T2 → (-32768 ≤ T1 ∧ T1 ≤ 32767) → (-32768 ≤ T2 ∧ T2 ≤ 32767) → jn (fun (s0_9 : Int32) => jn (fun (s0_11 : Int32) => nm (nI k + 2) (fun (x_13 : Int32) => lp_X12_fitBoth_5 wd (nI p) (nI q) n s0_11 x_13)) (fun (K158_12 : Int32 → Option Int32) => jn (K158_12 0) (fun (K157_14 : Option Int32) => if (s0_9 = 0 : Prop) then (K157_14) else (bd1 (m_X12_whole wd (nI p + 2)) (fun (r_16 : Int64) => bd1 (m_X12_whole wd (nI q + nI k)) (fun (r_18 : Int64) => bd1 (m_X12_whole wd (nI p + 4)) (fun (r_20 : Int64) => bd1 (m_X12_whole wd ((nI q + nI k) + 1)) (fun (r_22 : Int64) => bd1 (m_X12_isShort (((r_16 * r_18) + (r_20 * r_22)) + t2)) (fun (r_24 : Int32) => if (r_24 = 0 : Prop) then (K157_14) else (K158_12 1)))))))))) (fun (K104_10 : Int32 → Option Int32) => jn (K104_10 0) (fun (K103_27 : Option Int32) => if (bI b = 0 : Prop) then (K103_27) else (bd1 (m_X12_whole wd (nI p + 1)) (fun (r_29 : Int64) => bd1 (m_X12_whole wd (nI q + nI k)) (fun (r_31 : Int64) => bd1 (m_X12_whole wd (nI p + 3)) (fun (r_33 : Int64) => bd1 (m_X12_whole wd ((nI q + nI k) + 1)) (fun (r_35 : Int64) => bd1 (m_X12_isShort (((r_29 * r_31) + (r_33 * r_35)) + t1)) (fun (r_37 : Int32) => if (r_37 = 0 : Prop) then (K103_27) else (K104_10 1))))))))) = lp_X12_fitBoth_5 wd (nI p) (nI q) n (bI (b && sho (fx (wd (p + 1)) (wd (p + 3)) (wd (q + k)) (wd (q + k + 1)) + T1) && sho (fx (wd (p + 2)) (wd (p + 4)) (wd (q + k)) (wd (q + k + 1)) + T2))) (nI (k + 2)) := by
    intro t1 t2 T1 T2 h1 h2 b1 b2
    rw [p1, p2, p3, p4, nI_add, q1, whole_ok wd (show p + 1 < 4500 by omega), whole_ok wd (show p + 2 < 4500 by omega), whole_ok wd (show p + 3 < 4500 by omega), whole_ok wd (show p + 4 < 4500 by omega), whole_ok wd (show q + k < 4500 by omega), whole_ok wd (show q + k + 1 < 4500 by omega)]
    simp only [jn_s, bd1_s, d1 t1 T1 h1 b1, d2 t2 T2 h2 b2, nm_s, k2]
    cases b
    · rfl
    · cases sho (fx (wd (p + 1)) (wd (p + 3)) (wd (q + k)) (wd (q + k + 1)) + T1) <;> cases sho (fx (wd (p + 2)) (wd (p + 4)) (wd (q + k)) (wd (q + k + 1)) + T2) <;> rfl
  rw [lp_X12_fitBoth_5, if_neg (show ¬ (7 : Int32) ≤ nI k from nI_ge (b := 7) hk7 (by decide)), jn_s]
  have e0 : (0 : Int64).toInt = 0 := by decide
  by_cases e5 : k = 5
  · have e5' : nI k = (5 : Int32) := by rw [e5]; rfl
    rw [if_pos e5', p5, whole_ok wd (show p + 5 < 4500 by omega), bd1_s]
    show jn _ _ = _
    rw [jn_s, if_pos e5', p6, whole_ok wd (show p + 6 < 4500 by omega), bd1_s, if_pos e5, if_pos e5]
    exact fin _ _ _ _ (l_of _) (l_of _) (hi_rng _) (hi_rng _)
  · have e5' : ¬ nI k = (5 : Int32) := fun z => e5 ((nI_eq (b := 5) (by omega) (by decide)).mp z)
    rw [if_neg e5']
    show jn _ _ = _
    rw [jn_s, if_neg e5', if_neg e5, if_neg e5]
    exact fin _ _ _ _ e0 e0 (by decide) (by decide)
theorem fitBoth_ok (wd : Nat → Int32) {p q : Nat} (hp : p + 6 < 4500) (hq : q + 6 < 4500) : m_X12_fitBoth wd (nI p) (nI q) = some (bI (FT wd p q)) := by
  unfold m_X12_fitBoth
  obtain ⟨N, hN⟩ : ∃ N : Nat, FU = N + 1 + 1 + 1 + 1 := ⟨999996, rfl⟩
  rw [hN]
  refine (fb_step wd hp hq _ true (k := 1) (by omega)).trans ?_
  rw [fb_step wd hp hq _ _ (k := 1 + 2) (by omega), fb_step wd hp hq _ _ (k := 1 + 2 + 2) (by omega), lp_X12_fitBoth_5, if_pos (by decide)]
  unfold FT
  rw [if_neg (show ¬ 1 = 5 by omega), if_neg (show ¬ 1 = 5 by omega), if_neg (show ¬ 1 + 2 = 5 by omega), if_neg (show ¬ 1 + 2 = 5 by omega), if_pos (show 1 + 2 + 2 = 5 by omega), if_pos (show 1 + 2 + 2 = 5 by omega), Int.add_zero, Int.add_zero, Int.add_zero, Int.add_zero, Bool.true_and]
theorem c_fx (u v x y : Int32) (hx : (x &&& 65535) = 0) (hy : (y &&& 65535) = 0) : ((hi u).toInt64 * x.toInt64 + (hi v).toInt64 * y.toInt64).toInt = 65536 * fx u v x y := by
  have h1 := hi_rng u
  have h2 := hi_rng v
  have m1 := mul_bd (a := (hi u).toInt) (b := x.toInt) (B := 32768) (C := 2147483648) (by omega) (by have := Int32.toInt_lt x; have := Int32.le_toInt x; omega)
  have m2 := mul_bd (a := (hi v).toInt) (b := y.toInt) (B := 32768) (C := 2147483648) (by omega) (by have := Int32.toInt_lt y; have := Int32.le_toInt y; omega)
  have e1 : ((hi u).toInt64 * x.toInt64).toInt = (hi u).toInt * x.toInt := by rw [l_mul] <;> rw [l_of, l_of] <;> omega
  have e2 : ((hi v).toInt64 * y.toInt64).toInt = (hi v).toInt * y.toInt := by rw [l_mul] <;> rw [l_of, l_of] <;> omega
  have e3 : (hi u).toInt * x.toInt + (hi v).toInt * y.toInt = 65536 * fx u v x y := by
    unfold fx
    rw [wh_hi hx, wh_hi hy, Int.mul_add, Int.mul_left_comm, Int.mul_left_comm (hi v).toInt]
  rw [← e3]
  rw [l_add] <;> rw [e1, e2] <;> omega
theorem c_fxe (u v x y t : Int32) (hx : (x &&& 65535) = 0) (hy : (y &&& 65535) = 0) (ht : (t &&& 65535) = 0) : (((hi u).toInt64 * x.toInt64 + (hi v).toInt64 * y.toInt64) + t.toInt64).toInt = 65536 * (fx u v x y + (hi t).toInt) := by
  have h := fx_rng u v x y
  have h2 := hi_rng t
  have h3 := wh_hi ht
  rw [l_add] <;> rw [c_fx u v x y hx hy, l_of, h3] <;> omega
theorem fitsBehind_ok {f : Nat → Int32} {p q : Nat} (hp : wh6 f p = true) (hq : wh6 f q = true) : m_X9_fitsBehind (f (p + 1)) (f (p + 2)) (f (p + 3)) (f (p + 4)) (f (p + 5)) (f (p + 6)) (f (q + 1)) (f (q + 2)) (f (q + 3)) (f (q + 4)) (f (q + 5)) (f (q + 6)) = some (bI (FT f p q)) := by
  obtain ⟨a1, a2, a3, a4, a5, a6⟩ := wh6_iff.mp hp
  obtain ⟨b1, b2, b3, b4, b5, b6⟩ := wh6_iff.mp hq
  have g1 := fits_ok (c_fx (f (p + 1)) (f (p + 3)) (f (q + 1)) (f (q + 2)) b1 b2)
  have g2 := fits_ok (c_fx (f (p + 2)) (f (p + 4)) (f (q + 1)) (f (q + 2)) b1 b2)
  have g3 := fits_ok (c_fx (f (p + 1)) (f (p + 3)) (f (q + 3)) (f (q + 4)) b3 b4)
  have g4 := fits_ok (c_fx (f (p + 2)) (f (p + 4)) (f (q + 3)) (f (q + 4)) b3 b4)
  have g5 := fits_ok (c_fxe (f (p + 1)) (f (p + 3)) (f (q + 5)) (f (q + 6)) (f (p + 5)) b5 b6 a5)
  have g6 := fits_ok (c_fxe (f (p + 2)) (f (p + 4)) (f (q + 5)) (f (q + 6)) (f (p + 6)) b5 b6 a6)
  unfold m_X9_fitsBehind
  rw [nm_s, nm_s, nm_s, nm_s]
  show bd1 (m_X9_fits ((hi (f (p + 1))).toInt64 * (f (q + 1)).toInt64 + (hi (f (p + 3))).toInt64 * (f (q + 2)).toInt64)) _ = _
  rw [g1, bd1_s]
  unfold FT
  have S : ∀ X : Int, decide (-32768 ≤ X ∧ X ≤ 32767) = sho X := fun _ => rfl
  rw [S]
  generalize sho (fx (f (p + 1)) (f (p + 3)) (f (q + 1)) (f (q + 2))) = x1
  cases x1
  · rfl
  rw [if_neg (by decide)]
  show bd1 (m_X9_fits ((hi (f (p + 2))).toInt64 * (f (q + 1)).toInt64 + (hi (f (p + 4))).toInt64 * (f (q + 2)).toInt64)) _ = _
  rw [g2, bd1_s, S]
  generalize sho (fx (f (p + 2)) (f (p + 4)) (f (q + 1)) (f (q + 2))) = x1
  cases x1
  · rfl
  rw [if_neg (by decide)]
  show bd1 (m_X9_fits ((hi (f (p + 1))).toInt64 * (f (q + 3)).toInt64 + (hi (f (p + 3))).toInt64 * (f (q + 4)).toInt64)) _ = _
  rw [g3, bd1_s, S]
  generalize sho (fx (f (p + 1)) (f (p + 3)) (f (q + 3)) (f (q + 4))) = x1
  cases x1
  · rfl
  rw [if_neg (by decide)]
  show bd1 (m_X9_fits ((hi (f (p + 2))).toInt64 * (f (q + 3)).toInt64 + (hi (f (p + 4))).toInt64 * (f (q + 4)).toInt64)) _ = _
  rw [g4, bd1_s, S]
  generalize sho (fx (f (p + 2)) (f (p + 4)) (f (q + 3)) (f (q + 4))) = x1
  cases x1
  · rfl
  rw [if_neg (by decide)]
  show bd1 (m_X9_fits (((hi (f (p + 1))).toInt64 * (f (q + 5)).toInt64 + (hi (f (p + 3))).toInt64 * (f (q + 6)).toInt64) + (f (p + 5)).toInt64)) _ = _
  rw [g5, bd1_s, S]
  generalize sho (fx (f (p + 1)) (f (p + 3)) (f (q + 5)) (f (q + 6)) + (hi (f (p + 5))).toInt) = x1
  cases x1
  · rfl
  rw [if_neg (by decide)]
  show bd1 (m_X9_fits (((hi (f (p + 2))).toInt64 * (f (q + 5)).toInt64 + (hi (f (p + 4))).toInt64 * (f (q + 6)).toInt64) + (f (p + 6)).toInt64)) _ = _
  rw [g6, bd1_s, S]
  generalize sho (fx (f (p + 2)) (f (p + 4)) (f (q + 5)) (f (q + 6)) + (hi (f (p + 6))).toInt) = x1
  cases x1
  · rfl
  rfl
theorem same6 (a b c d e f a' b' c' d' e' f' : Int32) : m_X9_isSameAs a b c d e f a' b' c' d' e' f' = some (bI (decide (a = a') && decide (b = b') && decide (c = c') && decide (d = d') && decide (e = e') && decide (f = f'))) := by
  unfold m_X9_isSameAs
  by_cases h1 : a = a'
  · rw [if_pos h1]
    by_cases h2 : b = b'
    · rw [if_pos h2]
      by_cases h3 : c = c'
      · rw [if_pos h3]
        by_cases h4 : d = d'
        · rw [if_pos h4]
          by_cases h5 : e = e'
          · rw [if_pos h5]
            by_cases h6 : f = f'
            · rw [if_pos h6]
              simp [h1, h2, h3, h4, h5, h6, bI]
            · rw [if_neg h6]
              simp [h6, bI]
          · rw [if_neg h5]
            simp [h5, bI]
        · rw [if_neg h4]
          simp [h4, bI]
      · rw [if_neg h3]
        simp [h3, bI]
    · rw [if_neg h2]
      simp [h2, bI]
  · rw [if_neg h1]
    simp [h1, bI]
def lvv (code : Int32) (bo : Nat → Int32) (k : Nat) : Int32 := if code = 12 then bo k else pl0 k
theorem l87_step (cu bo told : Nat → Int32) (code : Int32) (n : Nat) (b : Bool) {k : Nat} (hk : k < 6) : lp_X12_leaves_87 cu bo told code (n + 1) (bI b) (nI k) = lp_X12_leaves_87 cu bo told code n (bI (b && decide (lvv code bo k = told (12 + k)))) (nI (k + 1)) := by
  have t12 : (12 : Int32) + nI k = nI (12 + k) := nI_add 12 k
  have key : ∀ J : Int32 → Option (Int32 × (Nat → Int32) × (Nat → Int32)), (if code = 12 then gd (inb (nI k) 6) (nm (bo (nI k).toNatClampNeg) (fun a_25 => J a_25)) else jn (J 65536) (fun K121_21 => if nI k = 0 then K121_21 else if nI k = 3 then K121_21 else J 0)) = J (lvv code bo k) := by
    intro J
    unfold lvv
    by_cases z : code = 12
    · rw [if_pos z, if_pos z, inb_s hk (by decide), gd_s, nm_s, nI_clamp (show k < 2 ^ 31 by omega)]
    · rw [if_neg z, if_neg z, jn_s]
      unfold pl0
      by_cases k0 : k = 0
      · subst k0
        rfl
      · rw [if_neg (show ¬ nI k = (0 : Int32) from nI_ne0 (by omega) (by omega))]
        by_cases k3 : k = 3
        · subst k3
          rfl
        · rw [if_neg (show ¬ nI k = (3 : Int32) from fun q => k3 ((nI_eq (b := 3) (by omega) (by decide)).mp q)), if_neg (show ¬ (k = 0 ∨ k = 3) from fun q => q.elim k0 k3)]
  rw [lp_X12_leaves_87, if_neg (show ¬ (6 : Int32) ≤ nI k from nI_ge (b := 6) hk (by decide)), jn_s]
  refine (key _).trans ?_
  rw [jn_s, jn_s, t12, inb_s (show 12 + k < 24 by omega) (by decide), nI_clamp (show 12 + k < 2 ^ 31 by omega)]
  cases b
  · rw [if_pos (show bI false = 0 from rfl)]
    show nm _ _ = _
    rw [nm_s, nI_1]
    rfl
  · rw [if_neg (show ¬ bI true = 0 by decide), gd_s, nm_s]
    by_cases z : lvv code bo k = told (12 + k)
    · rw [if_pos z]
      show nm _ _ = _
      rw [nm_s, nI_1, decide_eq_true z]
      rfl
    · rw [if_neg z]
      show nm _ _ = _
      rw [nm_s, nI_1, decide_eq_false z]
      rfl
theorem l87_ok (cu bo told : Nat → Int32) (code : Int32) : lp_X12_leaves_87 cu bo told code FU 1 0 = some (bI (decide (lvv code bo 0 = told 12) && decide (lvv code bo 1 = told 13) && decide (lvv code bo 2 = told 14) && decide (lvv code bo 3 = told 15) && decide (lvv code bo 4 = told 16) && decide (lvv code bo 5 = told 17)), cu, bo) := by
  obtain ⟨N, hN⟩ : ∃ N : Nat, FU = N + 1 + 1 + 1 + 1 + 1 + 1 + 1 := ⟨999993, rfl⟩
  rw [hN]
  refine (l87_step cu bo told code _ true (k := 0) (by omega)).trans ?_
  rw [l87_step cu bo told code _ _ (k := 0 + 1) (by omega), l87_step cu bo told code _ _ (k := 0 + 1 + 1) (by omega), l87_step cu bo told code _ _ (k := 0 + 1 + 1 + 1) (by omega), l87_step cu bo told code _ _ (k := 0 + 1 + 1 + 1 + 1) (by omega), l87_step cu bo told code _ _ (k := 0 + 1 + 1 + 1 + 1 + 1) (by omega), lp_X12_leaves_87, if_pos (by decide), Bool.true_and]
