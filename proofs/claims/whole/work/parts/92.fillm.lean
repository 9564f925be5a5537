theorem l_of (a : Int32) : a.toInt64.toInt = a.toInt := Int32.toInt_toInt64 a
theorem l_add {a b : Int64} (h1 : -9223372036854775808 ≤ a.toInt + b.toInt) (h2 : a.toInt + b.toInt < 9223372036854775808) : (a + b).toInt = a.toInt + b.toInt := by
  rw [Int64.toInt_add]
  apply Int.bmod_eq_of_le <;> omega
theorem l_sub {a b : Int64} (h1 : -9223372036854775808 ≤ a.toInt - b.toInt) (h2 : a.toInt - b.toInt < 9223372036854775808) : (a - b).toInt = a.toInt - b.toInt := by
  rw [Int64.toInt_sub]
  apply Int.bmod_eq_of_le <;> omega
theorem l_mul {a b : Int64} (h1 : -9223372036854775808 ≤ a.toInt * b.toInt) (h2 : a.toInt * b.toInt < 9223372036854775808) : (a * b).toInt = a.toInt * b.toInt := by
  rw [Int64.toInt_mul]
  apply Int.bmod_eq_of_le <;> omega
theorem l_neg {a : Int64} (h1 : -9223372036854775808 < a.toInt) : (-a).toInt = -a.toInt := by
  rw [Int64.toInt_neg]
  have := Int64.toInt_lt a
  apply Int.bmod_eq_of_le <;> omega
theorem mul_bd {a b : Int} {B C : Nat} (ha : a.natAbs ≤ B) (hb : b.natAbs ≤ C) : -((B * C : Nat) : Int) ≤ a * b ∧ a * b ≤ ((B * C : Nat) : Int) := by
  have h := Nat.mul_le_mul ha hb
  rw [← Int.natAbs_mul] at h
  generalize a * b = x at h ⊢
  generalize B * C = y at h ⊢
  omega
def mid (y : Nat) : Int := 65536 * (y : Int) + 32768
def fmi (l : Int32) : Int32 := ((l + 32768) - 1) >>> (16 &&& 31)
theorem firstMiddle_ok (l : Int32) : m_X2_firstMiddle l = some (fmi l) := rfl
theorem fm_int {l : Int32} (h : small l) : (fmi l).toInt = (l.toInt + 32767) / 65536 := by
  obtain ⟨h1, h2⟩ := h
  have e1 : (l + 32768).toInt = l.toInt + 32768 := by
    rw [Int32.toInt_add, show (32768 : Int32).toInt = 32768 by decide]
    apply Int.bmod_eq_of_le <;> omega
  have e2 : (l + 32768 - 1).toInt = l.toInt + 32767 := by
    rw [Int32.toInt_sub, e1, show (1 : Int32).toInt = 1 by decide, show l.toInt + 32768 - 1 = l.toInt + 32767 by omega]
    apply Int.bmod_eq_of_le <;> omega
  have h3 := pk_shr (l + 32768 - 1) (16 &&& 31) 16 (by decide)
  rw [Int.shiftRight_eq_div_pow, e2] at h3
  unfold fmi
  omega
theorem fm_le {l : Int32} (h : small l) {y : Nat} (hy : y < 4096) : fmi l ≤ nI y ↔ l.toInt ≤ mid y := by
  rw [i_le, fm_int h, nI_ti (by omega)]
  unfold mid
  omega
theorem nzl_y {q : Int64} (h : 0 < q.toInt) : nzl q = true := by
  unfold nzl
  apply decide_eq_true
  intro e
  rw [e] at h
  exact absurd h (by decide)
theorem fdiv_ok {p q : Int64} (hq : 0 < q.toInt) : ∃ r : Int64, m_J9_floorDiv_f86c9 p q = some r ∧ r.toInt = p.toInt / q.toInt := by
  have ed : (p / q).toInt = p.toInt.tdiv q.toInt := by
    apply Int64.toInt_div_of_ne_right
    intro e
    rw [e] at hq
    exact absurd hq (by decide)
  have hs : (0 ≤ (p ^^^ q).toInt) ↔ 0 ≤ p.toInt := by
    have h1 : (p ^^^ q).toBitVec.msb = p.toBitVec.msb := by
      have h2 : q.toBitVec.msb = false := by
        rw [BitVec.msb_eq_toInt]
        exact decide_eq_false (by show ¬ q.toInt < 0; omega)
      rw [Int64.toBitVec_xor, BitVec.msb_xor, h2, Bool.xor_false]
    rw [BitVec.msb_eq_toInt, BitVec.msb_eq_toInt] at h1
    have h3 : ((p ^^^ q).toInt < 0) ↔ p.toInt < 0 := decide_eq_decide.mp h1
    omega
  have ht : p.toInt.tdiv q.toInt = p.toInt / q.toInt + if 0 ≤ p.toInt ∨ q.toInt ∣ p.toInt then 0 else q.toInt.sign := Int.tdiv_eq_ediv
  have hsg : q.toInt.sign = 1 := Int.sign_eq_one_of_pos hq
  have hm := Int.emod_add_mul_ediv p.toInt q.toInt
  have hm1 := Int.emod_nonneg p.toInt (show q.toInt ≠ 0 by omega)
  have hm2 := Int.emod_lt_of_pos p.toInt hq
  have hpl := Int64.le_toInt p
  have hpu := Int64.toInt_lt p
  unfold m_J9_floorDiv_f86c9
  rw [nzl_y hq, gd_s, nm_s]
  by_cases c1 : 0 ≤ lg_cmp (p ^^^ q) 0
  · refine ⟨p / q, by rw [if_pos c1], ?_⟩
    rw [lc_ge] at c1
    have c1' : 0 ≤ p.toInt := hs.mp c1
    rw [ed, ht, if_pos (Or.inl c1')]
    omega
  · have c1' : ¬ 0 ≤ p.toInt := fun z => c1 ((lc_ge _ _).mpr (hs.mpr z))
    rw [if_neg c1]
    have e2 : (p / q * q).toInt = p.toInt.tdiv q.toInt * q.toInt := by
      rw [Int64.toInt_mul, ed]
      have h5 := Int.tmod_add_mul_tdiv p.toInt q.toInt
      have h6 := Int.tmod_nonneg (a := -p.toInt) q.toInt (by omega)
      rw [Int.neg_tmod] at h6
      have h7 := Int.lt_tmod_of_pos p.toInt hq
      rw [Int.mul_comm] at h5
      generalize p.toInt.tdiv q.toInt * q.toInt = z at h5 ⊢
      have h8 := Int64.toInt_lt q
      apply Int.bmod_eq_of_le <;> omega
    by_cases c2 : lg_cmp (p / q * q) p = 0
    · refine ⟨p / q, by rw [if_pos c2], ?_⟩
      have e3 : (p / q * q).toInt = p.toInt := by
        have a1 := (lc_le (p / q * q) p).mp (by rw [c2]; decide)
        have a2 := (lc_ge (p / q * q) p).mp (by rw [c2]; decide)
        omega
      rw [e2] at e3
      have hd : q.toInt ∣ p.toInt := ⟨p.toInt.tdiv q.toInt, by rw [Int.mul_comm]; exact e3.symm⟩
      rw [ed, ht, if_pos (Or.inr hd)]
      omega
    · have hd : ¬ q.toInt ∣ p.toInt := by
        intro hd
        apply c2
        have e4 : p.toInt.tdiv q.toInt * q.toInt = p.toInt := Int.tdiv_mul_cancel hd
        rw [e4] at e2
        have e5 : p / q * q = p := Int64.toInt_inj.mp e2
        rw [e5]
        unfold lg_cmp
        simp
      refine ⟨p / q - 1, by rw [if_neg c2], ?_⟩
      have e6 : (p / q).toInt = p.toInt / q.toInt + 1 := by
        rw [ed, ht, if_neg (fun z => z.elim c1' hd), hsg]
      have e7 := Int64.le_toInt (p / q)
      have e8 := Int64.toInt_lt (p / q)
      have e9 : p.toInt / q.toInt < 0 := Int.ediv_neg_of_neg_of_pos (by omega) hq
      have e10 : p.toInt ≤ p.toInt / q.toInt := by
        have k1 : q.toInt * (p.toInt / q.toInt + 1) ≤ 1 * (p.toInt / q.toInt + 1) := Int.mul_le_mul_of_nonpos_right (by omega) (by omega)
        rw [Int.mul_add, Int.mul_one, Int.one_mul] at k1
        omega
      rw [l_sub (by rw [e6, show (1 : Int64).toInt = 1 by decide]; omega) (by rw [e6, show (1 : Int64).toInt = 1 by decide]; omega), e6, show (1 : Int64).toInt = 1 by decide]
      omega
theorem col_math {D A h xu mx : Int} (h0 : 0 ≤ D) (hD : D < h) : (xu - (-(D * A)) / h ≤ mx ↔ D * A ≤ (mx - xu) * h) ∧ ((0 ≤ A → xu ≤ xu - (-(D * A)) / h ∧ xu - (-(D * A)) / h ≤ xu + A) ∧ (A < 0 → xu + A ≤ xu - (-(D * A)) / h ∧ xu - (-(D * A)) / h ≤ xu)) := by
  have hh : 0 < h := by omega
  refine ⟨?_, fun hA => ?_, fun hA => ?_⟩
  · have k1 : (xu - mx ≤ (-(D * A)) / h) ↔ (xu - mx) * h ≤ -(D * A) := Int.le_ediv_iff_mul_le hh
    have k2 : (mx - xu) * h = -((xu - mx) * h) := by rw [← Int.neg_mul, Int.neg_sub]
    rw [k2]
    generalize (xu - mx) * h = z at k1 ⊢
    generalize D * A = y at k1 ⊢
    omega
  · have k1 : 0 ≤ D * A := Int.mul_nonneg h0 hA
    have k2 : D * A ≤ h * A := Int.mul_le_mul_of_nonneg_right (by omega) hA
    have k3 : (-A ≤ (-(D * A)) / h) ↔ (-A) * h ≤ -(D * A) := Int.le_ediv_iff_mul_le hh
    have k4 : ((-(D * A)) / h < 1) ↔ -(D * A) < 1 * h := Int.ediv_lt_iff_lt_mul hh
    have k5 : (-A) * h = -(h * A) := by rw [Int.neg_mul, Int.mul_comm]
    rw [k5] at k3
    generalize h * A = z at k2 k3
    generalize D * A = y at k1 k2 k3 k4 ⊢
    omega
  · have k1 : D * A ≤ 0 := Int.mul_nonpos_of_nonneg_of_nonpos h0 (by omega)
    have k2 : h * A ≤ D * A := Int.mul_le_mul_of_nonpos_right (by omega) (by omega)
    have k3 : (0 ≤ (-(D * A)) / h) ↔ 0 * h ≤ -(D * A) := Int.le_ediv_iff_mul_le hh
    have k4 : ((-(D * A)) / h < -A + 1) ↔ -(D * A) < (-A + 1) * h := Int.ediv_lt_iff_lt_mul hh
    have k5 : (-A + 1) * h = -(h * A) + h := by rw [Int.add_mul, Int.neg_mul, Int.mul_comm A h, Int.one_mul]
    rw [k5] at k4
    generalize h * A = z at k2 k4
    generalize D * A = y at k1 k2 k3 k4 ⊢
    omega
abbrev crs (xu yu xl yl mx my : Int) : Prop := yu ≤ my ∧ my < yl ∧ (my - yu) * (xl - xu) ≤ (mx - xu) * (yl - yu)
def dk (xa ya xb yb mx my : Int) : Int32 := if crs xa ya xb yb mx my then 1 else if crs xb yb xa ya mx my then -1 else 0
theorem lc_gt (x y : Int64) : 0 < lg_cmp x y ↔ y.toInt < x.toInt := by
  have h1 := lc_le x y
  have h2 : (0 < lg_cmp x y) ↔ ¬ lg_cmp x y ≤ 0 := by
    rw [i_lt, i_le]
    omega
  rw [h2, h1]
  omega
theorem lc_lt (x y : Int64) : lg_cmp x y < 0 ↔ x.toInt < y.toInt := by
  have h1 := lc_ge x y
  have h2 : (lg_cmp x y < 0) ↔ ¬ 0 ≤ lg_cmp x y := by
    rw [i_lt, i_le]
    omega
  rw [h2, h1]
  omega
theorem fcol_ok {iu il y : Nat} {xs ys : Nat → Int32} (hu : iu < 800) (hl : il < 800) (hy : y < 32) (s1 : small (xs iu)) (s2 : small (ys iu)) (s3 : small (xs il)) (s4 : small (ys il)) (h1 : (ys iu).toInt ≤ mid y) (h2 : mid y < (ys il).toInt) : ∃ c : Int32, m_X2_firstColumn ys xs (nI iu) (nI il) (nI y) = some c ∧ ∀ x : Nat, x < 32 → (c ≤ nI x ↔ crs (xs iu).toInt (ys iu).toInt (xs il).toInt (ys il).toInt (mid x) (mid y)) := by
  obtain ⟨a1, b1⟩ := s1
  obtain ⟨a2, b2⟩ := s2
  obtain ⟨a3, b3⟩ := s3
  obtain ⟨a4, b4⟩ := s4
  have hmy : mid y = 65536 * (y : Int) + 32768 := rfl
  have eh : ((ys il).toInt64 - (ys iu).toInt64).toInt = (ys il).toInt - (ys iu).toInt := by
    rw [l_sub] <;> rw [l_of, l_of] <;> omega
  have ea : ((xs il).toInt64 - (xs iu).toInt64).toInt = (xs il).toInt - (xs iu).toInt := by
    rw [l_sub] <;> rw [l_of, l_of] <;> omega
  have e3 : ((nI y).toInt64 * 65536).toInt = 65536 * (y : Int) := by
    have e : (nI y).toInt64.toInt = y := by rw [l_of, nI_ti (by omega)]
    have e' : (65536 : Int64).toInt = 65536 := by decide
    rw [l_mul] <;> rw [e, e'] <;> omega
  have e4 : ((nI y).toInt64 * 65536 + 32768).toInt = mid y := by
    have e' : (32768 : Int64).toInt = 32768 := by decide
    rw [l_add] <;> rw [e3, e'] <;> omega
  have e5 : ((nI y).toInt64 * 65536 + 32768 - (ys iu).toInt64).toInt = mid y - (ys iu).toInt := by
    rw [l_sub] <;> rw [e4, l_of] <;> omega
  unfold m_X2_firstColumn
  simp only [inb_s hl (show 800 < 2 ^ 31 by decide), inb_s hu (show 800 < 2 ^ 31 by decide), gd_s, nm_s, nI_clamp (show iu < 2 ^ 31 by omega), nI_clamp (show il < 2 ^ 31 by omega)]
  generalize (ys il).toInt64 - (ys iu).toInt64 = hq at eh ⊢
  generalize (xs il).toInt64 - (xs iu).toInt64 = Aq at ea ⊢
  generalize (nI y).toInt64 * 65536 + 32768 - (ys iu).toInt64 = Dq at e5 ⊢
  have z0 : (0 : Int64).toInt = 0 := by decide
  rw [if_pos ((lc_gt hq 0).mpr (by rw [eh, z0]; omega))]
  have hb := mul_bd (a := Dq.toInt) (b := Aq.toInt) (B := 2147483648) (C := 2147483648) (by rw [e5]; omega) (by rw [ea]; omega)
  have e6 : (Dq * Aq).toInt = Dq.toInt * Aq.toInt := l_mul (by omega) (by omega)
  have e7 : (-(Dq * Aq)).toInt = -(Dq.toInt * Aq.toInt) := by rw [l_neg (by rw [e6]; omega), e6]
  obtain ⟨r, hr, er⟩ := fdiv_ok (p := -(Dq * Aq)) (q := hq) (by rw [eh]; omega)
  rw [hr, bd1_s, firstMiddle_ok, bd1_s]
  rw [e7, e5, ea, eh] at er
  obtain ⟨m1, m2, m3⟩ := col_math (D := mid y - (ys iu).toInt) (A := (xs il).toInt - (xs iu).toInt) (h := (ys il).toInt - (ys iu).toInt) (xu := (xs iu).toInt) (mx := 0) (by omega) (by omega)
  rw [← er] at m2 m3
  have hbd : -1073741824 ≤ (xs iu).toInt - r.toInt ∧ (xs iu).toInt - r.toInt ≤ 1073741824 := by
    by_cases hA : 0 ≤ (xs il).toInt - (xs iu).toInt
    · have := m2 hA
      omega
    · have := m3 (by omega)
      omega
  have e8 : ((xs iu).toInt64 - r).toInt = (xs iu).toInt - r.toInt := by
    rw [l_sub] <;> rw [l_of] <;> omega
  have e9 : ((xs iu).toInt64 - r).toInt32.toInt = (xs iu).toInt - r.toInt := by
    rw [Int64.toInt_toInt32, e8]
    apply Int.bmod_eq_of_le <;> omega
  refine ⟨_, rfl, fun x hx => ?_⟩
  rw [fm_le ⟨by rw [e9]; omega, by rw [e9]; omega⟩ (by omega), e9, er]
  have m4 := (col_math (D := mid y - (ys iu).toInt) (A := (xs il).toInt - (xs iu).toInt) (h := (ys il).toInt - (ys iu).toInt) (xu := (xs iu).toInt) (mx := mid x) (by omega) (by omega)).1
  rw [m4]
  unfold crs
  exact ⟨fun q => ⟨h1, h2, q⟩, fun q => q.2.2⟩
