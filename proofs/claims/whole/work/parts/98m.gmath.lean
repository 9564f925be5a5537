def hi (v : Int32) : Int32 := v >>> (16 &&& 31)
theorem hi_int (v : Int32) : (hi v).toInt = v.toInt / 65536 := by
  have h3 := pk_shr v (16 &&& 31) 16 (by decide)
  rw [Int.shiftRight_eq_div_pow] at h3
  unfold hi
  omega
theorem hi_rng (v : Int32) : -32768 ≤ (hi v).toInt ∧ (hi v).toInt ≤ 32767 := by
  rw [hi_int]
  have h1 := Int32.toInt_lt v
  have h2 := Int32.le_toInt v
  omega
theorem wh_iff (v : Int32) : (v &&& 65535) = 0 ↔ v.toInt % 65536 = 0 := by
  have h : v &&& 65535 = nI (v.toBitVec.toNat % 2 ^ 16) := pk_and v 16 (m := 65535) (by decide)
  rw [h]
  have e : v.toInt = v.toBitVec.toInt := rfl
  rw [e, BitVec.toInt_eq_toNat_cond]
  have hl := v.toBitVec.isLt
  constructor
  · intro z
    have z' : nI (v.toBitVec.toNat % 2 ^ 16) = nI 0 := z
    rw [nI_eq (by omega) (by omega)] at z'
    split <;> omega
  · intro z
    have z' : v.toBitVec.toNat % 2 ^ 16 = 0 := by
      split at z <;> omega
    rw [z']
    rfl
theorem wh_hi {v : Int32} (h : (v &&& 65535) = 0) : v.toInt = 65536 * (hi v).toInt := by
  rw [wh_iff] at h
  rw [hi_int]
  omega
theorem or_wh (x y : Int32) : ((x ||| y) &&& 65535) = 0 ↔ (x &&& 65535) = 0 ∧ (y &&& 65535) = 0 := by
  have e : ∀ z : Int32, z = 0 ↔ z.toBitVec = 0#32 := fun z => ⟨fun h => by rw [h]; rfl, fun h => Int32.toBitVec_inj.mp h⟩
  rw [e, e, e, Int32.toBitVec_and, Int32.toBitVec_or, Int32.toBitVec_and, Int32.toBitVec_and, BitVec.and_or_distrib_right]
  exact BitVec.or_eq_zero_iff
theorem isWhole_ok (a b c d e f : Int32) : m_X9_isWhole a b c d e f = some (bI (decide ((a &&& 65535) = 0 ∧ (b &&& 65535) = 0 ∧ (c &&& 65535) = 0 ∧ (d &&& 65535) = 0 ∧ (e &&& 65535) = 0 ∧ (f &&& 65535) = 0))) := by
  unfold m_X9_isWhole
  have key : ((((((a ||| b) ||| c) ||| d) ||| e) ||| f) &&& 65535) = 0 ↔ ((a &&& 65535) = 0 ∧ (b &&& 65535) = 0 ∧ (c &&& 65535) = 0 ∧ (d &&& 65535) = 0 ∧ (e &&& 65535) = 0 ∧ (f &&& 65535) = 0) := by
    rw [or_wh, or_wh, or_wh, or_wh, or_wh]
    constructor
    · rintro ⟨⟨⟨⟨⟨h1, h2⟩, h3⟩, h4⟩, h5⟩, h6⟩
      exact ⟨h1, h2, h3, h4, h5, h6⟩
    · rintro ⟨h1, h2, h3, h4, h5, h6⟩
      exact ⟨⟨⟨⟨⟨h1, h2⟩, h3⟩, h4⟩, h5⟩, h6⟩
  by_cases z : ((((((a ||| b) ||| c) ||| d) ||| e) ||| f) &&& 65535) = 0
  · rw [if_pos z, decide_eq_true (key.mp z)]
    rfl
  · rw [if_neg z, decide_eq_false (fun y => z (key.mpr y))]
    rfl
theorem lc_eq (x y : Int64) : lg_cmp x y = 0 ↔ x.toInt = y.toInt := by
  constructor
  · intro h
    have a1 := (lc_le x y).mp (by rw [h]; decide)
    have a2 := (lc_ge x y).mp (by rw [h]; decide)
    omega
  · intro h
    have e : x = y := Int64.toInt_inj.mp h
    rw [e]
    unfold lg_cmp
    simp
theorem fits_ok {x : Int64} {X : Int} (h : x.toInt = 65536 * X) : m_X9_fits x = some (bI (decide (-32768 ≤ X ∧ X ≤ 32767))) := by
  unfold m_X9_fits
  have e : (x.toInt32.toInt64).toInt = Int.bmod x.toInt 4294967296 := by
    rw [l_of, Int64.toInt_toInt32]
  have key : lg_cmp x x.toInt32.toInt64 = 0 ↔ (-32768 ≤ X ∧ X ≤ 32767) := by
    rw [lc_eq, e, h]
    have b1 := Int.bmod_lt (x := 65536 * X) (m := 4294967296) (by decide)
    have b2 := Int.le_bmod (x := 65536 * X) (m := 4294967296) (by decide)
    constructor
    · intro z
      rw [← z] at b1 b2
      omega
    · intro z
      symm
      apply Int.bmod_eq_of_le <;> omega
  by_cases z : lg_cmp x x.toInt32.toInt64 = 0
  · rw [if_pos z, decide_eq_true (key.mp z)]
    rfl
  · rw [if_neg z, decide_eq_false (fun y => z (key.mpr y))]
    rfl
theorem short_ok {x : Int64} {X : Int} (h : x.toInt = X) : m_X12_isShort x = some (bI (decide (-32768 ≤ X ∧ X ≤ 32767))) := by
  unfold m_X12_isShort
  have e1 : (-32768 : Int64).toInt = -32768 := by decide
  have e2 : (32767 : Int64).toInt = 32767 := by decide
  by_cases z1 : lg_cmp x (-32768) < 0
  · rw [if_pos z1]
    rw [lc_lt, h, e1] at z1
    rw [decide_eq_false (fun y => by omega)]
    rfl
  · rw [if_neg z1]
    rw [lc_lt, h, e1] at z1
    by_cases z2 : 0 < lg_cmp x 32767
    · rw [if_pos z2]
      rw [lc_gt, h, e2] at z2
      rw [decide_eq_false (fun y => by omega)]
      rfl
    · rw [if_neg z2]
      rw [lc_gt, h, e2] at z2
      rw [decide_eq_true ⟨by omega, by omega⟩]
      rfl
theorem ofi_tq {a c p q : Int32} {P Q : Int} (hp : p.toInt = 65536 * P) (hq : q.toInt = 65536 * Q) : tq a c p q = Int32.ofInt (a.toInt * P + c.toInt * Q) := by
  apply Int32.toInt_inj.mp
  rw [Int32.toInt_ofInt]
  unfold tq
  have hs : ∀ x : Int64, (x >>> ((16 : Int32).toInt64 &&& 63)).toInt = x.toInt / 65536 := by
    intro x
    have e : ((16 : Int32).toInt64 &&& 63) = 16 := by decide
    rw [e]
    have e2 : (x >>> (16 : Int64)).toInt = (x.toBitVec.sshiftRight 16).toInt := by
      show (x >>> (16 : Int64)).toBitVec.toInt = _
      rw [Int64.toBitVec_shiftRight]
      rfl
    rw [e2, BitVec.toInt_sshiftRight, Int.shiftRight_eq_div_pow]
    show x.toInt / _ = _
    omega
  rw [Int64.toInt_toInt32, hs]
  rw [Int64.toInt_add, Int64.toInt_add, Int64.toInt_mul, Int64.toInt_mul, l_of, l_of, l_of, l_of, hp, hq]
  have e3 : (32768 : Int64).toInt = 32768 := by decide
  rw [e3, Int.add_bmod_bmod, Int.bmod_add_bmod, Int.add_assoc, Int.bmod_add_bmod, ← Int.add_assoc]
  have e4 : a.toInt * (65536 * P) + c.toInt * (65536 * Q) + 32768 = 65536 * (a.toInt * P + c.toInt * Q) + 32768 := by
    rw [Int.mul_add, Int.mul_left_comm, Int.mul_left_comm c.toInt]
  rw [e4]
  generalize a.toInt * P + c.toInt * Q = Y
  have b := Int.bmod_emod (x := 65536 * Y + 32768) (m := 2 ^ 64)
  generalize hB : Int.bmod (65536 * Y + 32768) (2 ^ 64) = B at b
  have hd : ∃ k : Int, B = 65536 * Y + 32768 + 2 ^ 64 * k := by
    refine ⟨(B - (65536 * Y + 32768)) / 2 ^ 64, ?_⟩
    omega
  obtain ⟨k, hk⟩ := hd
  have h2 : B / 65536 = Y + 4294967296 * (65536 * k) := by omega
  rw [h2]
  show Int.bmod (Y + 4294967296 * (65536 * k)) 4294967296 = Int.bmod Y 4294967296
  unfold Int.bmod
  rw [show (Y + 4294967296 * (65536 * k)) % ((4294967296 : Nat) : Int) = Y % ((4294967296 : Nat) : Int) by omega]
theorem ofi_add (x y : Int) : Int32.ofInt (x + y) = Int32.ofInt x + Int32.ofInt y := Int32.ofInt_add x y
theorem ofi_mul (x y : Int) : Int32.ofInt (x * y) = Int32.ofInt x * Int32.ofInt y := Int32.ofInt_mul x y
theorem ofi_id (a : Int32) : Int32.ofInt a.toInt = a := Int32.ofInt_toInt a
theorem tq_w {a c p q : Int32} (hp : (p &&& 65535) = 0) (hq : (q &&& 65535) = 0) : tq a c p q = a * hi p + c * hi q := by
  rw [ofi_tq (wh_hi hp) (wh_hi hq), ofi_add, ofi_mul, ofi_mul, ofi_id, ofi_id, ofi_id, ofi_id]
theorem tq_x {a c p q : Int32} {P Q : Int} (hp : p.toInt = 65536 * P) (hq : q.toInt = 65536 * Q) : tq a c p q = a * Int32.ofInt P + c * Int32.ofInt Q := by
  rw [ofi_tq hp hq, ofi_add, ofi_mul, ofi_mul, ofi_id, ofi_id]
theorem tq_j {p1 p3 q1 q2 : Int32} (h1 : (p1 &&& 65535) = 0) (h3 : (p3 &&& 65535) = 0) (k1 : (q1 &&& 65535) = 0) (k2 : (q2 &&& 65535) = 0) (hf : -32768 ≤ (hi p1).toInt * (hi q1).toInt + (hi p3).toInt * (hi q2).toInt ∧ (hi p1).toInt * (hi q1).toInt + (hi p3).toInt * (hi q2).toInt ≤ 32767) : (tq p1 p3 q1 q2).toInt = 65536 * ((hi p1).toInt * (hi q1).toInt + (hi p3).toInt * (hi q2).toInt) := by
  rw [ofi_tq (wh_hi k1) (wh_hi k2), Int32.toInt_ofInt, wh_hi h1, wh_hi h3]
  have e : 65536 * (hi p1).toInt * (hi q1).toInt + 65536 * (hi p3).toInt * (hi q2).toInt = 65536 * ((hi p1).toInt * (hi q1).toInt + (hi p3).toInt * (hi q2).toInt) := by
    rw [Int.mul_add, Int.mul_assoc, Int.mul_assoc]
  rw [e]
  generalize (hi p1).toInt * (hi q1).toInt + (hi p3).toInt * (hi q2).toInt = X at hf
  show Int.bmod (65536 * X) 4294967296 = _
  apply Int.bmod_eq_of_le <;> omega
theorem ring_a (ta tc pa pb pc pd qa qb : Int32) : ta * (pa * qa + pc * qb) + tc * (pb * qa + pd * qb) = (ta * pa + tc * pb) * qa + (ta * pc + tc * pd) * qb := by grind
theorem ring_e (te ta tc pa pb pc pd pe pf qe qf : Int32) : te + (ta * (pa * qe + pc * qf + pe) + tc * (pb * qe + pd * qf + pf)) = te + (ta * pe + tc * pf) + ((ta * pa + tc * pb) * qe + (ta * pc + tc * pd) * qf) := by grind
