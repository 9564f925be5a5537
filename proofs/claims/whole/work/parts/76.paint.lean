theorem nI_tb (x : Int32) : x = nI x.toBitVec.toNat := by
  apply Int32.toBitVec_inj.mp
  show x.toBitVec = (Int32.ofNat x.toBitVec.toNat).toBitVec
  simp
theorem ush_n {n : Nat} (hn : n < 2 ^ 32) (k : Nat) (hk : k < 32) : ((nI n).toUInt32 >>> ((nI k).toUInt32 &&& Int32.toUInt32 31)).toInt32 = nI (n / 2 ^ k) := by
  refine pk_ushrN hn (nI k) k ?_
  have : ∀ j : Fin 32, (((nI j.val).toUInt32 &&& Int32.toUInt32 31).toBitVec % 32).toNat = j.val := by decide
  exact this ⟨k, hk⟩
theorem and255 {n : Nat} (hn : n < 2 ^ 32) : nI n &&& 255 = nI (n % 256) := pk_andN hn 8 (by decide)
theorem shl_n {n : Nat} (k : Nat) (hk : k < 32) (h : n * 2 ^ k < 2 ^ 32) : nI n <<< (nI k &&& 31) = nI (n * 2 ^ k) := by
  refine pk_shlN (nI k &&& 31) k ?_ h
  have : ∀ j : Fin 32, ((nI j.val &&& 31).toBitVec.smod 32).toNat = j.val := by decide
  exact this ⟨k, hk⟩
theorem or_n {a b k : Nat} (hb : b < 2 ^ k) (h : a * 2 ^ k + b < 2 ^ 32) : nI (a * 2 ^ k) ||| nI b = nI (a * 2 ^ k + b) := by
  apply Int32.toBitVec_inj.mp
  apply BitVec.eq_of_toNat_eq
  have e : ∀ m : Nat, (nI m).toBitVec = BitVec.ofNat 32 m := fun m => rfl
  rw [Int32.toBitVec_or, e, e, e, BitVec.toNat_or, BitVec.toNat_ofNat, BitVec.toNat_ofNat, BitVec.toNat_ofNat]
  have h1 : a * 2 ^ k < 2 ^ 32 := by omega
  have h2 : b < 2 ^ 32 := by omega
  rw [Nat.mod_eq_of_lt h1, Nat.mod_eq_of_lt h2, Nat.mod_eq_of_lt h]
  have := Nat.shiftLeft_add_eq_or_of_lt hb a
  rw [Nat.shiftLeft_eq] at this
  exact this.symm
theorem sshr_n {n : Nat} (hn : n < 2 ^ 32) (k : Nat) (hk : k ≤ 24) : (nI n >>> (nI k &&& 31)) &&& 255 = nI (n / 2 ^ k % 256) := by
  have hs : ((nI k &&& 31).toBitVec.smod 32).toNat = k := by
    have : ∀ j : Fin 32, ((nI j.val &&& 31).toBitVec.smod 32).toNat = j.val := by decide
    exact this ⟨k, by omega⟩
  rw [pk_and _ 8 (by decide)]
  congr 1
  have h1 := pk_shr (nI n) (nI k &&& 31) k hs
  generalize nI n >>> (nI k &&& 31) = y at h1 ⊢
  have hy : (y.toBitVec.toNat : Int) % 256 = y.toInt % 256 := by
    rw [show y.toInt = y.toBitVec.toInt from rfl, BitVec.toInt_eq_toNat_cond]
    split
    · rfl
    · have : (256 : Int) ∣ ((2 ^ 32 : Nat) : Int) := ⟨2 ^ 24, by decide⟩
      omega
  have hx : (nI n).toInt = if n < 2 ^ 31 then (n : Int) else (n : Int) - 2 ^ 32 := by
    rw [show (nI n).toInt = (nI n).toBitVec.toInt from rfl, show (nI n).toBitVec = BitVec.ofNat 32 n from rfl, BitVec.toInt_eq_toNat_cond, BitVec.toNat_ofNat, Nat.mod_eq_of_lt hn]
    by_cases q : n < 2 ^ 31
    · rw [if_pos q, if_pos (by omega)]
    · rw [if_neg q, if_neg (by omega)]
      rfl
  rw [hx, Int.shiftRight_eq_div_pow] at h1
  have h3 : y.toInt % 256 = ((n / 2 ^ k : Nat) : Int) % 256 := by
    rw [h1]
    by_cases q : n < 2 ^ 31
    · rw [if_pos q]
      first | rfl | rw [Int.natCast_ediv] | (rw [Int.natCast_ediv, Int.natCast_pow]; rfl)
    · rw [if_neg q]
      have hd : ((2 : Int) ^ 32) = 2 ^ k * (256 * 2 ^ (24 - k)) := by
        rw [show (256 : Int) = 2 ^ 8 from rfl, ← Int.pow_add, ← Int.pow_add, show k + (8 + (24 - k)) = 32 by omega]
      have hp : (0 : Int) < 2 ^ k := Int.pow_pos (by decide)
      rw [hd, Int.sub_eq_add_neg, ← Int.mul_neg]
      push_cast
      rw [Int.add_mul_ediv_left _ _ (by omega), ← Int.mul_neg, Int.add_mul_emod_self_left]
  rw [h3] at hy
  generalize n / 2 ^ k = b at hy ⊢
  generalize y.toBitVec.toNat = a at hy ⊢
  show a % 256 = b % 256
  omega
theorem per_n {m : Nat} (h : m < 2 ^ 30) : (nI m + 127) / 255 = nI ((m + 127) / 255) := by
  show (nI m + nI 127) / nI 255 = _
  rw [nI_add, pk_div (by omega) (by omega) (by omega)]
def pb (s t a : Nat) : Nat := (s * a + t * (255 - a) + 127) / 255
theorem pb_le {s t a : Nat} (hs : s ≤ 255) (ht : t ≤ 255) (ha : a ≤ 255) : pb s t a ≤ 255 := by
  unfold pb
  have h1 : s * a ≤ 255 * a := Nat.mul_le_mul_right a hs
  have h2 : t * (255 - a) ≤ 255 * (255 - a) := Nat.mul_le_mul_right _ ht
  have h3 : 255 * a + 255 * (255 - a) = 255 * 255 := by rw [← Nat.mul_add]; congr 1; omega
  omega
theorem pb_eq {s t a : Nat} (hs : s ≤ 255) (ht : t ≤ 255) (ha : a ≤ 255) : (((nI s * nI a) + (nI t * (255 - nI a))) + 127) / 255 = nI (pb s t a) := by
  have h1 : s * a ≤ 255 * 255 := Nat.mul_le_mul hs ha
  have h2 : t * (255 - a) ≤ 255 * 255 := Nat.mul_le_mul ht (by omega)
  rw [show (255 : Int32) - nI a = nI (255 - a) from pk_sub (a := 255) ha, pk_mul, pk_mul, nI_add, per_n (by omega)]
  rfl
def lb (s t a w : Nat) : Nat := if w = 2 then pb ((s * t + 127) / 255) t a else if w = 3 then min 255 (t + (s * a + 127) / 255) else if w = 4 then pb (if t ≤ s then s - t else t - s) t a else pb s t a
theorem lb_le {s t a w : Nat} (hs : s ≤ 255) (ht : t ≤ 255) (ha : a ≤ 255) : lb s t a w ≤ 255 := by
  have h1 : s * t ≤ 255 * 255 := Nat.mul_le_mul hs ht
  unfold lb
  split
  · exact pb_le (by omega) ht ha
  split
  · exact Nat.min_le_left _ _
  split
  · refine pb_le ?_ ht ha
    split <;> omega
  · exact pb_le hs ht ha
theorem laidByte_n {s t a w : Nat} (hs : s ≤ 255) (ht : t ≤ 255) (ha : a ≤ 255) (hw : w ≤ 4) : m_X4_laidByte (nI s) (nI t) (nI a) (nI w) = some (nI (lb s t a w)) := by
  have h1 : s * t ≤ 255 * 255 := Nat.mul_le_mul hs ht
  have h2 : s * a ≤ 255 * 255 := Nat.mul_le_mul hs ha
  unfold m_X4_laidByte m_X4_per255 lb
  simp only [bd1_s, nm_s]
  by_cases w2 : w = 2
  · subst w2
    rw [if_pos (show nI 2 = 2 from rfl), if_pos rfl, pk_mul, per_n (by omega), pb_eq (by omega) ht ha]
  rw [if_neg (show ¬ nI w = (2 : Int32) from fun e => w2 ((nI_eq (b := 2) (by omega) (by decide)).mp e)), if_neg w2]
  by_cases w3 : w = 3
  · subst w3
    rw [if_pos (show nI 3 = 3 from rfl), if_pos rfl, pk_mul, per_n (by omega), nI_add]
    by_cases q : t + (s * a + 127) / 255 < 255
    · rw [if_pos (show nI (t + (s * a + 127) / 255) < (255 : Int32) from nI_lt (b := 255) q (by decide)), Nat.min_eq_right (by omega)]
    · rw [if_neg (show ¬ nI (t + (s * a + 127) / 255) < (255 : Int32) from nI_nlt (b := 255) (by omega) (by omega)), Nat.min_eq_left (by omega)]
      rfl
  rw [if_neg (show ¬ nI w = (3 : Int32) from fun e => w3 ((nI_eq (b := 3) (by omega) (by decide)).mp e)), if_neg w3]
  by_cases w4 : w = 4
  · subst w4
    rw [if_pos (show nI 4 = 4 from rfl), if_pos rfl]
    by_cases q : t ≤ s
    · rw [pk_sub q, if_pos (show (0 : Int32) ≤ nI (s - t) from nI_pos' (by omega)), if_pos q, pb_eq (by omega) ht ha]
    · have hneg : ¬ (0 : Int32) ≤ nI s - nI t := Int32.not_le.mpr (pk_sneg (by omega) (by omega))
      rw [if_neg hneg, if_neg q, show (0 : Int32) - (nI s - nI t) = nI (t - s) by rw [← pk_sub (show s ≤ t by omega)]; rw [show (0 : Int32) - (nI s - nI t) = nI t - nI s by rw [Int32.zero_sub, Int32.neg_sub]], pb_eq (by omega) ht ha]
  rw [if_neg (show ¬ nI w = (4 : Int32) from fun e => w4 ((nI_eq (b := 4) (by omega) (by decide)).mp e)), if_neg w4, pb_eq hs ht ha]
theorem rlaid_n {s t a w : Nat} (hs : s ≤ 255) (ht : t ≤ 255) (ha : a ≤ 255) (hw : w ≤ 4) : m_X12_laid (nI s) (nI t) (nI a) (nI w) = some (nI (lb s t a w)) := by
  have h1 : s * t ≤ 255 * 255 := Nat.mul_le_mul hs ht
  have h2 : s * a ≤ 255 * 255 := Nat.mul_le_mul hs ha
  unfold m_X12_laid m_X12_part lb
  simp only [bd1_s, nm_s, jn_s]
  by_cases w3 : w = 3
  · subst w3
    rw [if_pos (show nI 3 = 3 from rfl), if_neg (show ¬ (3 : Nat) = 2 by decide), if_pos (show (3 : Nat) = 3 from rfl), pk_mul, per_n (by omega), nI_add]
    by_cases q : t + (s * a + 127) / 255 ≤ 255
    · rw [if_pos (show nI (t + (s * a + 127) / 255) ≤ (255 : Int32) from nI_le (b := 255) q (by decide)), Nat.min_eq_right q]
    · rw [if_neg (show ¬ nI (t + (s * a + 127) / 255) ≤ (255 : Int32) from nI_ge (a := 255) (by omega) (by omega)), Nat.min_eq_left (by omega)]
      rfl
  rw [if_neg (show ¬ nI w = (3 : Int32) from fun e => w3 ((nI_eq (b := 3) (by omega) (by decide)).mp e)), if_neg w3]
  by_cases w2 : w = 2
  · subst w2
    rw [if_pos (show nI 2 = 2 from rfl), if_pos rfl, pk_mul, per_n (by omega), pb_eq (by omega) ht ha]
  rw [if_neg (show ¬ nI w = (2 : Int32) from fun e => w2 ((nI_eq (b := 2) (by omega) (by decide)).mp e)), if_neg w2]
  by_cases w4 : w = 4
  · subst w4
    rw [if_pos (show nI 4 = 4 from rfl), if_pos rfl]
    by_cases q : s ≤ t
    · rw [if_pos (nI_le q (by omega)), pk_sub q, pb_eq (by omega) ht ha]
      by_cases q2 : t ≤ s
      · rw [if_pos q2, show s = t by omega]
      · rw [if_neg q2]
    · rw [if_neg (nI_ge (by omega) (by omega)), pk_sub (by omega), pb_eq (by omega) ht ha, if_pos (by omega)]
  rw [if_neg (show ¬ nI w = (4 : Int32) from fun e => w4 ((nI_eq (b := 4) (by omega) (by decide)).mp e)), if_neg w4, pb_eq hs ht ha]
def pk4 (a b c d : Nat) : Nat := ((a * 256 + b) * 256 + c) * 256 + d
theorem paint_eq (p q : Int32) {w : Nat} (hw : w ≤ 4) : ∃ r : Int32, m_X4_laid p q (nI w) = some r ∧ m_X12_paint p q (nI w) = some r := by
  obtain ⟨n, hn, rfl⟩ : ∃ n : Nat, n < 2 ^ 32 ∧ p = nI n := ⟨p.toBitVec.toNat, p.toBitVec.isLt, nI_tb p⟩
  obtain ⟨m, hm, rfl⟩ : ∃ n : Nat, n < 2 ^ 32 ∧ q = nI n := ⟨q.toBitVec.toNat, q.toBitVec.isLt, nI_tb q⟩
  by_cases w1 : w = 1
  · subst w1
    exact ⟨nI n, if_pos rfl, if_pos rfl⟩
  have hw1 : ¬ nI w = (1 : Int32) := fun e => w1 ((nI_eq (b := 1) (by omega) (by decide)).mp e)
  have ha : n / 2 ^ 24 ≤ 255 := by omega
  have hb : m / 2 ^ 24 ≤ 255 := by omega
  have e24 : ∀ {n : Nat}, n < 2 ^ 32 → ((nI n).toUInt32 >>> ((24 : Int32).toUInt32 &&& Int32.toUInt32 31)).toInt32 = nI (n / 2 ^ 24) := fun h => ush_n h 24 (by decide)
  have e16 : ∀ {n : Nat}, n < 2 ^ 32 → ((nI n).toUInt32 >>> ((16 : Int32).toUInt32 &&& Int32.toUInt32 31)).toInt32 = nI (n / 2 ^ 16) := fun h => ush_n h 16 (by decide)
  have e8 : ∀ {n : Nat}, n < 2 ^ 32 → ((nI n).toUInt32 >>> ((8 : Int32).toUInt32 &&& Int32.toUInt32 31)).toInt32 = nI (n / 2 ^ 8) := fun h => ush_n h 8 (by decide)
  generalize hA : n / 2 ^ 24 = A at *
  generalize hB : m / 2 ^ 24 = B at *
  have r1 := lb_le (w := w) (show n / 2 ^ 16 % 256 ≤ 255 by omega) (show m / 2 ^ 16 % 256 ≤ 255 by omega) ha
  have r2 := lb_le (w := w) (show n / 2 ^ 8 % 256 ≤ 255 by omega) (show m / 2 ^ 8 % 256 ≤ 255 by omega) ha
  have r3 := lb_le (w := w) (show n % 256 ≤ 255 by omega) (show m % 256 ≤ 255 by omega) ha
  have l1 := laidByte_n (show n / 2 ^ 16 % 256 ≤ 255 by omega) (show m / 2 ^ 16 % 256 ≤ 255 by omega) ha hw
  have l2 := laidByte_n (show n / 2 ^ 8 % 256 ≤ 255 by omega) (show m / 2 ^ 8 % 256 ≤ 255 by omega) ha hw
  have l3 := laidByte_n (show n % 256 ≤ 255 by omega) (show m % 256 ≤ 255 by omega) ha hw
  have k1 := rlaid_n (show n / 2 ^ 16 % 256 ≤ 255 by omega) (show m / 2 ^ 16 % 256 ≤ 255 by omega) ha hw
  have k2 := rlaid_n (show n / 2 ^ 8 % 256 ≤ 255 by omega) (show m / 2 ^ 8 % 256 ≤ 255 by omega) ha hw
  have k3 := rlaid_n (show n % 256 ≤ 255 by omega) (show m % 256 ≤ 255 by omega) ha hw
  generalize lb (n / 2 ^ 16 % 256) (m / 2 ^ 16 % 256) A w = R1 at *
  generalize lb (n / 2 ^ 8 % 256) (m / 2 ^ 8 % 256) A w = R2 at *
  generalize lb (n % 256) (m % 256) A w = R3 at *
  obtain ⟨C, hC, hCx, hCr⟩ : ∃ C : Nat, C ≤ 255 ∧ m_X4_laidByte 255 (nI B) (nI A) (if nI w = (3 : Int32) then 3 else 0) = some (nI C) ∧ ∀ K : Int32 → Option Int32, (if (nI w = (3 : Int32) : Prop) then (if ((nI A + nI B) ≤ (255 : Int32) : Prop) then K (nI A + nI B) else K 255) else bd1 (m_X12_part ((255 * nI A) + (nI B * (255 - nI A)))) (fun (r_15 : Int32) => K r_15)) = K (nI C) := by
    by_cases w3 : w = 3
    · subst w3
      refine ⟨lb 255 B A 3, lb_le (by omega) hb ha, ?_, fun K => ?_⟩
      · rw [if_pos (show nI 3 = 3 from rfl)]
        exact laidByte_n (s := 255) (w := 3) (by omega) hb ha (by omega)
      · rw [if_pos (show nI 3 = 3 from rfl), nI_add]
        have e : lb 255 B A 3 = min 255 (A + B) := by
          unfold lb
          rw [if_neg (by decide), if_pos rfl, show (255 * A + 127) / 255 = A by omega, Nat.add_comm]
        rw [e]
        by_cases q : A + B ≤ 255
        · rw [if_pos (show nI (A + B) ≤ (255 : Int32) from nI_le (b := 255) q (by decide)), Nat.min_eq_right q]
        · rw [if_neg (show ¬ nI (A + B) ≤ (255 : Int32) from nI_ge (a := 255) (by omega) (by omega)), Nat.min_eq_left (by omega)]
          rfl
    · have hw3 : ¬ nI w = (3 : Int32) := fun e => w3 ((nI_eq (b := 3) (by omega) (by decide)).mp e)
      refine ⟨lb 255 B A 0, lb_le (by omega) hb ha, ?_, fun K => ?_⟩
      · rw [if_neg hw3]
        exact laidByte_n (s := 255) (w := 0) (by omega) hb ha (by omega)
      · rw [if_neg hw3]
        unfold m_X12_part
        simp only [bd1_s]
        rw [show (255 : Int32) * nI A = nI 255 * nI A from rfl, pb_eq (s := 255) (by omega) hb ha]
        rfl
  refine ⟨nI (pk4 C R1 R2 R3), ?_, ?_⟩
  · unfold m_X4_laid
    rw [if_neg hw1]
    simp only [nm_s, jn_s, e24 hn, e24 hm, e16 hn, e16 hm, e8 hn, e8 hm, and255 (show n / 2 ^ 16 < 2 ^ 32 by omega), and255 (show m / 2 ^ 16 < 2 ^ 32 by omega), and255 (show n / 2 ^ 8 < 2 ^ 32 by omega), and255 (show m / 2 ^ 8 < 2 ^ 32 by omega), and255 hn, and255 hm, hA, hB, l1, l2, l3, bd1_s]
    have hsel : ∀ F : Int32 → Option Int32, (if (nI w = (3 : Int32) : Prop) then F 3 else F 0) = F (if nI w = (3 : Int32) then 3 else 0) := fun F => by split <;> rfl
    rw [hsel (fun s => bd1 (m_X4_laidByte 255 (nI B) (nI A) s) _), hCx]
    simp only [bd1_s]
    rw [show nI C <<< ((24 : Int32) &&& 31) = nI (C * 2 ^ 24) from shl_n 24 (by decide) (by omega), show nI R1 <<< ((16 : Int32) &&& 31) = nI (R1 * 2 ^ 16) from shl_n 16 (by decide) (by omega), show nI R2 <<< ((8 : Int32) &&& 31) = nI (R2 * 2 ^ 8) from shl_n 8 (by decide) (by omega)]
    rw [or_n (show R1 * 2 ^ 16 < 2 ^ 24 by omega) (by omega), show C * 2 ^ 24 + R1 * 2 ^ 16 = (C * 256 + R1) * 2 ^ 16 by omega, or_n (show R2 * 2 ^ 8 < 2 ^ 16 by omega) (by omega), show (C * 256 + R1) * 2 ^ 16 + R2 * 2 ^ 8 = ((C * 256 + R1) * 256 + R2) * 2 ^ 8 by omega, or_n (show R3 < 2 ^ 8 by omega) (by omega)]
    rfl
  · unfold m_X12_paint
    rw [if_neg hw1]
    simp only [nm_s, jn_s, e24 hn, e24 hm, hA, hB]
    rw [hCr (fun s => lp_X12_paint_73 (nI n) (nI m) (nI A) (nI w) FU s 16)]
    have st : ∀ (fu : Nat) (c k : Nat) (r : Nat), k ≤ 24 → c < 2 ^ 24 → r ≤ 255 → m_X12_laid (nI (n / 2 ^ k % 256)) (nI (m / 2 ^ k % 256)) (nI A) (nI w) = some (nI r) → lp_X12_paint_73 (nI n) (nI m) (nI A) (nI w) (fu + 1) (nI c) (nI k) = lp_X12_paint_73 (nI n) (nI m) (nI A) (nI w) fu (nI (c * 256 + r)) (nI k + (-8)) := by
      intro fu c k r hk hc hr hl
      rw [lp_X12_paint_73, if_neg (nI_pos (by omega)), sshr_n hn k hk, sshr_n hm k hk, hl]
      simp only [bd1_s, nm_s]
      rw [show nI c <<< ((8 : Int32) &&& 31) = nI (c * 2 ^ 8) from shl_n 8 (by decide) (by omega), or_n (show r < 2 ^ 8 by omega) (by omega)]
    rw [show lp_X12_paint_73 (nI n) (nI m) (nI A) (nI w) FU (nI C) 16 = lp_X12_paint_73 (nI n) (nI m) (nI A) (nI w) (999996 + 1 + 1 + 1 + 1) (nI C) (nI 16) from rfl]
    rw [st _ C 16 R1 (by omega) (by omega) r1 k1, show nI 16 + (-8) = nI 8 from rfl, st _ _ 8 R2 (by omega) (by omega) r2 k2, show nI 8 + (-8) = nI 0 from rfl, st _ _ 0 R3 (by omega) (by omega) r3 (by rw [Nat.pow_zero, Nat.div_one, Nat.div_one]; exact k3), lp_X12_paint_73, if_pos (by decide)]
    rfl
