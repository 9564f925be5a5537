theorem inb_of {i : Int32} {n : Nat} (k : Nat) (e : i = nI k) (h : k < n) (hn : n < 2 ^ 31) : inb i n = true := by rw [e]; exact inb_s h hn
theorem rb_step (c : Int32) (k : Nat) (hk : 1 ≤ k) (hk7 : k ≤ 6) (v : Int32) (h7 : ¬ c = 7) (K : Int32 → Option Int32) :
    jn (if (c = 9 : Prop) then (bd1 (m_X12_within v 0 1) (fun (r_29 : Int32) => K r_29)) else (if (c = 11 : Prop) then (bd1 (m_X12_within v 0 4) (fun (r_27 : Int32) => K r_27)) else (if (c = 13 : Prop) then (if (3 ≤ nI k : Prop) then (bd1 (m_X12_within v 0 1000000) (fun (r_22 : Int32) => K r_22)) else (jn (K 0) (fun (K120_24 : Option (Int32)) => if (v ≤ (-1000000) : Prop) then (K120_24) else (if (1000000 ≤ v : Prop) then (K120_24) else (K 1))))) else (K 1)))) (fun (K58_17 : Option (Int32)) => if (c < 4 : Prop) then (K58_17) else (if (8 < c : Prop) then (K58_17) else (jn (K 0) (fun (K54_33 : Option (Int32)) => if (v ≤ (-67108864) : Prop) then (K54_33) else (if (67108864 ≤ v : Prop) then (K54_33) else (K 1)))))) = K (bI (bndk c k v)) := by
  have hf : ∀ B : Int32, (if (v ≤ (-B) : Prop) then (K 0) else (if (B ≤ v : Prop) then (K 0) else (K 1))) = K (bI (far B v)) := by
    intro B
    unfold far bI
    by_cases h1 : v ≤ -B
    · simp [h1]
    · by_cases h2 : B ≤ v
      · have : ¬ v < B := Int32.not_lt.mpr h2
        simp [h1, h2, this]
      · have : v < B := by
          rcases Classical.em (v < B) with q | q
          · exact q
          · exact absurd (Int32.not_lt.mp q) h2
        simp [h1, h2, this]
  simp only [jn_s, within_inn, bd1_s]
  by_cases h : c < 4 ∨ 8 < c
  · have e1 : (if (c < 4 : Prop) then (if (c = 9 : Prop) then K (bI (inn 0 1 v)) else (if (c = 11 : Prop) then K (bI (inn 0 4 v)) else (if (c = 13 : Prop) then (if (3 ≤ nI k : Prop) then K (bI (inn 0 1000000 v)) else (if (v ≤ (-1000000) : Prop) then (K 0) else (if (1000000 ≤ v : Prop) then (K 0) else (K 1)))) else (K 1)))) else (if (8 < c : Prop) then (if (c = 9 : Prop) then K (bI (inn 0 1 v)) else (if (c = 11 : Prop) then K (bI (inn 0 4 v)) else (if (c = 13 : Prop) then (if (3 ≤ nI k : Prop) then K (bI (inn 0 1000000 v)) else (if (v ≤ (-1000000) : Prop) then (K 0) else (if (1000000 ≤ v : Prop) then (K 0) else (K 1)))) else (K 1)))) else (if (v ≤ (-67108864) : Prop) then (K 0) else (if (67108864 ≤ v : Prop) then (K 0) else (K 1))))) = (if (c = 9 : Prop) then K (bI (inn 0 1 v)) else (if (c = 11 : Prop) then K (bI (inn 0 4 v)) else (if (c = 13 : Prop) then (if (3 ≤ nI k : Prop) then K (bI (inn 0 1000000 v)) else (if (v ≤ (-1000000) : Prop) then (K 0) else (if (1000000 ≤ v : Prop) then (K 0) else (K 1)))) else (K 1)))) := by
      by_cases q : c < 4
      · rw [if_pos q]
      · rw [if_neg q, if_pos (h.resolve_left q)]
    rw [e1]
    have n4 : ¬ c = 4 := fun e => by rw [e] at h; revert h; decide
    have n5 : ¬ c = 5 := fun e => by rw [e] at h; revert h; decide
    have n6 : ¬ c = 6 := fun e => by rw [e] at h; revert h; decide
    have n8 : ¬ c = 8 := fun e => by rw [e] at h; revert h; decide
    unfold bndk
    rw [if_neg (show ¬ (c = 4 ∨ c = 5 ∨ c = 6 ∨ c = 8) from fun q => q.elim n4 (fun q => q.elim n5 (fun q => q.elim n6 n8)))]
    by_cases h9 : c = 9
    · rw [if_pos h9, if_pos h9]
    rw [if_neg h9, if_neg h9]
    by_cases h11 : c = 11
    · rw [if_pos h11, if_pos h11]
    rw [if_neg h11, if_neg h11]
    by_cases h13 : c = 13
    · rw [if_pos h13, if_pos h13]
      by_cases q : k < 3
      · rw [if_pos q, if_neg (show ¬ (3 : Int32) ≤ nI k from nI_ge (b := 3) q (by decide))]
        exact hf 1000000
      · rw [if_neg q, if_pos (show (3 : Int32) ≤ nI k from nI_le (a := 3) (by omega) (by omega))]
    rw [if_neg h13, if_neg h13]
    rfl
  · have q1 : ¬ c < 4 := fun q => h (Or.inl q)
    have q2 : ¬ 8 < c := fun q => h (Or.inr q)
    rw [if_neg q1, if_neg q2]
    have hc : c = 4 ∨ c = 5 ∨ c = 6 ∨ c = 8 := by
      rcases cmd_cases (c := c) (fun q => q1 (by rw [Int32.lt_iff_toInt_lt] at q ⊢; have e1 : (1 : Int32).toInt = 1 := rfl; have e4 : (4 : Int32).toInt = 4 := rfl; omega)) (by have q3 := Int32.not_lt.mp q2; rw [Int32.le_iff_toInt_le] at q3 ⊢; have e1 : (8 : Int32).toInt = 8 := rfl; have e4 : (14 : Int32).toInt = 14 := rfl; omega) with e | e | e | e | e | e | e | e | e | e | e | e | e | e
      · exact absurd (by rw [e]; decide) q1
      · exact absurd (by rw [e]; decide) q1
      · exact absurd (by rw [e]; decide) q1
      · exact Or.inl e
      · exact Or.inr (Or.inl e)
      · exact Or.inr (Or.inr (Or.inl e))
      · exact absurd e h7
      · exact Or.inr (Or.inr (Or.inr e))
      · exact absurd (by rw [e]; decide) q2
      · exact absurd (by rw [e]; decide) q2
      · exact absurd (by rw [e]; decide) q2
      · exact absurd (by rw [e]; decide) q2
      · exact absurd (by rw [e]; decide) q2
      · exact absurd (by rw [e]; decide) q2
    unfold bndk
    rw [if_pos hc]
    exact hf 67108864
theorem rbounds_go (wd : Nat → Int32) {p : Nat} (hp : p < 4400) : ∀ (fu k : Nat), 1 ≤ k → k ≤ cl (wd p) → cl (wd p) < k + fu → lp_X12_areBounds_5 (wd p) (nI p) wd fu (bI (bnd wd p (k - 1))) (nI k) = some (bI (bnd wd p (cl (wd p) - 1))) := by
  intro fu
  induction fu with
  | zero => intro k h1 h2 h3; omega
  | succ fu ih =>
    intro k h1 h2 h3
    have hcl := cl_le (wd p)
    rw [lp_X12_areBounds_5, more_cl]
    simp only [bd1_s]
    by_cases e : k = cl (wd p)
    · rw [if_pos (nI_lt (by omega) (by omega)), e]
    · rw [if_neg (nI_nlt (by omega) (by omega)), nI_add, inb_s (show p + k < 4500 by omega) (by omega)]
      simp only [gd_s, nm_s, nI_clamp (show p + k < 2 ^ 31 by omega)]
      have h7 : ¬ wd p = 7 := fun q => by
        have : cl (wd p) = 1 := by rw [q]; rfl
        omega
      rw [show ∀ (K1 : Int32 → Option Int32) (B : (Int32 → Option Int32) → Option Int32), jn K1 B = B K1 from fun _ _ => rfl]
      rw [rb_step (wd p) k h1 (by omega) (wd (p + k)) h7]
      simp only [jn_s, nI_1]
      have hb : bnd wd p k = (bnd wd p (k - 1) && bndk (wd p) k (wd (p + k))) := by
        obtain ⟨j, rfl⟩ : ∃ j, k = j + 1 := ⟨k - 1, by omega⟩
        rfl
      have ih' := ih (k + 1) (by omega) (by omega) (by omega)
      rw [show k + 1 - 1 = k by omega, hb] at ih'
      rw [← ih']
      cases bnd wd p (k - 1) <;> cases bndk (wd p) k (wd (p + k)) <;> rfl
theorem rbounds_ok (wd : Nat → Int32) {p : Nat} (hp : p < 4400) : m_X12_areBounds wd (nI p) (wd p) = some (bI (bnd wd p (cl (wd p) - 1))) := by
  unfold m_X12_areBounds
  have hcl := cl_le (wd p)
  have hcg := cl_ge (wd p)
  exact rbounds_go wd hp FU 1 (by omega) hcg (by show cl (wd p) < 1 + 1000000; omega)
theorem fw_bnd {f : Nat → Int32} {n p : Nat} (hw : fw f n p = 0) : bnd f p (cl (f p) - 1) = true := by
  unfold fw at hw
  by_cases h1 : f p < 1 ∨ 14 < f p
  · rw [if_pos h1] at hw; omega
  rw [if_neg h1] at hw
  by_cases h2 : n < p + cl (f p)
  · rw [if_pos h2] at hw; omega
  rw [if_neg h2] at hw
  cases h3 : bnd f p (cl (f p) - 1) with
  | true => rfl
  | false => rw [if_pos h3] at hw; omega
theorem linesOf_1 {c : Int32} (h : c = 5 ∨ c = 7) : m_X12_linesOf c = some 1 := by rcases h with rfl | rfl <;> rfl
set_option maxHeartbeats 4000000 in
theorem rv_step {n : Nat} (hn : n ≤ 1500) {sz wd : Nat → Int32} (hs : sz 0 = nI n) (K : Int32 → Int32 → Int32 → Option (Int32 × Int32 × Int32 × Int32 × Int32 × (Nat → Int32) × (Nat → Int32) × (Nat → Int32) × (Nat → Int32) × (Nat → Int32) × (Nat → Int32))) {fu p o k : Nat} {b : Bool} (hlt : p < n) (hw : fw wd n p = 0) (ho : o ≤ 8) (hk : k ≤ 300) :
    ((ord (wd p) o k b).1 = 0 ∧ lp_X12_verify_12 sz K wd (fu + 1) (nI p) (nI o) (nI k) (bI b) 0 = lp_X12_verify_12 sz K wd fu (nI (p + cl (wd p))) (nI (ord (wd p) o k b).2.1) (nI (ord (wd p) o k b).2.2.1) (bI (ord (wd p) o k b).2.2.2) 0) ∨
    ((ord (wd p) o k b).1 ≠ 0 ∧ ∃ x y z : Int32, lp_X12_verify_12 sz K wd (fu + 1) (nI p) (nI o) (nI k) (bI b) 0 = lp_X12_verify_12 sz K wd fu (nI p) x y z (nI (ord (wd p) o k b).1)) := by
  obtain ⟨hlen, h1, h2⟩ := fw_len hw
  have hb := fw_bnd hw
  have hcg := cl_ge (wd p)
  have hcl := cl_le (wd p)
  rw [lp_X12_verify_12]
  simp only [inb_0_3, gd_s, nm_s, tn_0, hs, inb_s (show p < 4500 by omega) (show 4500 < 2 ^ 31 by decide), nI_clamp (show p < 2 ^ 31 by omega), more_cl, bd1_s, rbounds_ok wd (show p < 4400 by omega), hb]
  rw [if_neg (nI_ge hlt (by omega)), if_pos trivial]
  simp only [jn_s]
  rw [if_neg h1, if_pos h2, nI_add, if_pos (nI_lt (show p + (cl (wd p) - 1) < n by omega) (by omega)), if_neg (show ¬ bI true = 0 by decide)]
  have hp1 : nI p + (1 + nI (cl (wd p) - 1)) = nI (p + cl (wd p)) := by
    show nI p + (nI 1 + nI (cl (wd p) - 1)) = _
    rw [nI_add, nI_add, show p + (1 + (cl (wd p) - 1)) = p + cl (wd p) by omega]
  have hp0 : nI p + 0 = nI p := nI_add p 0
  simp only [hp1, hp0]
  clear hb hw hlen
  generalize wd p = c at *
  have q8 : nI o = (8 : Int32) ↔ o = 8 := nI_eq (b := 8) (by omega) (by decide)
  have q0 : nI o = (0 : Int32) ↔ o = 0 := nI_eq (b := 0) (by omega) (by decide)
  have k0 : nI k + 0 = nI k := nI_add k 0
  have k1 : nI k + 1 = nI (k + 1) := nI_add k 1
  have k4 : nI k + 4 = nI (k + 4) := nI_add k 4
  have k8 : nI k + 8 = nI (k + 8) := nI_add k 8
  have o0 : nI o + 0 = nI o := nI_add o 0
  have o1 : nI o + 1 = nI (o + 1) := nI_add o 1
  have le300 : ∀ m : Nat, m ≤ 400 → ((nI m ≤ (300 : Int32)) ↔ m ≤ 300) := fun m hm => nI_leI (b := 300) (by omega) (by decide)
  have z0 : (0 : Int32) ≤ 300 := by decide
  have f7 : ¬ (7 : Int32) ≤ 0 := by decide
  have f6 : ¬ (6 : Int32) ≤ 0 := by decide
  have f5 : ¬ (5 : Int32) ≤ 0 := by decide
  have f4 : ¬ (4 : Int32) ≤ 0 := by decide
  have lkk := (le300 k (by omega)).mpr hk
  have nle : ∀ m : Nat, m ≤ 400 → ¬ m ≤ 300 → ¬ nI m ≤ (300 : Int32) := fun m hm h q => h ((le300 m hm).mp q)
  rcases cmd_cases h1 h2 with rfl | rfl | rfl | rfl | rfl | rfl | rfl | rfl | rfl | rfl | rfl | rfl | rfl | rfl
  · by_cases q : o = 8
    · have e8 : nI o = (8 : Int32) := q8.mpr q
      have e9 : ¬ o + 1 ≤ 8 := by omega
      right
      refine ⟨by simp (decide := true) only [ord, bI, m_X12_linesOf, bd1_s, if_true, if_false, k0, k1, k4, k8, o0, o1, lkk, z0, f7, f6, f5, f4, or_true, true_or, or_false, false_or, or_self, and_self, and_true, true_and, ne_eq, not_true, not_false_iff, Bool.false_eq_true, Bool.true_eq_false, e9], nI o, nI k, bI b, ?_⟩
      simp (decide := true) only [ord, bI, m_X12_linesOf, bd1_s, if_true, if_false, k0, k1, k4, k8, o0, o1, lkk, z0, f7, f6, f5, f4, or_true, true_or, or_false, false_or, or_self, and_self, and_true, true_and, ne_eq, not_true, not_false_iff, Bool.false_eq_true, Bool.true_eq_false, e8, e9]
      rfl
    · have e8 : ¬ nI o = (8 : Int32) := fun h => q (q8.mp h)
      have e9 : o + 1 ≤ 8 := by omega
      left
      cases b <;> simp (decide := true) only [ord, bI, m_X12_linesOf, bd1_s, if_true, if_false, k0, k1, k4, k8, o0, o1, lkk, z0, f7, f6, f5, f4, or_true, true_or, or_false, false_or, or_self, and_self, and_true, true_and, ne_eq, not_true, not_false_iff, Bool.false_eq_true, Bool.true_eq_false, e8, e9] <;> first | rfl | exact ⟨trivial, rfl⟩
  · by_cases q : o = 0
    · have e8 : nI o = (0 : Int32) := q0.mpr q
      right
      refine ⟨by simp (decide := true) only [ord, bI, m_X12_linesOf, bd1_s, if_true, if_false, k0, k1, k4, k8, o0, o1, lkk, z0, f7, f6, f5, f4, or_true, true_or, or_false, false_or, or_self, and_self, and_true, true_and, ne_eq, not_true, not_false_iff, Bool.false_eq_true, Bool.true_eq_false, q], nI o, nI k, bI b, ?_⟩
      simp (decide := true) only [ord, bI, m_X12_linesOf, bd1_s, if_true, if_false, k0, k1, k4, k8, o0, o1, lkk, z0, f7, f6, f5, f4, or_true, true_or, or_false, false_or, or_self, and_self, and_true, true_and, ne_eq, not_true, not_false_iff, Bool.false_eq_true, Bool.true_eq_false, e8, q]
      rfl
    · have e8 : ¬ nI o = (0 : Int32) := fun h => q (q0.mp h)
      have om : nI o + -1 = nI (o - 1) := sb_m1 (by omega)
      left
      cases b <;> simp (decide := true) only [ord, bI, m_X12_linesOf, bd1_s, if_true, if_false, k0, k1, k4, k8, o0, o1, lkk, z0, f7, f6, f5, f4, or_true, true_or, or_false, false_or, or_self, and_self, and_true, true_and, ne_eq, not_true, not_false_iff, Bool.false_eq_true, Bool.true_eq_false, e8, q, om] <;> first | rfl | exact ⟨trivial, rfl⟩
  · left
    cases b <;> simp (decide := true) only [ord, bI, m_X12_linesOf, bd1_s, if_true, if_false, k0, k1, k4, k8, o0, o1, lkk, z0, f7, f6, f5, f4, or_true, true_or, or_false, false_or, or_self, and_self, and_true, true_and, ne_eq, not_true, not_false_iff, Bool.false_eq_true, Bool.true_eq_false, h1] <;> first | rfl | exact ⟨trivial, rfl⟩
  · left
    cases b <;> simp (decide := true) only [ord, bI, m_X12_linesOf, bd1_s, if_true, if_false, k0, k1, k4, k8, o0, o1, lkk, z0, f7, f6, f5, f4, or_true, true_or, or_false, false_or, or_self, and_self, and_true, true_and, ne_eq, not_true, not_false_iff, Bool.false_eq_true, Bool.true_eq_false, h1] <;> first | rfl | exact ⟨trivial, rfl⟩
  · cases b with
    | false =>
      right
      refine ⟨by simp (decide := true) only [ord, bI, m_X12_linesOf, bd1_s, if_true, if_false, k0, k1, k4, k8, o0, o1, lkk, z0, f7, f6, f5, f4, or_true, true_or, or_false, false_or, or_self, and_self, and_true, true_and, ne_eq, not_true, not_false_iff, Bool.false_eq_true, Bool.true_eq_false, h1], nI o, nI k, bI false, ?_⟩
      simp (decide := true) only [ord, bI, m_X12_linesOf, bd1_s, if_true, if_false, k0, k1, k4, k8, o0, o1, lkk, z0, f7, f6, f5, f4, or_true, true_or, or_false, false_or, or_self, and_self, and_true, true_and, ne_eq, not_true, not_false_iff, Bool.false_eq_true, Bool.true_eq_false, h1]
      rfl
    | true =>
      by_cases q : k + 1 ≤ 300
      · have e8 := (le300 (k + 1) (by omega)).mpr q
        left
        simp (decide := true) only [ord, bI, m_X12_linesOf, bd1_s, if_true, if_false, k0, k1, k4, k8, o0, o1, lkk, z0, f7, f6, f5, f4, or_true, true_or, or_false, false_or, or_self, and_self, and_true, true_and, ne_eq, not_true, not_false_iff, Bool.false_eq_true, Bool.true_eq_false, q, e8]
        all_goals first | rfl | exact ⟨trivial, rfl⟩
      · have e8 := nle (k + 1) (by omega) q
        right
        refine ⟨by simp (decide := true) only [ord, bI, m_X12_linesOf, bd1_s, if_true, if_false, k0, k1, k4, k8, o0, o1, lkk, z0, f7, f6, f5, f4, or_true, true_or, or_false, false_or, or_self, and_self, and_true, true_and, ne_eq, not_true, not_false_iff, Bool.false_eq_true, Bool.true_eq_false, q], nI o, nI (k + 1), bI true, ?_⟩
        simp (decide := true) only [ord, bI, m_X12_linesOf, bd1_s, if_true, if_false, k0, k1, k4, k8, o0, o1, lkk, z0, f7, f6, f5, f4, or_true, true_or, or_false, false_or, or_self, and_self, and_true, true_and, ne_eq, not_true, not_false_iff, Bool.false_eq_true, Bool.true_eq_false, q, e8]
        rfl
  · cases b with
    | false =>
      right
      refine ⟨by simp (decide := true) only [ord, bI, m_X12_linesOf, bd1_s, if_true, if_false, k0, k1, k4, k8, o0, o1, lkk, z0, f7, f6, f5, f4, or_true, true_or, or_false, false_or, or_self, and_self, and_true, true_and, ne_eq, not_true, not_false_iff, Bool.false_eq_true, Bool.true_eq_false, h1], nI o, nI k, bI false, ?_⟩
      simp (decide := true) only [ord, bI, m_X12_linesOf, bd1_s, if_true, if_false, k0, k1, k4, k8, o0, o1, lkk, z0, f7, f6, f5, f4, or_true, true_or, or_false, false_or, or_self, and_self, and_true, true_and, ne_eq, not_true, not_false_iff, Bool.false_eq_true, Bool.true_eq_false, h1]
      rfl
    | true =>
      by_cases q : k + 8 ≤ 300
      · have e8 := (le300 (k + 8) (by omega)).mpr q
        left
        simp (decide := true) only [ord, bI, m_X12_linesOf, bd1_s, if_true, if_false, k0, k1, k4, k8, o0, o1, lkk, z0, f7, f6, f5, f4, or_true, true_or, or_false, false_or, or_self, and_self, and_true, true_and, ne_eq, not_true, not_false_iff, Bool.false_eq_true, Bool.true_eq_false, q, e8]
        all_goals first | rfl | exact ⟨trivial, rfl⟩
      · have e8 := nle (k + 8) (by omega) q
        right
        refine ⟨by simp (decide := true) only [ord, bI, m_X12_linesOf, bd1_s, if_true, if_false, k0, k1, k4, k8, o0, o1, lkk, z0, f7, f6, f5, f4, or_true, true_or, or_false, false_or, or_self, and_self, and_true, true_and, ne_eq, not_true, not_false_iff, Bool.false_eq_true, Bool.true_eq_false, q], nI o, nI (k + 8), bI true, ?_⟩
        simp (decide := true) only [ord, bI, m_X12_linesOf, bd1_s, if_true, if_false, k0, k1, k4, k8, o0, o1, lkk, z0, f7, f6, f5, f4, or_true, true_or, or_false, false_or, or_self, and_self, and_true, true_and, ne_eq, not_true, not_false_iff, Bool.false_eq_true, Bool.true_eq_false, q, e8]
        rfl
  · cases b with
    | false =>
      right
      refine ⟨by simp (decide := true) only [ord, bI, m_X12_linesOf, bd1_s, if_true, if_false, k0, k1, k4, k8, o0, o1, lkk, z0, f7, f6, f5, f4, or_true, true_or, or_false, false_or, or_self, and_self, and_true, true_and, ne_eq, not_true, not_false_iff, Bool.false_eq_true, Bool.true_eq_false, h1], nI o, nI k, bI false, ?_⟩
      simp (decide := true) only [ord, bI, m_X12_linesOf, bd1_s, if_true, if_false, k0, k1, k4, k8, o0, o1, lkk, z0, f7, f6, f5, f4, or_true, true_or, or_false, false_or, or_self, and_self, and_true, true_and, ne_eq, not_true, not_false_iff, Bool.false_eq_true, Bool.true_eq_false, h1]
      rfl
    | true =>
      by_cases q : k + 1 ≤ 300
      · have e8 := (le300 (k + 1) (by omega)).mpr q
        left
        simp (decide := true) only [ord, bI, m_X12_linesOf, bd1_s, if_true, if_false, k0, k1, k4, k8, o0, o1, lkk, z0, f7, f6, f5, f4, or_true, true_or, or_false, false_or, or_self, and_self, and_true, true_and, ne_eq, not_true, not_false_iff, Bool.false_eq_true, Bool.true_eq_false, q, e8]
        all_goals first | rfl | exact ⟨trivial, rfl⟩
      · have e8 := nle (k + 1) (by omega) q
        right
        refine ⟨by simp (decide := true) only [ord, bI, m_X12_linesOf, bd1_s, if_true, if_false, k0, k1, k4, k8, o0, o1, lkk, z0, f7, f6, f5, f4, or_true, true_or, or_false, false_or, or_self, and_self, and_true, true_and, ne_eq, not_true, not_false_iff, Bool.false_eq_true, Bool.true_eq_false, q], nI o, nI (k + 1), bI true, ?_⟩
        simp (decide := true) only [ord, bI, m_X12_linesOf, bd1_s, if_true, if_false, k0, k1, k4, k8, o0, o1, lkk, z0, f7, f6, f5, f4, or_true, true_or, or_false, false_or, or_self, and_self, and_true, true_and, ne_eq, not_true, not_false_iff, Bool.false_eq_true, Bool.true_eq_false, q, e8]
        rfl
  · by_cases q : k + 4 ≤ 300
    · have e8 := (le300 (k + 4) (by omega)).mpr q
      left
      cases b <;> simp (decide := true) only [ord, bI, m_X12_linesOf, bd1_s, if_true, if_false, k0, k1, k4, k8, o0, o1, lkk, z0, f7, f6, f5, f4, or_true, true_or, or_false, false_or, or_self, and_self, and_true, true_and, ne_eq, not_true, not_false_iff, Bool.false_eq_true, Bool.true_eq_false, q, e8] <;> first | rfl | exact ⟨trivial, rfl⟩
    · have e8 := nle (k + 4) (by omega) q
      right
      refine ⟨by simp (decide := true) only [ord, bI, m_X12_linesOf, bd1_s, if_true, if_false, k0, k1, k4, k8, o0, o1, lkk, z0, f7, f6, f5, f4, or_true, true_or, or_false, false_or, or_self, and_self, and_true, true_and, ne_eq, not_true, not_false_iff, Bool.false_eq_true, Bool.true_eq_false, q], nI o, nI (k + 4), bI true, ?_⟩
      cases b <;> simp (decide := true) only [ord, bI, m_X12_linesOf, bd1_s, if_true, if_false, k0, k1, k4, k8, o0, o1, lkk, z0, f7, f6, f5, f4, or_true, true_or, or_false, false_or, or_self, and_self, and_true, true_and, ne_eq, not_true, not_false_iff, Bool.false_eq_true, Bool.true_eq_false, q, e8] <;> rfl
  · left
    cases b <;> simp (decide := true) only [ord, bI, m_X12_linesOf, bd1_s, if_true, if_false, k0, k1, k4, k8, o0, o1, lkk, z0, f7, f6, f5, f4, or_true, true_or, or_false, false_or, or_self, and_self, and_true, true_and, ne_eq, not_true, not_false_iff, Bool.false_eq_true, Bool.true_eq_false, h1] <;> first | rfl | exact ⟨trivial, rfl⟩
  · left
    cases b <;> simp (decide := true) only [ord, bI, m_X12_linesOf, bd1_s, if_true, if_false, k0, k1, k4, k8, o0, o1, lkk, z0, f7, f6, f5, f4, or_true, true_or, or_false, false_or, or_self, and_self, and_true, true_and, ne_eq, not_true, not_false_iff, Bool.false_eq_true, Bool.true_eq_false, h1] <;> first | rfl | exact ⟨trivial, rfl⟩
  · left
    cases b <;> simp (decide := true) only [ord, bI, m_X12_linesOf, bd1_s, if_true, if_false, k0, k1, k4, k8, o0, o1, lkk, z0, f7, f6, f5, f4, or_true, true_or, or_false, false_or, or_self, and_self, and_true, true_and, ne_eq, not_true, not_false_iff, Bool.false_eq_true, Bool.true_eq_false, h1] <;> first | rfl | exact ⟨trivial, rfl⟩
  · left
    cases b <;> simp (decide := true) only [ord, bI, m_X12_linesOf, bd1_s, if_true, if_false, k0, k1, k4, k8, o0, o1, lkk, z0, f7, f6, f5, f4, or_true, true_or, or_false, false_or, or_self, and_self, and_true, true_and, ne_eq, not_true, not_false_iff, Bool.false_eq_true, Bool.true_eq_false, h1] <;> first | rfl | exact ⟨trivial, rfl⟩
  · left
    cases b <;> simp (decide := true) only [ord, bI, m_X12_linesOf, bd1_s, if_true, if_false, k0, k1, k4, k8, o0, o1, lkk, z0, f7, f6, f5, f4, or_true, true_or, or_false, false_or, or_self, and_self, and_true, true_and, ne_eq, not_true, not_false_iff, Bool.false_eq_true, Bool.true_eq_false, h1] <;> first | rfl | exact ⟨trivial, rfl⟩
  · left
    cases b <;> simp (decide := true) only [ord, bI, m_X12_linesOf, bd1_s, if_true, if_false, k0, k1, k4, k8, o0, o1, lkk, z0, f7, f6, f5, f4, or_true, true_or, or_false, false_or, or_self, and_self, and_true, true_and, ne_eq, not_true, not_false_iff, Bool.false_eq_true, Bool.true_eq_false, h1] <;> first | rfl | exact ⟨trivial, rfl⟩
theorem rv_word {n : Nat} (hn : n ≤ 1500) {sz wd : Nat → Int32} (hs : sz 0 = nI n) (K : Int32 → Int32 → Int32 → Option (Int32 × Int32 × Int32 × Int32 × Int32 × (Nat → Int32) × (Nat → Int32) × (Nat → Int32) × (Nat → Int32) × (Nat → Int32) × (Nat → Int32))) {fu p o k : Nat} {b : Bool} (hlt : p < n) (hw : fw wd n p ≠ 0) :
    ∃ x y z : Int32, lp_X12_verify_12 sz K wd (fu + 1) (nI p) (nI o) (nI k) (bI b) 0 = lp_X12_verify_12 sz K wd fu (nI p) x y z (nI (fw wd n p)) := by
  have hcg := cl_ge (wd p)
  have hcl := cl_le (wd p)
  have hp0 : nI p + 0 = nI p := nI_add p 0
  unfold fw at hw ⊢
  rw [lp_X12_verify_12]
  simp only [inb_0_3, gd_s, nm_s, tn_0, hs, inb_s (show p < 4500 by omega) (show 4500 < 2 ^ 31 by decide), nI_clamp (show p < 2 ^ 31 by omega), more_cl, bd1_s, rbounds_ok wd (show p < 4400 by omega)]
  rw [if_neg (nI_ge hlt (by omega)), if_pos trivial]
  simp only [jn_s, hp0]
  by_cases h1 : wd p < 1
  · rw [if_pos h1, if_pos (Or.inl h1)]
    exact ⟨_, _, _, rfl⟩
  rw [if_neg h1]
  by_cases h2 : wd p ≤ 14
  · have h3 : ¬ (wd p < 1 ∨ 14 < wd p) := fun h => h.elim h1 (fun q => absurd q (Int32.not_lt.mpr h2))
    rw [if_pos h2, if_neg h3]
    rw [if_neg h3] at hw
    rw [nI_add]
    by_cases h4 : n < p + cl (wd p)
    · rw [if_neg (nI_nlt (show n ≤ p + (cl (wd p) - 1) by omega) (by omega)), if_pos h4]
      exact ⟨_, _, _, rfl⟩
    · rw [if_pos (nI_lt (show p + (cl (wd p) - 1) < n by omega) (by omega)), if_neg h4]
      rw [if_neg h4] at hw
      cases hb : bnd wd p (cl (wd p) - 1) with
      | true => rw [hb] at hw; simp at hw
      | false =>
        rw [if_pos (show bI false = 0 from rfl), if_pos rfl]
        exact ⟨_, _, _, rfl⟩
  · have h3 : 14 < wd p := by
      rcases Classical.em (14 < wd p) with q | q
      · exact q
      · exact absurd (Int32.not_lt.mp q) h2
    rw [if_neg h2, if_pos (Or.inr h3)]
    exact ⟨_, _, _, rfl⟩
theorem rv_out {n : Nat} (hn : n ≤ 1500) {sz wd : Nat → Int32} (hs : sz 0 = nI n) (K : Int32 → Int32 → Int32 → Option (Int32 × Int32 × Int32 × Int32 × Int32 × (Nat → Int32) × (Nat → Int32) × (Nat → Int32) × (Nat → Int32) × (Nat → Int32) × (Nat → Int32))) {fu p ft : Nat} (hft : ft ≠ 0) (hf : ft ≤ 9) (hlt : p < n) (x y z : Int32) : lp_X12_verify_12 sz K wd (fu + 1) (nI p) x y z (nI ft) = K (nI p) x (nI ft) := by
  rw [lp_X12_verify_12]
  simp only [inb_0_3, gd_s, nm_s, tn_0, hs]
  rw [if_neg (nI_ge hlt (by omega)), if_neg (show ¬ nI ft = 0 from nI_ne0 (by omega) (by omega))]
theorem rv_loop {n : Nat} (hn : n ≤ 1500) {sz wd : Nat → Int32} (hs : sz 0 = nI n) (K : Int32 → Int32 → Int32 → Option (Int32 × Int32 × Int32 × Int32 × Int32 × (Nat → Int32) × (Nat → Int32) × (Nat → Int32) × (Nat → Int32) × (Nat → Int32) × (Nat → Int32))) : ∀ (fu p o k : Nat) (b : Bool), p ≤ n → n + 1 < p + fu → o ≤ 8 → k ≤ 300 →
    (((vr wd n fu p o k b).1 = 0 ∧ (vr wd n fu p o k b).2.1 = n ∧ (vr wd n fu p o k b).2.2.1 ≤ 8 ∧ lp_X12_verify_12 sz K wd fu (nI p) (nI o) (nI k) (bI b) 0 = K (nI n) (nI (vr wd n fu p o k b).2.2.1) 0) ∨
    ((vr wd n fu p o k b).1 ≠ 0 ∧ (vr wd n fu p o k b).1 ≤ 7 ∧ (vr wd n fu p o k b).2.1 < n ∧ ∃ x : Int32, lp_X12_verify_12 sz K wd fu (nI p) (nI o) (nI k) (bI b) 0 = K (nI (vr wd n fu p o k b).2.1) x (nI (vr wd n fu p o k b).1))) := by
  intro fu
  induction fu with
  | zero => intro p o k b h1 h2; omega
  | succ fu ih =>
    intro p o k b h1 h2 ho hk
    by_cases e : p = n
    · subst e
      left
      rw [show vr wd p (fu + 1) p o k b = (0, p, o, k, b) by rw [vr, if_pos (Nat.le_refl _)]]
      refine ⟨rfl, rfl, ho, ?_⟩
      rw [lp_X12_verify_12]
      simp only [inb_0_3, gd_s, nm_s, tn_0, hs]
      rw [if_pos (nI_le (Nat.le_refl _) (by omega))]
    · have hlt : p < n := by omega
      obtain ⟨fu', rfl⟩ : ∃ q, fu = q + 1 := ⟨fu - 1, by omega⟩
      by_cases hw : fw wd n p = 0
      · rcases rv_step hn hs K (fu := fu' + 1) (b := b) hlt hw ho hk with ⟨hf, hl⟩ | ⟨hf, x, y, z, hl⟩
        · have hb := ord_le ho hk hf
          have hcl := cl_ge (wd p)
          rw [vr_step hlt hw hf, hl]
          exact ih (p + cl (wd p)) _ _ _ (fw_len hw).1 (by omega) hb.1 hb.2
        · right
          have h7 := ord_f (wd p) o k b
          rw [vr_ord hlt hw hf, hl]
          exact ⟨hf, h7, hlt, x, rv_out hn hs K hf (by omega) hlt x y z⟩
      · right
        have h3 := fw_le wd n p
        obtain ⟨x, y, z, hl⟩ := rv_word hn hs K (fu := fu' + 1) (o := o) (k := k) (b := b) hlt hw
        rw [vr_word hlt hw, hl]
        exact ⟨hw, by show fw wd n p ≤ 7; omega, hlt, x, rv_out hn hs K hw (by omega) hlt x y z⟩
