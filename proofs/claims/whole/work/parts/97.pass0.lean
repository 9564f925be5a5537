theorem put_in {n i : Nat} (hn : n ≤ 1500) (h : i < n) (f : Nat → Int32) (v : Int32) : m_X10_put (nI n) f (nI i) v = some (upd f i v) := by
  unfold m_X10_put
  rw [if_neg (nI_pos (by omega)), if_neg (nI_ge h (by omega)), inb_s (show i < 1500 by omega) (by decide), gd_s, nm_s, nI_clamp (show i < 2 ^ 31 by omega)]
theorem mv_loop {n a k len : Nat} (hn : n ≤ 1500) (hka : k < a) (hal : a + len ≤ n) : ∀ (d i N : Nat) (g : Nat → Int32), i + d = len → d < N → ∃ g' : Nat → Int32, lp_X10_moveDown_3 (nI len) (nI a) (nI k) (nI n) N (nI i) g = some g' ∧ (∀ j, i ≤ j → j < len → g' (k + j) = g (a + j)) ∧ (∀ x, (x < k + i ∨ k + len ≤ x) → g' x = g x) := by
  intro d
  induction d with
  | zero =>
    intro i N g h1 h2
    obtain ⟨N, rfl⟩ : ∃ j, N = j + 1 := ⟨N - 1, by omega⟩
    refine ⟨g, ?_, fun j a b => by omega, fun x _ => rfl⟩
    rw [lp_X10_moveDown_3, if_pos (nI_le (by omega) (by omega))]
  | succ d ih =>
    intro i N g h1 h2
    obtain ⟨N, rfl⟩ : ∃ j, N = j + 1 := ⟨N - 1, by omega⟩
    obtain ⟨g', e1, e2, e3⟩ := ih (i + 1) N (upd g (k + i) (g (a + i))) (by omega) (by omega)
    refine ⟨g', ?_, fun j j1 j2 => ?_, fun x hx => ?_⟩
    · rw [lp_X10_moveDown_3, if_neg (nI_ge (by omega) (by omega)), if_neg (nI_ge hka (by omega)), nI_add, word_ok (show a + i < n by omega) hn, bd1_s, nI_add, put_in hn (show k + i < n by omega), bd1_s, nm_s, nI_1]
      exact e1
    · by_cases e : j = i
      · subst e
        rw [e3 _ (Or.inl (by omega)), pk_us]
      · rw [e2 j (by omega) j2, pk_un (by omega)]
    · rw [e3 x (by omega), pk_un (by omega)]
theorem moveDown_ok {n a k len : Nat} (hn : n ≤ 1500) (hka : k ≤ a) (hal : a + len ≤ n) (g : Nat → Int32) : ∃ g' : Nat → Int32, m_X10_moveDown (nI n) g (nI a) (nI k) (nI len) = some g' ∧ (∀ j, j < len → g' (k + j) = g (a + j)) ∧ (∀ x, (x < k ∨ k + len ≤ x) → g' x = g x) := by
  unfold m_X10_moveDown
  by_cases e : k = a
  · subst e
    refine ⟨g, ?_, fun j _ => rfl, fun x _ => rfl⟩
    rw [FU_s, lp_X10_moveDown_3]
    by_cases h0 : nI len ≤ 0
    · rw [if_pos h0]
    · rw [if_neg h0, if_pos (nI_le (Nat.le_refl _) (by omega))]
  · obtain ⟨g', e1, e2, e3⟩ := mv_loop hn (show k < a by omega) hal len 0 FU g (by omega) (by rw [FU_s]; omega)
    exact ⟨g', e1, fun j hj => e2 j (by omega) hj, fun x hx => e3 x (by omega)⟩
theorem kc_loop {p k L : Nat} (hp : p + L ≤ 3000) (hk : k + L ≤ 1500) (hL : 1 ≤ L) (hL7 : L ≤ 7) : ∀ (d i N : Nat) (g z : Nat → Int32), i + d = L → d < N → cl (g p) = L → z 2 = nI (k + i) → ∃ g' z' : Nat → Int32, lp_X12_keepCommand_2 (nI p) N (nI i) g z = some (g', z') ∧ (∀ j, i ≤ j → j < L → g' (3000 + k + j) = g (p + j)) ∧ (∀ x, (x < 3000 + k + i ∨ 3000 + k + L ≤ x) → g' x = g x) ∧ z' 2 = nI (k + L) ∧ (∀ x, x ≠ 2 → z' x = z x) := by
  intro d
  induction d with
  | zero =>
    intro i N g z h1 h2 hc hz
    obtain ⟨N, rfl⟩ : ∃ j, N = j + 1 := ⟨N - 1, by omega⟩
    obtain rfl : i = L := by omega
    refine ⟨g, z, ?_, fun j a b => by omega, fun x _ => rfl, hz, fun _ _ => rfl⟩
    rw [lp_X12_keepCommand_2, inb_s (show p < 4500 by omega) (by decide), gd_s, nm_s, nI_clamp (show p < 2 ^ 31 by omega), more_cl, hc, bd1_s, if_pos (nI_lt (by omega) (by omega))]
  | succ d ih =>
    intro i N g z h1 h2 hc hz
    obtain ⟨N, rfl⟩ : ∃ j, N = j + 1 := ⟨N - 1, by omega⟩
    have t1 : (3000 : Int32) + nI (k + i) = nI (3000 + k + i) := by
      show nI 3000 + nI (k + i) = _
      rw [nI_add, Nat.add_assoc]
    obtain ⟨g', z', e1, e2, e3, e4, e5⟩ := ih (i + 1) N (upd g (3000 + k + i) (g (p + i))) (upd z 2 (nI (k + i + 1))) (by omega) (by omega) (by rw [pk_un (by omega)]; exact hc) pk_us
    refine ⟨g', z', ?_, fun j j1 j2 => ?_, fun x hx => ?_, e4, fun x hx => ?_⟩
    · rw [lp_X12_keepCommand_2, inb_s (show p < 4500 by omega) (by decide), gd_s, nm_s, nI_clamp (show p < 2 ^ 31 by omega), more_cl, hc, bd1_s, if_neg (nI_nlt (by omega) (by omega)), inb_2_3, gd_s, nm_s, tn_2, hz, nI_add, inb_s (show p + i < 4500 by omega) (by decide), gd_s, nm_s, nI_clamp (show p + i < 2 ^ 31 by omega), t1, inb_s (show 3000 + k + i < 4500 by omega) (by decide), gd_s, nm_s, nI_clamp (show 3000 + k + i < 2 ^ 31 by omega), gd_s, nm_s, nm_s, gd_s, nm_s, nm_s, nI_1, nI_1]
      exact e1
    · by_cases e : j = i
      · subst e
        rw [e3 _ (Or.inl (by omega)), pk_us]
      · rw [e2 j (by omega) j2, pk_un (by omega)]
    · rw [e3 x (by omega), pk_un (by omega)]
    · rw [e5 x hx, pk_un hx]
theorem keepCmd_ok {p k : Nat} {wd z : Nat → Int32} (hp : p + cl (wd p) ≤ 3000) (hk : k + cl (wd p) ≤ 1500) (hz : z 2 = nI k) : ∃ g' z' : Nat → Int32, m_X12_keepCommand wd z (nI p) = some (g', z') ∧ (∀ j, j < cl (wd p) → g' (3000 + k + j) = wd (p + j)) ∧ (∀ x, (x < 3000 + k ∨ 3000 + k + cl (wd p) ≤ x) → g' x = wd x) ∧ z' 2 = nI (k + cl (wd p)) ∧ (∀ x, x ≠ 2 → z' x = z x) := by
  have h7 := cl_le (wd p)
  obtain ⟨g', z', e1, e2, e3, e4, e5⟩ := kc_loop hp hk (cl_ge (wd p)) h7 (cl (wd p)) 0 FU wd z (by omega) (by rw [FU_s]; omega) rfl hz
  exact ⟨g', z', e1, fun j hj => e2 j (by omega) hj, fun x hx => e3 x (by omega), e4, e5⟩
theorem behind_ok {p : Nat} (hp : p < 4500) (wd : Nat → Int32) : m_X12_behind wd (nI p) = some (nI (p + cl (wd p))) := by
  have := cl_ge (wd p)
  unfold m_X12_behind
  rw [inb_s hp (by decide), gd_s, nm_s, nI_clamp (show p < 2 ^ 31 by omega), more_cl, bd1_s, nI_1, nI_add, show p + 1 + (cl (wd p) - 1) = p + cl (wd p) by omega]
theorem endPlace_ok {n : Nat} {z : Nat → Int32} (h : z 1 = nI n) : m_X12_endPlace z = some (nI (1500 + n)) := by
  unfold m_X12_endPlace
  rw [inb_1_3, gd_s, nm_s, tn_1, h]
  exact congrArg some (nI_add 1500 n)
theorem ep_loop {k : Nat} (hk : k ≤ 1500) {z : Nat → Int32} (hz : z 2 = nI k) (K : Int32 → (Nat → Int32) → Option (Int32 × (Nat → Int32) × (Nat → Int32))) : ∀ (d i N : Nat) (ov : Int32) (g : Nat → Int32), i + d = k → d < N → zb ov → ∃ (ov' : Int32) (g' : Nat → Int32), lp_X12_endPass_33 z K N (nI i) ov g = K ov' g' ∧ (∀ j, i ≤ j → j < k → g' (1500 + j) = g (3000 + j)) ∧ (∀ x, (x < 1500 + i ∨ 1500 + k ≤ x) → g' x = g x) ∧ zb ov' ∧ (ov' = 0 ↔ ov = 0 ∧ ∀ j, i ≤ j → j < k → g (1500 + j) = g (3000 + j)) := by
  intro d
  induction d with
  | zero =>
    intro i N ov g h1 h2 hb
    obtain ⟨N, rfl⟩ : ∃ j, N = j + 1 := ⟨N - 1, by omega⟩
    refine ⟨ov, g, ?_, fun j a b => by omega, fun x _ => rfl, hb, fun h => ⟨h, fun j a b => by omega⟩, fun h => h.1⟩
    rw [lp_X12_endPass_33, inb_2_3, gd_s, nm_s, tn_2, hz, if_pos (nI_le (by omega) (by omega))]
  | succ d ih =>
    intro i N ov g h1 h2 hb
    obtain ⟨N, rfl⟩ : ∃ j, N = j + 1 := ⟨N - 1, by omega⟩
    have t3 : (3000 : Int32) + nI i = nI (3000 + i) := nI_add 3000 i
    have t1 : (1500 : Int32) + nI i = nI (1500 + i) := nI_add 1500 i
    have i3 : inb (nI (3000 + i)) 4500 = true := inb_s (by omega) (by decide)
    have i1 : inb (nI (1500 + i)) 4500 = true := inb_s (by omega) (by decide)
    have c3 : (nI (3000 + i)).toNatClampNeg = 3000 + i := nI_clamp (by omega)
    have c1 : (nI (1500 + i)).toNatClampNeg = 1500 + i := nI_clamp (by omega)
    have hs : ∃ s : Int32, zb s ∧ (s = 0 ↔ ov = 0 ∧ g (1500 + i) = g (3000 + i)) ∧ lp_X12_endPass_33 z K (N + 1) (nI i) ov g = lp_X12_endPass_33 z K N (nI (i + 1)) s (upd g (1500 + i) (g (3000 + i))) := by
      rw [lp_X12_endPass_33, inb_2_3, gd_s, nm_s, tn_2, hz, if_neg (nI_ge (by omega) (by omega)), t3, t1, i3, i1, c3, c1]
      simp only [jn_s, gd_s, nm_s, nI_1]
      by_cases q : ov = 0
      · rw [if_pos q]
        by_cases q2 : g (1500 + i) = g (3000 + i)
        · rw [if_pos q2]
          exact ⟨0, Or.inl rfl, ⟨fun _ => ⟨q, q2⟩, fun _ => rfl⟩, rfl⟩
        · rw [if_neg q2]
          exact ⟨1, Or.inr rfl, ⟨fun h => absurd h (by decide), fun h => absurd h.2 q2⟩, rfl⟩
      · rw [if_neg q]
        exact ⟨1, Or.inr rfl, ⟨fun h => absurd h (by decide), fun h => absurd h.1 q⟩, rfl⟩
    obtain ⟨s, s1, s2, s3⟩ := hs
    obtain ⟨ov', g', e1, e2, e3, e4, e5⟩ := ih (i + 1) N s (upd g (1500 + i) (g (3000 + i))) (by omega) (by omega) s1
    refine ⟨ov', g', s3.trans e1, fun j j1 j2 => ?_, fun x hx => ?_, e4, ?_⟩
    · by_cases e : j = i
      · subst e
        rw [e3 _ (Or.inl (by omega)), pk_us]
      · rw [e2 j (by omega) j2, pk_un (by omega)]
    · rw [e3 x (by omega), pk_un (by omega)]
    · rw [e5, s2]
      constructor
      · intro h
        refine ⟨h.1.1, fun j j1 j2 => ?_⟩
        by_cases e : j = i
        · subst e
          exact h.1.2
        · have := h.2 j (by omega) j2
          rw [pk_un (by omega), pk_un (by omega)] at this
          exact this
      · intro h
        refine ⟨⟨h.1, h.2 i (by omega) (by omega)⟩, fun j j1 j2 => ?_⟩
        rw [pk_un (by omega), pk_un (by omega)]
        exact h.2 j (by omega) j2
theorem endPass_ok {n k : Nat} (hk : k ≤ 1500) (hn : n ≤ 1500) {z wd : Nat → Int32} (h1 : z 1 = nI n) (h2 : z 2 = nI k) (hs : k = n → ∀ j, j < k → wd (1500 + j) = wd (3000 + j)) {ov : Int32} (hb : zb ov) : ∃ (ov' : Int32) (g' : Nat → Int32), m_X12_endPass ov z wd = some (ov', upd z 1 (nI k), g') ∧ (∀ j, j < k → g' (1500 + j) = wd (3000 + j)) ∧ (∀ x, (x < 1500 ∨ 1500 + k ≤ x) → g' x = wd x) ∧ zb ov' ∧ (ov' = 0 ↔ ov = 0 ∧ k = n) := by
  have key : ∃ s : Int32, zb s ∧ (s = 0 ↔ ov = 0 ∧ k = n) ∧ ∀ J : Int32 → Option (Int32 × (Nat → Int32) × (Nat → Int32)), jn J (fun (K28_2 : Int32 → Option (Int32 × (Nat → Int32) × (Nat → Int32))) => jn (K28_2 1) (fun (K23_31 : Option (Int32 × (Nat → Int32) × (Nat → Int32))) => if (ov = 0 : Prop) then (gd (inb 2 3) (nm (z (2 : Int32).toNatClampNeg) (fun (a_34 : Int32) => gd (inb 1 3) (nm (z (1 : Int32).toNatClampNeg) (fun (a_36 : Int32) => if (a_34 = a_36 : Prop) then (K28_2 0) else (K23_31)))))) else (K23_31))) = J s := by
    simp only [inb_2_3, inb_1_3, gd_s, nm_s, tn_1, tn_2, h1, h2, jn_s]
    by_cases q : ov = 0
    · by_cases q2 : k = n
      · exact ⟨0, Or.inl rfl, ⟨fun _ => ⟨q, q2⟩, fun _ => rfl⟩, fun J => by rw [if_pos q, if_pos (by rw [q2])]⟩
      · exact ⟨1, Or.inr rfl, ⟨fun h => absurd h (by decide), fun h => absurd h.2 q2⟩, fun J => by rw [if_pos q, if_neg (by rw [nI_eq (by omega) (by omega)]; exact q2)]⟩
    · exact ⟨1, Or.inr rfl, ⟨fun h => absurd h (by decide), fun h => absurd h.1 q⟩, fun J => by rw [if_neg q]⟩
  obtain ⟨s, s1, s2, s3⟩ := key
  obtain ⟨ov', g', e1, e2, e3, e4, e5⟩ := ep_loop hk h2 (fun (v0_3 : Int32) (f2_4 : Nat → Int32) => gd (inb 2 3) (nm (z (2 : Int32).toNatClampNeg) (fun (a_7 : Int32) => gd (inb 1 3) (nm (upd z (1 : Int32).toNatClampNeg a_7) (fun (f1_9 : Nat → Int32) => some (v0_3, f1_9, f2_4)))))) k 0 FU s wd (by omega) (by rw [FU_s]; omega) s1
  refine ⟨ov', g', ?_, fun j hj => e2 j (by omega) hj, fun x hx => e3 x (by omega), e4, ?_⟩
  · unfold m_X12_endPass
    rw [s3]
    rw [jn_s]
    refine e1.trans ?_
    rw [inb_2_3, inb_1_3, gd_s, nm_s, gd_s, nm_s, tn_1, tn_2, h2]
  · rw [e5, s2]
    exact ⟨fun h => h.1, fun h => ⟨h, fun j _ j2 => hs h.2 j j2⟩⟩
theorem cutTo_ok {n k : Nat} (hn : n ≤ 1500) (hk : k ≤ n) : m_X10_cutTo (nI n) (nI k) = some (nI k) := by
  unfold m_X10_cutTo
  rw [if_neg (nI_pos (by omega))]
  by_cases e : k = n
  · subst e
    rw [if_pos (nI_le (Nat.le_refl _) (by omega))]
  · rw [if_neg (nI_ge (by omega) (by omega))]
def TL (f : Nat → Int32) (n p : Nat) : Prop := ∃ no nl b, VL f n p no nl b
theorem TL.step {f : Nat → Int32} {n p : Nat} (hn : n ≤ 1500) (hp : p < n) (h : TL f n p) : p + cl (f p) ≤ n ∧ ¬ f p < 1 ∧ f p ≤ 14 ∧ TL f n (p + cl (f p)) := by
  obtain ⟨no, nl, b, h⟩ := h
  obtain ⟨h1, h2, h3⟩ := h.step hn hp
  obtain ⟨k1, k2, k3⟩ := fw_len h1
  exact ⟨k1, k2, k3, _, _, _, h3⟩
def nx (f : Nat → Int32) (n : Nat) (S : Int32 → Bool) : Nat → Nat → Nat
  | 0, p => p
  | fu + 1, p => if n ≤ p then p else if S (f p) = true then p else nx f n S fu (p + cl (f p))
theorem nx_fu {f : Nat → Int32} {n : Nat} {S : Int32 → Bool} : ∀ (fu gu p : Nat), n < p + fu → n < p + gu → nx f n S fu p = nx f n S gu p
  | 0, 0, _, _, _ => rfl
  | 0, gu + 1, p, h1, h2 => by rw [nx, nx, if_pos (by omega)]
  | fu + 1, 0, p, h1, h2 => by rw [nx, nx, if_pos (by omega)]
  | fu + 1, gu + 1, p, h1, h2 => by
    have := cl_ge (f p)
    rw [nx, nx, nx_fu fu gu (p + cl (f p)) (by omega) (by omega)]
def fb (f : Nat → Int32) (n : Nat) (S : Int32 → Bool) (p : Nat) : Int32 := if nx f n S 2000 p < n then f (nx f n S 2000 p) else 0
theorem fb_end {f : Nat → Int32} {n p : Nat} {S : Int32 → Bool} (h : n ≤ p) : fb f n S p = 0 := by
  unfold fb
  rw [nx, if_pos h, if_neg (by omega)]
theorem fb_in {f : Nat → Int32} {n p : Nat} {S : Int32 → Bool} (hp : p < n) (h : S (f p) = true) : fb f n S p = f p := by
  have e : nx f n S 2000 p = p := by rw [nx, if_neg (show ¬ n ≤ p by omega), if_pos h]
  unfold fb
  rw [e, if_pos hp]
theorem fb_go {f : Nat → Int32} {n p : Nat} {S : Int32 → Bool} (hn : n ≤ 1500) (hp : p < n) (h : ¬ S (f p) = true) : fb f n S p = fb f n S (p + cl (f p)) := by
  have := cl_ge (f p)
  have e : nx f n S 2000 p = nx f n S 2000 (p + cl (f p)) := by rw [nx, if_neg (show ¬ n ≤ p by omega), if_neg h, nx_fu 1999 2000 _ (by omega) (by omega)]
  unfold fb
  rw [e]
theorem fb_loop {f : Nat → Int32} {n : Nat} (hn : n ≤ 1500) {S : Int32 → Bool} {set : Int32} (hS : ∀ c : Int32, ¬ c < 1 → c ≤ 14 → ((set &&& ((1 : Int32) <<< (c &&& 31))) = 0 ↔ ¬ S c = true)) : ∀ (N fu p : Nat), n ≤ p + N → N < fu → p ≤ n → TL f n p → lp_X10_firstBehind_8 (nI n) f set fu (nI p) = some (fb f n S p) := by
  intro N
  induction N with
  | zero =>
    intro fu p h1 h2 h3 ht
    obtain ⟨fu, rfl⟩ : ∃ j, fu = j + 1 := ⟨fu - 1, by omega⟩
    rw [lp_X10_firstBehind_8, if_pos (nI_le (by omega) (by omega)), fb_end (by omega)]
  | succ N ih =>
    intro fu p h1 h2 h3 ht
    obtain ⟨fu, rfl⟩ : ∃ j, fu = j + 1 := ⟨fu - 1, by omega⟩
    by_cases hp : p < n
    · obtain ⟨k1, k2, k3, k4⟩ := ht.step hn hp
      have hc := cl_ge (f p)
      rw [lp_X10_firstBehind_8, if_neg (nI_ge hp (by omega)), word_ok hp hn, bd1_s]
      by_cases q : S (f p) = true
      · rw [if_neg (fun w => (hS _ k2 k3).mp w q), fb_in hp q]
      · rw [if_pos ((hS _ k2 k3).mpr q), lenAt_ok hp hn, bd1_s, nm_s, nI_add, fb_go hn hp q]
        exact ih fu _ (by omega) (by omega) k1 k4
    · rw [lp_X10_firstBehind_8, if_pos (nI_le (by omega) (by omega)), fb_end (by omega)]
theorem firstBehind_ok {f : Nat → Int32} {n p : Nat} (hn : n ≤ 1500) {S : Int32 → Bool} {set : Int32} (hS : ∀ c : Int32, ¬ c < 1 → c ≤ 14 → ((set &&& ((1 : Int32) <<< (c &&& 31))) = 0 ↔ ¬ S c = true)) (hp : p < n) (ht : TL f n p) : m_X10_firstBehind (nI n) f (nI p) set = some (fb f n S (p + cl (f p))) := by
  obtain ⟨k1, k2, k3, k4⟩ := ht.step hn hp
  unfold m_X10_firstBehind
  rw [lenAt_ok hp hn, bd1_s, nm_s, nI_add]
  exact fb_loop hn hS 1500 FU _ (by omega) (by rw [FU_s]; omega) k1 k4
theorem TL.congr {f g : Nat → Int32} {n p : Nat} (h : ∀ j, j < n → f j = g j) (ht : TL f n p) : TL g n p := by
  obtain ⟨no, nl, b, h'⟩ := ht
  exact ⟨no, nl, b, h'.congr h⟩
