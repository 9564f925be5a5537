def MS (np : Nat) (px py : Nat → Int32) (k : Nat) (l2 l4 l6 : Int64) : Prop := (∀ j, j < k → l2.toInt ≤ (px (1000 + j)).toInt ∧ l4.toInt ≤ (py (1000 + j)).toInt ∧ (py (1000 + j)).toInt ≤ l6.toInt) ∧ (k = 0 → l2 = 9223372036854775807 ∧ l4 = 9223372036854775807 ∧ l6 = -9223372036854775808) ∧ (0 < k → (∃ j, j < k ∧ l2.toInt = (px (1000 + j)).toInt) ∧ (∃ j, j < k ∧ l4.toInt = (py (1000 + j)).toInt) ∧ (∃ j, j < k ∧ l6.toInt = (py (1000 + j)).toInt))
theorem ms_loop {np : Nat} (hn : np ≤ 800) {points px py : Nat → Int32} (hp : points 1 = nI np) : ∀ (t gu k : Nat) (l2 l4 l6 : Int64), k + t = np → t < gu → MS np px py k l2 l4 l6 → ∃ a b c : Int64, (∀ K : Int64 → Int64 → Int64 → Option Int32, lp_X12_maySee_22 points K px py gu l2 l4 l6 (nI (1000 + k)) = K a b c) ∧ MS np px py np a b c := by
  have e0 : (1000 : Int32) + nI np = nI (1000 + np) := nI_add 1000 np
  intro t
  induction t with
  | zero =>
    intro gu k l2 l4 l6 h1 h2 h
    obtain ⟨gu, rfl⟩ : ∃ j, gu = j + 1 := ⟨gu - 1, by omega⟩
    obtain rfl : k = np := by omega
    refine ⟨l2, l4, l6, fun K => ?_, h⟩
    rw [lp_X12_maySee_22, inb_1_2, gd_s, nm_s, tn_1, hp, e0, if_pos (nI_le (Nat.le_refl _) (by omega))]
  | succ t ih =>
    intro gu k l2 l4 l6 h1 h2 h
    obtain ⟨gu, rfl⟩ : ∃ j, gu = j + 1 := ⟨gu - 1, by omega⟩
    obtain ⟨m1, m2, m3⟩ := h
    have ik : inb (nI (1000 + k)) 2000 = true := inb_s (by omega) (by decide)
    have ck : (nI (1000 + k)).toNatClampNeg = 1000 + k := nI_clamp (by omega)
    have bx := Int32.toInt_lt (px (1000 + k))
    have by1 := Int32.toInt_lt (py (1000 + k))
    have by2 := Int32.le_toInt (py (1000 + k))
    have eM : (9223372036854775807 : Int64).toInt = 9223372036854775807 := by decide
    have em : (-9223372036854775808 : Int64).toInt = -9223372036854775808 := by decide
    obtain ⟨a, b, c, e1, e2⟩ := ih gu (k + 1) (if 0 ≤ lg_cmp (px (1000 + k)).toInt64 l2 then l2 else (px (1000 + k)).toInt64) (if 0 ≤ lg_cmp (py (1000 + k)).toInt64 l4 then l4 else (py (1000 + k)).toInt64) (if lg_cmp (py (1000 + k)).toInt64 l6 ≤ 0 then l6 else (py (1000 + k)).toInt64) (by omega) (by omega) (by
      have x2 : (0 ≤ lg_cmp (px (1000 + k)).toInt64 l2) ↔ l2.toInt ≤ (px (1000 + k)).toInt := by rw [lc_ge, l_of]
      have x4 : (0 ≤ lg_cmp (py (1000 + k)).toInt64 l4) ↔ l4.toInt ≤ (py (1000 + k)).toInt := by rw [lc_ge, l_of]
      have x6 : (lg_cmp (py (1000 + k)).toInt64 l6 ≤ 0) ↔ (py (1000 + k)).toInt ≤ l6.toInt := by rw [lc_le, l_of]
      have v2 : ∃ v : Int64, v = (if 0 ≤ lg_cmp (px (1000 + k)).toInt64 l2 then l2 else (px (1000 + k)).toInt64) ∧ v.toInt ≤ (px (1000 + k)).toInt ∧ v.toInt ≤ l2.toInt ∧ (v.toInt = (px (1000 + k)).toInt ∨ (0 < k ∧ v.toInt = l2.toInt)) := by
        by_cases z : l2.toInt ≤ (px (1000 + k)).toInt
        · refine ⟨l2, by rw [if_pos (x2.mpr z)], z, Int.le_refl _, ?_⟩
          by_cases k0 : k = 0
          · rw [(m2 k0).1, eM] at z
            omega
          · exact Or.inr ⟨by omega, rfl⟩
        · refine ⟨(px (1000 + k)).toInt64, by rw [if_neg (fun y => z (x2.mp y))], by rw [l_of]; omega, by rw [l_of]; omega, Or.inl (l_of _)⟩
      have v4 : ∃ v : Int64, v = (if 0 ≤ lg_cmp (py (1000 + k)).toInt64 l4 then l4 else (py (1000 + k)).toInt64) ∧ v.toInt ≤ (py (1000 + k)).toInt ∧ v.toInt ≤ l4.toInt ∧ (v.toInt = (py (1000 + k)).toInt ∨ (0 < k ∧ v.toInt = l4.toInt)) := by
        by_cases z : l4.toInt ≤ (py (1000 + k)).toInt
        · refine ⟨l4, by rw [if_pos (x4.mpr z)], z, Int.le_refl _, ?_⟩
          by_cases k0 : k = 0
          · rw [(m2 k0).2.1, eM] at z
            omega
          · exact Or.inr ⟨by omega, rfl⟩
        · refine ⟨(py (1000 + k)).toInt64, by rw [if_neg (fun y => z (x4.mp y))], by rw [l_of]; omega, by rw [l_of]; omega, Or.inl (l_of _)⟩
      have v6 : ∃ v : Int64, v = (if lg_cmp (py (1000 + k)).toInt64 l6 ≤ 0 then l6 else (py (1000 + k)).toInt64) ∧ (py (1000 + k)).toInt ≤ v.toInt ∧ l6.toInt ≤ v.toInt ∧ (v.toInt = (py (1000 + k)).toInt ∨ (0 < k ∧ v.toInt = l6.toInt)) := by
        by_cases z : (py (1000 + k)).toInt ≤ l6.toInt
        · refine ⟨l6, by rw [if_pos (x6.mpr z)], z, Int.le_refl _, ?_⟩
          by_cases k0 : k = 0
          · rw [(m2 k0).2.2, em] at z
            omega
          · exact Or.inr ⟨by omega, rfl⟩
        · refine ⟨(py (1000 + k)).toInt64, by rw [if_neg (fun y => z (x6.mp y))], by rw [l_of]; omega, by rw [l_of]; omega, Or.inl (l_of _)⟩
      obtain ⟨a2, ea2, p2, p3, p4⟩ := v2
      obtain ⟨a4, ea4, r2, r3, r4⟩ := v4
      obtain ⟨a6, ea6, s2, s3, s4⟩ := v6
      rw [← ea2, ← ea4, ← ea6]
      refine ⟨fun j hj => ?_, fun z => by omega, fun _ => ⟨?_, ?_, ?_⟩⟩
      · by_cases ej : j = k
        · subst ej
          exact ⟨p2, r2, s2⟩
        · obtain ⟨y1, y2, y3⟩ := m1 j (by omega)
          omega
      · rcases p4 with z | ⟨k0, z⟩
        · exact ⟨k, by omega, z⟩
        · obtain ⟨j, y1, y2⟩ := (m3 k0).1
          exact ⟨j, by omega, z.trans y2⟩
      · rcases r4 with z | ⟨k0, z⟩
        · exact ⟨k, by omega, z⟩
        · obtain ⟨j, y1, y2⟩ := (m3 k0).2.1
          exact ⟨j, by omega, z.trans y2⟩
      · rcases s4 with z | ⟨k0, z⟩
        · exact ⟨k, by omega, z⟩
        · obtain ⟨j, y1, y2⟩ := (m3 k0).2.2
          exact ⟨j, by omega, z.trans y2⟩)
    refine ⟨a, b, c, fun K => ?_, e2⟩
    rw [lp_X12_maySee_22, inb_1_2, gd_s, nm_s, tn_1, hp, e0, if_neg (nI_ge (by omega) (by omega)), ik, gd_s, nm_s, ck]
    simp only [gd_s, nm_s, jn_ite, nI_1]
    exact e1 K
theorem see_loop {told : Nat → Int32} {ey : Nat} (hey : ey ≤ 32) (t9 : told 21 = nI ey) {lo hi : Int64} : ∀ (t gu y : Nat) (b : Bool), y + t = ey → t < gu → ∃ d : Bool, lp_X12_maySee_194 told 1 lo hi gu (bI b) (nI y) = some (bI d) ∧ (d = true ↔ b = true ∨ ∃ y', y ≤ y' ∧ y' < ey ∧ lo.toInt ≤ mid y' ∧ mid y' < hi.toInt) := by
  have e21 : ((12 : Int32) + 9).toNatClampNeg = 21 := by decide
  have i21 : inb ((12 : Int32) + 9) 24 = true := by decide
  intro t
  induction t with
  | zero =>
    intro gu y b h1 h2
    obtain ⟨gu, rfl⟩ : ∃ j, gu = j + 1 := ⟨gu - 1, by omega⟩
    refine ⟨b, ?_, fun z => Or.inl z, fun z => z.elim id (fun ⟨y', a1, a2, _⟩ => by omega)⟩
    rw [lp_X12_maySee_194, i21, gd_s, nm_s, e21, t9, if_pos (nI_le (by omega) (by omega))]
  | succ t ih =>
    intro gu y b h1 h2
    obtain ⟨gu, rfl⟩ : ∃ j, gu = j + 1 := ⟨gu - 1, by omega⟩
    have hm := m64 (show y < 32 by omega)
    have key : ∃ b' : Bool, lp_X12_maySee_194 told 1 lo hi (gu + 1) (bI b) (nI y) = lp_X12_maySee_194 told 1 lo hi gu (bI b') (nI (y + 1)) ∧ (b' = (b || decide (lo.toInt ≤ mid y ∧ mid y < hi.toInt))) := by
      refine ⟨_, ?_, rfl⟩
      rw [lp_X12_maySee_194, i21, gd_s, nm_s, e21, t9, if_neg (nI_ge (by omega) (by omega)), if_neg (by decide), nm_s]
      simp only [jn_s, nm_s, nI_1]
      cases b
      · rw [if_pos (show bI false = 0 from rfl)]
        by_cases z1 : lg_cmp (65536 * (nI y).toInt64 + 32768) lo < 0
        · rw [if_pos z1]
          rw [lc_lt, hm] at z1
          rw [show decide (lo.toInt ≤ mid y ∧ mid y < hi.toInt) = false from decide_eq_false (fun q => by omega)]
          rfl
        · rw [if_neg z1]
          rw [lc_lt, hm] at z1
          by_cases z2 : 0 ≤ lg_cmp (65536 * (nI y).toInt64 + 32768) hi
          · rw [if_pos z2]
            rw [lc_ge, hm] at z2
            rw [show decide (lo.toInt ≤ mid y ∧ mid y < hi.toInt) = false from decide_eq_false (fun q => by omega)]
            rfl
          · rw [if_neg z2]
            rw [lc_ge, hm] at z2
            rw [show decide (lo.toInt ≤ mid y ∧ mid y < hi.toInt) = true from decide_eq_true (by omega)]
            rfl
      · rw [if_neg (show ¬ bI true = 0 by decide)]
        rfl
    obtain ⟨b', k1, k2⟩ := key
    obtain ⟨d, d1, d2⟩ := ih gu (y + 1) b' (by omega) (by omega)
    refine ⟨d, k1.trans d1, ?_⟩
    rw [d2, k2, Bool.or_eq_true, decide_eq_true_iff]
    constructor
    · rintro ((z | z) | ⟨y', a1, a2, a3⟩)
      · exact Or.inl z
      · exact Or.inr ⟨y, Nat.le_refl _, by omega, z⟩
      · exact Or.inr ⟨y', by omega, a2, a3⟩
    · rintro (z | ⟨y', a1, a2, a3⟩)
      · exact Or.inl (Or.inl z)
      · by_cases e : y' = y
        · subst e
          exact Or.inl (Or.inr a3)
        · exact Or.inr ⟨y', by omega, a2, a3⟩
theorem jn_see {c1 : Prop} [Decidable c1] (v : Int32) (c2 : Int32 → Prop) [∀ a, Decidable (c2 a)] (G : Int32 → Option Int32) : jn G (fun K178 => jn (K178 0) (fun K177 => if c1 then K177 else gd true (nm v (fun a => if c2 a then K177 else K178 1)))) = if c1 then G 0 else if c2 v then G 0 else G 1 := rfl
theorem see_ok {W H no np nl : Nat} (hW : W ≤ 32) (hH : H ≤ 32) {c : CM} {r : RF} (h : RM 1 W H no np nl c r) : ∃ b : Bool, m_X5_misses c.pts c.lx c.ly c.gy c.y c.u c.v = some (bI (!b)) ∧ m_X12_maySee r.points r.px r.py r.told = some (bI b) := by
  obtain ⟨-, -, -, ⟨-, -, -, -, -, -, t6, t7, t8, t9, -, -⟩, hb, -, hP⟩ := h
  obtain ⟨p1, p2, p3, -, -, -, p7, p8⟩ := hP
  have f18 : ((12 : Int32) + 6).toNatClampNeg = 18 := by decide
  have f19 : ((12 : Int32) + 7).toNatClampNeg = 19 := by decide
  have f20 : ((12 : Int32) + 8).toNatClampNeg = 20 := by decide
  have i18 : inb ((12 : Int32) + 6) 24 = true := by decide
  have i19 : inb ((12 : Int32) + 7) 24 = true := by decide
  have i20 : inb ((12 : Int32) + 8) 24 = true := by decide
  have g6 : r.told 18 = c.x := t6
  have g7 : r.told 19 = c.y := t7
  have g8 : r.told 20 = c.u := t8
  have g9 : r.told 21 = c.v := t9
  have ms0 : MS np r.px r.py 0 9223372036854775807 9223372036854775807 (-9223372036854775808) := ⟨fun j hj => by omega, fun _ => ⟨rfl, rfl, rfl⟩, fun z => by omega⟩
  obtain ⟨F, hF, hF2⟩ : ∃ F : Nat, FU = F + 1 ∧ 5000 < F := ⟨999999, rfl, by omega⟩
  obtain ⟨la, lo, hi, e1, e2⟩ := ms_loop p3 p2 np (F + 1) 0 _ _ _ (by omega) (by omega) ms0
  unfold m_X12_maySee
  rw [jn_s, show (1000 : Int32) = nI (1000 + 0) from rfl, hF]
  rw [e1]
  have hG : (fun s0_9 : Int32 => gd (inb (12 + 7) 24) (nm (r.told (12 + 7 : Int32).toNatClampNeg) (fun (a_12 : Int32) => lp_X12_maySee_194 r.told s0_9 lo hi (F + 1) 0 a_12))) = (fun s0_9 : Int32 => lp_X12_maySee_194 r.told s0_9 lo hi (F + 1) 0 c.y) := funext (fun s => by rw [i19, gd_s, nm_s, f19, g7])
  rw [i20, gd_s, nm_s, i18, gd_s, nm_s, f20, f18, g8, g6, hG, jn_see]
  have nosee : ∀ y0 : Int32, lp_X12_maySee_194 r.told 0 lo hi (F + 1) 0 y0 = some 0 := by
    intro y0
    rw [lp_X12_maySee_194, show inb ((12 : Int32) + 9) 24 = true by decide, gd_s, nm_s]
    by_cases z : r.told ((12 : Int32) + 9).toNatClampNeg ≤ y0
    · rw [if_pos z]
    · rw [if_neg z, if_pos rfl]
  unfold m_X5_misses
  rcases hb with ⟨x, y, u, v, rfl', ry, ru, rv, b1, b2, b3, b4⟩ | ⟨rx, ry, ru, rv⟩
  · rw [rfl', ry, ru, rv, if_neg (nI_ge b1 (by omega))]
    have em1 : nI u - 1 = nI (u - 1) := pk_sub (a := u) (b := 1) (by omega)
    rw [em1]
    by_cases h0 : np = 0
    · refine ⟨false, by rw [p1, if_pos (by rw [h0]; rfl)]; rfl, ?_⟩
      obtain ⟨y1, y2, y3⟩ := e2.2.1 h0
      rw [if_pos (by rw [lc_lt, m64 (show u - 1 < 32 by omega), y1, show (9223372036854775807 : Int64).toInt = 9223372036854775807 by decide]; unfold mid; omega), nosee]
      rfl
    · have hnp : 0 < np := by omega
      obtain ⟨-, -, -, -, -, k1, ⟨j1, j1l, j1e⟩, ⟨j2, j2l, j2e⟩, ⟨j3, j3l, j3e⟩⟩ := p8 hnp
      obtain ⟨⟨i1, i1l, i1e⟩, ⟨i2, i2l, i2e⟩, ⟨i3, i3l, i3e⟩⟩ := e2.2.2 hnp
      have ela : la.toInt = c.lx.toInt := by
        have a1 := (e2.1 j1 j1l).1
        have a2 := (k1 i1 i1l).1
        rw [i_le] at a2
        rw [(p7 i1 i1l).1] at a2
        have a3 := (p7 j1 j1l).1
        rw [j1e, a3] at a2 ⊢
        have : (r.px (1000 * 1 + j1)).toInt = (r.px (1000 + j1)).toInt := rfl
        have : (r.px (1000 * 1 + i1)).toInt = (r.px (1000 + i1)).toInt := rfl
        omega
      have elo : lo.toInt = c.ly.toInt := by
        have a1 := (e2.1 j2 j2l).2.1
        have a2 := (k1 i2 i2l).2.1
        rw [i_le] at a2
        rw [(p7 i2 i2l).2.1] at a2
        have a3 := (p7 j2 j2l).2.1
        rw [j2e, a3] at a2 ⊢
        have : (r.py (1000 * 1 + j2)).toInt = (r.py (1000 + j2)).toInt := rfl
        have : (r.py (1000 * 1 + i2)).toInt = (r.py (1000 + i2)).toInt := rfl
        omega
      have ehi : hi.toInt = c.gy.toInt := by
        have a1 := (e2.1 j3 j3l).2.2
        have a2 := (k1 i3 i3l).2.2
        rw [i_le] at a2
        rw [(p7 i3 i3l).2.1] at a2
        have a3 := (p7 j3 j3l).2.1
        rw [j3e, a3] at a2 ⊢
        have : (r.py (1000 * 1 + j3)).toInt = (r.py (1000 + j3)).toInt := rfl
        have : (r.py (1000 * 1 + i3)).toInt = (r.py (1000 + i3)).toInt := rfl
        omega
      have slx : small c.lx := by rw [j1e]; exact (p7 j1 j1l).2.2.2.1
      have sly : small c.ly := by rw [j2e]; exact (p7 j2 j2l).2.2.2.2
      have sgy : small c.gy := by rw [j3e]; exact (p7 j3 j3l).2.2.2.2
      rw [p1, if_neg (nI_ne0 (by omega) (by omega)), firstMiddle_ok, bd1_s, nm_s, firstMiddle_ok, bd1_s, nm_s, firstMiddle_ok, bd1_s]
      have fly := fm_int sly
      have fgy := fm_int sgy
      have flx := fm_int slx
      have e0 : (bI false) = 0 := rfl
      obtain ⟨d, d1, d2⟩ := see_loop (told := r.told) (lo := lo) (hi := hi) (show v ≤ 32 by omega) (g9.trans rv) (v - y) (F + 1) y false (by omega) (by omega)
      rw [e0] at d1
      have hfrom : (if nI y < fmi c.ly then fmi c.ly else nI y).toInt = max (y : Int) (fmi c.ly).toInt := by
        by_cases z : nI y < fmi c.ly
        · rw [if_pos z]
          rw [i_lt, nI_ti (by omega)] at z
          omega
        · rw [if_neg z, nI_ti (by omega)]
          rw [i_lt, nI_ti (by omega)] at z
          omega
      have hto : (if fmi c.gy < nI v then fmi c.gy else nI v).toInt = min (v : Int) (fmi c.gy).toInt := by
        by_cases z : fmi c.gy < nI v
        · rw [if_pos z]
          rw [i_lt, nI_ti (by omega)] at z
          omega
        · rw [if_neg z, nI_ti (by omega)]
          rw [i_lt, nI_ti (by omega)] at z
          omega
      have hd2 : d = true ↔ max (y : Int) (fmi c.ly).toInt < min (v : Int) (fmi c.gy).toInt := by
        rw [d2, elo, ehi]
        constructor
        · rintro (z | ⟨y', a1, a2, a3, a4⟩)
          · exact absurd z (by decide)
          · unfold mid at a3 a4
            omega
        · intro z
          refine Or.inr ⟨(max (y : Int) (fmi c.ly).toInt).toNat, by omega, by omega, ?_, ?_⟩
          · unfold mid
            omega
          · unfold mid
            omega
      by_cases zw : lg_cmp (65536 * (nI (u - 1)).toInt64 + 32768) la < 0
      · rw [if_pos zw, nosee]
        rw [lc_lt, m64 (show u - 1 < 32 by omega), ela] at zw
        have zw' : ¬ fmi c.lx < nI u := by
          rw [i_lt, flx, nI_ti (by omega)]
          unfold mid at zw
          omega
        refine ⟨false, ?_, rfl⟩
        by_cases z : (if fmi c.gy < nI v then fmi c.gy else nI v) ≤ (if nI y < fmi c.ly then fmi c.ly else nI y)
        · rw [if_pos z]
          rfl
        · rw [if_neg z, if_neg zw']
          rfl
      · rw [if_neg zw, d1]
        rw [lc_lt, m64 (show u - 1 < 32 by omega), ela] at zw
        have zw' : fmi c.lx < nI u := by
          rw [i_lt, flx, nI_ti (by omega)]
          unfold mid at zw
          omega
        refine ⟨d, ?_, rfl⟩
        by_cases z : (if fmi c.gy < nI v then fmi c.gy else nI v) ≤ (if nI y < fmi c.ly then fmi c.ly else nI y)
        · rw [if_pos z]
          rw [i_le, hfrom, hto] at z
          have : d = false := by
            cases d
            · rfl
            · have := hd2.mp rfl
              omega
          rw [this]
          rfl
        · rw [if_neg z, if_pos zw']
          rw [i_le, hfrom, hto] at z
          have : d = true := hd2.mpr (by omega)
          rw [this]
          rfl
  · rw [rx, ry, ru, rv]
    refine ⟨false, ?_, ?_⟩
    · by_cases h0 : c.pts = 0
      · rw [if_pos h0]
        rfl
      · rw [if_neg h0, firstMiddle_ok, bd1_s, nm_s, firstMiddle_ok, bd1_s, nm_s, if_pos]
        · rfl
        · rw [i_le]
          have e0 : (0 : Int32).toInt = 0 := by decide
          by_cases z : 0 < fmi c.ly
          · rw [if_pos z]
            rw [i_lt, e0] at z
            by_cases z2 : fmi c.gy < 0
            · rw [if_pos z2]
              rw [i_lt, e0] at z2
              omega
            · rw [if_neg z2, e0]
              omega
          · rw [if_neg z]
            by_cases z2 : fmi c.gy < 0
            · rw [if_pos z2]
              rw [i_lt, e0] at z2
              rw [e0]
              omega
            · rw [if_neg z2]
              exact Int.le_refl _
    · rw [if_pos (by decide), nosee]
      rfl
