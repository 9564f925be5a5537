theorem lb_w (a b c : Int32) {w : Int32} (h2 : ¬ w = 2) (h3 : ¬ w = 3) (h4 : ¬ w = 4) : m_X4_laidByte a b c w = m_X4_laidByte a b c 0 := by
  unfold m_X4_laidByte
  rw [if_neg h2, if_neg h3, if_neg h4, if_neg (by decide), if_neg (by decide), if_neg (by decide)]
theorem rl_w (a b c : Int32) {w : Int32} (h2 : ¬ w = 2) (h3 : ¬ w = 3) (h4 : ¬ w = 4) : m_X12_laid a b c w = m_X12_laid a b c 0 := by
  unfold m_X12_laid
  rw [if_neg h3, if_neg (by decide), jn_s, jn_s, if_neg h2, if_neg h4, if_neg (by decide), if_neg (by decide)]
theorem lp_w (a b c : Int32) {w : Int32} (h2 : ¬ w = 2) (h3 : ¬ w = 3) (h4 : ¬ w = 4) : ∀ (n : Nat) (l k : Int32), lp_X12_paint_73 a b c w n l k = lp_X12_paint_73 a b c 0 n l k
  | 0, _, _ => by rw [lp_X12_paint_73, lp_X12_paint_73]
  | n + 1, l, k => by
    rw [lp_X12_paint_73, lp_X12_paint_73, rl_w _ _ _ h2 h3 h4]
    simp only [lp_w a b c h2 h3 h4 n]
theorem paint_all (p q way : Int32) : ∃ r : Int32, m_X4_laid p q way = some r ∧ m_X12_paint p q way = some r := by
  by_cases h1 : way = 1
  · subst h1
    exact paint_eq p q (w := 1) (by omega)
  by_cases h2 : way = 2
  · subst h2
    exact paint_eq p q (w := 2) (by omega)
  by_cases h3 : way = 3
  · subst h3
    exact paint_eq p q (w := 3) (by omega)
  by_cases h4 : way = 4
  · subst h4
    exact paint_eq p q (w := 4) (by omega)
  obtain ⟨r, e1, e2⟩ := paint_eq p q (w := 0) (by omega)
  refine ⟨r, ?_, ?_⟩
  · rw [← e1]
    unfold m_X4_laid
    rw [if_neg h1, if_neg (show ¬ nI 0 = (1 : Int32) by decide), nm_s, nm_s, jn_s, jn_s, if_neg h3, if_neg (show ¬ nI 0 = (3 : Int32) by decide)]
    simp only [lb_w _ _ _ h2 h3 h4]
    rfl
  · rw [← e2]
    unfold m_X12_paint
    rw [if_neg h1, if_neg (show ¬ nI 0 = (1 : Int32) by decide), nm_s, nm_s, nm_s, nm_s, jn_s, jn_s, if_neg h3, if_neg (show ¬ nI 0 = (3 : Int32) by decide)]
    simp only [lp_w _ _ _ h2 h3 h4]
    rfl
def RS (W H : Nat) (px sh : Nat → Int32) : Prop := ∀ y, y < H → ∀ x, x < W → px (y * W + x) = sh (32 * y + x)
theorem ix_inj {W x y x' y' : Nat} (hx : x < W) (hx' : x' < W) (h : y * W + x = y' * W + x') : y = y' ∧ x = x' := by
  have h1 : (y * W + x) / W = y := by
    rw [Nat.mul_comm, Nat.mul_add_div (by omega), Nat.div_eq_of_lt hx, Nat.add_zero]
  have h2 : (y' * W + x') / W = y' := by
    rw [Nat.mul_comm, Nat.mul_add_div (by omega), Nat.div_eq_of_lt hx', Nat.add_zero]
  rw [h, h2] at h1
  subst h1
  exact ⟨rfl, by omega⟩
theorem RS.put {W H : Nat} {px sh : Nat → Int32} (h : RS W H px sh) (hW : W ≤ 32) {x y : Nat} (hx : x < W) (v : Int32) : RS W H (upd px (y * W + x) v) (upd sh (32 * y + x) v) := by
  intro y' hy' x' hx'
  by_cases e : y' * W + x' = y * W + x
  · obtain ⟨rfl, rfl⟩ := ix_inj hx' hx e
    rw [pk_us, pk_us]
  · rw [pk_un e]
    by_cases e2 : 32 * y' + x' = 32 * y + x
    · exfalso
      have e3 : y' = y := by omega
      have e4 : x' = x := by omega
      subst e3 e4
      exact e rfl
    · rw [pk_un e2]
      exact h y' hy' x' hx'
def dec (rule s : Int32) : Bool := if rule = 0 then decide (¬ s = 0) else decide (¬ (s &&& 1) = 0)
theorem and1 (s : Int32) : (s &&& 1) = 1 ↔ ¬ (s &&& 1) = 0 := by
  have h : s &&& 1 = nI (s.toBitVec.toNat % 2 ^ 1) := pk_and s 1 (m := 1) (by decide)
  rw [h]
  have : s.toBitVec.toNat % 2 ^ 1 = 0 ∨ s.toBitVec.toNat % 2 ^ 1 = 1 := by omega
  rcases this with e | e <;> rw [e] <;> decide
theorem m64 {y : Nat} (hy : y < 32) : ((65536 : Int64) * (nI y).toInt64 + 32768).toInt = mid y := by
  have e3 : ((65536 : Int64) * (nI y).toInt64).toInt = 65536 * (y : Int) := by
    have e : (nI y).toInt64.toInt = y := by rw [l_of, nI_ti (by omega)]
    have e' : (65536 : Int64).toInt = 65536 := by decide
    rw [l_mul] <;> rw [e, e'] <;> omega
  have e' : (32768 : Int64).toInt = 32768 := by decide
  have hmy : mid y = 65536 * (y : Int) + 32768 := rfl
  rw [l_add] <;> rw [e3, e'] <;> omega
theorem isin_ok {m np : Nat} {xs ys bg points px py begins : Nat → Int32} (hm : m ≤ 1) (hn : np ≤ 800) (hp : points m = nI np) (hs : ∀ j, j < np → xs j = px (1000 * m + j) ∧ ys j = py (1000 * m + j) ∧ bg j = begins (1000 * m + j) ∧ small (xs j) ∧ small (ys j)) {x y : Nat} (hx : x < 32) (hy : y < 32) (rule : Int32) : m_X12_isIn points begins py px (nI m) (65536 * (nI x).toInt64 + 32768) (65536 * (nI y).toInt64 + 32768) rule = some (bI (dec rule (ws xs ys bg np (mid x) (mid y) np 0 0))) := by
  have t0 : (1000 : Int32) * nI m = nI (1000 * m) := pk_mul 1000 m
  have h := isin_loop hm hn hs (fun l7_6 => if (rule = 0 : Prop) then (if (l7_6 = 0 : Prop) then (some 0) else (some 1)) else (if ((l7_6 &&& 1) = 1 : Prop) then (some 1) else (some 0))) x y hx hy (m64 hx) (m64 hy) np FU 0 0 0 (by omega) (by show np < 1000000; omega) (by omega)
  unfold m_X12_isIn
  rw [nm_s, inb_s (show m < 2 by omega) (by decide), gd_s, nm_s, nI_clamp (show m < 2 ^ 31 by omega), hp, nm_s, nm_s, jn_s, t0, nI_add]
  rw [Nat.add_zero, Int32.zero_add] at h
  rw [h]
  unfold dec bI
  generalize ws xs ys bg np (mid x) (mid y) np 0 0 = s
  by_cases r : rule = 0
  · rw [if_pos r, if_pos r]
    by_cases q : s = 0
    · simp [q]
    · simp [q]
  · rw [if_neg r, if_neg r]
    by_cases q : (s &&& 1) = 0
    · rw [if_neg (fun w => (and1 s).mp w q)]
      simp [q]
    · rw [if_pos ((and1 s).mpr q)]
      simp [q]
theorem dec_sel {α : Type} (rule s : Int32) (A B : α) : (if rule = 0 then (if s = 0 then A else B) else (if (s &&& 1) = 0 then A else B)) = if dec rule s = true then B else A := by
  unfold dec
  by_cases r : rule = 0
  · simp only [r, if_true]
    by_cases q : s = 0
    · simp [q]
    · simp [q]
  · simp only [r, if_false]
    by_cases q : (s &&& 1) = 0
    · simp [q]
    · simp [q]
theorem row_lock {W H m cx ex y : Nat} (hm : m ≤ 1) (hW : W ≤ 32) (hH : H ≤ 32) (hex : ex ≤ W) (hy : y < H) {told points begins py rpx : Nat → Int32} {colour way rule : Int32} (t8 : told (12 * m + 8) = nI ex) (t10 : told (12 * m + 10) = colour) (t11 : told (12 * m + 11) = way) (w : Nat → Int32) (hin : ∀ x, cx ≤ x → x < ex → m_X12_isIn points begins py rpx (nI m) (65536 * (nI x).toInt64 + 32768) (65536 * (nI y).toInt64 + 32768) rule = some (bI (dec rule (w x)))) (ch0 : Nat → Int32) (hw : ∀ x, cx ≤ x → x < ex → rs ch0 y cx (x + 1 - cx) = w x) : ∀ (t fu gu x : Nat) (c : Int32) (ch px sh : Nat → Int32), x + t = ex → cx ≤ x → t < fu → t < gu → (∀ j, x ≤ j → j < ex → ch (32 * y + j) = ch0 (32 * y + j)) → RS W H px sh → ∃ (d : Int32) (ch' px' sh' : Nat → Int32), lp_X2_paintRow_15 (nI ex) (nI y) (nI W) (nI H) (W * H) colour way rule fu c (rs ch0 y cx (x - cx)) (nI x) ch px = some (c + d, ch', px') ∧ (∀ (K : Int32 → (Nat → Int32) → Option (Int32 × Int32 × (Nat → Int32))) (n : Int32), lp_X12_fill_44 (nI (12 * m)) told K points begins py rpx (nI m) (nI y) rule gu n (nI x) sh = K (n + d) sh') ∧ RS W H px' sh' ∧ (∀ j, x ≤ j → j < ex → ch' (32 * y + j) = 0) ∧ (∀ j, (∀ i, x ≤ i → i < ex → j ≠ 32 * y + i) → ch' j = ch j) := by
  have e8 : nI (12 * m) + 8 = nI (12 * m + 8) := nI_add (12 * m) 8
  have e10 : nI (12 * m) + 10 = nI (12 * m + 10) := nI_add (12 * m) 10
  have e11 : nI (12 * m) + 11 = nI (12 * m + 11) := nI_add (12 * m) 11
  intro t
  induction t with
  | zero =>
    intro fu gu x c ch px sh h1 h2 h3 h4 h5 h6
    obtain ⟨fu, rfl⟩ : ∃ j, fu = j + 1 := ⟨fu - 1, by omega⟩
    obtain ⟨gu, rfl⟩ : ∃ j, gu = j + 1 := ⟨gu - 1, by omega⟩
    refine ⟨0, ch, px, sh, ?_, fun K n => ?_, h6, fun j a b => by omega, fun j _ => rfl⟩
    · rw [lp_X2_paintRow_15, if_pos (nI_le (by omega) (by omega)), Int32.add_zero]
    · rw [lp_X12_fill_44, e8, inb_s (show 12 * m + 8 < 24 by omega) (by decide), gd_s, nm_s, nI_clamp (show 12 * m + 8 < 2 ^ 31 by omega), t8, if_pos (nI_le (by omega) (by omega)), Int32.add_zero]
  | succ t ih =>
    intro fu gu x c ch px sh h1 h2 h3 h4 h5 h6
    obtain ⟨fu, rfl⟩ : ∃ j, fu = j + 1 := ⟨fu - 1, by omega⟩
    obtain ⟨gu, rfl⟩ : ∃ j, gu = j + 1 := ⟨gu - 1, by omega⟩
    have hxe : x < ex := by omega
    have ew : rs ch0 y cx (x - cx) + ch (32 * y + x) = w x := by
      rw [← hw x h2 hxe, show x + 1 - cx = (x - cx) + 1 by omega, rs, show cx + (x - cx) = x by omega, h5 x (Nat.le_refl _) hxe]
    have ers : w x = rs ch0 y cx (x + 1 - cx) := (hw x h2 hxe).symm
    have hcls : lp_X2_paintRow_15 (nI ex) (nI y) (nI W) (nI H) (W * H) colour way rule (fu + 1) c (rs ch0 y cx (x - cx)) (nI x) ch px = (if dec rule (w x) = true then bd1 (m_X7_at (nI W) (nI H) (W * H) px (nI x) (nI y)) (fun r_17 => bd1 (m_X4_laid colour r_17 way) (fun r_19 => bd1 (m_X7_put (nI W) (nI H) (W * H) px (nI x) (nI y) r_19) (fun f5_21 => lp_X2_paintRow_15 (nI ex) (nI y) (nI W) (nI H) (W * H) colour way rule fu (c + 1) (w x) (nI (x + 1)) (upd ch (32 * y + x) 0) f5_21))) else lp_X2_paintRow_15 (nI ex) (nI y) (nI W) (nI H) (W * H) colour way rule fu c (w x) (nI (x + 1)) (upd ch (32 * y + x) 0) px) := by
      rw [lp_X2_paintRow_15, if_neg (nI_ge hxe (by omega)), take_ok ch (show y < 32 by omega) (show x < 32 by omega), bd2_s, nm_s, ew, jn_s, jn_s, dec_sel]
      simp only [nm_s, nI_1]
    have href : ∀ (K : Int32 → (Nat → Int32) → Option (Int32 × Int32 × (Nat → Int32))) (n : Int32), lp_X12_fill_44 (nI (12 * m)) told K points begins py rpx (nI m) (nI y) rule (gu + 1) n (nI x) sh = (if dec rule (w x) = true then bd1 (m_X12_paint colour (sh (32 * y + x)) way) (fun r_46 => lp_X12_fill_44 (nI (12 * m)) told K points begins py rpx (nI m) (nI y) rule gu (n + 1) (nI (x + 1)) (upd sh (32 * y + x) r_46)) else lp_X12_fill_44 (nI (12 * m)) told K points begins py rpx (nI m) (nI y) rule gu n (nI (x + 1)) sh) := by
      intro K n
      rw [lp_X12_fill_44, e8, inb_s (show 12 * m + 8 < 24 by omega) (by decide), gd_s, nm_s, nI_clamp (show 12 * m + 8 < 2 ^ 31 by omega), t8, if_neg (nI_ge hxe (by omega)), hin x h2 hxe, bd1_s, jn_s]
      cases hd : dec rule (w x) with
      | false =>
        rw [if_pos (by decide), if_neg (by decide)]
        dsimp only
        rw [nm_s, nI_1]
      | true =>
        rw [if_neg (by decide), if_pos rfl, e10, inb_s (show 12 * m + 10 < 24 by omega) (by decide), gd_s, nm_s, nI_32, inb_s (show 32 * y + x < 1024 by omega) (by decide), gd_s, nm_s, e11, inb_s (show 12 * m + 11 < 24 by omega) (by decide), gd_s, nm_s, nI_clamp (show 12 * m + 10 < 2 ^ 31 by omega), nI_clamp (show 12 * m + 11 < 2 ^ 31 by omega), nI_clamp (show 32 * y + x < 2 ^ 31 by omega), t10, t11]
        simp only [gd_s, nm_s, nI_1]
    have hch : ∀ j, x + 1 ≤ j → j < ex → upd ch (32 * y + x) 0 (32 * y + j) = ch0 (32 * y + j) := fun j j1 j2 => by
      rw [pk_un (by omega)]
      exact h5 j (by omega) j2
    have fin : ∀ ch' : Nat → Int32, (∀ j, x + 1 ≤ j → j < ex → ch' (32 * y + j) = 0) → (∀ j, (∀ i, x + 1 ≤ i → i < ex → j ≠ 32 * y + i) → ch' j = upd ch (32 * y + x) 0 j) → (∀ j, x ≤ j → j < ex → ch' (32 * y + j) = 0) ∧ (∀ j, (∀ i, x ≤ i → i < ex → j ≠ 32 * y + i) → ch' j = ch j) := by
      intro ch' z1 z2
      refine ⟨fun j j1 j2 => ?_, fun j hj => ?_⟩
      · by_cases e : j = x
        · subst e
          rw [z2 _ (fun i i1 i2 => by omega), pk_us]
        · exact z1 j (by omega) j2
      · rw [z2 j (fun i i1 i2 => hj i (by omega) i2), pk_un (hj x (Nat.le_refl _) hxe)]
    rw [hcls]
    cases hd : dec rule (w x) with
    | false =>
      obtain ⟨d, ch', px', sh', r1, r2, r3, r4, r5⟩ := ih fu gu (x + 1) c (upd ch (32 * y + x) 0) px sh (by omega) (by omega) (by omega) (by omega) hch h6
      rw [← ers] at r1
      obtain ⟨z1, z2⟩ := fin ch' r4 r5
      exact ⟨d, ch', px', sh', by rw [if_neg (by decide)]; exact r1, fun K n => by rw [href, hd, if_neg (by decide)]; exact r2 K n, r3, z1, z2⟩
    | true =>
      obtain ⟨v, p1, p2⟩ := paint_all colour (sh (32 * y + x)) way
      obtain ⟨d, ch', px', sh', r1, r2, r3, r4, r5⟩ := ih fu gu (x + 1) (c + 1) (upd ch (32 * y + x) 0) (upd px (y * W + x) v) (upd sh (32 * y + x) v) (by omega) (by omega) (by omega) (by omega) hch (h6.put hW (by omega) v)
      rw [← ers, Int32.add_assoc] at r1
      obtain ⟨z1, z2⟩ := fin ch' r4 r5
      refine ⟨1 + d, ch', px', sh', ?_, fun K n => ?_, r3, z1, z2⟩
      · rw [if_pos rfl, at_y (show x < W by omega) hy hW hH, bd1_s, h6 y hy x (by omega), p1, bd1_s, put_y (show x < W by omega) hy hW hH, bd1_s]
        exact r1
      · rw [href, hd, if_pos rfl, p2, bd1_s, r2, Int32.add_assoc]
theorem rows_lock {W H m cx ex cy ey : Nat} (hm : m ≤ 1) (hW : W ≤ 32) (hH : H ≤ 32) (hcx : cx ≤ ex) (hex : ex ≤ W) (hey : ey ≤ H) {told points begins py rpx : Nat → Int32} {colour way rule : Int32} (t6 : told (12 * m + 6) = nI cx) (t8 : told (12 * m + 8) = nI ex) (t9 : told (12 * m + 9) = nI ey) (t10 : told (12 * m + 10) = colour) (t11 : told (12 * m + 11) = way) (w : Nat → Nat → Int32) (hin : ∀ y x, cy ≤ y → y < ey → cx ≤ x → x < ex → m_X12_isIn points begins py rpx (nI m) (65536 * (nI x).toInt64 + 32768) (65536 * (nI y).toInt64 + 32768) rule = some (bI (dec rule (w y x)))) (ch0 : Nat → Int32) (hw : ∀ y x, cy ≤ y → y < ey → cx ≤ x → x < ex → rs ch0 y cx (x + 1 - cx) = w y x) : ∀ (t fu gu y : Nat) (n : Int32) (ch px sh : Nat → Int32), y + t = ey → cy ≤ y → t < fu → t < gu → (∀ y' x, y ≤ y' → y' < ey → cx ≤ x → x < ex → ch (32 * y' + x) = ch0 (32 * y' + x)) → RS W H px sh → ∃ (n' : Int32) (ch' px' sh' : Nat → Int32), lp_X2_fill_66 (nI ey) colour way (nI cx) (nI ex) (nI W) (nI H) (W * H) rule fu n (nI y) ch px = some (n', ch', px') ∧ (∀ (K : Int32 → (Nat → Int32) → Option (Int32 × Int32 × (Nat → Int32))), lp_X12_fill_19 (nI (12 * m)) told K points begins py rpx (nI m) rule gu n (nI y) sh = K n' sh') ∧ RS W H px' sh' ∧ (∀ y' x, y ≤ y' → y' < ey → cx ≤ x → x < ex → ch' (32 * y' + x) = 0) ∧ (∀ j, (∀ y' x, y ≤ y' → y' < ey → cx ≤ x → x < ex → j ≠ 32 * y' + x) → ch' j = ch j) := by
  have e9 : nI (12 * m) + 9 = nI (12 * m + 9) := nI_add (12 * m) 9
  have e6 : nI (12 * m) + 6 = nI (12 * m + 6) := nI_add (12 * m) 6
  intro t
  induction t with
  | zero =>
    intro fu gu y n ch px sh h1 h2 h3 h4 h5 h6
    obtain ⟨fu, rfl⟩ : ∃ j, fu = j + 1 := ⟨fu - 1, by omega⟩
    obtain ⟨gu, rfl⟩ : ∃ j, gu = j + 1 := ⟨gu - 1, by omega⟩
    refine ⟨n, ch, px, sh, ?_, fun K => ?_, h6, fun y' x a b => by omega, fun j _ => rfl⟩
    · rw [lp_X2_fill_66, if_pos (nI_le (by omega) (by omega))]
    · rw [lp_X12_fill_19, e9, inb_s (show 12 * m + 9 < 24 by omega) (by decide), gd_s, nm_s, nI_clamp (show 12 * m + 9 < 2 ^ 31 by omega), t9, if_pos (nI_le (by omega) (by omega))]
  | succ t ih =>
    intro fu gu y n ch px sh h1 h2 h3 h4 h5 h6
    obtain ⟨fu, rfl⟩ : ∃ j, fu = j + 1 := ⟨fu - 1, by omega⟩
    obtain ⟨gu, rfl⟩ : ∃ j, gu = j + 1 := ⟨gu - 1, by omega⟩
    have hye : y < ey := by omega
    obtain ⟨d, ch1, px1, sh1, a1, a2, a3, a4, a5⟩ := row_lock (cx := cx) (y := y) hm hW hH hex (show y < H by omega) (points := points) (begins := begins) (py := py) (rpx := rpx) (rule := rule) t8 t10 t11 (w y) (fun x x1 x2 => hin y x h2 hye x1 x2) ch0 (fun x x1 x2 => hw y x h2 hye x1 x2) (ex - cx) FU FU cx 0 ch px sh (by omega) (Nat.le_refl _) (by show ex - cx < 1000000; omega) (by show ex - cx < 1000000; omega) (fun j j1 j2 => h5 y j (Nat.le_refl _) hye j1 j2) h6
    rw [Nat.sub_self, rs, Int32.zero_add] at a1
    obtain ⟨n', ch', px', sh', b1, b2, b3, b4, b5⟩ := ih fu gu (y + 1) (n + d) ch1 px1 sh1 (by omega) (by omega) (by omega) (by omega) (fun y' x y1 y2 x1 x2 => by rw [a5 _ (fun i i1 i2 => by omega)]; exact h5 y' x (by omega) y2 x1 x2) a3
    refine ⟨n', ch', px', sh', ?_, fun K => ?_, b3, fun y' x y1 y2 x1 x2 => ?_, fun j hj => ?_⟩
    · rw [lp_X2_fill_66, if_neg (nI_ge hye (by omega))]
      unfold m_X2_paintRow
      rw [a1, bd3_s, nm_s, nm_s, nI_1]
      exact b1
    · rw [lp_X12_fill_19, e9, inb_s (show 12 * m + 9 < 24 by omega) (by decide), gd_s, nm_s, nI_clamp (show 12 * m + 9 < 2 ^ 31 by omega), t9, if_neg (nI_ge hye (by omega)), e6, inb_s (show 12 * m + 6 < 24 by omega) (by decide), gd_s, nm_s, nI_clamp (show 12 * m + 6 < 2 ^ 31 by omega), t6, jn_s]
      simp only [nm_s, nI_1]
      rw [a2]
      exact b2 K
    · by_cases e : y' = y
      · subst e
        rw [b5 _ (fun y'' x' z1 z2 z3 z4 => by omega), a4 x x1 x2]
      · exact b4 y' x (by omega) y2 x1 x2
    · rw [b5 j (fun y' x z1 z2 z3 z4 => hj y' x (by omega) z2 z3 z4), a5 j (fun i i1 i2 => hj y i (Nat.le_refl _) hye i1 i2)]
theorem rs_zero {ch : Nat → Int32} (hz : ∀ i, i < 1024 → ch i = 0) {y cx : Nat} (hy : y < 32) : ∀ k, cx + k ≤ 32 → rs ch y cx k = 0
  | 0, _ => rfl
  | k + 1, hk => by
    rw [rs, rs_zero hz hy k (by omega), hz _ (by omega)]
    rfl
theorem fill_ok {m W H no np nl : Nat} {c : CM} {r : RF} (hm : m ≤ 1) (h : RM m W H no np nl c r) (hW : W ≤ 32) (hH : H ≤ 32) {ch px sh : Nat → Int32} (hz : ∀ i, i < 1024 → ch i = 0) (hs : RS W H px sh) (rule : Int32) : ∃ (d : Int32) (ch' px' sh' : Nat → Int32), m_X2_fill c.pts c.bg c.col c.way c.ys c.x c.y c.u c.v c.xs ch (nI W) (nI H) (W * H) px rule = some (d, ch', px') ∧ (∀ i, i < 1024 → ch' i = 0) ∧ RS W H px' sh' ∧ ∀ fills painted : Int32, m_X12_fill fills painted r.told r.points r.begins r.py r.px sh (nI m) rule = (if m = 0 then some (fills + (if d ≤ 0 then 0 else 1), (painted + d) &&& 1073741823, sh') else some (fills, painted, sh')) := by
  obtain ⟨-, -, -, ⟨-, -, -, -, -, -, t6, t7, t8, t9, t10, t11⟩, hb, -, hP⟩ := h
  obtain ⟨p1, p2, p3, p4, p5, p6, p7, -⟩ := hP
  obtain ⟨cx, cy, ex, ey, ex1, ey1, eu1, ev1, b1, b2, b3, b4⟩ : ∃ cx cy ex ey : Nat, c.x = nI cx ∧ c.y = nI cy ∧ c.u = nI ex ∧ c.v = nI ey ∧ cx ≤ ex ∧ ex ≤ W ∧ cy ≤ ey ∧ ey ≤ H := by
    rcases hb with ⟨a, b, c', d, h1, h2, h3, h4, h5, h6, h7, h8⟩ | ⟨h1, h2, h3, h4⟩
    · exact ⟨a, b, c', d, h1, h2, h3, h4, by omega, h6, by omega, h8⟩
    · exact ⟨0, 0, 0, 0, h1, h2, h3, h4, by omega, by omega, by omega, by omega⟩
  rw [ex1] at t6
  rw [ey1] at t7
  rw [eu1] at t8
  rw [ev1] at t9
  have key : ∃ (d : Int32) (ch' px' sh' : Nat → Int32), m_X2_fill c.pts c.bg c.col c.way c.ys c.x c.y c.u c.v c.xs ch (nI W) (nI H) (W * H) px rule = some (d, ch', px') ∧ (∀ i, i < 1024 → ch' i = 0) ∧ RS W H px' sh' ∧ ∀ (K : Int32 → (Nat → Int32) → Option (Int32 × Int32 × (Nat → Int32))), lp_X12_fill_19 (nI (12 * m)) r.told K r.points r.begins r.py r.px (nI m) rule FU 0 (nI cy) sh = K d sh' := by
    obtain ⟨ch1, hc1, q1, q2⟩ := lines_loop (cx := cx) (cy := cy) (ex := ex) (ey := ey) (xs := c.xs) (ys := c.ys) (bg := c.bg) (by omega) (by omega) (by omega) (by omega) p3 (fun j hj => (p7 j hj).2.2.2) (fun f7_1 => lp_X2_fill_66 (nI ey) c.col c.way (nI cx) (nI ex) (nI W) (nI H) (W * H) rule FU 0 (nI cy) f7_1 px) np FU 0 0 ch (by omega) (by show np < 1000000; omega) (by omega)
    obtain ⟨d, ch', px', sh', r1, r2, r3, r4, r5⟩ := rows_lock (cx := cx) (cy := cy) hm hW hH b1 b2 b4 (points := r.points) (begins := r.begins) (py := r.py) (rpx := r.px) (rule := rule) t6 t8 t9 t10 t11 (fun y x => ws c.xs c.ys c.bg np (mid x) (mid y) np 0 0) (fun y x y1 y2 x1 x2 => isin_ok hm p3 p2 p7 (show x < 32 by omega) (show y < 32 by omega) rule) ch1 (fun y x y1 y2 x1 x2 => by rw [q1 y x y1 y2 x1 x2, rs_zero hz (by omega) _ (by omega), Int32.zero_add]) (ey - cy) FU FU cy 0 ch1 px sh (by omega) (Nat.le_refl _) (by show ey - cy < 1000000; omega) (by show ey - cy < 1000000; omega) (fun _ _ _ _ _ _ => rfl) hs
    refine ⟨d, ch', px', sh', ?_, fun i hi => ?_, r3, r2⟩
    · unfold m_X2_fill
      rw [jn_s, p1, ex1, ey1, eu1, ev1]
      exact hc1.trans r1
    · by_cases hbx : Bx cx cy ex ey i
      · obtain ⟨y, x, y1, y2, x1, x2, rfl⟩ := hbx
        exact r4 y x y1 y2 x1 x2
      · rw [r5 i (fun y x y1 y2 x1 x2 e => hbx ⟨y, x, y1, y2, x1, x2, e⟩), q2 i hbx, hz i hi]
  have t0 : (12 : Int32) * nI m = nI (12 * m) := pk_mul 12 m
  have e7 : nI (12 * m) + 7 = nI (12 * m + 7) := nI_add (12 * m) 7
  obtain ⟨d, ch', px', sh', k1, k2, k3, k4⟩ := key
  refine ⟨d, ch', px', sh', k1, k2, k3, fun fills painted => ?_⟩
  unfold m_X12_fill
  rw [nm_s, t0, e7, inb_s (show 12 * m + 7 < 24 by omega) (by decide), gd_s, nm_s, nI_clamp (show 12 * m + 7 < 2 ^ 31 by omega), t7, jn_s, k4]
  by_cases h0 : m = 0
  · subst h0
    rw [if_pos (show nI 0 = (0 : Int32) from rfl), if_pos rfl, jn_ite, nm_s, nm_s]
  · rw [if_neg (nI_ne0 (by omega) (by omega)), if_neg h0]
