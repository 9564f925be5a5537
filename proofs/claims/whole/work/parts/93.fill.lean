theorem addc {a b c : Int32} (h : b = c) : a + b = a + c := by rw [h]
def rs (ch : Nat → Int32) (y cx : Nat) : Nat → Int32
  | 0 => 0
  | k + 1 => rs ch y cx k + ch (32 * y + (cx + k))
theorem rs_upd (ch : Nat → Int32) {row col y cx : Nat} (hc : col < 32) (v : Int32) : ∀ k, cx + k ≤ 32 → rs (upd ch (32 * row + col) (ch (32 * row + col) + v)) y cx k = rs ch y cx k + (if y = row ∧ cx ≤ col ∧ col < cx + k then v else 0)
  | 0, _ => by
    rw [if_neg (by omega)]
    rfl
  | k + 1, hk => by
    show rs _ y cx k + upd ch _ _ (32 * y + (cx + k)) = rs ch y cx k + ch (32 * y + (cx + k)) + _
    rw [rs_upd ch hc v k (by omega)]
    by_cases e : 32 * y + (cx + k) = 32 * row + col
    · have e1 : y = row := by omega
      have e2 : cx + k = col := by omega
      rw [e, pk_us, if_neg (by omega), if_pos (by omega), Int32.add_zero, Int32.add_assoc]
    · rw [pk_un e]
      by_cases q : y = row ∧ cx ≤ col ∧ col < cx + k
      · rw [if_pos q, if_pos (by omega), Int32.add_assoc, Int32.add_comm v, ← Int32.add_assoc]
      · rw [if_neg q, if_neg (by omega), Int32.add_zero, Int32.add_zero]
theorem change_ok (ch : Nat → Int32) {row col : Nat} (hr : row < 32) (hc : col < 32) (v : Int32) : m_X2_change ch (nI row) (nI col) v = some (upd ch (32 * row + col) (ch (32 * row + col) + v)) := by
  have e : nI row * 32 + nI col = nI (32 * row + col) := by
    rw [Int32.mul_comm]
    exact nI_32 row col
  unfold m_X2_change
  rw [nm_s, e, if_neg (nI_pos (by omega)), if_neg (show ¬ Int32.ofNat 1024 ≤ nI (32 * row + col) from nI_ge (by omega) (by decide)), inb_s (show 32 * row + col < 1024 by omega) (by decide), gd_s, nm_s, nm_s, gd_s, nm_s, nI_clamp (show 32 * row + col < 2 ^ 31 by omega)]
theorem take_ok (ch : Nat → Int32) {row col : Nat} (hr : row < 32) (hc : col < 32) : m_X2_takeChange ch (nI row) (nI col) = some (ch (32 * row + col), upd ch (32 * row + col) 0) := by
  have e : nI row * 32 + nI col = nI (32 * row + col) := by
    rw [Int32.mul_comm]
    exact nI_32 row col
  unfold m_X2_takeChange
  rw [nm_s, e, if_neg (nI_pos (by omega)), if_pos (show nI (32 * row + col) < Int32.ofNat 1024 from nI_lt (by omega) (by decide)), inb_s (show 32 * row + col < 1024 by omega) (by decide), gd_s, nm_s, gd_s, nm_s, nI_clamp (show 32 * row + col < 2 ^ 31 by omega)]
def Bx (cx cy ex ey j : Nat) : Prop := ∃ y x, cy ≤ y ∧ y < ey ∧ cx ≤ x ∧ x < ex ∧ j = 32 * y + x
theorem row_loop {iu il cx cy ex ey : Nat} {xs ys : Nat → Int32} (hx : cx ≤ 32) (hex : ex ≤ 32) (hy : cy ≤ 32) (hey : ey ≤ 32) (hu : iu < 800) (hl : il < 800) (s1 : small (xs iu)) (s2 : small (ys iu)) (s3 : small (xs il)) (s4 : small (ys il)) {E z : Int32} (hE : E ≤ nI ey) (hEl : E ≤ fmi (ys il)) : ∀ (fu k : Nat) (ch : Nat → Int32), cy ≤ k → fmi (ys iu) ≤ nI k → k ≤ 20000 → 32 < k + fu → 0 < fu → ∃ ch' : Nat → Int32, lp_X2_addLine_90 E ys xs (nI iu) (nI il) (nI cx) (nI ex) z fu (nI k) ch = some ch' ∧ (∀ y x, cy ≤ y → y < ey → cx ≤ x → x < ex → rs ch' y cx (x + 1 - cx) = rs ch y cx (x + 1 - cx) + (if k ≤ y ∧ nI y < E ∧ crs (xs iu).toInt (ys iu).toInt (xs il).toInt (ys il).toInt (mid x) (mid y) then (if z = 0 then -1 else 1) else 0)) ∧ (∀ j, ¬ Bx cx cy ex ey j → ch' j = ch j) := by
  intro fu
  induction fu with
  | zero => intro k ch h1 h2 h3 h4 h5; omega
  | succ fu ih =>
    intro k ch h1 h2 h3 h4 h5
    rw [lp_X2_addLine_90]
    by_cases q : E ≤ nI k
    · refine ⟨ch, by rw [if_pos q], fun y x a b c d => ?_, fun j _ => rfl⟩
      have : ¬ (k ≤ y ∧ nI y < E ∧ crs (xs iu).toInt (ys iu).toInt (xs il).toInt (ys il).toInt (mid x) (mid y)) := by
        intro w
        have w1 := w.1
        have w2 := w.2.1
        rw [i_lt, nI_ti (by omega)] at w2
        rw [i_le, nI_ti (by omega)] at q
        omega
      rw [if_neg this, Int32.add_zero]
    · have hk : k < ey := by
        rw [i_le, nI_ti (by omega)] at q
        rw [i_le, nI_ti (by omega)] at hE
        omega
      have hkE : nI k < E := Int32.not_le.mp q
      have g1 : (ys iu).toInt ≤ mid k := (fm_le s2 (by omega)).mp h2
      have g2 : mid k < (ys il).toInt := by
        have : ¬ fmi (ys il) ≤ nI k := by
          rw [i_le] at hEl ⊢
          rw [i_lt] at hkE
          omega
        rw [fm_le s4 (by omega)] at this
        omega
      obtain ⟨c, hc, hcc⟩ := fcol_ok hu hl (show k < 32 by omega) s1 s2 s3 s4 g1 g2
      rw [if_neg q, hc, bd1_s, nm_s, jn_s]
      by_cases qc : nI ex ≤ (if nI cx < c then c else nI cx)
      · rw [if_pos qc]
        dsimp only
        rw [nm_s, nI_1]
        obtain ⟨ch', hch, p1, p2⟩ := ih (k + 1) ch (by omega) (by rw [i_le] at h2 ⊢; rw [nI_ti (by omega)] at h2 ⊢; omega) (by omega) (by omega) (by omega)
        refine ⟨ch', hch, fun y x a b d e => ?_, p2⟩
        rw [p1 y x a b d e]
        refine addc ?_
        by_cases ey' : y = k
        · subst ey'
          have hno : ¬ c ≤ nI x := by
            have qx : nI cx ≤ nI x := nI_le d (by omega)
            rw [i_le, nI_ti (by omega)] at qc ⊢
            by_cases w : nI cx < c
            · rw [if_pos w] at qc
              omega
            · rw [if_neg w, nI_ti (by omega)] at qc
              omega
          rw [hcc x (by omega)] at hno
          rw [if_neg (by omega), if_neg (fun w => hno w.2.2)]
        · have : (k + 1 ≤ y) ↔ (k ≤ y) := by omega
          simp only [this]
      · rw [if_neg qc, jn_ite]
        obtain ⟨col, hcol, hcx, hc31⟩ : ∃ col : Nat, (if nI cx < c then c else nI cx) = nI col ∧ cx ≤ col ∧ col < 2 ^ 31 := by
          by_cases w : nI cx < c
          · rw [if_pos w]
            rw [i_lt, nI_ti (by omega)] at w
            exact ⟨c.toInt.toNat, nI_back (by omega), by omega, by have := Int32.toInt_lt c; omega⟩
          · rw [if_neg w]
            exact ⟨cx, rfl, Nat.le_refl _, by omega⟩
        have hmx : ∀ x, cx ≤ x → x < ex → (c ≤ nI x ↔ (if nI cx < c then c else nI cx) ≤ nI x) := by
          intro x x1 x2
          by_cases w : nI cx < c
          · rw [if_pos w]
          · rw [if_neg w]
            rw [i_lt, nI_ti (by omega)] at w
            rw [i_le, i_le, nI_ti (by omega), nI_ti (by omega)]
            omega
        rw [hcol] at qc hmx ⊢
        have hce : col < ex := by
          rw [nI_leI (by omega) hc31] at qc
          omega
        rw [change_ok ch (show k < 32 by omega) (show col < 32 by omega), bd1_s]
        dsimp only
        rw [nm_s, nI_1]
        obtain ⟨ch', hch, p1, p2⟩ := ih (k + 1) (upd ch (32 * k + col) (ch (32 * k + col) + (if z = 0 then -1 else 1))) (by omega) (by rw [i_le] at h2 ⊢; rw [nI_ti (by omega)] at h2 ⊢; omega) (by omega) (by omega) (by omega)
        refine ⟨ch', hch, fun y x a b d e => ?_, fun j hj => ?_⟩
        · rw [p1 y x a b d e, rs_upd ch (show col < 32 by omega) _ _ (by omega), Int32.add_assoc]
          refine addc ?_
          by_cases ey' : y = k
          · subst ey'
            have w1 : (c ≤ nI x ↔ col ≤ x) := by
              rw [hmx x d e, nI_leI (by omega) (by omega)]
            rw [hcc x (by omega)] at w1
            by_cases w : col ≤ x
            · rw [if_pos (by omega), if_neg (show ¬ (y + 1 ≤ y ∧ nI y < E ∧ crs (xs iu).toInt (ys iu).toInt (xs il).toInt (ys il).toInt (mid x) (mid y)) from fun v => by have := v.1; omega), Int32.add_zero, if_pos (show y ≤ y ∧ nI y < E ∧ crs (xs iu).toInt (ys iu).toInt (xs il).toInt (ys il).toInt (mid x) (mid y) from ⟨Nat.le_refl _, hkE, w1.mpr w⟩)]
            · rw [if_neg (by omega), if_neg (by omega), Int32.add_zero, if_neg (fun v => w (w1.mp v.2.2))]
          · have : (k + 1 ≤ y) ↔ (k ≤ y) := by omega
            rw [if_neg (fun v => ey' v.1), Int32.zero_add]
            simp only [this]
        · rw [p2 j hj, pk_un]
          intro ej
          exact hj ⟨k, col, h1, hk, hcx, hce, ej⟩
theorem addLine_ok {ia ib cx cy ex ey : Nat} {xs ys : Nat → Int32} (hx : cx ≤ 32) (hex : ex ≤ 32) (hy : cy ≤ 32) (hey : ey ≤ 32) (ha : ia < 800) (hb : ib < 800) (s1 : small (xs ia)) (s2 : small (ys ia)) (s3 : small (xs ib)) (s4 : small (ys ib)) (ch : Nat → Int32) : ∃ ch' : Nat → Int32, m_X2_addLine ys (nI cx) (nI cy) (nI ex) (nI ey) xs ch (nI ia) (nI ib) = some ch' ∧ (∀ y x, cy ≤ y → y < ey → cx ≤ x → x < ex → rs ch' y cx (x + 1 - cx) = rs ch y cx (x + 1 - cx) + dk (xs ia).toInt (ys ia).toInt (xs ib).toInt (ys ib).toInt (mid x) (mid y)) ∧ (∀ j, ¬ Bx cx cy ex ey j → ch' j = ch j) := by
  have start : ∀ {l : Int32}, small l → ∃ k0 : Nat, (if nI cy < fmi l then fmi l else nI cy) = nI k0 ∧ cy ≤ k0 ∧ fmi l ≤ nI k0 ∧ k0 ≤ 20000 ∧ ∀ y, cy ≤ y → y < ey → l.toInt ≤ mid y → k0 ≤ y := by
    intro l hl
    have hf := fm_int hl
    obtain ⟨l1, l2⟩ := id hl
    by_cases w : nI cy < fmi l
    · rw [if_pos w]
      rw [i_lt, nI_ti (by omega)] at w
      have hbk : fmi l = nI (fmi l).toInt.toNat := nI_back (by omega)
      refine ⟨(fmi l).toInt.toNat, hbk, by omega, ?_, by omega, fun y y1 y2 y3 => ?_⟩
      · rw [← hbk]
        exact i_le.mpr (Int.le_refl _)
      · have := (fm_le hl (show y < 4096 by omega)).mpr y3
        rw [i_le, nI_ti (by omega)] at this
        omega
    · rw [if_neg w]
      refine ⟨cy, rfl, Nat.le_refl _, Int32.not_lt.mp w, by omega, fun y y1 y2 y3 => y1⟩
  have ends : ∀ {l : Int32}, small l → (if fmi l < nI ey then fmi l else nI ey) ≤ nI ey ∧ (if fmi l < nI ey then fmi l else nI ey) ≤ fmi l ∧ ∀ y, y < ey → mid y < l.toInt → nI y < (if fmi l < nI ey then fmi l else nI ey) := by
    intro l hl
    by_cases w : fmi l < nI ey
    · rw [if_pos w]
      refine ⟨?_, i_le.mpr (Int.le_refl _), fun y y1 y2 => ?_⟩
      · rw [i_lt] at w
        rw [i_le]
        omega
      · have := (fm_le hl (show y < 4096 by omega))
        rw [i_le] at this
        rw [i_lt]
        omega
    · rw [if_neg w]
      refine ⟨i_le.mpr (Int.le_refl _), Int32.not_lt.mp w, fun y y1 y2 => nI_lt y1 (by omega)⟩
  unfold m_X2_addLine
  rw [inb_s ha (by decide), gd_s, nm_s, inb_s hb (by decide), gd_s, nm_s, nI_clamp (show ia < 2 ^ 31 by omega), nI_clamp (show ib < 2 ^ 31 by omega), jn_ite]
  by_cases q : ys ib ≤ ys ia
  · rw [if_pos q, jn_ite, if_pos rfl, jn_ite, if_pos rfl, inb_s hb (by decide), gd_s, nm_s, nI_clamp (show ib < 2 ^ 31 by omega), firstMiddle_ok, bd1_s, nm_s, inb_s ha (by decide), gd_s, nm_s, nI_clamp (show ia < 2 ^ 31 by omega), firstMiddle_ok, bd1_s, nm_s]
    obtain ⟨k0, e0, e1, e2, e3, e4⟩ := start s4
    obtain ⟨f1, f2, f3⟩ := ends s2
    obtain ⟨ch', hc, p1, p2⟩ := row_loop hx hex hy hey hb ha s3 s4 s1 s2 f1 f2 (z := 0) FU k0 ch e1 e2 e3 (by show 32 < k0 + 1000000; omega) (by show 0 < 1000000; omega)
    refine ⟨ch', by rw [e0]; exact hc, fun y x a b c d => ?_, p2⟩
    rw [p1 y x a b c d]
    refine addc ?_
    unfold dk
    rw [i_le] at q
    rw [if_neg (show ¬ crs (xs ia).toInt (ys ia).toInt (xs ib).toInt (ys ib).toInt (mid x) (mid y) from fun w => by have := w.1; have := w.2.1; omega), if_pos rfl]
    by_cases w : crs (xs ib).toInt (ys ib).toInt (xs ia).toInt (ys ia).toInt (mid x) (mid y)
    · rw [if_pos w, if_pos ⟨e4 y a b w.1, f3 y b w.2.1, w⟩]
    · rw [if_neg w, if_neg (fun v => w v.2.2)]
  · rw [if_neg q, jn_ite, if_neg (by decide), jn_ite, if_neg (by decide), inb_s ha (by decide), gd_s, nm_s, nI_clamp (show ia < 2 ^ 31 by omega), firstMiddle_ok, bd1_s, nm_s, inb_s hb (by decide), gd_s, nm_s, nI_clamp (show ib < 2 ^ 31 by omega), firstMiddle_ok, bd1_s, nm_s]
    obtain ⟨k0, e0, e1, e2, e3, e4⟩ := start s2
    obtain ⟨f1, f2, f3⟩ := ends s4
    obtain ⟨ch', hc, p1, p2⟩ := row_loop hx hex hy hey ha hb s1 s2 s3 s4 f1 f2 (z := 1) FU k0 ch e1 e2 e3 (by show 32 < k0 + 1000000; omega) (by show 0 < 1000000; omega)
    refine ⟨ch', by rw [e0]; exact hc, fun y x a b c d => ?_, p2⟩
    rw [p1 y x a b c d]
    refine addc ?_
    unfold dk
    rw [i_le] at q
    rw [if_neg (show ¬ (1 : Int32) = 0 by decide)]
    by_cases w : crs (xs ia).toInt (ys ia).toInt (xs ib).toInt (ys ib).toInt (mid x) (mid y)
    · rw [if_pos w, if_pos ⟨e4 y a b w.1, f3 y b w.2.1, w⟩]
    · rw [if_neg w, if_neg (fun v => w v.2.2), if_neg (show ¬ crs (xs ib).toInt (ys ib).toInt (xs ia).toInt (ys ia).toInt (mid x) (mid y) from fun v => by have := v.1; have := v.2.1; omega)]
def nfo (bg : Nat → Int32) (fo k : Nat) : Nat := if bg k = 0 then fo else k
def tgt (bg : Nat → Int32) (np fo k : Nat) : Nat := if k + 1 < np then (if bg (k + 1) = 0 then k + 1 else fo) else fo
def ws (xs ys bg : Nat → Int32) (np : Nat) (mx my : Int) : Nat → Nat → Nat → Int32
  | 0, _, _ => 0
  | t + 1, fo, k => dk (xs k).toInt (ys k).toInt (xs (tgt bg np (nfo bg fo k) k)).toInt (ys (tgt bg np (nfo bg fo k) k)).toInt mx my + ws xs ys bg np mx my t (nfo bg fo k) (k + 1)
theorem nfo_le {bg : Nat → Int32} {fo k : Nat} (h : fo ≤ k) : nfo bg fo k ≤ k := by
  unfold nfo
  split <;> omega
theorem tgt_lt {bg : Nat → Int32} {np fo k : Nat} (h : fo ≤ k) (hk : k < np) : tgt bg np fo k < np := by
  unfold tgt
  split
  · split <;> omega
  · omega
theorem endOfLine_ok {bg : Nat → Int32} {np fo k : Nat} (hn : np ≤ 800) (hk : k < np) : m_X5_endOfLine (nI np) bg (nI k) (nI fo) = some (nI (tgt bg np fo k)) := by
  unfold m_X5_endOfLine tgt
  rw [nm_s, nI_1]
  by_cases h : k + 1 < np
  · rw [if_neg (nI_ge h (by omega)), if_pos h, inb_s (show k + 1 < 800 by omega) (by decide), gd_s, nm_s, nI_clamp (show k + 1 < 2 ^ 31 by omega)]
    by_cases w : bg (k + 1) = 0
    · rw [if_pos w, if_pos w]
    · rw [if_neg w, if_neg w]
  · rw [if_pos (nI_le (by omega) (by omega)), if_neg h]
theorem lines_loop {np cx cy ex ey : Nat} {xs ys bg : Nat → Int32} (hx : cx ≤ 32) (hex : ex ≤ 32) (hy : cy ≤ 32) (hey : ey ≤ 32) (hn : np ≤ 800) (hs : ∀ j, j < np → small (xs j) ∧ small (ys j)) (K : (Nat → Int32) → Option (Int32 × (Nat → Int32) × (Nat → Int32))) : ∀ (t fu k fo : Nat) (ch : Nat → Int32), k + t = np → t < fu → fo ≤ k → ∃ ch' : Nat → Int32, lp_X2_fill_6 (nI np) K bg ys (nI cx) (nI cy) (nI ex) (nI ey) xs fu (nI fo) (nI k) ch = K ch' ∧ (∀ y x, cy ≤ y → y < ey → cx ≤ x → x < ex → rs ch' y cx (x + 1 - cx) = rs ch y cx (x + 1 - cx) + ws xs ys bg np (mid x) (mid y) t fo k) ∧ (∀ j, ¬ Bx cx cy ex ey j → ch' j = ch j) := by
  intro t
  induction t with
  | zero =>
    intro fu k fo ch h1 h2 h3
    obtain ⟨fu, rfl⟩ : ∃ j, fu = j + 1 := ⟨fu - 1, by omega⟩
    refine ⟨ch, ?_, fun y x a b c d => by rw [ws, Int32.add_zero], fun j _ => rfl⟩
    rw [lp_X2_fill_6, if_pos (nI_le (by omega) (by omega))]
  | succ t ih =>
    intro fu k fo ch h1 h2 h3
    obtain ⟨fu, rfl⟩ : ∃ j, fu = j + 1 := ⟨fu - 1, by omega⟩
    have hk : k < np := by omega
    have hf := nfo_le (bg := bg) h3
    have ht := tgt_lt (bg := bg) hf hk
    obtain ⟨ch1, hc1, p1, p2⟩ := addLine_ok hx hex hy hey (show k < 800 by omega) (show tgt bg np (nfo bg fo k) k < 800 by omega) (hs k hk).1 (hs k hk).2 (hs _ ht).1 (hs _ ht).2 ch
    obtain ⟨ch', hc, r1, r2⟩ := ih fu (k + 1) (nfo bg fo k) ch1 (by omega) (by omega) (by omega)
    refine ⟨ch', ?_, fun y x a b c d => ?_, fun j hj => (r2 j hj).trans (p2 j hj)⟩
    · have e : (if bg k = 0 then nI fo else nI k) = nI (nfo bg fo k) := by
        unfold nfo
        split <;> rfl
      rw [lp_X2_fill_6, if_neg (nI_ge hk (by omega)), inb_s (show k < 800 by omega) (by decide), gd_s, nm_s, nI_clamp (show k < 2 ^ 31 by omega), jn_ite, e, endOfLine_ok hn hk, bd1_s, hc1, bd1_s, nm_s, nI_1]
      exact hc
    · rw [r1 y x a b c d, p1 y x a b c d, ws, Int32.add_assoc]
theorem jn_to {β : Type} (J : Int32 → Option β) (a b v : Int32) (c : Prop) [Decidable c] : jn J (fun K => jn (K a) (fun k => if c then k else gd true (nm v (fun x => if x = 0 then K b else k)))) = J (if c then a else if v = 0 then b else a) := by
  simp only [jn_s, gd_s, nm_s]
  by_cases h : c
  · rw [if_pos h, if_pos h]
  · rw [if_neg h, if_neg h]
    by_cases w : v = 0
    · rw [if_pos w, if_pos w]
    · rw [if_neg w, if_neg w]
theorem up_math (mx my xk yk xt yt : Int) : (mx - xk) * (yt - yk) ≤ (my - yk) * (xt - xk) ↔ (my - yt) * (xk - xt) ≤ (mx - xt) * (yk - yt) := by
  have e1 : (mx - xk) * (yt - yk) = -((mx - xt) * (yk - yt)) + (xk - xt) * (yk - yt) := by
    rw [show mx - xk = (mx - xt) - (xk - xt) by omega, show yt - yk = -(yk - yt) by omega, Int.mul_neg, Int.sub_mul]
    omega
  have e2 : (my - yk) * (xt - xk) = -((my - yt) * (xk - xt)) + (xk - xt) * (yk - yt) := by
    rw [show my - yk = (my - yt) - (yk - yt) by omega, show xt - xk = -(xk - xt) by omega, Int.mul_neg, Int.sub_mul, Int.mul_comm (yk - yt) (xk - xt)]
    omega
  rw [e1, e2]
  omega
theorem isin_loop {m np : Nat} {xs ys bg px py begins : Nat → Int32} (hm : m ≤ 1) (hn : np ≤ 800) (hs : ∀ j, j < np → xs j = px (1000 * m + j) ∧ ys j = py (1000 * m + j) ∧ bg j = begins (1000 * m + j) ∧ small (xs j) ∧ small (ys j)) (K : Int32 → Option Int32) {mx my : Int64} (x y : Nat) (hx : x < 32) (hy : y < 32) (ex : mx.toInt = mid x) (ey : my.toInt = mid y) : ∀ (t fu k fo : Nat) (s : Int32), k + t = np → t < fu → fo ≤ k → lp_X12_isIn_31 (nI (1000 * m + np)) K begins py px mx my fu s (nI (1000 * m + fo)) (nI (1000 * m + k)) = K (s + ws xs ys bg np (mid x) (mid y) t fo k) := by
  intro t
  induction t with
  | zero =>
    intro fu k fo s h1 h2 h3
    obtain ⟨fu, rfl⟩ : ∃ j, fu = j + 1 := ⟨fu - 1, by omega⟩
    rw [lp_X12_isIn_31, if_pos (nI_le (by omega) (by omega)), ws, Int32.add_zero]
  | succ t ih =>
    intro fu k fo s h1 h2 h3
    obtain ⟨fu, rfl⟩ : ∃ j, fu = j + 1 := ⟨fu - 1, by omega⟩
    have hk : k < np := by omega
    have hf := nfo_le (bg := bg) h3
    have ht := tgt_lt (bg := bg) hf hk
    obtain ⟨a1, a2, a3, ⟨a4, a5⟩, ⟨a6, a7⟩⟩ := hs k hk
    have e : (if begins (1000 * m + k) = 0 then nI (1000 * m + fo) else nI (1000 * m + k)) = nI (1000 * m + nfo bg fo k) := by
      unfold nfo
      rw [← a3]
      split <;> rfl
    have e2 : (if nI (1000 * m + k) + 1 = nI (1000 * m + np) then nI (1000 * m + nfo bg fo k) else if begins (1000 * m + k + 1) = 0 then nI (1000 * m + k) + 1 else nI (1000 * m + nfo bg fo k)) = nI (1000 * m + tgt bg np (nfo bg fo k) k) := by
      rw [nI_1]
      unfold tgt
      by_cases w : k + 1 < np
      · rw [if_neg (show ¬ nI (1000 * m + k + 1) = nI (1000 * m + np) by rw [nI_eq (by omega) (by omega)]; omega), if_pos w, show 1000 * m + k + 1 = 1000 * m + (k + 1) by omega, ← (hs (k + 1) w).2.2.1]
        split <;> rfl
      · rw [if_pos (show nI (1000 * m + k + 1) = nI (1000 * m + np) by rw [nI_eq (by omega) (by omega)]; omega), if_neg w]
    rw [ws, ← Int32.add_assoc]
    generalize htt : tgt bg np (nfo bg fo k) k = to at ht e2 ⊢
    obtain ⟨b1, b2, b3, ⟨b4, b5⟩, ⟨b6, b7⟩⟩ := hs to ht
    have ih' := ih fu (k + 1) (nfo bg fo k) (s + dk (xs k).toInt (ys k).toInt (xs to).toInt (ys to).toInt (mid x) (mid y)) (by omega) (by omega) (by omega)
    rw [← ih']
    have hmx : mid x = 65536 * (x : Int) + 32768 := rfl
    have hmy : mid y = 65536 * (y : Int) + 32768 := rfl
    have v1 : (mx - (xs k).toInt64).toInt = mid x - (xs k).toInt := by
      rw [l_sub] <;> rw [ex, l_of] <;> omega
    have v2 : ((ys to).toInt64 - (ys k).toInt64).toInt = (ys to).toInt - (ys k).toInt := by
      rw [l_sub] <;> rw [l_of, l_of] <;> omega
    have v3 : (my - (ys k).toInt64).toInt = mid y - (ys k).toInt := by
      rw [l_sub] <;> rw [ey, l_of] <;> omega
    have v4 : ((xs to).toInt64 - (xs k).toInt64).toInt = (xs to).toInt - (xs k).toInt := by
      rw [l_sub] <;> rw [l_of, l_of] <;> omega
    have m1 := mul_bd (a := mid x - (xs k).toInt) (b := (ys to).toInt - (ys k).toInt) (B := 2147483648) (C := 2147483648) (by omega) (by omega)
    have m2 := mul_bd (a := mid y - (ys k).toInt) (b := (xs to).toInt - (xs k).toInt) (B := 2147483648) (C := 2147483648) (by omega) (by omega)
    have v5 : ((mx - (xs k).toInt64) * ((ys to).toInt64 - (ys k).toInt64)).toInt = (mid x - (xs k).toInt) * ((ys to).toInt - (ys k).toInt) := by
      rw [l_mul] <;> rw [v1, v2] <;> omega
    have v6 : ((my - (ys k).toInt64) * ((xs to).toInt64 - (xs k).toInt64)).toInt = (mid y - (ys k).toInt) * ((xs to).toInt - (xs k).toInt) := by
      rw [l_mul] <;> rw [v3, v4] <;> omega
    have ik : inb (nI (1000 * m + k)) 2000 = true := inb_s (by omega) (by decide)
    have it : inb (nI (1000 * m + to)) 2000 = true := inb_s (by omega) (by decide)
    have ck : (nI (1000 * m + k)).toNatClampNeg = 1000 * m + k := nI_clamp (by omega)
    have ct : (nI (1000 * m + to)).toNatClampNeg = 1000 * m + to := nI_clamp (by omega)
    have ik1 : inb (nI (1000 * m + k) + 1) 2000 = true := by rw [nI_1]; exact inb_s (by omega) (by decide)
    have ck1 : (nI (1000 * m + k) + 1).toNatClampNeg = 1000 * m + k + 1 := by rw [nI_1]; exact nI_clamp (by omega)
    rw [lp_X12_isIn_31, if_neg (nI_ge (by omega) (by omega)), ik, gd_s, nm_s, ck, jn_ite, e, ik1, ck1, jn_to, e2, gd_s, nm_s, jn_ite, it, gd_s, nm_s, ct, jn_ite, jn_s, ← a2, ← b2, ← a1, ← b1]
    have c1 : (0 < lg_cmp (ys k).toInt64 my) ↔ mid y < (ys k).toInt := by rw [lc_gt, ey, l_of]
    have c2 : (0 < lg_cmp (ys to).toInt64 my) ↔ mid y < (ys to).toInt := by rw [lc_gt, ey, l_of]
    have fin : ∀ s' : Int32, s' = s + dk (xs k).toInt (ys k).toInt (xs to).toInt (ys to).toInt (mid x) (mid y) → nm (nI (1000 * m + k) + 1) (fun x_32 => lp_X12_isIn_31 (nI (1000 * m + np)) K begins py px mx my fu s' (nI (1000 * m + nfo bg fo k)) x_32) = lp_X12_isIn_31 (nI (1000 * m + np)) K begins py px mx my fu (s + dk (xs k).toInt (ys k).toInt (xs to).toInt (ys to).toInt (mid x) (mid y)) (nI (1000 * m + nfo bg fo k)) (nI (1000 * m + (k + 1))) := by
      intro s' hs'
      rw [hs', nm_s, nI_1]
      rfl
    by_cases q1 : mid y < (ys k).toInt
    · rw [if_pos (c1.mpr q1)]
      by_cases q2 : mid y < (ys to).toInt
      · rw [if_pos (c2.mpr q2), if_pos rfl]
        apply fin
        unfold dk
        rw [if_neg (fun w => by have := w.1; omega), if_neg (fun w => by have := w.1; omega), Int32.add_zero]
      · rw [if_neg (fun w => q2 (c2.mp w)), if_neg (by decide), gd_s, nm_s, gd_s, nm_s, gd_s, nm_s, nm_s, gd_s, nm_s, gd_s, nm_s, gd_s, nm_s, nm_s, jn_s, if_pos rfl]
        by_cases q3 : 0 < lg_cmp ((mx - (xs k).toInt64) * ((ys to).toInt64 - (ys k).toInt64)) ((my - (ys k).toInt64) * ((xs to).toInt64 - (xs k).toInt64))
        · rw [if_pos q3]
          dsimp only
          rw [jn_s, if_pos rfl]
          dsimp only
          rw [nm_s]
          apply fin
          rw [lc_gt, v5, v6] at q3
          unfold dk
          rw [if_neg (fun w => by have := w.1; omega), if_neg]
          intro w
          have w3 := (up_math (mid x) (mid y) (xs k).toInt (ys k).toInt (xs to).toInt (ys to).toInt).mpr w.2.2
          omega
        · rw [if_neg q3]
          dsimp only
          rw [jn_s, if_neg (by decide), if_pos rfl]
          dsimp only
          rw [nm_s]
          apply fin
          rw [lc_gt, v5, v6] at q3
          unfold dk
          rw [if_neg (fun w => by have := w.1; omega), if_pos]
          exact ⟨by omega, q1, (up_math (mid x) (mid y) (xs k).toInt (ys k).toInt (xs to).toInt (ys to).toInt).mp (by omega)⟩
    · rw [if_neg (fun w => q1 (c1.mp w))]
      by_cases q2 : mid y < (ys to).toInt
      · rw [if_pos (c2.mpr q2), if_neg (by decide), gd_s, nm_s, gd_s, nm_s, gd_s, nm_s, nm_s, gd_s, nm_s, gd_s, nm_s, gd_s, nm_s, nm_s, jn_s, if_neg (by decide)]
        by_cases q3 : lg_cmp ((mx - (xs k).toInt64) * ((ys to).toInt64 - (ys k).toInt64)) ((my - (ys k).toInt64) * ((xs to).toInt64 - (xs k).toInt64)) < 0
        · rw [if_pos q3]
          dsimp only
          rw [jn_s, if_pos rfl]
          dsimp only
          rw [nm_s]
          apply fin
          rw [lc_lt, v5, v6] at q3
          unfold dk
          rw [if_neg (fun w => by have := w.2.2; omega), if_neg (fun w => by have := w.1; omega)]
        · rw [if_neg q3]
          dsimp only
          rw [jn_s, if_neg (by decide), if_neg (by decide)]
          dsimp only
          rw [nm_s]
          apply fin
          rw [lc_lt, v5, v6] at q3
          unfold dk
          rw [if_pos ⟨by omega, q2, by omega⟩]
      · rw [if_neg (fun w => q2 (c2.mp w)), if_pos rfl]
        apply fin
        unfold dk
        rw [if_neg (fun w => by have := w.2.1; omega), if_neg (fun w => by have := w.2.1; omega), Int32.add_zero]
