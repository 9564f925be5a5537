def R12 (o : Nat) (t : Nat → Int32) (colour way a b c d e f x y u v : Int32) : Prop := t o = a ∧ t (o + 1) = b ∧ t (o + 2) = c ∧ t (o + 3) = d ∧ t (o + 4) = e ∧ t (o + 5) = f ∧ t (o + 6) = x ∧ t (o + 7) = y ∧ t (o + 8) = u ∧ t (o + 9) = v ∧ t (o + 10) = colour ∧ t (o + 11) = way
def CBox (W H : Nat) (x y u v : Int32) : Prop := (∃ a b c d : Nat, x = nI a ∧ y = nI b ∧ u = nI c ∧ v = nI d ∧ a < c ∧ c ≤ W ∧ b < d ∧ d ≤ H) ∨ (x = 0 ∧ y = 0 ∧ u = 0 ∧ v = 0)
def small (v : Int32) : Prop := -1073741824 ≤ v.toInt ∧ v.toInt ≤ 1073741824
def RPath (m np nl : Nat) (points lines first ftx fty ltx lty lx ly gy : Int32) (xs ys bg : Nat → Int32) (rpoints px py begins rlines lastX lastY startX startY startPoint : Nat → Int32) : Prop :=
  points = nI np ∧ rpoints m = nI np ∧ np ≤ 800 ∧ lines = nI nl ∧ rlines m = nI nl ∧ nl ≤ 300 ∧
  (∀ j, j < np → xs j = px (1000 * m + j) ∧ ys j = py (1000 * m + j) ∧ bg j = begins (1000 * m + j) ∧ small (xs j) ∧ small (ys j)) ∧
  (0 < np → (∃ q : Nat, q < np ∧ first = nI q ∧ startPoint m = nI (1000 * m + q)) ∧ ftx = startX m ∧ fty = startY m ∧ ltx = lastX m ∧ lty = lastY m ∧
    (∀ j, j < np → lx ≤ xs j ∧ ly ≤ ys j ∧ ys j ≤ gy) ∧ (∃ j, j < np ∧ lx = xs j) ∧ (∃ j, j < np ∧ ly = ys j) ∧ (∃ j, j < np ∧ gy = ys j))
def RMach (m W H no np nl p : Nat) (open_ place points lines first ftx fty ltx lty lx ly gy : Int32) (xs ys bg : Nat → Int32) (colour way a b c d e f x y u v : Int32) (sc sw sa sb scc sd se sf sx sy su sv : Nat → Int32) (told saved saves at_ rpoints px py begins rlines lastX lastY startX startY startPoint : Nat → Int32) : Prop :=
  open_ = nI no ∧ saves m = nI no ∧ no ≤ 8 ∧ place = nI p ∧ at_ m = nI p ∧
  R12 (12 * m) told colour way a b c d e f x y u v ∧ CBox W H x y u v ∧
  (∀ i, i < no → R12 (12 * (8 * m + i)) saved (sc i) (sw i) (sa i) (sb i) (scc i) (sd i) (se i) (sf i) (sx i) (sy i) (su i) (sv i) ∧ CBox W H (sx i) (sy i) (su i) (sv i)) ∧
  RPath m np nl points lines first ftx fty ltx lty lx ly gy xs ys bg rpoints px py begins rlines lastX lastY startX startY startPoint
def RelX (v0_lookedOver : Int32) (v0_shortListMade : Int32) (v0_faultPlace : Int32) (v1_w : Int32) (v1_h : Int32) (n2 : Nat) (f2 : Nat → Int32) (v3_count : Int32) (f4 : Nat → Int32) (v5_count : Int32) (f6 : Nat → Int32) (v7_place : Int32) (v7_open : Int32) (v7_lines : Int32) (v7_begun : Int32) (v8_open : Int32) (v8_place : Int32) (v8_fills : Int32) (v8_painted : Int32) (f10 : Nat → Int32) (v11_points : Int32) (v11_lines : Int32) (v11_first : Int32) (v11_firstToldX : Int32) (v11_firstToldY : Int32) (v11_lastToldX : Int32) (v11_lastToldY : Int32) (v11_leastX : Int32) (v11_leastY : Int32) (v11_greatestY : Int32) (f12 : Nat → Int32) (f13 : Nat → Int32) (f14 : Nat → Int32) (v15_colour : Int32) (v15_way : Int32) (v16_a : Int32) (v16_b : Int32) (v16_c : Int32) (v16_d : Int32) (v16_e : Int32) (v16_f : Int32) (v17_x : Int32) (v17_y : Int32) (v17_endX : Int32) (v17_endY : Int32) (v18_a : Int32) (v18_b : Int32) (v18_c : Int32) (v18_d : Int32) (v18_e : Int32) (v18_f : Int32) (v20_colour : Nat → Int32) (v20_way : Nat → Int32) (v21_a : Nat → Int32) (v21_b : Nat → Int32) (v21_c : Nat → Int32) (v21_d : Nat → Int32) (v21_e : Nat → Int32) (v21_f : Nat → Int32) (v22_x : Nat → Int32) (v22_y : Nat → Int32) (v22_endX : Nat → Int32) (v22_endY : Nat → Int32) (v23_open : Int32) (v23_place : Int32) (v23_fills : Int32) (v23_painted : Int32) (v24_points : Int32) (v24_lines : Int32) (v24_first : Int32) (v24_firstToldX : Int32) (v24_firstToldY : Int32) (v24_lastToldX : Int32) (v24_lastToldY : Int32) (v24_leastX : Int32) (v24_leastY : Int32) (v24_greatestY : Int32) (f25 : Nat → Int32) (f26 : Nat → Int32) (f27 : Nat → Int32) (v28_colour : Int32) (v28_way : Int32) (v29_a : Int32) (v29_b : Int32) (v29_c : Int32) (v29_d : Int32) (v29_e : Int32) (v29_f : Int32) (v30_x : Int32) (v30_y : Int32) (v30_endX : Int32) (v30_endY : Int32) (v31_a : Int32) (v31_b : Int32) (v31_c : Int32) (v31_d : Int32) (v31_e : Int32) (v31_f : Int32) (v33_colour : Nat → Int32) (v33_way : Nat → Int32) (v34_a : Nat → Int32) (v34_b : Nat → Int32) (v34_c : Nat → Int32) (v34_d : Nat → Int32) (v34_e : Nat → Int32) (v34_f : Nat → Int32) (v35_x : Nat → Int32) (v35_y : Nat → Int32) (v35_endX : Nat → Int32) (v35_endY : Nat → Int32) (v36_lastFill : Int32) (v36_openedBehind : Int32) (v36_joinedAt : Int32) (v37_x : Int32) (v37_y : Int32) (v37_endX : Int32) (v37_endY : Int32) (v38_a : Int32) (v38_b : Int32) (v38_c : Int32) (v38_d : Int32) (v38_e : Int32) (v38_f : Int32) (v39_a : Int32) (v39_b : Int32) (v39_c : Int32) (v39_d : Int32) (v39_e : Int32) (v39_f : Int32) (v40_wide : Int32) (v40_tall : Int32) (v40_good : Int32) (v40_faultPlace : Int32) (v40_made : Int32) (v40_fills : Int32) (v40_painted : Int32) (v40_other : Int32) (f41 : Nat → Int32) (f42 : Nat → Int32) (f43 : Nat → Int32) (f44 : Nat → Int32) (f45 : Nat → Int32) (f46 : Nat → Int32) (f47 : Nat → Int32) (f48 : Nat → Int32) (f49 : Nat → Int32) (f50 : Nat → Int32) (f51 : Nat → Int32) (f52 : Nat → Int32) (f53 : Nat → Int32) (f54 : Nat → Int32) (f55 : Nat → Int32) (f56 : Nat → Int32) (f57 : Nat → Int32) (f58 : Nat → Int32) (f59 : Nat → Int32) (f60 : Nat → Int32) : Prop :=
  RSheet v1_w v1_h n2 f2 v40_wide v40_tall f41 ∧ (∀ i, i < 1024 → f10 i = 0) ∧ RList 0 0 v3_count f4 f43 f42 ∧ v0_lookedOver = v40_good ∧ zb v40_good ∧ v0_shortListMade = v40_made ∧ zb v40_made ∧ v0_faultPlace = v40_faultPlace ∧
  (v40_good = 1 → v8_fills = v40_fills ∧ v8_painted = v40_painted ∧ ∃ W H n no np nl p : Nat, v40_wide = nI W ∧ v40_tall = nI H ∧ W ≤ 32 ∧ H ≤ 32 ∧ v3_count = nI n ∧ n ≤ 1500 ∧ vfault f4 n = 0 ∧ (vr f4 n FU p no nl (decide (0 < np))).1 = 0 ∧ (vr f4 n FU p no nl (decide (0 < np))).2.2.1 = 0 ∧ p ≤ n ∧ 3 * np ≤ p + 3 * nl ∧ RMach 0 W H no np nl p v8_open v8_place v11_points v11_lines v11_first v11_firstToldX v11_firstToldY v11_lastToldX v11_lastToldY v11_leastX v11_leastY v11_greatestY f12 f13 f14 v15_colour v15_way v16_a v16_b v16_c v16_d v16_e v16_f v17_x v17_y v17_endX v17_endY v20_colour v20_way v21_a v21_b v21_c v21_d v21_e v21_f v22_x v22_y v22_endX v22_endY f44 f45 f46 f47 f48 f49 f50 f51 f53 f54 f55 f56 f57 f58) ∧
  (v40_made = 1 → RList 1500 1 v5_count f6 f43 f42 ∧ ∃ n : Nat, n ≤ 1500 ∧ v5_count = nI n ∧ vfault f6 n = 0)
theorem op_feed : Op_feed RelX := by
  intro v0_lookedOver v0_shortListMade v0_faultPlace v1_w v1_h n2 f2 v3_count f4 v5_count f6 v7_place v7_open v7_lines v7_begun v8_open v8_place v8_fills v8_painted f10 v11_points v11_lines v11_first v11_firstToldX v11_firstToldY v11_lastToldX v11_lastToldY v11_leastX v11_leastY v11_greatestY f12 f13 f14 v15_colour v15_way v16_a v16_b v16_c v16_d v16_e v16_f v17_x v17_y v17_endX v17_endY v18_a v18_b v18_c v18_d v18_e v18_f v20_colour v20_way v21_a v21_b v21_c v21_d v21_e v21_f v22_x v22_y v22_endX v22_endY v23_open v23_place v23_fills v23_painted v24_points v24_lines v24_first v24_firstToldX v24_firstToldY v24_lastToldX v24_lastToldY v24_leastX v24_leastY v24_greatestY f25 f26 f27 v28_colour v28_way v29_a v29_b v29_c v29_d v29_e v29_f v30_x v30_y v30_endX v30_endY v31_a v31_b v31_c v31_d v31_e v31_f v33_colour v33_way v34_a v34_b v34_c v34_d v34_e v34_f v35_x v35_y v35_endX v35_endY v36_lastFill v36_openedBehind v36_joinedAt v37_x v37_y v37_endX v37_endY v38_a v38_b v38_c v38_d v38_e v38_f v39_a v39_b v39_c v39_d v39_e v39_f v40_wide v40_tall v40_good v40_faultPlace v40_made v40_fills v40_painted v40_other f41 f42 f43 f44 f45 f46 f47 f48 f49 f50 f51 f52 f53 f54 f55 f56 f57 f58 f59 f60 q0 hR
  obtain ⟨hSh, hCh, hLi, hlg, hzg, hsm, hzm, hfp, hG, hM⟩ := hR
  obtain ⟨n, hn, rfl, hs, hw⟩ := hLi
  by_cases h : n = 1500
  · subst h
    refine ⟨-1, v0_lookedOver, v0_shortListMade, nI 1500, f4, v40_good, v40_made, f43, f42, ?_, rfeed_no hs _ _ _ _, hSh, hCh, ⟨1500, hn, rfl, hs, hw⟩, hlg, hzg, hsm, hzm, hfp, hG, hM⟩
    unfold m_X11_feed
    rw [show m_X10_hasRoom (nI 1500) 1 = some 0 from hasRoom_n (n := 1500) (k := 1) (by omega) (by omega) (by omega)]
    rfl
  · have hlt : n < 1500 := by omega
    refine ⟨nI (n + 1), 0, 0, nI (n + 1), upd f4 n q0, 0, 0, upd f43 0 (nI (n + 1)), upd f42 n q0, ?_, rfeed_ok hlt hs _ _ _ _, hSh, hCh, RList.push hlt q0 hw, rfl, Or.inl rfl, rfl, Or.inl rfl, hfp, fun h => absurd h (by decide), fun h => absurd h (by decide)⟩
    unfold m_X11_feed m_X11_listChanges
    rw [show m_X10_hasRoom (nI n) 1 = some 1 from hasRoom_y (k := 1) (by omega)]
    simp only [bd1_s, bd2_s, add_ok hlt, bd3_s]
    rfl

theorem op_reset : Op_reset RelX := by
  intro v0_lookedOver v0_shortListMade v0_faultPlace v1_w v1_h n2 f2 v3_count f4 v5_count f6 v7_place v7_open v7_lines v7_begun v8_open v8_place v8_fills v8_painted f10 v11_points v11_lines v11_first v11_firstToldX v11_firstToldY v11_lastToldX v11_lastToldY v11_leastX v11_leastY v11_greatestY f12 f13 f14 v15_colour v15_way v16_a v16_b v16_c v16_d v16_e v16_f v17_x v17_y v17_endX v17_endY v18_a v18_b v18_c v18_d v18_e v18_f v20_colour v20_way v21_a v21_b v21_c v21_d v21_e v21_f v22_x v22_y v22_endX v22_endY v23_open v23_place v23_fills v23_painted v24_points v24_lines v24_first v24_firstToldX v24_firstToldY v24_lastToldX v24_lastToldY v24_leastX v24_leastY v24_greatestY f25 f26 f27 v28_colour v28_way v29_a v29_b v29_c v29_d v29_e v29_f v30_x v30_y v30_endX v30_endY v31_a v31_b v31_c v31_d v31_e v31_f v33_colour v33_way v34_a v34_b v34_c v34_d v34_e v34_f v35_x v35_y v35_endX v35_endY v36_lastFill v36_openedBehind v36_joinedAt v37_x v37_y v37_endX v37_endY v38_a v38_b v38_c v38_d v38_e v38_f v39_a v39_b v39_c v39_d v39_e v39_f v40_wide v40_tall v40_good v40_faultPlace v40_made v40_fills v40_painted v40_other f41 f42 f43 f44 f45 f46 f47 f48 f49 f50 f51 f52 f53 f54 f55 f56 f57 f58 f59 f60  hR
  obtain ⟨hSh, hCh, hLi, hlg, hzg, hsm, hzm, hfp, hG, hM⟩ := hR
  obtain ⟨n, hn, rfl, hs, hw⟩ := hLi
  refine ⟨nI n, 0, 0, nI 0, 0, 0, upd f43 0 0, ?_, ?_, hSh, hCh, ⟨0, by omega, rfl, pk_us, fun j hj => by omega⟩, rfl, Or.inl rfl, rfl, Or.inl rfl, hfp, fun h => absurd h (by decide), fun h => absurd h (by decide)⟩
  · unfold m_X11_reset m_X11_listChanges m_X10_cutTo
    simp only [bd2_s]
    by_cases h : n = 0
    · subst h
      rfl
    · rw [if_neg (by decide), if_neg (show ¬ nI n ≤ (0 : Int32) from nI_nle (by omega) (by omega))]
      rfl
  · unfold m_X12_reset m_X12_changed
    simp only [inb_0_3, gd_s, nm_s, tn_0, hs, bd2_s]

theorem op_shorter : Op_shorter RelX := by
  intro v0_lookedOver v0_shortListMade v0_faultPlace v1_w v1_h n2 f2 v3_count f4 v5_count f6 v7_place v7_open v7_lines v7_begun v8_open v8_place v8_fills v8_painted f10 v11_points v11_lines v11_first v11_firstToldX v11_firstToldY v11_lastToldX v11_lastToldY v11_leastX v11_leastY v11_greatestY f12 f13 f14 v15_colour v15_way v16_a v16_b v16_c v16_d v16_e v16_f v17_x v17_y v17_endX v17_endY v18_a v18_b v18_c v18_d v18_e v18_f v20_colour v20_way v21_a v21_b v21_c v21_d v21_e v21_f v22_x v22_y v22_endX v22_endY v23_open v23_place v23_fills v23_painted v24_points v24_lines v24_first v24_firstToldX v24_firstToldY v24_lastToldX v24_lastToldY v24_leastX v24_leastY v24_greatestY f25 f26 f27 v28_colour v28_way v29_a v29_b v29_c v29_d v29_e v29_f v30_x v30_y v30_endX v30_endY v31_a v31_b v31_c v31_d v31_e v31_f v33_colour v33_way v34_a v34_b v34_c v34_d v34_e v34_f v35_x v35_y v35_endX v35_endY v36_lastFill v36_openedBehind v36_joinedAt v37_x v37_y v37_endX v37_endY v38_a v38_b v38_c v38_d v38_e v38_f v39_a v39_b v39_c v39_d v39_e v39_f v40_wide v40_tall v40_good v40_faultPlace v40_made v40_fills v40_painted v40_other f41 f42 f43 f44 f45 f46 f47 f48 f49 f50 f51 f52 f53 f54 f55 f56 f57 f58 f59 f60 q0 hR
  obtain ⟨hSh, hCh, hLi, hlg, hzg, hsm, hzm, hfp, hG, hM⟩ := hR
  have hR : RelX v0_lookedOver v0_shortListMade v0_faultPlace v1_w v1_h n2 f2 v3_count f4 v5_count f6 v7_place v7_open v7_lines v7_begun v8_open v8_place v8_fills v8_painted f10 v11_points v11_lines v11_first v11_firstToldX v11_firstToldY v11_lastToldX v11_lastToldY v11_leastX v11_leastY v11_greatestY f12 f13 f14 v15_colour v15_way v16_a v16_b v16_c v16_d v16_e v16_f v17_x v17_y v17_endX v17_endY v18_a v18_b v18_c v18_d v18_e v18_f v20_colour v20_way v21_a v21_b v21_c v21_d v21_e v21_f v22_x v22_y v22_endX v22_endY v23_open v23_place v23_fills v23_painted v24_points v24_lines v24_first v24_firstToldX v24_firstToldY v24_lastToldX v24_lastToldY v24_leastX v24_leastY v24_greatestY f25 f26 f27 v28_colour v28_way v29_a v29_b v29_c v29_d v29_e v29_f v30_x v30_y v30_endX v30_endY v31_a v31_b v31_c v31_d v31_e v31_f v33_colour v33_way v34_a v34_b v34_c v34_d v34_e v34_f v35_x v35_y v35_endX v35_endY v36_lastFill v36_openedBehind v36_joinedAt v37_x v37_y v37_endX v37_endY v38_a v38_b v38_c v38_d v38_e v38_f v39_a v39_b v39_c v39_d v39_e v39_f v40_wide v40_tall v40_good v40_faultPlace v40_made v40_fills v40_painted v40_other f41 f42 f43 f44 f45 f46 f47 f48 f49 f50 f51 f52 f53 f54 f55 f56 f57 f58 f59 f60 := ⟨hSh, hCh, hLi, hlg, hzg, hsm, hzm, hfp, hG, hM⟩
  rcases hzm with h0 | h1
  · refine ⟨-2000000000, ?_, ?_, hR⟩
    · unfold m_X11_shorter
      rw [if_pos (by rw [hsm, h0])]
    · unfold m_X12_shorter
      rw [if_pos h0]
  · obtain ⟨⟨n, hn, hc, hs, hw⟩, -⟩ := hM h1
    subst hc
    unfold m_X11_shorter m_X12_shorter
    rw [if_neg (show ¬ v0_shortListMade = 0 by rw [hsm, h1]; decide), if_neg (show ¬ v40_made = 0 by rw [h1]; decide)]
    by_cases hq : q0 < 0
    · exact ⟨-2000000000, by rw [if_pos hq], by rw [if_pos hq], hR⟩
    obtain ⟨j, hj, rfl⟩ := nI_of hq
    rw [if_neg hq, if_neg hq]
    simp only [inb_1_3, gd_s, nm_s, tn_1, hs]
    by_cases hjn : j < n
    · refine ⟨f6 j, ?_, ?_, hR⟩
      · rw [if_pos (nI_lt hjn (by omega)), word_ok hjn hn]
        rfl
      · rw [if_pos (nI_lt hjn (by omega)), show (1500 : Int32) + nI j = nI (1500 + j) from nI_add 1500 j, inb_s (show 1500 + j < 4500 by omega) (by omega)]
        simp only [gd_s, nm_s, nI_clamp (show 1500 + j < 2 ^ 31 by omega)]
        rw [hw j hjn]
    · exact ⟨-2000000000, by rw [if_neg (nI_nlt (by omega) (by omega))], by rw [if_neg (nI_nlt (by omega) (by omega))], hR⟩

theorem op_pixel : Op_pixel RelX := by
  intro v0_lookedOver v0_shortListMade v0_faultPlace v1_w v1_h n2 f2 v3_count f4 v5_count f6 v7_place v7_open v7_lines v7_begun v8_open v8_place v8_fills v8_painted f10 v11_points v11_lines v11_first v11_firstToldX v11_firstToldY v11_lastToldX v11_lastToldY v11_leastX v11_leastY v11_greatestY f12 f13 f14 v15_colour v15_way v16_a v16_b v16_c v16_d v16_e v16_f v17_x v17_y v17_endX v17_endY v18_a v18_b v18_c v18_d v18_e v18_f v20_colour v20_way v21_a v21_b v21_c v21_d v21_e v21_f v22_x v22_y v22_endX v22_endY v23_open v23_place v23_fills v23_painted v24_points v24_lines v24_first v24_firstToldX v24_firstToldY v24_lastToldX v24_lastToldY v24_leastX v24_leastY v24_greatestY f25 f26 f27 v28_colour v28_way v29_a v29_b v29_c v29_d v29_e v29_f v30_x v30_y v30_endX v30_endY v31_a v31_b v31_c v31_d v31_e v31_f v33_colour v33_way v34_a v34_b v34_c v34_d v34_e v34_f v35_x v35_y v35_endX v35_endY v36_lastFill v36_openedBehind v36_joinedAt v37_x v37_y v37_endX v37_endY v38_a v38_b v38_c v38_d v38_e v38_f v39_a v39_b v39_c v39_d v39_e v39_f v40_wide v40_tall v40_good v40_faultPlace v40_made v40_fills v40_painted v40_other f41 f42 f43 f44 f45 f46 f47 f48 f49 f50 f51 f52 f53 f54 f55 f56 f57 f58 f59 f60 q0 q1 hR
  obtain ⟨hSh, hCh, hLi, hlg, hzg, hsm, hzm, hfp, hG, hM⟩ := hR
  obtain ⟨r, h1, h2⟩ := pixel_eq hSh q0 q1
  exact ⟨r, h1, h2, hSh, hCh, hLi, hlg, hzg, hsm, hzm, hfp, hG, hM⟩

theorem op_clear : Op_clear RelX := by
  intro v0_lookedOver v0_shortListMade v0_faultPlace v1_w v1_h n2 f2 v3_count f4 v5_count f6 v7_place v7_open v7_lines v7_begun v8_open v8_place v8_fills v8_painted f10 v11_points v11_lines v11_first v11_firstToldX v11_firstToldY v11_lastToldX v11_lastToldY v11_leastX v11_leastY v11_greatestY f12 f13 f14 v15_colour v15_way v16_a v16_b v16_c v16_d v16_e v16_f v17_x v17_y v17_endX v17_endY v18_a v18_b v18_c v18_d v18_e v18_f v20_colour v20_way v21_a v21_b v21_c v21_d v21_e v21_f v22_x v22_y v22_endX v22_endY v23_open v23_place v23_fills v23_painted v24_points v24_lines v24_first v24_firstToldX v24_firstToldY v24_lastToldX v24_lastToldY v24_leastX v24_leastY v24_greatestY f25 f26 f27 v28_colour v28_way v29_a v29_b v29_c v29_d v29_e v29_f v30_x v30_y v30_endX v30_endY v31_a v31_b v31_c v31_d v31_e v31_f v33_colour v33_way v34_a v34_b v34_c v34_d v34_e v34_f v35_x v35_y v35_endX v35_endY v36_lastFill v36_openedBehind v36_joinedAt v37_x v37_y v37_endX v37_endY v38_a v38_b v38_c v38_d v38_e v38_f v39_a v39_b v39_c v39_d v39_e v39_f v40_wide v40_tall v40_good v40_faultPlace v40_made v40_fills v40_painted v40_other f41 f42 f43 f44 f45 f46 f47 f48 f49 f50 f51 f52 f53 f54 f55 f56 f57 f58 f59 f60 q0 hR
  obtain ⟨hSh, hCh, hLi, hlg, hzg, hsm, hzm, hfp, hG, hM⟩ := hR
  obtain ⟨px, sh, h1, h2, h3⟩ := clear_eq hSh q0
  exact ⟨px, sh, h1, h2, h3, hCh, hLi, hlg, hzg, hsm, hzm, hfp, hG, hM⟩

theorem op_sum : Op_sum RelX := by
  intro v0_lookedOver v0_shortListMade v0_faultPlace v1_w v1_h n2 f2 v3_count f4 v5_count f6 v7_place v7_open v7_lines v7_begun v8_open v8_place v8_fills v8_painted f10 v11_points v11_lines v11_first v11_firstToldX v11_firstToldY v11_lastToldX v11_lastToldY v11_leastX v11_leastY v11_greatestY f12 f13 f14 v15_colour v15_way v16_a v16_b v16_c v16_d v16_e v16_f v17_x v17_y v17_endX v17_endY v18_a v18_b v18_c v18_d v18_e v18_f v20_colour v20_way v21_a v21_b v21_c v21_d v21_e v21_f v22_x v22_y v22_endX v22_endY v23_open v23_place v23_fills v23_painted v24_points v24_lines v24_first v24_firstToldX v24_firstToldY v24_lastToldX v24_lastToldY v24_leastX v24_leastY v24_greatestY f25 f26 f27 v28_colour v28_way v29_a v29_b v29_c v29_d v29_e v29_f v30_x v30_y v30_endX v30_endY v31_a v31_b v31_c v31_d v31_e v31_f v33_colour v33_way v34_a v34_b v34_c v34_d v34_e v34_f v35_x v35_y v35_endX v35_endY v36_lastFill v36_openedBehind v36_joinedAt v37_x v37_y v37_endX v37_endY v38_a v38_b v38_c v38_d v38_e v38_f v39_a v39_b v39_c v39_d v39_e v39_f v40_wide v40_tall v40_good v40_faultPlace v40_made v40_fills v40_painted v40_other f41 f42 f43 f44 f45 f46 f47 f48 f49 f50 f51 f52 f53 f54 f55 f56 f57 f58 f59 f60  hR
  obtain ⟨hSh, hCh, hLi, hlg, hzg, hsm, hzm, hfp, hG, hM⟩ := hR
  obtain ⟨r, h1, h2⟩ := sum_eq hSh
  exact ⟨r, h1, h2, hSh, hCh, hLi, hlg, hzg, hsm, hzm, hfp, hG, hM⟩
