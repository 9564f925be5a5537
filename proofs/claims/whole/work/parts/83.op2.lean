set_option maxHeartbeats 2000000 in
theorem op_verify : Op_verify RelX := by
  intro v0_lookedOver v0_shortListMade v0_faultPlace v1_w v1_h n2 f2 v3_count f4 v5_count f6 v7_place v7_open v7_lines v7_begun v8_open v8_place v8_fills v8_painted f10 v11_points v11_lines v11_first v11_firstToldX v11_firstToldY v11_lastToldX v11_lastToldY v11_leastX v11_leastY v11_greatestY f12 f13 f14 v15_colour v15_way v16_a v16_b v16_c v16_d v16_e v16_f v17_x v17_y v17_endX v17_endY v18_a v18_b v18_c v18_d v18_e v18_f v20_colour v20_way v21_a v21_b v21_c v21_d v21_e v21_f v22_x v22_y v22_endX v22_endY v23_open v23_place v23_fills v23_painted v24_points v24_lines v24_first v24_firstToldX v24_firstToldY v24_lastToldX v24_lastToldY v24_leastX v24_leastY v24_greatestY f25 f26 f27 v28_colour v28_way v29_a v29_b v29_c v29_d v29_e v29_f v30_x v30_y v30_endX v30_endY v31_a v31_b v31_c v31_d v31_e v31_f v33_colour v33_way v34_a v34_b v34_c v34_d v34_e v34_f v35_x v35_y v35_endX v35_endY v36_lastFill v36_openedBehind v36_joinedAt v37_x v37_y v37_endX v37_endY v38_a v38_b v38_c v38_d v38_e v38_f v39_a v39_b v39_c v39_d v39_e v39_f v40_wide v40_tall v40_good v40_faultPlace v40_made v40_fills v40_painted v40_other f41 f42 f43 f44 f45 f46 f47 f48 f49 f50 f51 f52 f53 f54 f55 f56 f57 f58 f59 f60  hR
  obtain ⟨hSh, hCh, hLi, hlg, hzg, hsm, hzm, hfp, hG, hM⟩ := hR
  obtain ⟨n, hn, rfl, hs, hw⟩ := hLi
  obtain ⟨W, H, a1, a2, a3, a4, rfl, rfl, rfl, rfl, rfl, hp⟩ := hSh
  have hcg := vfault_congr (f := f4) (g := f42) (n := n) (fun j hj => by have := hw j hj; rwa [Nat.zero_add] at this)
  obtain ⟨x, y, z, hl, h8, hpl⟩ := look_ok hn f4 v7_place v7_open v7_lines v7_begun
  obtain ⟨told, hr, hR12, hkeep⟩ := rverify_ok (wd := f42) hn hs (nI W) (nI H) v40_good v40_faultPlace v40_fills v40_painted f44 f46 f47 f48 f52 f53
  rw [← hcg.1, ← hcg.2] at hr
  have hSh : RSheet (nI W) (nI H) (W * H) f2 (nI W) (nI H) f41 := ⟨W, H, a1, a2, a3, a4, rfl, rfl, rfl, rfl, rfl, hp⟩
  by_cases hv : vfault f4 n = 0
  · rw [hv, if_pos rfl, if_pos rfl] at hr
    refine ⟨nI 0, 1, -2, nI (vplace f4 n), x, y, z, 0, 0, 0, 0, -16777216, 0, 65536, 0, 0, 65536, 0, 0, 0, 0, nI W, nI H, 0, 0, 0, 1, -2, 0, 0, told, upd f46 0 0, upd f47 0 0, upd f48 0 0, upd f52 0 (vp_nar .boolean 0), upd f53 0 0, ?_, hr, hSh, hCh, ⟨n, hn, rfl, hs, hw⟩, rfl, Or.inr rfl, hsm, hzm, rfl, fun _ => ⟨rfl, rfl, W, H, n, 0, 0, 0, 0, rfl, rfl, a2, a4, rfl, hn, hv, ?_, ?_, by omega, by omega, rfl, pk_us, by omega, rfl, pk_us, hR12, Or.inl ⟨0, 0, W, H, rfl, rfl, rfl, rfl, by omega, Nat.le_refl _, by omega, Nat.le_refl _⟩, fun i hi => by omega, rfl, pk_us, by omega, rfl, pk_us, by omega, fun j hj => by omega, fun h => by omega⟩, hM⟩
    · unfold m_X11_verify
      rw [hl, hv]
      rfl
    · unfold vfault at hv
      show (vr f4 n FU 0 0 0 false).1 = 0
      by_cases q : (vr f4 n FU 0 0 0 false).1 = 0
      · exact q
      · rw [if_neg q] at hv
        exact hv
    · unfold vfault at hv
      show (vr f4 n FU 0 0 0 false).2.2.1 = 0
      by_cases q : (vr f4 n FU 0 0 0 false).1 = 0
      · rw [if_pos q] at hv
        by_cases q2 : (vr f4 n FU 0 0 0 false).2.2.1 = 0
        · exact q2
        · rw [if_neg q2] at hv
          omega
      · rw [if_neg q] at hv
        exact absurd hv q
  · rw [if_neg hv, if_neg hv] at hr
    refine ⟨nI (vfault f4 n), 0, nI (vplace f4 n), nI (vplace f4 n), x, y, z, v8_open, v8_place, v8_fills, v8_painted, v15_colour, v15_way, v16_a, v16_b, v16_c, v16_d, v16_e, v16_f, v17_x, v17_y, v17_endX, v17_endY, v11_points, v11_lines, v11_first, 0, nI (vplace f4 n), 0, 0, told, upd f46 0 0, upd f47 0 0, upd f48 0 0, upd f52 0 (vp_nar .boolean 0), upd f53 0 0, ?_, hr, hSh, hCh, ⟨n, hn, rfl, hs, hw⟩, rfl, Or.inl rfl, hsm, hzm, rfl, fun h => absurd h (by decide), hM⟩
    unfold m_X11_verify
    rw [hl]
    simp only [bd5_s, jn_s]
    rw [if_neg (show ¬ nI (vfault f4 n) = (0 : Int32) from nI_ne0 (by omega) (by omega))]
    rfl

set_option maxHeartbeats 2000000 in
theorem op_five : Op_five RelX := by
  intro v0_lookedOver v0_shortListMade v0_faultPlace v1_w v1_h n2 f2 v3_count f4 v5_count f6 v7_place v7_open v7_lines v7_begun v8_open v8_place v8_fills v8_painted f10 v11_points v11_lines v11_first v11_firstToldX v11_firstToldY v11_lastToldX v11_lastToldY v11_leastX v11_leastY v11_greatestY f12 f13 f14 v15_colour v15_way v16_a v16_b v16_c v16_d v16_e v16_f v17_x v17_y v17_endX v17_endY v18_a v18_b v18_c v18_d v18_e v18_f v20_colour v20_way v21_a v21_b v21_c v21_d v21_e v21_f v22_x v22_y v22_endX v22_endY v23_open v23_place v23_fills v23_painted v24_points v24_lines v24_first v24_firstToldX v24_firstToldY v24_lastToldX v24_lastToldY v24_leastX v24_leastY v24_greatestY f25 f26 f27 v28_colour v28_way v29_a v29_b v29_c v29_d v29_e v29_f v30_x v30_y v30_endX v30_endY v31_a v31_b v31_c v31_d v31_e v31_f v33_colour v33_way v34_a v34_b v34_c v34_d v34_e v34_f v35_x v35_y v35_endX v35_endY v36_lastFill v36_openedBehind v36_joinedAt v37_x v37_y v37_endX v37_endY v38_a v38_b v38_c v38_d v38_e v38_f v39_a v39_b v39_c v39_d v39_e v39_f v40_wide v40_tall v40_good v40_faultPlace v40_made v40_fills v40_painted v40_other f41 f42 f43 f44 f45 f46 f47 f48 f49 f50 f51 f52 f53 f54 f55 f56 f57 f58 f59 f60 q0 q1 q2 q3 q4 hR
  obtain ⟨hSh, hCh, hLi, hlg, hzg, hsm, hzm, hfp, hG, hM⟩ := hR
  obtain ⟨n, hn, rfl, hs, hw⟩ := hLi
  by_cases h : n + 5 ≤ 1500
  · have hs1 : (upd f43 0 (nI (n + 1))) 0 = nI (n + 1) := pk_us
    obtain ⟨n1, m1, e1, s1, w1⟩ := RList.push (sz := f43) (show n < 1500 by omega) q0 hw
    refine ⟨nI (n + 5), 0, 0, nI (n + 5), upd (upd (upd (upd (upd f4 n q0) (n + 1) q1) (n + 2) q2) (n + 3) q3) (n + 4) q4, 0, 0, upd (upd (upd (upd (upd f43 0 (nI (n + 1))) 0 (nI (n + 2))) 0 (nI (n + 3))) 0 (nI (n + 4))) 0 (nI (n + 5)), upd (upd (upd (upd (upd f42 n q0) (n + 1) q1) (n + 2) q2) (n + 3) q3) (n + 4) q4, ?_, ?_, hSh, hCh, ⟨n + 5, h, rfl, pk_us, fun j hj => ?_⟩, rfl, Or.inl rfl, rfl, Or.inl rfl, hfp, fun h => absurd h (by decide), fun h => absurd h (by decide)⟩
    · unfold m_X11_five m_X11_listChanges
      rw [show m_X10_hasRoom (nI n) 5 = some 1 from hasRoom_y (k := 5) h]
      simp only [bd1_s, bd2_s, add_ok (show n < 1500 by omega), add_ok (show n + 1 < 1500 by omega), add_ok (show n + 1 + 1 < 1500 by omega), add_ok (show n + 1 + 1 + 1 < 1500 by omega), add_ok (show n + 1 + 1 + 1 + 1 < 1500 by omega), bd3_s]
      rfl
    · unfold m_X12_five
      simp only [inb_0_3, gd_s, nm_s, tn_0, hs]
      rw [show nI n + 5 = nI (n + 5) from nI_add n 5, if_pos (show nI (n + 5) ≤ (1500 : Int32) from nI_le (b := 1500) h (by decide)), rfeed_ok (show n < 1500 by omega) hs]
      simp only [bd5_s]
      rw [rfeed_ok (n := n + 1) (by omega) pk_us]
      simp only [bd5_s]
      rw [rfeed_ok (n := n + 2) (by omega) pk_us]
      simp only [bd5_s]
      rw [rfeed_ok (n := n + 3) (by omega) pk_us]
      simp only [bd5_s]
      rw [rfeed_ok (n := n + 4) (by omega) pk_us]
      rfl
    · have hj' := fun (hlt : j < n) => hw j hlt
      simp only [upd, Nat.zero_add] at hj' ⊢
      by_cases c4 : j = n + 4
      · simp [c4]
      by_cases c3 : j = n + 3
      · simp [c3]
      by_cases c2 : j = n + 2
      · simp [c2]
      by_cases c1 : j = n + 1
      · simp [c1]
      by_cases c0 : j = n
      · simp [c0]
      simp only [c4, c3, c2, c1, c0, if_false]
      exact hj' (by omega)
  · refine ⟨-1, v0_lookedOver, v0_shortListMade, nI n, f4, v40_good, v40_made, f43, f42, ?_, ?_, hSh, hCh, ⟨n, hn, rfl, hs, hw⟩, hlg, hzg, hsm, hzm, hfp, hG, hM⟩
    · unfold m_X11_five
      rw [show m_X10_hasRoom (nI n) 5 = some 0 from hasRoom_n (k := 5) (by omega) hn (by omega)]
      rfl
    · unfold m_X12_five
      simp only [inb_0_3, gd_s, nm_s, tn_0, hs]
      rw [show nI n + 5 = nI (n + 5) from nI_add n 5, if_neg (show ¬ nI (n + 5) ≤ (1500 : Int32) from nI_ge (a := 1500) (by omega) (by omega))]

set_option maxHeartbeats 2000000 in
theorem op_state : Op_state RelX := by
  intro v0_lookedOver v0_shortListMade v0_faultPlace v1_w v1_h n2 f2 v3_count f4 v5_count f6 v7_place v7_open v7_lines v7_begun v8_open v8_place v8_fills v8_painted f10 v11_points v11_lines v11_first v11_firstToldX v11_firstToldY v11_lastToldX v11_lastToldY v11_leastX v11_leastY v11_greatestY f12 f13 f14 v15_colour v15_way v16_a v16_b v16_c v16_d v16_e v16_f v17_x v17_y v17_endX v17_endY v18_a v18_b v18_c v18_d v18_e v18_f v20_colour v20_way v21_a v21_b v21_c v21_d v21_e v21_f v22_x v22_y v22_endX v22_endY v23_open v23_place v23_fills v23_painted v24_points v24_lines v24_first v24_firstToldX v24_firstToldY v24_lastToldX v24_lastToldY v24_leastX v24_leastY v24_greatestY f25 f26 f27 v28_colour v28_way v29_a v29_b v29_c v29_d v29_e v29_f v30_x v30_y v30_endX v30_endY v31_a v31_b v31_c v31_d v31_e v31_f v33_colour v33_way v34_a v34_b v34_c v34_d v34_e v34_f v35_x v35_y v35_endX v35_endY v36_lastFill v36_openedBehind v36_joinedAt v37_x v37_y v37_endX v37_endY v38_a v38_b v38_c v38_d v38_e v38_f v39_a v39_b v39_c v39_d v39_e v39_f v40_wide v40_tall v40_good v40_faultPlace v40_made v40_fills v40_painted v40_other f41 f42 f43 f44 f45 f46 f47 f48 f49 f50 f51 f52 f53 f54 f55 f56 f57 f58 f59 f60 q0 hR
  obtain ⟨hSh, hCh, hLi, hlg, hzg, hsm, hzm, hfp, hG, hM⟩ := hR
  have hR : RelX v0_lookedOver v0_shortListMade v0_faultPlace v1_w v1_h n2 f2 v3_count f4 v5_count f6 v7_place v7_open v7_lines v7_begun v8_open v8_place v8_fills v8_painted f10 v11_points v11_lines v11_first v11_firstToldX v11_firstToldY v11_lastToldX v11_lastToldY v11_leastX v11_leastY v11_greatestY f12 f13 f14 v15_colour v15_way v16_a v16_b v16_c v16_d v16_e v16_f v17_x v17_y v17_endX v17_endY v18_a v18_b v18_c v18_d v18_e v18_f v20_colour v20_way v21_a v21_b v21_c v21_d v21_e v21_f v22_x v22_y v22_endX v22_endY v23_open v23_place v23_fills v23_painted v24_points v24_lines v24_first v24_firstToldX v24_firstToldY v24_lastToldX v24_lastToldY v24_leastX v24_leastY v24_greatestY f25 f26 f27 v28_colour v28_way v29_a v29_b v29_c v29_d v29_e v29_f v30_x v30_y v30_endX v30_endY v31_a v31_b v31_c v31_d v31_e v31_f v33_colour v33_way v34_a v34_b v34_c v34_d v34_e v34_f v35_x v35_y v35_endX v35_endY v36_lastFill v36_openedBehind v36_joinedAt v37_x v37_y v37_endX v37_endY v38_a v38_b v38_c v38_d v38_e v38_f v39_a v39_b v39_c v39_d v39_e v39_f v40_wide v40_tall v40_good v40_faultPlace v40_made v40_fills v40_painted v40_other f41 f42 f43 f44 f45 f46 f47 f48 f49 f50 f51 f52 f53 f54 f55 f56 f57 f58 f59 f60 := ⟨hSh, hCh, hLi, hlg, hzg, hsm, hzm, hfp, hG, hM⟩
  obtain ⟨n, hn, hc, hs, hw⟩ := hLi
  by_cases k0 : q0 = 0
  · subst k0
    refine ⟨v3_count, rfl, ?_, hR⟩
    show some (f43 0) = some v3_count
    rw [hs, hc]
  by_cases k2 : q0 = 2
  · subst k2
    refine ⟨v0_faultPlace, rfl, ?_, hR⟩
    show some v40_faultPlace = some v0_faultPlace
    rw [hfp]
  rcases hzg with g0 | g1
  · refine ⟨-2000000000, ?_, ?_, hR⟩
    · unfold m_X11_state
      rw [if_neg k0, if_neg k2, if_pos (by rw [hlg, g0])]
    · unfold m_X12_state
      simp only [jn_s]
      rw [if_neg k0, if_neg k2, if_pos g0]
  obtain ⟨hfi, hpa, W, H, n', no, np, nl, p, -, -, -, -, -, -, -, -, -, -, -, e_op, s_op, -, e_pl, s_at, ⟨t0, t1, t2, t3, t4, t5, t6, t7, t8, t9, t10, t11⟩, -, -, e_np, s_np, -, e_nl, s_nl, -⟩ := hG g1
  subst g1
  subst hlg
  by_cases k1 : q0 = 1
  · subst k1
    refine ⟨v8_place, rfl, ?_, hR⟩
    show some (f47 0) = some v8_place
    exact congrArg some (s_at.trans e_pl.symm)
  by_cases k3 : q0 = 3
  · subst k3
    refine ⟨v8_open, rfl, ?_, hR⟩
    show some (f46 0) = some v8_open
    exact congrArg some (s_op.trans e_op.symm)
  by_cases k4 : q0 = 4
  · subst k4
    refine ⟨v15_colour, rfl, ?_, hR⟩
    show some (f44 10) = some v15_colour
    exact congrArg some (t10)
  by_cases k5 : q0 = 5
  · subst k5
    refine ⟨v15_way, rfl, ?_, hR⟩
    show some (f44 11) = some v15_way
    exact congrArg some (t11)
  by_cases k6 : q0 = 6
  · subst k6
    refine ⟨v17_x, rfl, ?_, hR⟩
    show some (f44 6) = some v17_x
    exact congrArg some (t6)
  by_cases k7 : q0 = 7
  · subst k7
    refine ⟨v17_y, rfl, ?_, hR⟩
    show some (f44 7) = some v17_y
    exact congrArg some (t7)
  by_cases k8 : q0 = 8
  · subst k8
    refine ⟨v17_endX, rfl, ?_, hR⟩
    show some (f44 8) = some v17_endX
    exact congrArg some (t8)
  by_cases k9 : q0 = 9
  · subst k9
    refine ⟨v17_endY, rfl, ?_, hR⟩
    show some (f44 9) = some v17_endY
    exact congrArg some (t9)
  by_cases k10 : q0 = 10
  · subst k10
    refine ⟨v16_a, rfl, ?_, hR⟩
    show some (f44 0) = some v16_a
    exact congrArg some (t0)
  by_cases k11 : q0 = 11
  · subst k11
    refine ⟨v16_b, rfl, ?_, hR⟩
    show some (f44 1) = some v16_b
    exact congrArg some (t1)
  by_cases k12 : q0 = 12
  · subst k12
    refine ⟨v16_c, rfl, ?_, hR⟩
    show some (f44 2) = some v16_c
    exact congrArg some (t2)
  by_cases k13 : q0 = 13
  · subst k13
    refine ⟨v16_d, rfl, ?_, hR⟩
    show some (f44 3) = some v16_d
    exact congrArg some (t3)
  by_cases k14 : q0 = 14
  · subst k14
    refine ⟨v16_e, rfl, ?_, hR⟩
    show some (f44 4) = some v16_e
    exact congrArg some (t4)
  by_cases k15 : q0 = 15
  · subst k15
    refine ⟨v16_f, rfl, ?_, hR⟩
    show some (f44 5) = some v16_f
    exact congrArg some (t5)
  by_cases k16 : q0 = 16
  · subst k16
    refine ⟨v11_lines, rfl, ?_, hR⟩
    show some (f53 0) = some v11_lines
    exact congrArg some (s_nl.trans e_nl.symm)
  by_cases k17 : q0 = 17
  · subst k17
    refine ⟨v8_fills, rfl, ?_, hR⟩
    show some (v40_fills) = some v8_fills
    exact congrArg some (hfi.symm)
  by_cases k18 : q0 = 18
  · subst k18
    refine ⟨v8_painted, rfl, ?_, hR⟩
    show some (v40_painted) = some v8_painted
    exact congrArg some (hpa.symm)
  refine ⟨-2000000000, ?_, ?_, hR⟩
  · unfold m_X11_state m_X3_told m_X3_toldOfClip m_X3_toldOfTable
    simp [k0, k2, k1, k3, k4, k5, k6, k7, k8, k9, k10, k11, k12, k13, k14, k15, k16, k17, k18, jn_s, bd1_s]
  · unfold m_X12_state
    simp only [jn_s]
    rw [if_neg k0, if_neg k2, if_neg (by decide)]
    by_cases q1 : q0 < 0
    · rw [if_pos q1]
    rw [if_neg q1]
    by_cases q2 : q0 ≤ 18
    · exfalso
      obtain ⟨j, hj, rfl⟩ := nI_of2 (M := 18) (n := 18) rfl q1 q2
      rcases (show j = 0 ∨ j = 1 ∨ j = 2 ∨ j = 3 ∨ j = 4 ∨ j = 5 ∨ j = 6 ∨ j = 7 ∨ j = 8 ∨ j = 9 ∨ j = 10 ∨ j = 11 ∨ j = 12 ∨ j = 13 ∨ j = 14 ∨ j = 15 ∨ j = 16 ∨ j = 17 ∨ j = 18 by omega) with rfl | rfl | rfl | rfl | rfl | rfl | rfl | rfl | rfl | rfl | rfl | rfl | rfl | rfl | rfl | rfl | rfl | rfl | rfl <;> first | exact k0 rfl | exact k2 rfl | exact k1 rfl | exact k3 rfl | exact k4 rfl | exact k5 rfl | exact k6 rfl | exact k7 rfl | exact k8 rfl | exact k9 rfl | exact k10 rfl | exact k11 rfl | exact k12 rfl | exact k13 rfl | exact k14 rfl | exact k15 rfl | exact k16 rfl | exact k17 rfl | exact k18 rfl
    · rw [if_neg q2]
