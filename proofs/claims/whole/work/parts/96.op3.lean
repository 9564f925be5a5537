set_option maxHeartbeats 4000000 in
theorem op_one : Op_one RelX := by
  intro v0_lookedOver v0_shortListMade v0_faultPlace v1_w v1_h n2 f2 v3_count f4 v5_count f6 v7_place v7_open v7_lines v7_begun v8_open v8_place v8_fills v8_painted f10 v11_points v11_lines v11_first v11_firstToldX v11_firstToldY v11_lastToldX v11_lastToldY v11_leastX v11_leastY v11_greatestY f12 f13 f14 v15_colour v15_way v16_a v16_b v16_c v16_d v16_e v16_f v17_x v17_y v17_endX v17_endY v18_a v18_b v18_c v18_d v18_e v18_f v20_colour v20_way v21_a v21_b v21_c v21_d v21_e v21_f v22_x v22_y v22_endX v22_endY v23_open v23_place v23_fills v23_painted v24_points v24_lines v24_first v24_firstToldX v24_firstToldY v24_lastToldX v24_lastToldY v24_leastX v24_leastY v24_greatestY f25 f26 f27 v28_colour v28_way v29_a v29_b v29_c v29_d v29_e v29_f v30_x v30_y v30_endX v30_endY v31_a v31_b v31_c v31_d v31_e v31_f v33_colour v33_way v34_a v34_b v34_c v34_d v34_e v34_f v35_x v35_y v35_endX v35_endY v36_lastFill v36_openedBehind v36_joinedAt v37_x v37_y v37_endX v37_endY v38_a v38_b v38_c v38_d v38_e v38_f v39_a v39_b v39_c v39_d v39_e v39_f v40_wide v40_tall v40_good v40_faultPlace v40_made v40_fills v40_painted v40_other f41 f42 f43 f44 f45 f46 f47 f48 f49 f50 f51 f52 f53 f54 f55 f56 f57 f58 f59 f60  hR
  obtain ⟨hSh, hCh, hLi, hlg, hzg, hsm, hzm, hfp, hG, hM⟩ := hR
  have hR : RelX v0_lookedOver v0_shortListMade v0_faultPlace v1_w v1_h n2 f2 v3_count f4 v5_count f6 v7_place v7_open v7_lines v7_begun v8_open v8_place v8_fills v8_painted f10 v11_points v11_lines v11_first v11_firstToldX v11_firstToldY v11_lastToldX v11_lastToldY v11_leastX v11_leastY v11_greatestY f12 f13 f14 v15_colour v15_way v16_a v16_b v16_c v16_d v16_e v16_f v17_x v17_y v17_endX v17_endY v18_a v18_b v18_c v18_d v18_e v18_f v20_colour v20_way v21_a v21_b v21_c v21_d v21_e v21_f v22_x v22_y v22_endX v22_endY v23_open v23_place v23_fills v23_painted v24_points v24_lines v24_first v24_firstToldX v24_firstToldY v24_lastToldX v24_lastToldY v24_leastX v24_leastY v24_greatestY f25 f26 f27 v28_colour v28_way v29_a v29_b v29_c v29_d v29_e v29_f v30_x v30_y v30_endX v30_endY v31_a v31_b v31_c v31_d v31_e v31_f v33_colour v33_way v34_a v34_b v34_c v34_d v34_e v34_f v35_x v35_y v35_endX v35_endY v36_lastFill v36_openedBehind v36_joinedAt v37_x v37_y v37_endX v37_endY v38_a v38_b v38_c v38_d v38_e v38_f v39_a v39_b v39_c v39_d v39_e v39_f v40_wide v40_tall v40_good v40_faultPlace v40_made v40_fills v40_painted v40_other f41 f42 f43 f44 f45 f46 f47 f48 f49 f50 f51 f52 f53 f54 f55 f56 f57 f58 f59 f60 := ⟨hSh, hCh, hLi, hlg, hzg, hsm, hzm, hfp, hG, hM⟩
  rcases hzg with g0 | g1
  · refine ⟨-2, v8_open, v8_place, v8_fills, v8_painted, v11_points, v11_lines, v11_first, v11_firstToldX, v11_firstToldY, v11_lastToldX, v11_lastToldY, v11_leastX, v11_leastY, v11_greatestY, f14, v15_colour, v15_way, f13, v17_x, v17_y, v17_endX, v17_endY, f12, f10, f2, v16_a, v16_b, v16_c, v16_d, v16_e, v16_f, v18_a, v18_b, v18_c, v18_d, v18_e, v18_f, v20_colour, v20_way, v21_a, v21_b, v21_c, v21_d, v21_e, v21_f, v22_x, v22_y, v22_endX, v22_endY, v40_fills, v40_painted, f47, f44, f48, f51, f50, f49, f41, f60, f59, f56, f57, f58, f52, f53, f54, f55, f46, f45, ?_, ?_, hR⟩
    · unfold m_X11_one
      rw [if_pos (by rw [hlg, g0])]
    · unfold m_X12_one
      rw [if_pos g0]
  obtain ⟨W, H, a1, a2, a3, a4, rfl, rfl, rfl, rfl, rfl, hsp⟩ := hSh
  obtain ⟨n, hn, rfl, hsz, hwd⟩ := hLi
  obtain ⟨hfi, hpa, W', H', n', no, np, nl, p, eW, eH, w1, w2, en, hn', hvf, hv1, hv2, hpn, hb, m1, m2, m3, m4, m5, m6, m7, m8, m9⟩ := hG g1
  obtain rfl : W = W' := (nI_eq (by omega) (by omega)).mp eW
  obtain rfl : H = H' := (nI_eq (by omega) (by omega)).mp eH
  obtain rfl : n = n' := (nI_eq (by omega) (by omega)).mp en
  have hRM : RM 0 W H no np nl (CM.mk v8_open v15_colour v15_way v16_a v16_b v16_c v16_d v16_e v16_f v17_x v17_y v17_endX v17_endY v18_a v18_b v18_c v18_d v18_e v18_f v11_points v11_lines v11_first v11_firstToldX v11_firstToldY v11_lastToldX v11_lastToldY v11_leastX v11_leastY v11_greatestY f12 f13 f14 v20_colour v20_way v21_a v21_b v21_c v21_d v21_e v21_f v22_x v22_y v22_endX v22_endY) (RF.mk f44 f60 f59 f48 f49 f50 f51 f56 f57 f58 f52 f53 f54 f55 f46 f45) := ⟨m1, m2, m3, m6, m7, m8, m9⟩
  have heq : ∀ j, j < n → f4 j = f42 (1500 * 0 + j) := fun j hj => hwd j hj
  by_cases hp : p < n
  · obtain ⟨no1, np1, nl1, c1, r1, ch1, px1, sh1, fl, pa, b1, b2, b3, b4, b5, b6, b7, b8⟩ := next_ok (at_ := f47) (by omega) hRM a2 a4 hn hp heq ⟨hv1, hv2⟩ hb m5 hCh hsp
    have hle := VL.le hn hp ⟨hv1, hv2⟩
    refine ⟨0, c1.opn, nI (p + cl (f4 p)), fl v8_fills, pa v8_painted, c1.pts, c1.lns, c1.fst, c1.ftx, c1.fty, c1.ltx, c1.lty, c1.lx, c1.ly, c1.gy, c1.bg, c1.col, c1.way, c1.ys, c1.x, c1.y, c1.u, c1.v, c1.xs, ch1, px1, c1.a, c1.b, c1.c, c1.d, c1.e, c1.f, c1.na, c1.nb, c1.nc, c1.nd, c1.ne, c1.nf, c1.sc, c1.sw, c1.sa, c1.sb, c1.sC, c1.sd, c1.se, c1.sf, c1.sx, c1.sy, c1.su, c1.sv, fl v40_fills, pa v40_painted, upd f47 0 (nI (p + cl (f4 p))), r1.told, r1.points, r1.begins, r1.py, r1.px, sh1, r1.cut, r1.both, r1.startX, r1.startY, r1.startPoint, r1.begun, r1.lines, r1.lastX, r1.lastY, r1.saves, r1.saved, ?_, ?_, ⟨W, H, a1, a2, a3, a4, rfl, rfl, rfl, rfl, rfl, b8⟩, b7, ⟨n, hn, rfl, hsz, hwd⟩, hlg, Or.inr g1, hsm, hzm, hfp, fun _ => ⟨by rw [hfi], by rw [hpa], W, H, n, no1, np1, nl1, p + cl (f4 p), rfl, rfl, a2, a4, rfl, hn, hvf, b5.1, b5.2, hle, b6, b3.1, b3.2.1, b3.2.2.1, rfl, pk_us, b3.2.2.2⟩, hM⟩
    · unfold m_X11_one
      rw [if_neg (by rw [hlg, g1]; decide), m4]
      refine (congrArg (fun z => bd50 z _) (b1 v8_fills v8_painted)).trans ?_
      rw [bd50_s, if_neg (by decide)]
    · unfold m_X12_one
      rw [if_neg (by rw [g1]; decide), inb_0_2, gd_s, nm_s, tn_0, m5, inb_0_3, gd_s, nm_s, hsz, if_neg (by rw [nI_eq (by omega) (by omega)]; omega)]
      refine (congrArg (fun z => bd20 z _) (b2 v40_fills v40_painted)).trans ?_
      rw [bd20_s]
      rfl
  · obtain rfl : p = n := by omega
    refine ⟨1, v8_open, v8_place, v8_fills, v8_painted, v11_points, v11_lines, v11_first, v11_firstToldX, v11_firstToldY, v11_lastToldX, v11_lastToldY, v11_leastX, v11_leastY, v11_greatestY, f14, v15_colour, v15_way, f13, v17_x, v17_y, v17_endX, v17_endY, f12, f10, f2, v16_a, v16_b, v16_c, v16_d, v16_e, v16_f, v18_a, v18_b, v18_c, v18_d, v18_e, v18_f, v20_colour, v20_way, v21_a, v21_b, v21_c, v21_d, v21_e, v21_f, v22_x, v22_y, v22_endX, v22_endY, v40_fills, v40_painted, f47, f44, f48, f51, f50, f49, f41, f60, f59, f56, f57, f58, f52, f53, f54, f55, f46, f45, ?_, ?_, hR⟩
    · unfold m_X11_one m_X3_doNext
      rw [if_neg (by rw [hlg, g1]; decide), m4, if_neg (nI_nlt (Nat.le_refl _) (by omega)), bd50_s, if_pos rfl]
    · unfold m_X12_one
      rw [if_neg (by rw [g1]; decide), inb_0_2, gd_s, nm_s, tn_0, m5, inb_0_3, gd_s, nm_s, hsz, if_pos rfl]

set_option maxHeartbeats 4000000 in
theorem op_render : Op_render RelX := by
  intro v0_lookedOver v0_shortListMade v0_faultPlace v1_w v1_h n2 f2 v3_count f4 v5_count f6 v7_place v7_open v7_lines v7_begun v8_open v8_place v8_fills v8_painted f10 v11_points v11_lines v11_first v11_firstToldX v11_firstToldY v11_lastToldX v11_lastToldY v11_leastX v11_leastY v11_greatestY f12 f13 f14 v15_colour v15_way v16_a v16_b v16_c v16_d v16_e v16_f v17_x v17_y v17_endX v17_endY v18_a v18_b v18_c v18_d v18_e v18_f v20_colour v20_way v21_a v21_b v21_c v21_d v21_e v21_f v22_x v22_y v22_endX v22_endY v23_open v23_place v23_fills v23_painted v24_points v24_lines v24_first v24_firstToldX v24_firstToldY v24_lastToldX v24_lastToldY v24_leastX v24_leastY v24_greatestY f25 f26 f27 v28_colour v28_way v29_a v29_b v29_c v29_d v29_e v29_f v30_x v30_y v30_endX v30_endY v31_a v31_b v31_c v31_d v31_e v31_f v33_colour v33_way v34_a v34_b v34_c v34_d v34_e v34_f v35_x v35_y v35_endX v35_endY v36_lastFill v36_openedBehind v36_joinedAt v37_x v37_y v37_endX v37_endY v38_a v38_b v38_c v38_d v38_e v38_f v39_a v39_b v39_c v39_d v39_e v39_f v40_wide v40_tall v40_good v40_faultPlace v40_made v40_fills v40_painted v40_other f41 f42 f43 f44 f45 f46 f47 f48 f49 f50 f51 f52 f53 f54 f55 f56 f57 f58 f59 f60 q0 hR
  obtain ⟨hSh, hCh, hLi, hlg, hzg, hsm, hzm, hfp, hG, hM⟩ := hR
  have hR : RelX v0_lookedOver v0_shortListMade v0_faultPlace v1_w v1_h n2 f2 v3_count f4 v5_count f6 v7_place v7_open v7_lines v7_begun v8_open v8_place v8_fills v8_painted f10 v11_points v11_lines v11_first v11_firstToldX v11_firstToldY v11_lastToldX v11_lastToldY v11_leastX v11_leastY v11_greatestY f12 f13 f14 v15_colour v15_way v16_a v16_b v16_c v16_d v16_e v16_f v17_x v17_y v17_endX v17_endY v18_a v18_b v18_c v18_d v18_e v18_f v20_colour v20_way v21_a v21_b v21_c v21_d v21_e v21_f v22_x v22_y v22_endX v22_endY v23_open v23_place v23_fills v23_painted v24_points v24_lines v24_first v24_firstToldX v24_firstToldY v24_lastToldX v24_lastToldY v24_leastX v24_leastY v24_greatestY f25 f26 f27 v28_colour v28_way v29_a v29_b v29_c v29_d v29_e v29_f v30_x v30_y v30_endX v30_endY v31_a v31_b v31_c v31_d v31_e v31_f v33_colour v33_way v34_a v34_b v34_c v34_d v34_e v34_f v35_x v35_y v35_endX v35_endY v36_lastFill v36_openedBehind v36_joinedAt v37_x v37_y v37_endX v37_endY v38_a v38_b v38_c v38_d v38_e v38_f v39_a v39_b v39_c v39_d v39_e v39_f v40_wide v40_tall v40_good v40_faultPlace v40_made v40_fills v40_painted v40_other f41 f42 f43 f44 f45 f46 f47 f48 f49 f50 f51 f52 f53 f54 f55 f56 f57 f58 f59 f60 := ⟨hSh, hCh, hLi, hlg, hzg, hsm, hzm, hfp, hG, hM⟩
  rcases hzg with g0 | g1
  · refine ⟨-2, v8_open, v8_place, v8_fills, v8_painted, v15_colour, v15_way, v16_a, v16_b, v16_c, v16_d, v16_e, v16_f, v17_x, v17_y, v17_endX, v17_endY, v11_points, v11_lines, v11_first, v11_firstToldX, v11_firstToldY, v11_lastToldX, v11_lastToldY, v11_leastX, v11_leastY, v11_greatestY, f14, f13, f12, f10, f2, v18_a, v18_b, v18_c, v18_d, v18_e, v18_f, v20_colour, v20_way, v21_a, v21_b, v21_c, v21_d, v21_e, v21_f, v22_x, v22_y, v22_endX, v22_endY, v40_fills, v40_painted, f44, f46, f47, f48, f52, f53, f51, f50, f49, f41, f60, f59, f56, f57, f58, f54, f55, f45, ?_, ?_, hR⟩
    · unfold m_X11_render
      rw [if_pos (by rw [hlg, g0])]
    · unfold m_X12_render
      rw [if_pos g0]
  by_cases k1 : q0 < 0
  · refine ⟨-1, v8_open, v8_place, v8_fills, v8_painted, v15_colour, v15_way, v16_a, v16_b, v16_c, v16_d, v16_e, v16_f, v17_x, v17_y, v17_endX, v17_endY, v11_points, v11_lines, v11_first, v11_firstToldX, v11_firstToldY, v11_lastToldX, v11_lastToldY, v11_leastX, v11_leastY, v11_greatestY, f14, f13, f12, f10, f2, v18_a, v18_b, v18_c, v18_d, v18_e, v18_f, v20_colour, v20_way, v21_a, v21_b, v21_c, v21_d, v21_e, v21_f, v22_x, v22_y, v22_endX, v22_endY, v40_fills, v40_painted, f44, f46, f47, f48, f52, f53, f51, f50, f49, f41, f60, f59, f56, f57, f58, f54, f55, f45, ?_, ?_, hR⟩
    · unfold m_X11_render m_X11_isAskable
      rw [if_neg (by rw [hlg, g1]; decide), if_pos k1, bd1_s, if_pos rfl]
    · unfold m_X12_render
      rw [if_neg (by rw [g1]; decide), if_pos k1]
  by_cases k2 : 100000 < q0
  · refine ⟨-1, v8_open, v8_place, v8_fills, v8_painted, v15_colour, v15_way, v16_a, v16_b, v16_c, v16_d, v16_e, v16_f, v17_x, v17_y, v17_endX, v17_endY, v11_points, v11_lines, v11_first, v11_firstToldX, v11_firstToldY, v11_lastToldX, v11_lastToldY, v11_leastX, v11_leastY, v11_greatestY, f14, f13, f12, f10, f2, v18_a, v18_b, v18_c, v18_d, v18_e, v18_f, v20_colour, v20_way, v21_a, v21_b, v21_c, v21_d, v21_e, v21_f, v22_x, v22_y, v22_endX, v22_endY, v40_fills, v40_painted, f44, f46, f47, f48, f52, f53, f51, f50, f49, f41, f60, f59, f56, f57, f58, f54, f55, f45, ?_, ?_, hR⟩
    · unfold m_X11_render m_X11_isAskable
      rw [if_neg (by rw [hlg, g1]; decide), if_neg k1, if_pos k2, bd1_s, if_pos rfl]
    · unfold m_X12_render
      rw [if_neg (by rw [g1]; decide), if_neg k1, if_neg (Int32.not_le.mpr k2)]
  obtain ⟨W, H, a1, a2, a3, a4, rfl, rfl, rfl, rfl, rfl, hsp⟩ := hSh
  obtain ⟨n, hn, rfl, hsz, hwd⟩ := hLi
  obtain ⟨hfi, hpa, W', H', n', no, np, nl, p, eW, eH, w1, w2, en, hn', hvf, hv1, hv2, hpn, hb, m1, m2, m3, m4, m5, m6, m7, m8, m9⟩ := hG g1
  obtain rfl : W = W' := (nI_eq (by omega) (by omega)).mp eW
  obtain rfl : H = H' := (nI_eq (by omega) (by omega)).mp eH
  obtain rfl : n = n' := (nI_eq (by omega) (by omega)).mp en
  have heq : ∀ j, j < n → f4 j = f42 (1500 * 0 + j) := fun j hj => hwd j hj
  obtain ⟨a, no1, np1, nl1, p1, c1, r1, at1, ch1, px1, sh1, fi1, qa1, rfi1, rqa1, b1, b2, b3, b4, b5, b6, b7, b8, b9, b10, b11, b12, b13⟩ := run_ok (m := 0) (size := f43) (by omega) a1 a2 a3 a4 hn heq hsz k1 (vf_VL.mp hvf) (CM.mk v8_open v15_colour v15_way v16_a v16_b v16_c v16_d v16_e v16_f v17_x v17_y v17_endX v17_endY v18_a v18_b v18_c v18_d v18_e v18_f v11_points v11_lines v11_first v11_firstToldX v11_firstToldY v11_lastToldX v11_lastToldY v11_leastX v11_leastY v11_greatestY f12 f13 f14 v20_colour v20_way v21_a v21_b v21_c v21_d v21_e v21_f v22_x v22_y v22_endX v22_endY) (RF.mk f44 f60 f59 f48 f49 f50 f51 f56 f57 f58 f52 f53 f54 f55 f46 f45) v8_place v8_fills v8_painted v40_fills v40_painted f47 hCh hsp
  obtain ⟨z1, z2⟩ := b12 rfl hfi hpa
  refine ⟨bI (!a), c1.opn, nI p1, fi1, qa1, c1.col, c1.way, c1.a, c1.b, c1.c, c1.d, c1.e, c1.f, c1.x, c1.y, c1.u, c1.v, c1.pts, c1.lns, c1.fst, c1.ftx, c1.fty, c1.ltx, c1.lty, c1.lx, c1.ly, c1.gy, c1.bg, c1.ys, c1.xs, ch1, px1, c1.na, c1.nb, c1.nc, c1.nd, c1.ne, c1.nf, c1.sc, c1.sw, c1.sa, c1.sb, c1.sC, c1.sd, c1.se, c1.sf, c1.sx, c1.sy, c1.su, c1.sv, rfi1, rqa1, r1.told, r1.saves, at1, r1.points, r1.begun, r1.lines, r1.begins, r1.py, r1.px, sh1, r1.cut, r1.both, r1.startX, r1.startY, r1.startPoint, r1.lastX, r1.lastY, r1.saved, ?_, ?_, ⟨W, H, a1, a2, a3, a4, rfl, rfl, rfl, rfl, rfl, b11⟩, b10, ⟨n, hn, rfl, hsz, hwd⟩, hlg, Or.inr g1, hsm, hzm, hfp, fun _ => ⟨z1, z2, W, H, n, no1, np1, nl1, p1, rfl, rfl, a2, a4, rfl, hn, hvf, b7.1, b7.2, b3, b8, b4.1, b4.2.1, b4.2.2.1, rfl, b9, b4.2.2.2⟩, hM⟩
  · unfold m_X11_render m_X11_isAskable
    rw [if_neg (by rw [hlg, g1]; decide), if_neg k1, if_neg k2, bd1_s, if_neg (by decide)]
    refine (congrArg (fun z => bd50 z _) b1).trans ?_
    rw [bd50_s]
    cases a
    · rw [if_pos (show bI false = 0 from rfl)]
      rfl
    · rw [if_neg (by decide)]
      rfl
  · unfold m_X12_render
    rw [if_neg (by rw [g1]; decide), if_neg k1, if_pos (Int32.not_lt.mp k2)]
    refine (congrArg (fun z => bd21 z _) b2).trans ?_
    rw [bd21_s]

set_option maxHeartbeats 4000000 in
theorem op_renderShorter : Op_renderShorter RelX := by
  intro v0_lookedOver v0_shortListMade v0_faultPlace v1_w v1_h n2 f2 v3_count f4 v5_count f6 v7_place v7_open v7_lines v7_begun v8_open v8_place v8_fills v8_painted f10 v11_points v11_lines v11_first v11_firstToldX v11_firstToldY v11_lastToldX v11_lastToldY v11_leastX v11_leastY v11_greatestY f12 f13 f14 v15_colour v15_way v16_a v16_b v16_c v16_d v16_e v16_f v17_x v17_y v17_endX v17_endY v18_a v18_b v18_c v18_d v18_e v18_f v20_colour v20_way v21_a v21_b v21_c v21_d v21_e v21_f v22_x v22_y v22_endX v22_endY v23_open v23_place v23_fills v23_painted v24_points v24_lines v24_first v24_firstToldX v24_firstToldY v24_lastToldX v24_lastToldY v24_leastX v24_leastY v24_greatestY f25 f26 f27 v28_colour v28_way v29_a v29_b v29_c v29_d v29_e v29_f v30_x v30_y v30_endX v30_endY v31_a v31_b v31_c v31_d v31_e v31_f v33_colour v33_way v34_a v34_b v34_c v34_d v34_e v34_f v35_x v35_y v35_endX v35_endY v36_lastFill v36_openedBehind v36_joinedAt v37_x v37_y v37_endX v37_endY v38_a v38_b v38_c v38_d v38_e v38_f v39_a v39_b v39_c v39_d v39_e v39_f v40_wide v40_tall v40_good v40_faultPlace v40_made v40_fills v40_painted v40_other f41 f42 f43 f44 f45 f46 f47 f48 f49 f50 f51 f52 f53 f54 f55 f56 f57 f58 f59 f60 q0 hR
  obtain ⟨hSh, hCh, hLi, hlg, hzg, hsm, hzm, hfp, hG, hM⟩ := hR
  have hR : RelX v0_lookedOver v0_shortListMade v0_faultPlace v1_w v1_h n2 f2 v3_count f4 v5_count f6 v7_place v7_open v7_lines v7_begun v8_open v8_place v8_fills v8_painted f10 v11_points v11_lines v11_first v11_firstToldX v11_firstToldY v11_lastToldX v11_lastToldY v11_leastX v11_leastY v11_greatestY f12 f13 f14 v15_colour v15_way v16_a v16_b v16_c v16_d v16_e v16_f v17_x v17_y v17_endX v17_endY v18_a v18_b v18_c v18_d v18_e v18_f v20_colour v20_way v21_a v21_b v21_c v21_d v21_e v21_f v22_x v22_y v22_endX v22_endY v23_open v23_place v23_fills v23_painted v24_points v24_lines v24_first v24_firstToldX v24_firstToldY v24_lastToldX v24_lastToldY v24_leastX v24_leastY v24_greatestY f25 f26 f27 v28_colour v28_way v29_a v29_b v29_c v29_d v29_e v29_f v30_x v30_y v30_endX v30_endY v31_a v31_b v31_c v31_d v31_e v31_f v33_colour v33_way v34_a v34_b v34_c v34_d v34_e v34_f v35_x v35_y v35_endX v35_endY v36_lastFill v36_openedBehind v36_joinedAt v37_x v37_y v37_endX v37_endY v38_a v38_b v38_c v38_d v38_e v38_f v39_a v39_b v39_c v39_d v39_e v39_f v40_wide v40_tall v40_good v40_faultPlace v40_made v40_fills v40_painted v40_other f41 f42 f43 f44 f45 f46 f47 f48 f49 f50 f51 f52 f53 f54 f55 f56 f57 f58 f59 f60 := ⟨hSh, hCh, hLi, hlg, hzg, hsm, hzm, hfp, hG, hM⟩
  rcases hzm with g0 | g1
  · refine ⟨-2, v23_open, v23_place, v23_fills, v23_painted, v28_colour, v28_way, v29_a, v29_b, v29_c, v29_d, v29_e, v29_f, v30_x, v30_y, v30_endX, v30_endY, v24_points, v24_lines, v24_first, v24_firstToldX, v24_firstToldY, v24_lastToldX, v24_lastToldY, v24_leastX, v24_leastY, v24_greatestY, f27, f26, f25, f10, f2, v31_a, v31_b, v31_c, v31_d, v31_e, v31_f, v33_colour, v33_way, v34_a, v34_b, v34_c, v34_d, v34_e, v34_f, v35_x, v35_y, v35_endX, v35_endY, v40_fills, v40_painted, f44, f46, f47, f48, f52, f53, f51, f50, f49, f41, f60, f59, f56, f57, f58, f54, f55, f45, ?_, ?_, hR⟩
    · unfold m_X11_renderShorter
      rw [if_pos (by rw [hsm, g0])]
    · unfold m_X12_renderShorter
      rw [if_pos g0]
  by_cases k1 : q0 < 0
  · refine ⟨-1, v23_open, v23_place, v23_fills, v23_painted, v28_colour, v28_way, v29_a, v29_b, v29_c, v29_d, v29_e, v29_f, v30_x, v30_y, v30_endX, v30_endY, v24_points, v24_lines, v24_first, v24_firstToldX, v24_firstToldY, v24_lastToldX, v24_lastToldY, v24_leastX, v24_leastY, v24_greatestY, f27, f26, f25, f10, f2, v31_a, v31_b, v31_c, v31_d, v31_e, v31_f, v33_colour, v33_way, v34_a, v34_b, v34_c, v34_d, v34_e, v34_f, v35_x, v35_y, v35_endX, v35_endY, v40_fills, v40_painted, f44, f46, f47, f48, f52, f53, f51, f50, f49, f41, f60, f59, f56, f57, f58, f54, f55, f45, ?_, ?_, hR⟩
    · unfold m_X11_renderShorter m_X11_isAskable
      rw [if_neg (by rw [hsm, g1]; decide), if_pos k1, bd1_s, if_pos rfl]
    · unfold m_X12_renderShorter
      rw [if_neg (by rw [g1]; decide), if_pos k1]
  by_cases k2 : 100000 < q0
  · refine ⟨-1, v23_open, v23_place, v23_fills, v23_painted, v28_colour, v28_way, v29_a, v29_b, v29_c, v29_d, v29_e, v29_f, v30_x, v30_y, v30_endX, v30_endY, v24_points, v24_lines, v24_first, v24_firstToldX, v24_firstToldY, v24_lastToldX, v24_lastToldY, v24_leastX, v24_leastY, v24_greatestY, f27, f26, f25, f10, f2, v31_a, v31_b, v31_c, v31_d, v31_e, v31_f, v33_colour, v33_way, v34_a, v34_b, v34_c, v34_d, v34_e, v34_f, v35_x, v35_y, v35_endX, v35_endY, v40_fills, v40_painted, f44, f46, f47, f48, f52, f53, f51, f50, f49, f41, f60, f59, f56, f57, f58, f54, f55, f45, ?_, ?_, hR⟩
    · unfold m_X11_renderShorter m_X11_isAskable
      rw [if_neg (by rw [hsm, g1]; decide), if_neg k1, if_pos k2, bd1_s, if_pos rfl]
    · unfold m_X12_renderShorter
      rw [if_neg (by rw [g1]; decide), if_neg k1, if_neg (Int32.not_le.mpr k2)]
  obtain ⟨W, H, a1, a2, a3, a4, rfl, rfl, rfl, rfl, rfl, hsp⟩ := hSh
  obtain ⟨⟨n, hn, en, hsz, hwd⟩, n', hn', en', hvf⟩ := hM g1
  subst en
  obtain rfl : n = n' := (nI_eq (by omega) (by omega)).mp en'
  have heq : ∀ j, j < n → f6 j = f42 (1500 * 1 + j) := fun j hj => hwd j hj
  obtain ⟨a, no1, np1, nl1, p1, c1, r1, at1, ch1, px1, sh1, fi1, qa1, rfi1, rqa1, b1, b2, b3, b4, b5, b6, b7, b8, b9, b10, b11, b12, b13⟩ := run_ok (m := 1) (size := f43) (by omega) a1 a2 a3 a4 hn heq hsz k1 (vf_VL.mp hvf) (CM.mk v23_open v28_colour v28_way v29_a v29_b v29_c v29_d v29_e v29_f v30_x v30_y v30_endX v30_endY v31_a v31_b v31_c v31_d v31_e v31_f v24_points v24_lines v24_first v24_firstToldX v24_firstToldY v24_lastToldX v24_lastToldY v24_leastX v24_leastY v24_greatestY f25 f26 f27 v33_colour v33_way v34_a v34_b v34_c v34_d v34_e v34_f v35_x v35_y v35_endX v35_endY) (RF.mk f44 f60 f59 f48 f49 f50 f51 f56 f57 f58 f52 f53 f54 f55 f46 f45) v23_place v23_fills v23_painted v40_fills v40_painted f47 hCh hsp
  obtain ⟨rfl, rfl⟩ := b13 (by omega)
  refine ⟨bI (!a), c1.opn, nI p1, fi1, qa1, c1.col, c1.way, c1.a, c1.b, c1.c, c1.d, c1.e, c1.f, c1.x, c1.y, c1.u, c1.v, c1.pts, c1.lns, c1.fst, c1.ftx, c1.fty, c1.ltx, c1.lty, c1.lx, c1.ly, c1.gy, c1.bg, c1.ys, c1.xs, ch1, px1, c1.na, c1.nb, c1.nc, c1.nd, c1.ne, c1.nf, c1.sc, c1.sw, c1.sa, c1.sb, c1.sC, c1.sd, c1.se, c1.sf, c1.sx, c1.sy, c1.su, c1.sv, rfi1, rqa1, r1.told, r1.saves, at1, r1.points, r1.begun, r1.lines, r1.begins, r1.py, r1.px, sh1, r1.cut, r1.both, r1.startX, r1.startY, r1.startPoint, r1.lastX, r1.lastY, r1.saved, ?_, ?_, ⟨W, H, a1, a2, a3, a4, rfl, rfl, rfl, rfl, rfl, b11⟩, b10, hLi, hlg, hzg, hsm, Or.inr g1, hfp, fun gg => ?_, hM⟩
  · unfold m_X11_renderShorter m_X11_isAskable
    rw [if_neg (by rw [hsm, g1]; decide), if_neg k1, if_neg k2, bd1_s, if_neg (by decide)]
    refine (congrArg (fun z => bd50 z _) b1).trans ?_
    rw [bd50_s]
    cases a
    · rw [if_pos (show bI false = 0 from rfl)]
      rfl
    · rw [if_neg (by decide)]
      rfl
  · unfold m_X12_renderShorter
    rw [if_neg (by rw [g1]; decide), if_neg k1, if_pos (Int32.not_lt.mp k2)]
    refine (congrArg (fun z => bd21 z _) b2).trans ?_
    rw [bd21_s]
  · obtain ⟨hfi, hpa, W', H', n', no, np, nl, p, eW, eH, w1, w2, en, hn', hvf, hv1, hv2, hpn, hb, m1, m2, m3, m4, m5, m6, m7, m8, m9⟩ := hG gg
    obtain rfl : W = W' := (nI_eq (by omega) (by omega)).mp eW
    obtain rfl : H = H' := (nI_eq (by omega) (by omega)).mp eH
    have hRM : RM 0 W H no np nl (CM.mk v8_open v15_colour v15_way v16_a v16_b v16_c v16_d v16_e v16_f v17_x v17_y v17_endX v17_endY v18_a v18_b v18_c v18_d v18_e v18_f v11_points v11_lines v11_first v11_firstToldX v11_firstToldY v11_lastToldX v11_lastToldY v11_leastX v11_leastY v11_greatestY f12 f13 f14 v20_colour v20_way v21_a v21_b v21_c v21_d v21_e v21_f v22_x v22_y v22_endX v22_endY) (RF.mk f44 f60 f59 f48 f49 f50 f51 f56 f57 f58 f52 f53 f54 f55 f46 f45) := ⟨m1, m2, m3, m6, m7, m8, m9⟩
    have hRM' := hRM.fr (by omega) (show 1 ≤ 1 by omega) (by omega) b5
    exact ⟨hfi, hpa, W, H, n', no, np, nl, p, rfl, rfl, a2, a4, en, hn', hvf, hv1, hv2, hpn, hb, hRM'.1, hRM'.2.1, hRM'.2.2.1, m4, (b6 0 (by omega)).trans m5, hRM'.2.2.2⟩

