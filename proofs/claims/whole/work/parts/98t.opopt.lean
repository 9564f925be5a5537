theorem cpy_loop {n : Nat} (hn : n ≤ 1500) {sz : Nat → Int32} (hs : sz 0 = nI n) : ∀ (d i N : Nat) (g : Nat → Int32), i + d = n → d < N → ∃ g' : Nat → Int32, (∀ K : (Nat → Int32) → Option (Int32 × Int32 × Int32 × (Nat → Int32) × (Nat → Int32) × (Nat → Int32) × (Nat → Int32) × (Nat → Int32) × (Nat → Int32) × (Nat → Int32) × (Nat → Int32) × (Nat → Int32) × (Nat → Int32) × (Nat → Int32) × (Nat → Int32) × (Nat → Int32) × (Nat → Int32) × (Nat → Int32) × (Nat → Int32) × (Nat → Int32) × (Nat → Int32) × (Nat → Int32)), lp_X12_optimise_12 sz K N (nI i) g = K g') ∧ (∀ j, i ≤ j → j < n → g' (1500 + j) = g j) ∧ (∀ x, (x < 1500 + i ∨ 1500 + n ≤ x) → g' x = g x) := by
  intro d
  induction d with
  | zero =>
    intro i N g h1 h2
    obtain ⟨N, rfl⟩ : ∃ j, N = j + 1 := ⟨N - 1, by omega⟩
    refine ⟨g, fun K => ?_, fun j a b => by omega, fun x _ => rfl⟩
    rw [lp_X12_optimise_12, inb_0_3, gd_s, nm_s, tn_0, hs, if_pos (nI_le (by omega) (by omega))]
  | succ d ih =>
    intro i N g h1 h2
    obtain ⟨N, rfl⟩ : ∃ j, N = j + 1 := ⟨N - 1, by omega⟩
    have t1 : (1500 : Int32) + nI i = nI (1500 + i) := nI_add 1500 i
    obtain ⟨g', e1, e2, e3⟩ := ih (i + 1) N (upd g (1500 + i) (g i)) (by omega) (by omega)
    refine ⟨g', fun K => ?_, fun j j1 j2 => ?_, fun x hx => ?_⟩
    · rw [lp_X12_optimise_12, inb_0_3, gd_s, nm_s, tn_0, hs, if_neg (nI_ge (by omega) (by omega)), inb_s (show i < 4500 by omega) (by decide), gd_s, nm_s, nI_clamp (show i < 2 ^ 31 by omega), t1, inb_s (show 1500 + i < 4500 by omega) (by decide), gd_s, nm_s, nI_clamp (show 1500 + i < 2 ^ 31 by omega), nm_s, nI_1]
      exact e1 K
    · by_cases e : j = i
      · subst e
        rw [e3 _ (Or.inl (by omega)), pk_us]
      · rw [e2 j (by omega) j2, pk_un (by omega)]
    · rw [e3 x (by omega), pk_un (by omega)]
theorem copyFrom_ok {n : Nat} (hn : n ≤ 1500) (cnt : Int32) (f g : Nat → Int32) : m_X10_copyFrom (nI n) cnt f g = some (nI n, va_cpy f g 0 0 n) := by
  have hc : (nI n).toNatClampNeg = n := nI_clamp (by omega)
  have ha : acp 0 0 (nI n) 1500 1500 = true := by
    unfold acp
    apply decide_eq_true
    rw [hc, tn_0]
    exact ⟨by decide, by decide, nI_pos (by omega), by omega, by omega⟩
  unfold m_X10_copyFrom
  rw [ha, gd_s, nm_s, tn_0, hc]
set_option maxHeartbeats 4000000 in
theorem op_optimise : Op_optimise RelX := by
  intro v0_lookedOver v0_shortListMade v0_faultPlace v1_w v1_h n2 f2 v3_count f4 v5_count f6 v7_place v7_open v7_lines v7_begun v8_open v8_place v8_fills v8_painted f10 v11_points v11_lines v11_first v11_firstToldX v11_firstToldY v11_lastToldX v11_lastToldY v11_leastX v11_leastY v11_greatestY f12 f13 f14 v15_colour v15_way v16_a v16_b v16_c v16_d v16_e v16_f v17_x v17_y v17_endX v17_endY v18_a v18_b v18_c v18_d v18_e v18_f v20_colour v20_way v21_a v21_b v21_c v21_d v21_e v21_f v22_x v22_y v22_endX v22_endY v23_open v23_place v23_fills v23_painted v24_points v24_lines v24_first v24_firstToldX v24_firstToldY v24_lastToldX v24_lastToldY v24_leastX v24_leastY v24_greatestY f25 f26 f27 v28_colour v28_way v29_a v29_b v29_c v29_d v29_e v29_f v30_x v30_y v30_endX v30_endY v31_a v31_b v31_c v31_d v31_e v31_f v33_colour v33_way v34_a v34_b v34_c v34_d v34_e v34_f v35_x v35_y v35_endX v35_endY v36_lastFill v36_openedBehind v36_joinedAt v37_x v37_y v37_endX v37_endY v38_a v38_b v38_c v38_d v38_e v38_f v39_a v39_b v39_c v39_d v39_e v39_f v40_wide v40_tall v40_good v40_faultPlace v40_made v40_fills v40_painted v40_other f41 f42 f43 f44 f45 f46 f47 f48 f49 f50 f51 f52 f53 f54 f55 f56 f57 f58 f59 f60  hR
  obtain ⟨hSh, hCh, hLi, hlg, hzg, hsm, hzm, hfp, hG, hM⟩ := hR
  have hR : RelX v0_lookedOver v0_shortListMade v0_faultPlace v1_w v1_h n2 f2 v3_count f4 v5_count f6 v7_place v7_open v7_lines v7_begun v8_open v8_place v8_fills v8_painted f10 v11_points v11_lines v11_first v11_firstToldX v11_firstToldY v11_lastToldX v11_lastToldY v11_leastX v11_leastY v11_greatestY f12 f13 f14 v15_colour v15_way v16_a v16_b v16_c v16_d v16_e v16_f v17_x v17_y v17_endX v17_endY v18_a v18_b v18_c v18_d v18_e v18_f v20_colour v20_way v21_a v21_b v21_c v21_d v21_e v21_f v22_x v22_y v22_endX v22_endY v23_open v23_place v23_fills v23_painted v24_points v24_lines v24_first v24_firstToldX v24_firstToldY v24_lastToldX v24_lastToldY v24_leastX v24_leastY v24_greatestY f25 f26 f27 v28_colour v28_way v29_a v29_b v29_c v29_d v29_e v29_f v30_x v30_y v30_endX v30_endY v31_a v31_b v31_c v31_d v31_e v31_f v33_colour v33_way v34_a v34_b v34_c v34_d v34_e v34_f v35_x v35_y v35_endX v35_endY v36_lastFill v36_openedBehind v36_joinedAt v37_x v37_y v37_endX v37_endY v38_a v38_b v38_c v38_d v38_e v38_f v39_a v39_b v39_c v39_d v39_e v39_f v40_wide v40_tall v40_good v40_faultPlace v40_made v40_fills v40_painted v40_other f41 f42 f43 f44 f45 f46 f47 f48 f49 f50 f51 f52 f53 f54 f55 f56 f57 f58 f59 f60 := ⟨hSh, hCh, hLi, hlg, hzg, hsm, hzm, hfp, hG, hM⟩
  rcases hzg with g0 | g1
  · refine ⟨-2, v0_shortListMade, v5_count, f6, v36_lastFill, v36_openedBehind, v36_joinedAt, v23_open, v23_place, v28_colour, v28_way, v29_a, v29_b, v29_c, v29_d, v29_e, v29_f, v30_x, v30_y, v30_endX, v30_endY, v24_points, v24_lines, v24_first, v24_firstToldX, v24_firstToldY, v24_lastToldX, v24_lastToldY, v24_leastX, v24_leastY, v24_greatestY, v38_a, v38_b, v38_c, v38_d, v38_e, v38_f, v39_a, v39_b, v39_c, v39_d, v39_e, v39_f, v37_x, v37_y, v37_endX, v37_endY, v31_a, v31_b, v31_c, v31_d, v31_e, v31_f, f25, f26, f27, v33_colour, v33_way, v34_a, v34_b, v34_c, v34_d, v34_e, v34_f, v35_x, v35_y, v35_endX, v35_endY, v40_made, v40_other, f43, f42, f44, f46, f47, f48, f52, f53, f49, f50, f60, f59, f51, f56, f57, f58, f54, f55, f45, ?_, ?_, hR⟩
    · unfold m_X11_optimise
      rw [if_pos (by rw [hlg, g0])]
    · unfold m_X12_optimise
      rw [if_pos g0]
  obtain ⟨W, H, a1, a2, a3, a4, rfl, rfl, rfl, rfl, rfl, hsp⟩ := hSh
  obtain ⟨n, hn, rfl, hsz, hwd⟩ := hLi
  obtain ⟨hfi, hpa, W', H', n', no, np, nl, p, eW, eH, w1, w2, en, hn', hvf, hv1, hv2, hpn, hb, m1, m2, m3, m4, m5, m6, m7, m8, m9⟩ := hG g1
  obtain rfl : W = W' := (nI_eq (by omega) (by omega)).mp eW
  obtain rfl : H = H' := (nI_eq (by omega) (by omega)).mp eH
  obtain rfl : n = n' := (nI_eq (by omega) (by omega)).mp en
  have hRM : RM 0 W H no np nl (CM.mk v8_open v15_colour v15_way v16_a v16_b v16_c v16_d v16_e v16_f v17_x v17_y v17_endX v17_endY v18_a v18_b v18_c v18_d v18_e v18_f v11_points v11_lines v11_first v11_firstToldX v11_firstToldY v11_lastToldX v11_lastToldY v11_leastX v11_leastY v11_greatestY f12 f13 f14 v20_colour v20_way v21_a v21_b v21_c v21_d v21_e v21_f v22_x v22_y v22_endX v22_endY) (RF.mk f44 f60 f59 f48 f49 f50 f51 f56 f57 f58 f52 f53 f54 f55 f46 f45) := ⟨m1, m2, m3, m6, m7, m8, m9⟩
  have hrow : ∀ j, j < n → va_cpy f4 f6 0 0 n j = f4 j := fun j hj => by
    unfold va_cpy
    rw [if_pos (by omega), Nat.zero_add, Nat.sub_zero]
  have hv : VL (va_cpy f4 f6 0 0 n) n 0 0 0 false := (vf_VL.mp hvf).congr (fun j hj => (hrow j hj).symm)
  obtain ⟨wd0, c1, c2, c3⟩ := cpy_loop hn hsz n 0 FU f42 (by omega) (by rw [FU_s]; omega)
  have hw0 : ∀ j, j < n → wd0 (1500 + j) = va_cpy f4 f6 0 0 n j := fun j hj => by
    rw [c2 j (by omega) hj, hrow j hj, hwd j hj, Nat.zero_add]
  obtain ⟨n1, cc, ss, rr, row1, wd1, sz1, at1, lf1, ob1, ja1, b1, b2, p1, p2, p3, p4, p5, p6, p7, p8⟩ := opt_loop a1 a2 a3 a4 1500 FU FU 0 n (va_cpy f4 f6 0 0 n) wd0 (upd f43 1 (nI n)) f47 (CM.mk v23_open v28_colour v28_way v29_a v29_b v29_c v29_d v29_e v29_f v30_x v30_y v30_endX v30_endY v31_a v31_b v31_c v31_d v31_e v31_f v24_points v24_lines v24_first v24_firstToldX v24_firstToldY v24_lastToldX v24_lastToldY v24_leastX v24_leastY v24_greatestY f25 f26 f27 v33_colour v33_way v34_a v34_b v34_c v34_d v34_e v34_f v35_x v35_y v35_endX v35_endY) (SX.mk v38_a v38_b v38_c v38_d v38_e v38_f v39_a v39_b v39_c v39_d v39_e v39_f v37_x v37_y v37_endX v37_endY) (RF.mk f44 f60 f59 f48 f49 f50 f51 f56 f57 f58 f52 f53 f54 f55 f46 f45) v36_lastFill v36_openedBehind v36_joinedAt v23_place (by omega) (by rw [FU_s]; omega) (by rw [FU_s]; omega) (by omega) hv hw0 pk_us
  have hRM' := hRM.fr (by omega) (show 1 ≤ 1 by omega) (by omega) p7
  refine ⟨nI n1, 1, nI n1, row1, lf1, ob1, ja1, cc.opn, 0, cc.col, cc.way, cc.a, cc.b, cc.c, cc.d, cc.e, cc.f, cc.x, cc.y, cc.u, cc.v, cc.pts, cc.lns, cc.fst, cc.ftx, cc.fty, cc.ltx, cc.lty, cc.lx, cc.ly, cc.gy, ss.ta, ss.tb, ss.tc, ss.td, ss.te, ss.tf, ss.xa, ss.xb, ss.xc, ss.xd, ss.xe, ss.xf, ss.cx, ss.cy, ss.cu, ss.cv, cc.na, cc.nb, cc.nc, cc.nd, cc.ne, cc.nf, cc.xs, cc.ys, cc.bg, cc.sc, cc.sw, cc.sa, cc.sb, cc.sC, cc.sd, cc.se, cc.sf, cc.sx, cc.sy, cc.su, cc.sv, 1, 0, sz1, wd1, rr.told, rr.saves, at1, rr.points, rr.begun, rr.lines, rr.px, rr.py, rr.cut, rr.both, rr.begins, rr.startX, rr.startY, rr.startPoint, rr.lastX, rr.lastY, rr.saved, ?_, ?_, ⟨W, H, a1, a2, a3, a4, rfl, rfl, rfl, rfl, rfl, hsp⟩, hCh, ⟨n, hn, rfl, (p5.trans (pk_un (by omega))).trans hsz, fun j hj => ?_⟩, hlg, Or.inr g1, rfl, Or.inr rfl, hfp, fun _ => ⟨hfi, hpa, W, H, n, no, np, nl, p, rfl, rfl, a2, a4, rfl, hn, hvf, hv1, hv2, hpn, hb, hRM'.1, hRM'.2.1, hRM'.2.2.1, m4, (p8 0 (by omega)).trans m5, hRM'.2.2.2⟩, fun _ => ⟨⟨n1, by omega, rfl, p4, fun j hj => (p3 j hj).symm⟩, n1, by omega, rfl, vf_VL.mpr p2⟩⟩
  · unfold m_X11_optimise m_X8_shorten
    rw [if_neg (by rw [hlg, g1]; decide), copyFrom_ok hn, bd2_s]
    refine (congrArg (fun z => bd66 z _) b1).trans ?_
    rw [bd66_s]
  · unfold m_X12_optimise
    rw [if_neg (by rw [g1]; decide), jn_s]
    refine (c1 _).trans ?_
    rw [inb_0_3, gd_s, nm_s, tn_0, hsz, inb_1_3, gd_s, nm_s, tn_1, jn_s]
    refine (b2 _).trans ?_
    rw [gd_s, nm_s, p4]
  · rw [p6 _ (by omega), c3 _ (Or.inl (by omega))]
    exact hwd j hj

