theorem dX12_shorter_0 : decode cX12_shorter 0 = .ok (.aload_n 0, 1) := by decide +kernel
theorem dX12_shorter_1 : decode cX12_shorter 1 = .ok (.getfield 85, 3) := by decide +kernel
theorem dX12_shorter_4 : decode cX12_shorter 4 = .ok (.ifCond .eq 17, 3) := by decide +kernel
theorem dX12_shorter_7 : decode cX12_shorter 7 = .ok (.iload_n 1, 1) := by decide +kernel
theorem dX12_shorter_8 : decode cX12_shorter 8 = .ok (.ifCond .lt 13, 3) := by decide +kernel
theorem dX12_shorter_11 : decode cX12_shorter 11 = .ok (.iload_n 1, 1) := by decide +kernel
theorem dX12_shorter_12 : decode cX12_shorter 12 = .ok (.aload_n 0, 1) := by decide +kernel
theorem dX12_shorter_13 : decode cX12_shorter 13 = .ok (.getfield 16, 3) := by decide +kernel
theorem dX12_shorter_16 : decode cX12_shorter 16 = .ok (.iconst 1, 1) := by decide +kernel
theorem dX12_shorter_17 : decode cX12_shorter 17 = .ok (.iaload, 1) := by decide +kernel
theorem dX12_shorter_18 : decode cX12_shorter 18 = .ok (.if_icmp .lt 9, 3) := by decide +kernel
theorem dX12_shorter_21 : decode cX12_shorter 21 = .ok (.ldc_w 297, 3) := by decide +kernel
theorem dX12_shorter_24 : decode cX12_shorter 24 = .ok (.goto 13, 3) := by decide +kernel
theorem dX12_shorter_27 : decode cX12_shorter 27 = .ok (.aload_n 0, 1) := by decide +kernel
theorem dX12_shorter_28 : decode cX12_shorter 28 = .ok (.getfield 13, 3) := by decide +kernel
theorem dX12_shorter_31 : decode cX12_shorter 31 = .ok (.sipush 1500, 3) := by decide +kernel
theorem dX12_shorter_34 : decode cX12_shorter 34 = .ok (.iload_n 1, 1) := by decide +kernel
theorem dX12_shorter_35 : decode cX12_shorter 35 = .ok (.iadd, 1) := by decide +kernel
theorem dX12_shorter_36 : decode cX12_shorter 36 = .ok (.iaload, 1) := by decide +kernel
theorem dX12_shorter_37 : decode cX12_shorter 37 = .ok (.ireturn, 1) := by decide +kernel
abbrev rm_X12_shorter : Room := { frames := 0, cells := 0, slots := 0, locals := 0 }
def w_X12_shorter : List Cond := Cond.code yX12_shorter cX12_shorter 2 (some .int) :: uw
set_option maxHeartbeats 4000000 in
set_option maxRecDepth 100000 in
theorem c_X12_shorter (l : Launch) (dC : Nat → ClassId) (dI : Nat → Nat → Nat) (cI cZ cO : ClassId) (tL sz : Nat) (h0 : Nat) (h1 : Nat) (h2 : Nat) (g0_sheet : Nat) (g0_told : Nat) (g0_saved : Nat) (g0_saves : Nat) (g0_at : Nat) (g0_points : Nat) (g0_px : Nat) (g0_py : Nat) (g0_begins : Nat) (g0_begun : Nat) (g0_lines : Nat) (g0_lastX : Nat) (g0_lastY : Nat) (g0_startX : Nat) (g0_startY : Nat) (g0_startPoint : Nat) (g0_both : Nat) (g0_cut : Nat) (v0_wide : Int32) (v0_tall : Int32) (v0_good : Int32) (v0_faultPlace : Int32) (v0_made : Int32) (v0_fills : Int32) (v0_painted : Int32) (v0_other : Int32) (f1 : Nat → Int32) (f2 : Nat → Int32) (p1 : Int32) (res : Int32) (hM : m_X12_shorter v0_made f1 f2 p1 = some res) : Met l yX12_shorter w_X12_shorter rm_X12_shorter (PCx [.ref h0, .int p1] (dC, dI) [(cI, .int), (cZ, .boolean), (cO, .object "ListPainter$Settings")] sz tL [(h0, .inr (11, [.int v0_wide, .int v0_tall, .ref g0_sheet, .ref h2, .ref h1, .int v0_good, .int v0_faultPlace, .int v0_made, .int v0_fills, .int v0_painted, .ref g0_told, .ref g0_saved, .ref g0_saves, .ref g0_at, .ref g0_points, .ref g0_px, .ref g0_py, .ref g0_begins, .ref g0_begun, .ref g0_lines, .ref g0_lastX, .ref g0_lastY, .ref g0_startX, .ref g0_startY, .ref g0_startPoint, .ref g0_both, .ref g0_cut, .int v0_other])), (h1, .inl (cI, 3, .inl f1)), (h2, .inl (cI, 4500, .inl f2))]) (QMi res (dC, dI) [(cI, .int), (cZ, .boolean), (cO, .object "ListPainter$Settings")] (va_A [(h0, .inr (11, [.int v0_wide, .int v0_tall, .ref g0_sheet, .ref h2, .ref h1, .int v0_good, .int v0_faultPlace, .int v0_made, .int v0_fills, .int v0_painted, .ref g0_told, .ref g0_saved, .ref g0_saves, .ref g0_at, .ref g0_points, .ref g0_px, .ref g0_py, .ref g0_begins, .ref g0_begun, .ref g0_lines, .ref g0_lastX, .ref g0_lastY, .ref g0_startX, .ref g0_startY, .ref g0_startPoint, .ref g0_both, .ref g0_cut, .int v0_other])), (h1, .inl (cI, 3, .inl f1)), (h2, .inl (cI, 4500, .inl f2))] sz) [(h0, .inr (11, [.int v0_wide, .int v0_tall, .ref g0_sheet, .ref h2, .ref h1, .int v0_good, .int v0_faultPlace, .int v0_made, .int v0_fills, .int v0_painted, .ref g0_told, .ref g0_saved, .ref g0_saves, .ref g0_at, .ref g0_points, .ref g0_px, .ref g0_py, .ref g0_begins, .ref g0_begun, .ref g0_lines, .ref g0_lastX, .ref g0_lastY, .ref g0_startX, .ref g0_startY, .ref g0_startPoint, .ref g0_both, .ref g0_cut, .int v0_other])), (h1, .inl (cI, 3, .inl f1)), (h2, .inl (cI, 4500, .inl f2))]) 0 0 (va_A [(h0, .inr (11, [.int v0_wide, .int v0_tall, .ref g0_sheet, .ref h2, .ref h1, .int v0_good, .int v0_faultPlace, .int v0_made, .int v0_fills, .int v0_painted, .ref g0_told, .ref g0_saved, .ref g0_saves, .ref g0_at, .ref g0_points, .ref g0_px, .ref g0_py, .ref g0_begins, .ref g0_begun, .ref g0_lines, .ref g0_lastX, .ref g0_lastY, .ref g0_startX, .ref g0_startY, .ref g0_startPoint, .ref g0_both, .ref g0_cut, .int v0_other])), (h1, .inl (cI, 3, .inl f1)), (h2, .inl (cI, 4500, .inl f2))] sz) := by
  refine Met.ofW (cc := cX12_shorter) (maxL := 2) (ret := (some .int)) (by decide) rfl ?_
  intro p e s m args below meth c s₁ B hml hv
  obtain ⟨rfl, hsz, hP, hK, hD0, hG⟩ := hv
  have hx := B.exec
  have hb := B.bytes
  have hr := B.returns
  have hu : ∀ w ∈ uw, w.before ([.ref h0, .int p1] : List Value).toArray s = true := fun w h => atoms_spec (ws := w_X12_shorter) B.pre w (List.mem_cons_of_mem _ h)
  have hown : s.vm.findClass RX12 = some m.cls := findClass_of_methodNamed B.named
  have hlocks := B.notSynchronized
  subst hsz
  have hD := hD0.self (sz := s.heap.size)
  generalize hAe : va_A [(h0, .inr (11, [.int v0_wide, .int v0_tall, .ref g0_sheet, .ref h2, .ref h1, .int v0_good, .int v0_faultPlace, .int v0_made, .int v0_fills, .int v0_painted, .ref g0_told, .ref g0_saved, .ref g0_saves, .ref g0_at, .ref g0_points, .ref g0_px, .ref g0_py, .ref g0_begins, .ref g0_begun, .ref g0_lines, .ref g0_lastX, .ref g0_lastY, .ref g0_startX, .ref g0_startY, .ref g0_startPoint, .ref g0_both, .ref g0_cut, .int v0_other])), (h1, .inl (cI, 3, .inl f1)), (h2, .inl (cI, 4500, .inl f2))] s.heap.size = A at hD hG ⊢
  have hA : ∀ q : Nat, s.heap.size ≤ q → A q := fun q h => by rw [← hAe]; exact Or.inr h
  have hS : va_S A s.heap s.heap [] := va_S.rf
  have hP : va_P (dC, dI) vwCl [(h0, .inr (11, [.int v0_wide, .int v0_tall, .ref g0_sheet, .ref h2, .ref h1, .int v0_good, .int v0_faultPlace, .int v0_made, .int v0_fills, .int v0_painted, .ref g0_told, .ref g0_saved, .ref g0_saves, .ref g0_at, .ref g0_points, .ref g0_px, .ref g0_py, .ref g0_begins, .ref g0_begun, .ref g0_lines, .ref g0_lastX, .ref g0_lastY, .ref g0_startX, .ref g0_startY, .ref g0_startPoint, .ref g0_both, .ref g0_cut, .int v0_other])), (h1, .inl (cI, 3, .inl f1)), (h2, .inl (cI, 4500, .inl f2))] s.heap := hP
  have hl := lv_entry ([.ref h0, .int p1]) (n := 2) (Nat.le_of_ble_eq_true rfl)
  rw [lg_entry_eq]
  generalize (lg_sl ([.ref h0, .int p1]) ++ List.replicate (2 - (lg_sl ([.ref h0, .int p1])).length) Slot.unset).toArray = ls at hl ⊢
  have hl : lv_has ls 2 [(0, .ref h0), (1, .int p1)] := hl
  rw [m_X12_shorter] at hM
  suffices hgo : ∀ (H : Heap) (locs : List Loc), va_P (dC, dI) vwCl [(h0, .inr (11, [.int v0_wide, .int v0_tall, .ref g0_sheet, .ref h2, .ref h1, .int v0_good, .int v0_faultPlace, .int v0_made, .int v0_fills, .int v0_painted, .ref g0_told, .ref g0_saved, .ref g0_saves, .ref g0_at, .ref g0_points, .ref g0_px, .ref g0_py, .ref g0_begins, .ref g0_begun, .ref g0_lines, .ref g0_lastX, .ref g0_lastY, .ref g0_startX, .ref g0_startY, .ref g0_startPoint, .ref g0_both, .ref g0_cut, .int v0_other])), (h1, .inl (cI, 3, .inl f1)), (h2, .inl (cI, 4500, .inl f2))] H → va_D A [(h0, .inr (11, [.int v0_wide, .int v0_tall, .ref g0_sheet, .ref h2, .ref h1, .int v0_good, .int v0_faultPlace, .int v0_made, .int v0_fills, .int v0_painted, .ref g0_told, .ref g0_saved, .ref g0_saves, .ref g0_at, .ref g0_points, .ref g0_px, .ref g0_py, .ref g0_begins, .ref g0_begun, .ref g0_lines, .ref g0_lastX, .ref g0_lastY, .ref g0_startX, .ref g0_startY, .ref g0_startPoint, .ref g0_both, .ref g0_cut, .int v0_other])), (h1, .inl (cI, 3, .inl f1)), (h2, .inl (cI, 4500, .inl f2))] → va_S A s.heap H locs → W p l e (headSpec w_X12_shorter rm_X12_shorter).room s m ([.ref h0, .int p1] : List Value).toArray below meth c H locs 0 0 (MQ below (QMi res (dC, dI) [(cI, .int), (cZ, .boolean), (cO, .object "ListPainter$Settings")] A [(h0, .inr (11, [.int v0_wide, .int v0_tall, .ref g0_sheet, .ref h2, .ref h1, .int v0_good, .int v0_faultPlace, .int v0_made, .int v0_fills, .int v0_painted, .ref g0_told, .ref g0_saved, .ref g0_saves, .ref g0_at, .ref g0_points, .ref g0_px, .ref g0_py, .ref g0_begins, .ref g0_begun, .ref g0_lines, .ref g0_lastX, .ref g0_lastY, .ref g0_startX, .ref g0_startY, .ref g0_startPoint, .ref g0_both, .ref g0_cut, .int v0_other])), (h1, .inl (cI, 3, .inl f1)), (h2, .inl (cI, 4500, .inl f2))]) ([.ref h0, .int p1] : List Value).toArray s 0 0 A) (F0 m 0 ls []) from hgo _ _ hP hD hS
  intro H locs hP hD hS
  refine lv_aload_n hx hb dX12_shorter_0 rfl (lv_at hl 0 rfl) ?_
  refine va_get (D := (dC, dI)) (ci := 11) (v := .int v0_made) (C := RX12) (T := TX12) (N := 28) hx hb hu inX12 hown hK hP 0 rfl rfl 7 (by decide) (hu _ kw_247) (fun _ h9 => h9) rfl dX12_shorter_1 ?_
  refine lv_if_eq (tgt := 21) hx hb dX12_shorter_4 (by decide) (fun c_1 => ?_) (fun c_1 => ?_)
  · have hM := if_t c_1 hM
    refine lv_ldcw (v := (-2000000000)) hx hb hown (hu _ kw_384) dX12_shorter_21 ?_
    refine lv_goto (tgt := 37) hx hb dX12_shorter_24 (by decide) ?_
    have h9 := Option.some.inj hM
    subst h9
    exact W.iret (v := (-2000000000)) hx hb hr (fun t ht hW => QMi_mk (by rw [ht]; exact hP) (va_K.moved hW.alike hK) hD (hS.F ht)) hS.2.2 dX12_shorter_37
  · have hM := if_f c_1 hM
    refine lv_iload_n hx hb dX12_shorter_7 rfl (lv_at hl 1 rfl) ?_
    refine lv_if_lt (tgt := 21) hx hb dX12_shorter_8 (by decide) (fun c_2 => ?_) (fun c_2 => ?_)
    · have hM := if_t c_2 hM
      refine lv_ldcw (v := (-2000000000)) hx hb hown (hu _ kw_384) dX12_shorter_21 ?_
      refine lv_goto (tgt := 37) hx hb dX12_shorter_24 (by decide) ?_
      have h9 := Option.some.inj hM
      subst h9
      exact W.iret (v := (-2000000000)) hx hb hr (fun t ht hW => QMi_mk (by rw [ht]; exact hP) (va_K.moved hW.alike hK) hD (hS.F ht)) hS.2.2 dX12_shorter_37
    · have hM := if_f c_2 hM
      refine lv_iload_n hx hb dX12_shorter_11 rfl (lv_at hl 1 rfl) ?_
      refine lv_aload_n hx hb dX12_shorter_12 rfl (lv_at hl 0 rfl) ?_
      refine va_get (D := (dC, dI)) (ci := 11) (v := .ref h1) (C := RX12) (T := TX12) (N := 28) hx hb hu inX12 hown hK hP 0 rfl rfl 4 (by decide) (hu _ kw_248) (fun _ h9 => h9) rfl dX12_shorter_13 ?_
      refine lv_iconst (v := 1) hx hb dX12_shorter_16 (by decide) ?_
      obtain ⟨g_3, hM⟩ := gd_u hM
      refine va_iald hx hb hK hP 1 0 rfl rfl (inb_v g_3) dX12_shorter_17 ?_
      refine lv_topi (fun a_4 ea_4 => ?_)
      have hM := nm_u ea_4 hM
      refine lv_icmp_lt (tgt := 27) hx hb dX12_shorter_18 (by decide) (fun c_5 => ?_) (fun c_5 => ?_)
      · have hM := if_t c_5 hM
        refine lv_aload_n hx hb dX12_shorter_27 rfl (lv_at hl 0 rfl) ?_
        refine va_get (D := (dC, dI)) (ci := 11) (v := .ref h2) (C := RX12) (T := TX12) (N := 28) hx hb hu inX12 hown hK hP 0 rfl rfl 3 (by decide) (hu _ kw_249) (fun _ h9 => h9) rfl dX12_shorter_28 ?_
        refine lv_sipush (v := 1500) hx hb dX12_shorter_31 (by decide) ?_
        refine lv_iload_n hx hb dX12_shorter_34 rfl (lv_at hl 1 rfl) ?_
        refine lv_iadd hx hb dX12_shorter_35 ?_
        obtain ⟨g_6, hM⟩ := gd_u hM
        refine va_iald hx hb hK hP 2 0 rfl rfl (inb_v g_6) dX12_shorter_36 ?_
        refine lv_topi (fun a_7 ea_7 => ?_)
        have hM := nm_u ea_7 hM
        have h9 := Option.some.inj hM
        subst h9
        exact W.iret (v := a_7) hx hb hr (fun t ht hW => QMi_mk (by rw [ht]; exact hP) (va_K.moved hW.alike hK) hD (hS.F ht)) hS.2.2 dX12_shorter_37
      · have hM := if_f c_5 hM
        refine lv_ldcw (v := (-2000000000)) hx hb hown (hu _ kw_384) dX12_shorter_21 ?_
        refine lv_goto (tgt := 37) hx hb dX12_shorter_24 (by decide) ?_
        have h9 := Option.some.inj hM
        subst h9
        exact W.iret (v := (-2000000000)) hx hb hr (fun t ht hW => QMi_mk (by rw [ht]; exact hP) (va_K.moved hW.alike hK) hD (hS.F ht)) hS.2.2 dX12_shorter_37
theorem dX12_pixel_0 : decode cX12_pixel 0 = .ok (.iload_n 1, 1) := by decide +kernel
theorem dX12_pixel_1 : decode cX12_pixel 1 = .ok (.ifCond .lt 23, 3) := by decide +kernel
theorem dX12_pixel_4 : decode cX12_pixel 4 = .ok (.iload_n 1, 1) := by decide +kernel
theorem dX12_pixel_5 : decode cX12_pixel 5 = .ok (.aload_n 0, 1) := by decide +kernel
theorem dX12_pixel_6 : decode cX12_pixel 6 = .ok (.getfield 75, 3) := by decide +kernel
theorem dX12_pixel_9 : decode cX12_pixel 9 = .ok (.if_icmp .ge 15, 3) := by decide +kernel
theorem dX12_pixel_12 : decode cX12_pixel 12 = .ok (.iload_n 2, 1) := by decide +kernel
theorem dX12_pixel_13 : decode cX12_pixel 13 = .ok (.ifCond .lt 11, 3) := by decide +kernel
theorem dX12_pixel_16 : decode cX12_pixel 16 = .ok (.iload_n 2, 1) := by decide +kernel
theorem dX12_pixel_17 : decode cX12_pixel 17 = .ok (.aload_n 0, 1) := by decide +kernel
theorem dX12_pixel_18 : decode cX12_pixel 18 = .ok (.getfield 78, 3) := by decide +kernel
theorem dX12_pixel_21 : decode cX12_pixel 21 = .ok (.if_icmp .lt 7, 3) := by decide +kernel
theorem dX12_pixel_24 : decode cX12_pixel 24 = .ok (.iconst 1, 1) := by decide +kernel
theorem dX12_pixel_25 : decode cX12_pixel 25 = .ok (.goto 14, 3) := by decide +kernel
theorem dX12_pixel_28 : decode cX12_pixel 28 = .ok (.aload_n 0, 1) := by decide +kernel
theorem dX12_pixel_29 : decode cX12_pixel 29 = .ok (.getfield 7, 3) := by decide +kernel
theorem dX12_pixel_32 : decode cX12_pixel 32 = .ok (.bipush 32, 2) := by decide +kernel
theorem dX12_pixel_34 : decode cX12_pixel 34 = .ok (.iload_n 2, 1) := by decide +kernel
theorem dX12_pixel_35 : decode cX12_pixel 35 = .ok (.imul, 1) := by decide +kernel
theorem dX12_pixel_36 : decode cX12_pixel 36 = .ok (.iload_n 1, 1) := by decide +kernel
theorem dX12_pixel_37 : decode cX12_pixel 37 = .ok (.iadd, 1) := by decide +kernel
theorem dX12_pixel_38 : decode cX12_pixel 38 = .ok (.iaload, 1) := by decide +kernel
theorem dX12_pixel_39 : decode cX12_pixel 39 = .ok (.ireturn, 1) := by decide +kernel
abbrev rm_X12_pixel : Room := { frames := 0, cells := 0, slots := 0, locals := 0 }
def w_X12_pixel : List Cond := Cond.code yX12_pixel cX12_pixel 3 (some .int) :: uw
set_option maxHeartbeats 4000000 in
set_option maxRecDepth 100000 in
theorem c_X12_pixel (l : Launch) (dC : Nat → ClassId) (dI : Nat → Nat → Nat) (cI cZ cO : ClassId) (tL sz : Nat) (h0 : Nat) (h1 : Nat) (g0_words : Nat) (g0_size : Nat) (g0_told : Nat) (g0_saved : Nat) (g0_saves : Nat) (g0_at : Nat) (g0_points : Nat) (g0_px : Nat) (g0_py : Nat) (g0_begins : Nat) (g0_begun : Nat) (g0_lines : Nat) (g0_lastX : Nat) (g0_lastY : Nat) (g0_startX : Nat) (g0_startY : Nat) (g0_startPoint : Nat) (g0_both : Nat) (g0_cut : Nat) (v0_wide : Int32) (v0_tall : Int32) (v0_good : Int32) (v0_faultPlace : Int32) (v0_made : Int32) (v0_fills : Int32) (v0_painted : Int32) (v0_other : Int32) (f1 : Nat → Int32) (p1 : Int32) (p2 : Int32) (res : Int32) (hM : m_X12_pixel v0_wide v0_tall f1 p1 p2 = some res) : Met l yX12_pixel w_X12_pixel rm_X12_pixel (PCx [.ref h0, .int p1, .int p2] (dC, dI) [(cI, .int), (cZ, .boolean), (cO, .object "ListPainter$Settings")] sz tL [(h0, .inr (11, [.int v0_wide, .int v0_tall, .ref h1, .ref g0_words, .ref g0_size, .int v0_good, .int v0_faultPlace, .int v0_made, .int v0_fills, .int v0_painted, .ref g0_told, .ref g0_saved, .ref g0_saves, .ref g0_at, .ref g0_points, .ref g0_px, .ref g0_py, .ref g0_begins, .ref g0_begun, .ref g0_lines, .ref g0_lastX, .ref g0_lastY, .ref g0_startX, .ref g0_startY, .ref g0_startPoint, .ref g0_both, .ref g0_cut, .int v0_other])), (h1, .inl (cI, 1024, .inl f1))]) (QMi res (dC, dI) [(cI, .int), (cZ, .boolean), (cO, .object "ListPainter$Settings")] (va_A [(h0, .inr (11, [.int v0_wide, .int v0_tall, .ref h1, .ref g0_words, .ref g0_size, .int v0_good, .int v0_faultPlace, .int v0_made, .int v0_fills, .int v0_painted, .ref g0_told, .ref g0_saved, .ref g0_saves, .ref g0_at, .ref g0_points, .ref g0_px, .ref g0_py, .ref g0_begins, .ref g0_begun, .ref g0_lines, .ref g0_lastX, .ref g0_lastY, .ref g0_startX, .ref g0_startY, .ref g0_startPoint, .ref g0_both, .ref g0_cut, .int v0_other])), (h1, .inl (cI, 1024, .inl f1))] sz) [(h0, .inr (11, [.int v0_wide, .int v0_tall, .ref h1, .ref g0_words, .ref g0_size, .int v0_good, .int v0_faultPlace, .int v0_made, .int v0_fills, .int v0_painted, .ref g0_told, .ref g0_saved, .ref g0_saves, .ref g0_at, .ref g0_points, .ref g0_px, .ref g0_py, .ref g0_begins, .ref g0_begun, .ref g0_lines, .ref g0_lastX, .ref g0_lastY, .ref g0_startX, .ref g0_startY, .ref g0_startPoint, .ref g0_both, .ref g0_cut, .int v0_other])), (h1, .inl (cI, 1024, .inl f1))]) 0 0 (va_A [(h0, .inr (11, [.int v0_wide, .int v0_tall, .ref h1, .ref g0_words, .ref g0_size, .int v0_good, .int v0_faultPlace, .int v0_made, .int v0_fills, .int v0_painted, .ref g0_told, .ref g0_saved, .ref g0_saves, .ref g0_at, .ref g0_points, .ref g0_px, .ref g0_py, .ref g0_begins, .ref g0_begun, .ref g0_lines, .ref g0_lastX, .ref g0_lastY, .ref g0_startX, .ref g0_startY, .ref g0_startPoint, .ref g0_both, .ref g0_cut, .int v0_other])), (h1, .inl (cI, 1024, .inl f1))] sz) := by
  refine Met.ofW (cc := cX12_pixel) (maxL := 3) (ret := (some .int)) (by decide) rfl ?_
  intro p e s m args below meth c s₁ B hml hv
  obtain ⟨rfl, hsz, hP, hK, hD0, hG⟩ := hv
  have hx := B.exec
  have hb := B.bytes
  have hr := B.returns
  have hu : ∀ w ∈ uw, w.before ([.ref h0, .int p1, .int p2] : List Value).toArray s = true := fun w h => atoms_spec (ws := w_X12_pixel) B.pre w (List.mem_cons_of_mem _ h)
  have hown : s.vm.findClass RX12 = some m.cls := findClass_of_methodNamed B.named
  have hlocks := B.notSynchronized
  subst hsz
  have hD := hD0.self (sz := s.heap.size)
  generalize hAe : va_A [(h0, .inr (11, [.int v0_wide, .int v0_tall, .ref h1, .ref g0_words, .ref g0_size, .int v0_good, .int v0_faultPlace, .int v0_made, .int v0_fills, .int v0_painted, .ref g0_told, .ref g0_saved, .ref g0_saves, .ref g0_at, .ref g0_points, .ref g0_px, .ref g0_py, .ref g0_begins, .ref g0_begun, .ref g0_lines, .ref g0_lastX, .ref g0_lastY, .ref g0_startX, .ref g0_startY, .ref g0_startPoint, .ref g0_both, .ref g0_cut, .int v0_other])), (h1, .inl (cI, 1024, .inl f1))] s.heap.size = A at hD hG ⊢
  have hA : ∀ q : Nat, s.heap.size ≤ q → A q := fun q h => by rw [← hAe]; exact Or.inr h
  have hS : va_S A s.heap s.heap [] := va_S.rf
  have hP : va_P (dC, dI) vwCl [(h0, .inr (11, [.int v0_wide, .int v0_tall, .ref h1, .ref g0_words, .ref g0_size, .int v0_good, .int v0_faultPlace, .int v0_made, .int v0_fills, .int v0_painted, .ref g0_told, .ref g0_saved, .ref g0_saves, .ref g0_at, .ref g0_points, .ref g0_px, .ref g0_py, .ref g0_begins, .ref g0_begun, .ref g0_lines, .ref g0_lastX, .ref g0_lastY, .ref g0_startX, .ref g0_startY, .ref g0_startPoint, .ref g0_both, .ref g0_cut, .int v0_other])), (h1, .inl (cI, 1024, .inl f1))] s.heap := hP
  have hl := lv_entry ([.ref h0, .int p1, .int p2]) (n := 3) (Nat.le_of_ble_eq_true rfl)
  rw [lg_entry_eq]
  generalize (lg_sl ([.ref h0, .int p1, .int p2]) ++ List.replicate (3 - (lg_sl ([.ref h0, .int p1, .int p2])).length) Slot.unset).toArray = ls at hl ⊢
  have hl : lv_has ls 3 [(0, .ref h0), (1, .int p1), (2, .int p2)] := hl
  rw [m_X12_pixel] at hM
  suffices hgo : ∀ (H : Heap) (locs : List Loc), va_P (dC, dI) vwCl [(h0, .inr (11, [.int v0_wide, .int v0_tall, .ref h1, .ref g0_words, .ref g0_size, .int v0_good, .int v0_faultPlace, .int v0_made, .int v0_fills, .int v0_painted, .ref g0_told, .ref g0_saved, .ref g0_saves, .ref g0_at, .ref g0_points, .ref g0_px, .ref g0_py, .ref g0_begins, .ref g0_begun, .ref g0_lines, .ref g0_lastX, .ref g0_lastY, .ref g0_startX, .ref g0_startY, .ref g0_startPoint, .ref g0_both, .ref g0_cut, .int v0_other])), (h1, .inl (cI, 1024, .inl f1))] H → va_D A [(h0, .inr (11, [.int v0_wide, .int v0_tall, .ref h1, .ref g0_words, .ref g0_size, .int v0_good, .int v0_faultPlace, .int v0_made, .int v0_fills, .int v0_painted, .ref g0_told, .ref g0_saved, .ref g0_saves, .ref g0_at, .ref g0_points, .ref g0_px, .ref g0_py, .ref g0_begins, .ref g0_begun, .ref g0_lines, .ref g0_lastX, .ref g0_lastY, .ref g0_startX, .ref g0_startY, .ref g0_startPoint, .ref g0_both, .ref g0_cut, .int v0_other])), (h1, .inl (cI, 1024, .inl f1))] → va_S A s.heap H locs → W p l e (headSpec w_X12_pixel rm_X12_pixel).room s m ([.ref h0, .int p1, .int p2] : List Value).toArray below meth c H locs 0 0 (MQ below (QMi res (dC, dI) [(cI, .int), (cZ, .boolean), (cO, .object "ListPainter$Settings")] A [(h0, .inr (11, [.int v0_wide, .int v0_tall, .ref h1, .ref g0_words, .ref g0_size, .int v0_good, .int v0_faultPlace, .int v0_made, .int v0_fills, .int v0_painted, .ref g0_told, .ref g0_saved, .ref g0_saves, .ref g0_at, .ref g0_points, .ref g0_px, .ref g0_py, .ref g0_begins, .ref g0_begun, .ref g0_lines, .ref g0_lastX, .ref g0_lastY, .ref g0_startX, .ref g0_startY, .ref g0_startPoint, .ref g0_both, .ref g0_cut, .int v0_other])), (h1, .inl (cI, 1024, .inl f1))]) ([.ref h0, .int p1, .int p2] : List Value).toArray s 0 0 A) (F0 m 0 ls []) from hgo _ _ hP hD hS
  intro H locs hP hD hS
  refine lv_iload_n hx hb dX12_pixel_0 rfl (lv_at hl 1 rfl) ?_
  refine lv_if_lt (tgt := 24) hx hb dX12_pixel_1 (by decide) (fun c_1 => ?_) (fun c_1 => ?_)
  · have hM := if_t c_1 hM
    refine lv_iconst (v := 1) hx hb dX12_pixel_24 (by decide) ?_
    refine lv_goto (tgt := 39) hx hb dX12_pixel_25 (by decide) ?_
    have h9 := Option.some.inj hM
    subst h9
    exact W.iret (v := 1) hx hb hr (fun t ht hW => QMi_mk (by rw [ht]; exact hP) (va_K.moved hW.alike hK) hD (hS.F ht)) hS.2.2 dX12_pixel_39
  · have hM := if_f c_1 hM
    refine lv_iload_n hx hb dX12_pixel_4 rfl (lv_at hl 1 rfl) ?_
    refine lv_aload_n hx hb dX12_pixel_5 rfl (lv_at hl 0 rfl) ?_
    refine va_get (D := (dC, dI)) (ci := 11) (v := .int v0_wide) (C := RX12) (T := TX12) (N := 28) hx hb hu inX12 hown hK hP 0 rfl rfl 0 (by decide) (hu _ kw_278) (fun _ h9 => h9) rfl dX12_pixel_6 ?_
    refine lv_icmp_ge (tgt := 24) hx hb dX12_pixel_9 (by decide) (fun c_2 => ?_) (fun c_2 => ?_)
    · have hM := if_t c_2 hM
      refine lv_iconst (v := 1) hx hb dX12_pixel_24 (by decide) ?_
      refine lv_goto (tgt := 39) hx hb dX12_pixel_25 (by decide) ?_
      have h9 := Option.some.inj hM
      subst h9
      exact W.iret (v := 1) hx hb hr (fun t ht hW => QMi_mk (by rw [ht]; exact hP) (va_K.moved hW.alike hK) hD (hS.F ht)) hS.2.2 dX12_pixel_39
    · have hM := if_f c_2 hM
      refine lv_iload_n hx hb dX12_pixel_12 rfl (lv_at hl 2 rfl) ?_
      refine lv_if_lt (tgt := 24) hx hb dX12_pixel_13 (by decide) (fun c_3 => ?_) (fun c_3 => ?_)
      · have hM := if_t c_3 hM
        refine lv_iconst (v := 1) hx hb dX12_pixel_24 (by decide) ?_
        refine lv_goto (tgt := 39) hx hb dX12_pixel_25 (by decide) ?_
        have h9 := Option.some.inj hM
        subst h9
        exact W.iret (v := 1) hx hb hr (fun t ht hW => QMi_mk (by rw [ht]; exact hP) (va_K.moved hW.alike hK) hD (hS.F ht)) hS.2.2 dX12_pixel_39
      · have hM := if_f c_3 hM
        refine lv_iload_n hx hb dX12_pixel_16 rfl (lv_at hl 2 rfl) ?_
        refine lv_aload_n hx hb dX12_pixel_17 rfl (lv_at hl 0 rfl) ?_
        refine va_get (D := (dC, dI)) (ci := 11) (v := .int v0_tall) (C := RX12) (T := TX12) (N := 28) hx hb hu inX12 hown hK hP 0 rfl rfl 1 (by decide) (hu _ kw_279) (fun _ h9 => h9) rfl dX12_pixel_18 ?_
        refine lv_icmp_lt (tgt := 28) hx hb dX12_pixel_21 (by decide) (fun c_4 => ?_) (fun c_4 => ?_)
        · have hM := if_t c_4 hM
          refine lv_aload_n hx hb dX12_pixel_28 rfl (lv_at hl 0 rfl) ?_
          refine va_get (D := (dC, dI)) (ci := 11) (v := .ref h1) (C := RX12) (T := TX12) (N := 28) hx hb hu inX12 hown hK hP 0 rfl rfl 2 (by decide) (hu _ kw_372) (fun _ h9 => h9) rfl dX12_pixel_29 ?_
          refine lv_bipush (v := 32) hx hb dX12_pixel_32 (by decide) ?_
          refine lv_iload_n hx hb dX12_pixel_34 rfl (lv_at hl 2 rfl) ?_
          refine lv_imul hx hb dX12_pixel_35 ?_
          refine lv_iload_n hx hb dX12_pixel_36 rfl (lv_at hl 1 rfl) ?_
          refine lv_iadd hx hb dX12_pixel_37 ?_
          obtain ⟨g_5, hM⟩ := gd_u hM
          refine va_iald hx hb hK hP 1 0 rfl rfl (inb_v g_5) dX12_pixel_38 ?_
          refine lv_topi (fun a_6 ea_6 => ?_)
          have hM := nm_u ea_6 hM
          have h9 := Option.some.inj hM
          subst h9
          exact W.iret (v := a_6) hx hb hr (fun t ht hW => QMi_mk (by rw [ht]; exact hP) (va_K.moved hW.alike hK) hD (hS.F ht)) hS.2.2 dX12_pixel_39
        · have hM := if_f c_4 hM
          refine lv_iconst (v := 1) hx hb dX12_pixel_24 (by decide) ?_
          refine lv_goto (tgt := 39) hx hb dX12_pixel_25 (by decide) ?_
          have h9 := Option.some.inj hM
          subst h9
          exact W.iret (v := 1) hx hb hr (fun t ht hW => QMi_mk (by rw [ht]; exact hP) (va_K.moved hW.alike hK) hD (hS.F ht)) hS.2.2 dX12_pixel_39
