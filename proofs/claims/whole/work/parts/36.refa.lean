theorem dX12_changed_0 : decode cX12_changed 0 = .ok (.aload_n 0, 1) := by decide +kernel
theorem dX12_changed_1 : decode cX12_changed 1 = .ok (.iconst 0, 1) := by decide +kernel
theorem dX12_changed_2 : decode cX12_changed 2 = .ok (.putfield 81, 3) := by decide +kernel
theorem dX12_changed_5 : decode cX12_changed 5 = .ok (.aload_n 0, 1) := by decide +kernel
theorem dX12_changed_6 : decode cX12_changed 6 = .ok (.iconst 0, 1) := by decide +kernel
theorem dX12_changed_7 : decode cX12_changed 7 = .ok (.putfield 85, 3) := by decide +kernel
theorem dX12_changed_10 : decode cX12_changed 10 = .ok (.return_, 1) := by decide +kernel
abbrev rm_X12_changed : Room := { frames := 0, cells := 0, slots := 0, locals := 0 }
def w_X12_changed : List Cond := Cond.code yX12_changed cX12_changed 1 none :: uw
set_option maxHeartbeats 4000000 in
set_option maxRecDepth 100000 in
theorem c_X12_changed (l : Launch) (dC : Nat → ClassId) (dI : Nat → Nat → Nat) (cI cZ cO : ClassId) (tL sz : Nat) (h0 : Nat) (g0_sheet : Nat) (g0_words : Nat) (g0_size : Nat) (g0_told : Nat) (g0_saved : Nat) (g0_saves : Nat) (g0_at : Nat) (g0_points : Nat) (g0_px : Nat) (g0_py : Nat) (g0_begins : Nat) (g0_begun : Nat) (g0_lines : Nat) (g0_lastX : Nat) (g0_lastY : Nat) (g0_startX : Nat) (g0_startY : Nat) (g0_startPoint : Nat) (g0_both : Nat) (g0_cut : Nat) (v0_wide : Int32) (v0_tall : Int32) (v0_good : Int32) (v0_faultPlace : Int32) (v0_made : Int32) (v0_fills : Int32) (v0_painted : Int32) (v0_other : Int32) (res : Int32 × Int32) (hM : m_X12_changed v0_good v0_made = some res) : Met l yX12_changed w_X12_changed rm_X12_changed (PCx [.ref h0] (dC, dI) [(cI, .int), (cZ, .boolean), (cO, .object "ListPainter$Settings")] sz tL [(h0, .inr (11, [.int v0_wide, .int v0_tall, .ref g0_sheet, .ref g0_words, .ref g0_size, .int v0_good, .int v0_faultPlace, .int v0_made, .int v0_fills, .int v0_painted, .ref g0_told, .ref g0_saved, .ref g0_saves, .ref g0_at, .ref g0_points, .ref g0_px, .ref g0_py, .ref g0_begins, .ref g0_begun, .ref g0_lines, .ref g0_lastX, .ref g0_lastY, .ref g0_startX, .ref g0_startY, .ref g0_startPoint, .ref g0_both, .ref g0_cut, .int v0_other]))]) (QMv (dC, dI) [(cI, .int), (cZ, .boolean), (cO, .object "ListPainter$Settings")] (va_A [(h0, .inr (11, [.int v0_wide, .int v0_tall, .ref g0_sheet, .ref g0_words, .ref g0_size, .int v0_good, .int v0_faultPlace, .int v0_made, .int v0_fills, .int v0_painted, .ref g0_told, .ref g0_saved, .ref g0_saves, .ref g0_at, .ref g0_points, .ref g0_px, .ref g0_py, .ref g0_begins, .ref g0_begun, .ref g0_lines, .ref g0_lastX, .ref g0_lastY, .ref g0_startX, .ref g0_startY, .ref g0_startPoint, .ref g0_both, .ref g0_cut, .int v0_other]))] sz) [(h0, .inr (11, [.int v0_wide, .int v0_tall, .ref g0_sheet, .ref g0_words, .ref g0_size, .int (res.1), .int v0_faultPlace, .int (res.2), .int v0_fills, .int v0_painted, .ref g0_told, .ref g0_saved, .ref g0_saves, .ref g0_at, .ref g0_points, .ref g0_px, .ref g0_py, .ref g0_begins, .ref g0_begun, .ref g0_lines, .ref g0_lastX, .ref g0_lastY, .ref g0_startX, .ref g0_startY, .ref g0_startPoint, .ref g0_both, .ref g0_cut, .int v0_other]))]) 0 0 (va_A [(h0, .inr (11, [.int v0_wide, .int v0_tall, .ref g0_sheet, .ref g0_words, .ref g0_size, .int v0_good, .int v0_faultPlace, .int v0_made, .int v0_fills, .int v0_painted, .ref g0_told, .ref g0_saved, .ref g0_saves, .ref g0_at, .ref g0_points, .ref g0_px, .ref g0_py, .ref g0_begins, .ref g0_begun, .ref g0_lines, .ref g0_lastX, .ref g0_lastY, .ref g0_startX, .ref g0_startY, .ref g0_startPoint, .ref g0_both, .ref g0_cut, .int v0_other]))] sz) := by
  refine Met.ofW (cc := cX12_changed) (maxL := 1) (ret := none) (by decide) rfl ?_
  intro p e s m args below meth c s₁ B hml hv
  obtain ⟨rfl, hsz, hP, hK, hD0, hG⟩ := hv
  have hx := B.exec
  have hb := B.bytes
  have hr := B.returns
  have hu : ∀ w ∈ uw, w.before ([.ref h0] : List Value).toArray s = true := fun w h => atoms_spec (ws := w_X12_changed) B.pre w (List.mem_cons_of_mem _ h)
  have hown : s.vm.findClass RX12 = some m.cls := findClass_of_methodNamed B.named
  have hlocks := B.notSynchronized
  subst hsz
  have hD := hD0.self (sz := s.heap.size)
  generalize hAe : va_A [(h0, .inr (11, [.int v0_wide, .int v0_tall, .ref g0_sheet, .ref g0_words, .ref g0_size, .int v0_good, .int v0_faultPlace, .int v0_made, .int v0_fills, .int v0_painted, .ref g0_told, .ref g0_saved, .ref g0_saves, .ref g0_at, .ref g0_points, .ref g0_px, .ref g0_py, .ref g0_begins, .ref g0_begun, .ref g0_lines, .ref g0_lastX, .ref g0_lastY, .ref g0_startX, .ref g0_startY, .ref g0_startPoint, .ref g0_both, .ref g0_cut, .int v0_other]))] s.heap.size = A at hD hG ⊢
  have hA : ∀ q : Nat, s.heap.size ≤ q → A q := fun q h => by rw [← hAe]; exact Or.inr h
  have hS : va_S A s.heap s.heap [] := va_S.rf
  have hP : va_P (dC, dI) vwCl [(h0, .inr (11, [.int v0_wide, .int v0_tall, .ref g0_sheet, .ref g0_words, .ref g0_size, .int v0_good, .int v0_faultPlace, .int v0_made, .int v0_fills, .int v0_painted, .ref g0_told, .ref g0_saved, .ref g0_saves, .ref g0_at, .ref g0_points, .ref g0_px, .ref g0_py, .ref g0_begins, .ref g0_begun, .ref g0_lines, .ref g0_lastX, .ref g0_lastY, .ref g0_startX, .ref g0_startY, .ref g0_startPoint, .ref g0_both, .ref g0_cut, .int v0_other]))] s.heap := hP
  have hl := lv_entry ([.ref h0]) (n := 1) (Nat.le_of_ble_eq_true rfl)
  rw [lg_entry_eq]
  generalize (lg_sl ([.ref h0]) ++ List.replicate (1 - (lg_sl ([.ref h0])).length) Slot.unset).toArray = ls at hl ⊢
  have hl : lv_has ls 1 [(0, .ref h0)] := hl
  rw [m_X12_changed] at hM
  suffices hgo : ∀ (H : Heap) (locs : List Loc), va_P (dC, dI) vwCl [(h0, .inr (11, [.int v0_wide, .int v0_tall, .ref g0_sheet, .ref g0_words, .ref g0_size, .int v0_good, .int v0_faultPlace, .int v0_made, .int v0_fills, .int v0_painted, .ref g0_told, .ref g0_saved, .ref g0_saves, .ref g0_at, .ref g0_points, .ref g0_px, .ref g0_py, .ref g0_begins, .ref g0_begun, .ref g0_lines, .ref g0_lastX, .ref g0_lastY, .ref g0_startX, .ref g0_startY, .ref g0_startPoint, .ref g0_both, .ref g0_cut, .int v0_other]))] H → va_D A [(h0, .inr (11, [.int v0_wide, .int v0_tall, .ref g0_sheet, .ref g0_words, .ref g0_size, .int v0_good, .int v0_faultPlace, .int v0_made, .int v0_fills, .int v0_painted, .ref g0_told, .ref g0_saved, .ref g0_saves, .ref g0_at, .ref g0_points, .ref g0_px, .ref g0_py, .ref g0_begins, .ref g0_begun, .ref g0_lines, .ref g0_lastX, .ref g0_lastY, .ref g0_startX, .ref g0_startY, .ref g0_startPoint, .ref g0_both, .ref g0_cut, .int v0_other]))] → va_S A s.heap H locs → W p l e (headSpec w_X12_changed rm_X12_changed).room s m ([.ref h0] : List Value).toArray below meth c H locs 0 0 (MQ below (QMv (dC, dI) [(cI, .int), (cZ, .boolean), (cO, .object "ListPainter$Settings")] A [(h0, .inr (11, [.int v0_wide, .int v0_tall, .ref g0_sheet, .ref g0_words, .ref g0_size, .int (res.1), .int v0_faultPlace, .int (res.2), .int v0_fills, .int v0_painted, .ref g0_told, .ref g0_saved, .ref g0_saves, .ref g0_at, .ref g0_points, .ref g0_px, .ref g0_py, .ref g0_begins, .ref g0_begun, .ref g0_lines, .ref g0_lastX, .ref g0_lastY, .ref g0_startX, .ref g0_startY, .ref g0_startPoint, .ref g0_both, .ref g0_cut, .int v0_other]))]) ([.ref h0] : List Value).toArray s 0 0 A) (F0 m 0 ls []) from hgo _ _ hP hD hS
  intro H locs hP hD hS
  refine lv_aload_n hx hb dX12_changed_0 rfl (lv_at hl 0 rfl) ?_
  refine lv_iconst (v := 0) hx hb dX12_changed_1 (by decide) ?_
  refine va_put (D := (dC, dI)) (ci := 11) (v := .int 0) (ty := .boolean) (C := RX12) (T := TX12) (N := 28) hx hb hu inX12 tyX12 tyX12_ok nmX12 hown hK hP hD hS 0 rfl rfl 5 (by decide) (hu _ kw_246) (fun _ h9 => h9) rfl (by decide +kernel) (zb_n (Or.inl rfl)) (zb_f (Or.inl rfl)) (Nat.le_of_ble_eq_true rfl) dX12_changed_2 (fun H locs hP hD hS => ?_)
  have hP : va_P (dC, dI) vwCl [(h0, .inr (11, [.int v0_wide, .int v0_tall, .ref g0_sheet, .ref g0_words, .ref g0_size, .int 0, .int v0_faultPlace, .int v0_made, .int v0_fills, .int v0_painted, .ref g0_told, .ref g0_saved, .ref g0_saves, .ref g0_at, .ref g0_points, .ref g0_px, .ref g0_py, .ref g0_begins, .ref g0_begun, .ref g0_lines, .ref g0_lastX, .ref g0_lastY, .ref g0_startX, .ref g0_startY, .ref g0_startPoint, .ref g0_both, .ref g0_cut, .int v0_other]))] H := hP
  have hD : va_D A [(h0, .inr (11, [.int v0_wide, .int v0_tall, .ref g0_sheet, .ref g0_words, .ref g0_size, .int 0, .int v0_faultPlace, .int v0_made, .int v0_fills, .int v0_painted, .ref g0_told, .ref g0_saved, .ref g0_saves, .ref g0_at, .ref g0_points, .ref g0_px, .ref g0_py, .ref g0_begins, .ref g0_begun, .ref g0_lines, .ref g0_lastX, .ref g0_lastY, .ref g0_startX, .ref g0_startY, .ref g0_startPoint, .ref g0_both, .ref g0_cut, .int v0_other]))] := hD
  refine lv_aload_n hx hb dX12_changed_5 rfl (lv_at hl 0 rfl) ?_
  refine lv_iconst (v := 0) hx hb dX12_changed_6 (by decide) ?_
  refine va_put (D := (dC, dI)) (ci := 11) (v := .int 0) (ty := .boolean) (C := RX12) (T := TX12) (N := 28) hx hb hu inX12 tyX12 tyX12_ok nmX12 hown hK hP hD hS 0 rfl rfl 7 (by decide) (hu _ kw_247) (fun _ h9 => h9) rfl (by decide +kernel) (zb_n (Or.inl rfl)) (zb_f (Or.inl rfl)) (Nat.le_of_ble_eq_true rfl) dX12_changed_7 (fun H locs hP hD hS => ?_)
  have hP : va_P (dC, dI) vwCl [(h0, .inr (11, [.int v0_wide, .int v0_tall, .ref g0_sheet, .ref g0_words, .ref g0_size, .int 0, .int v0_faultPlace, .int 0, .int v0_fills, .int v0_painted, .ref g0_told, .ref g0_saved, .ref g0_saves, .ref g0_at, .ref g0_points, .ref g0_px, .ref g0_py, .ref g0_begins, .ref g0_begun, .ref g0_lines, .ref g0_lastX, .ref g0_lastY, .ref g0_startX, .ref g0_startY, .ref g0_startPoint, .ref g0_both, .ref g0_cut, .int v0_other]))] H := hP
  have hD : va_D A [(h0, .inr (11, [.int v0_wide, .int v0_tall, .ref g0_sheet, .ref g0_words, .ref g0_size, .int 0, .int v0_faultPlace, .int 0, .int v0_fills, .int v0_painted, .ref g0_told, .ref g0_saved, .ref g0_saves, .ref g0_at, .ref g0_points, .ref g0_px, .ref g0_py, .ref g0_begins, .ref g0_begun, .ref g0_lines, .ref g0_lastX, .ref g0_lastY, .ref g0_startX, .ref g0_startY, .ref g0_startPoint, .ref g0_both, .ref g0_cut, .int v0_other]))] := hD
  have h9 := Option.some.inj hM
  subst h9
  exact W.vret hx hb hr (fun t ht hW => QMv_mk (by rw [ht]; exact hP) (va_K.moved hW.alike hK) hD (hS.F ht)) hS.2.2 dX12_changed_10
theorem dX12_feed_0 : decode cX12_feed 0 = .ok (.aload_n 0, 1) := by decide +kernel
theorem dX12_feed_1 : decode cX12_feed 1 = .ok (.getfield 16, 3) := by decide +kernel
theorem dX12_feed_4 : decode cX12_feed 4 = .ok (.iconst 0, 1) := by decide +kernel
theorem dX12_feed_5 : decode cX12_feed 5 = .ok (.iaload, 1) := by decide +kernel
theorem dX12_feed_6 : decode cX12_feed 6 = .ok (.sipush 1500, 3) := by decide +kernel
theorem dX12_feed_9 : decode cX12_feed 9 = .ok (.if_icmp .ne 5, 3) := by decide +kernel
theorem dX12_feed_12 : decode cX12_feed 12 = .ok (.iconst (-1), 1) := by decide +kernel
theorem dX12_feed_13 : decode cX12_feed 13 = .ok (.ireturn, 1) := by decide +kernel
theorem dX12_feed_14 : decode cX12_feed 14 = .ok (.aload_n 0, 1) := by decide +kernel
theorem dX12_feed_15 : decode cX12_feed 15 = .ok (.getfield 13, 3) := by decide +kernel
theorem dX12_feed_18 : decode cX12_feed 18 = .ok (.aload_n 0, 1) := by decide +kernel
theorem dX12_feed_19 : decode cX12_feed 19 = .ok (.getfield 16, 3) := by decide +kernel
theorem dX12_feed_22 : decode cX12_feed 22 = .ok (.iconst 0, 1) := by decide +kernel
theorem dX12_feed_23 : decode cX12_feed 23 = .ok (.iaload, 1) := by decide +kernel
theorem dX12_feed_24 : decode cX12_feed 24 = .ok (.iload_n 1, 1) := by decide +kernel
theorem dX12_feed_25 : decode cX12_feed 25 = .ok (.iastore, 1) := by decide +kernel
theorem dX12_feed_26 : decode cX12_feed 26 = .ok (.aload_n 0, 1) := by decide +kernel
theorem dX12_feed_27 : decode cX12_feed 27 = .ok (.getfield 16, 3) := by decide +kernel
theorem dX12_feed_30 : decode cX12_feed 30 = .ok (.iconst 0, 1) := by decide +kernel
theorem dX12_feed_31 : decode cX12_feed 31 = .ok (.dup2, 1) := by decide +kernel
theorem dX12_feed_32 : decode cX12_feed 32 = .ok (.iaload, 1) := by decide +kernel
theorem dX12_feed_33 : decode cX12_feed 33 = .ok (.iconst 1, 1) := by decide +kernel
theorem dX12_feed_34 : decode cX12_feed 34 = .ok (.iadd, 1) := by decide +kernel
theorem dX12_feed_35 : decode cX12_feed 35 = .ok (.iastore, 1) := by decide +kernel
theorem dX12_feed_36 : decode cX12_feed 36 = .ok (.aload_n 0, 1) := by decide +kernel
theorem dX12_feed_37 : decode cX12_feed 37 = .ok (.invokevirtual 88, 3) := by decide +kernel
theorem dX12_feed_40 : decode cX12_feed 40 = .ok (.aload_n 0, 1) := by decide +kernel
theorem dX12_feed_41 : decode cX12_feed 41 = .ok (.getfield 16, 3) := by decide +kernel
theorem dX12_feed_44 : decode cX12_feed 44 = .ok (.iconst 0, 1) := by decide +kernel
theorem dX12_feed_45 : decode cX12_feed 45 = .ok (.iaload, 1) := by decide +kernel
theorem dX12_feed_46 : decode cX12_feed 46 = .ok (.ireturn, 1) := by decide +kernel
abbrev rm_X12_feed : Room := { frames := 1, cells := 0, slots := 0, locals := 20 }
def w_X12_feed : List Cond := Cond.code yX12_feed cX12_feed 2 (some .int) :: uw
set_option maxHeartbeats 4000000 in
set_option maxRecDepth 100000 in
theorem c_X12_feed (l : Launch) (dC : Nat → ClassId) (dI : Nat → Nat → Nat) (cI cZ cO : ClassId) (tL sz : Nat) (h0 : Nat) (h1 : Nat) (h2 : Nat) (g0_sheet : Nat) (g0_told : Nat) (g0_saved : Nat) (g0_saves : Nat) (g0_at : Nat) (g0_points : Nat) (g0_px : Nat) (g0_py : Nat) (g0_begins : Nat) (g0_begun : Nat) (g0_lines : Nat) (g0_lastX : Nat) (g0_lastY : Nat) (g0_startX : Nat) (g0_startY : Nat) (g0_startPoint : Nat) (g0_both : Nat) (g0_cut : Nat) (v0_wide : Int32) (v0_tall : Int32) (v0_good : Int32) (v0_faultPlace : Int32) (v0_made : Int32) (v0_fills : Int32) (v0_painted : Int32) (v0_other : Int32) (f1 : Nat → Int32) (f2 : Nat → Int32) (p1 : Int32) (res : Int32 × Int32 × Int32 × (Nat → Int32) × (Nat → Int32)) (hM : m_X12_feed v0_good v0_made f1 f2 p1 = some res) : Met l yX12_feed w_X12_feed rm_X12_feed (PCx [.ref h0, .int p1] (dC, dI) [(cI, .int), (cZ, .boolean), (cO, .object "ListPainter$Settings")] sz tL [(h0, .inr (11, [.int v0_wide, .int v0_tall, .ref g0_sheet, .ref h2, .ref h1, .int v0_good, .int v0_faultPlace, .int v0_made, .int v0_fills, .int v0_painted, .ref g0_told, .ref g0_saved, .ref g0_saves, .ref g0_at, .ref g0_points, .ref g0_px, .ref g0_py, .ref g0_begins, .ref g0_begun, .ref g0_lines, .ref g0_lastX, .ref g0_lastY, .ref g0_startX, .ref g0_startY, .ref g0_startPoint, .ref g0_both, .ref g0_cut, .int v0_other])), (h1, .inl (cI, 3, .inl f1)), (h2, .inl (cI, 4500, .inl f2))]) (QMi (res.1) (dC, dI) [(cI, .int), (cZ, .boolean), (cO, .object "ListPainter$Settings")] (va_A [(h0, .inr (11, [.int v0_wide, .int v0_tall, .ref g0_sheet, .ref h2, .ref h1, .int v0_good, .int v0_faultPlace, .int v0_made, .int v0_fills, .int v0_painted, .ref g0_told, .ref g0_saved, .ref g0_saves, .ref g0_at, .ref g0_points, .ref g0_px, .ref g0_py, .ref g0_begins, .ref g0_begun, .ref g0_lines, .ref g0_lastX, .ref g0_lastY, .ref g0_startX, .ref g0_startY, .ref g0_startPoint, .ref g0_both, .ref g0_cut, .int v0_other])), (h1, .inl (cI, 3, .inl f1)), (h2, .inl (cI, 4500, .inl f2))] sz) [(h0, .inr (11, [.int v0_wide, .int v0_tall, .ref g0_sheet, .ref h2, .ref h1, .int (res.2.1), .int v0_faultPlace, .int (res.2.2.1), .int v0_fills, .int v0_painted, .ref g0_told, .ref g0_saved, .ref g0_saves, .ref g0_at, .ref g0_points, .ref g0_px, .ref g0_py, .ref g0_begins, .ref g0_begun, .ref g0_lines, .ref g0_lastX, .ref g0_lastY, .ref g0_startX, .ref g0_startY, .ref g0_startPoint, .ref g0_both, .ref g0_cut, .int v0_other])), (h1, .inl (cI, 3, .inl (res.2.2.2.1))), (h2, .inl (cI, 4500, .inl (res.2.2.2.2)))]) 0 0 (va_A [(h0, .inr (11, [.int v0_wide, .int v0_tall, .ref g0_sheet, .ref h2, .ref h1, .int v0_good, .int v0_faultPlace, .int v0_made, .int v0_fills, .int v0_painted, .ref g0_told, .ref g0_saved, .ref g0_saves, .ref g0_at, .ref g0_points, .ref g0_px, .ref g0_py, .ref g0_begins, .ref g0_begun, .ref g0_lines, .ref g0_lastX, .ref g0_lastY, .ref g0_startX, .ref g0_startY, .ref g0_startPoint, .ref g0_both, .ref g0_cut, .int v0_other])), (h1, .inl (cI, 3, .inl f1)), (h2, .inl (cI, 4500, .inl f2))] sz) := by
  refine Met.ofW (cc := cX12_feed) (maxL := 2) (ret := (some .int)) (by decide) rfl ?_
  intro p e s m args below meth c s₁ B hml hv
  obtain ⟨rfl, hsz, hP, hK, hD0, hG⟩ := hv
  have hx := B.exec
  have hb := B.bytes
  have hr := B.returns
  have hu : ∀ w ∈ uw, w.before ([.ref h0, .int p1] : List Value).toArray s = true := fun w h => atoms_spec (ws := w_X12_feed) B.pre w (List.mem_cons_of_mem _ h)
  have hown : s.vm.findClass RX12 = some m.cls := findClass_of_methodNamed B.named
  have hlocks := B.notSynchronized
  subst hsz
  have hD := hD0.self (sz := s.heap.size)
  generalize hAe : va_A [(h0, .inr (11, [.int v0_wide, .int v0_tall, .ref g0_sheet, .ref h2, .ref h1, .int v0_good, .int v0_faultPlace, .int v0_made, .int v0_fills, .int v0_painted, .ref g0_told, .ref g0_saved, .ref g0_saves, .ref g0_at, .ref g0_points, .ref g0_px, .ref g0_py, .ref g0_begins, .ref g0_begun, .ref g0_lines, .ref g0_lastX, .ref g0_lastY, .ref g0_startX, .ref g0_startY, .ref g0_startPoint, .ref g0_both, .ref g0_cut, .int v0_other])), (h1, .inl (cI, 3, .inl f1)), (h2, .inl (cI, 4500, .inl f2))] s.heap.size = A at hD hG ⊢
  have hA : ∀ q : Nat, s.heap.size ≤ q → A q := fun q h => by rw [← hAe]; exact Or.inr h
  have hS : va_S A s.heap s.heap [] := va_S.rf
  have hP : va_P (dC, dI) vwCl [(h0, .inr (11, [.int v0_wide, .int v0_tall, .ref g0_sheet, .ref h2, .ref h1, .int v0_good, .int v0_faultPlace, .int v0_made, .int v0_fills, .int v0_painted, .ref g0_told, .ref g0_saved, .ref g0_saves, .ref g0_at, .ref g0_points, .ref g0_px, .ref g0_py, .ref g0_begins, .ref g0_begun, .ref g0_lines, .ref g0_lastX, .ref g0_lastY, .ref g0_startX, .ref g0_startY, .ref g0_startPoint, .ref g0_both, .ref g0_cut, .int v0_other])), (h1, .inl (cI, 3, .inl f1)), (h2, .inl (cI, 4500, .inl f2))] s.heap := hP
  have hl := lv_entry ([.ref h0, .int p1]) (n := 2) (Nat.le_of_ble_eq_true rfl)
  rw [lg_entry_eq]
  generalize (lg_sl ([.ref h0, .int p1]) ++ List.replicate (2 - (lg_sl ([.ref h0, .int p1])).length) Slot.unset).toArray = ls at hl ⊢
  have hl : lv_has ls 2 [(0, .ref h0), (1, .int p1)] := hl
  rw [m_X12_feed] at hM
  suffices hgo : ∀ (H : Heap) (locs : List Loc), va_P (dC, dI) vwCl [(h0, .inr (11, [.int v0_wide, .int v0_tall, .ref g0_sheet, .ref h2, .ref h1, .int v0_good, .int v0_faultPlace, .int v0_made, .int v0_fills, .int v0_painted, .ref g0_told, .ref g0_saved, .ref g0_saves, .ref g0_at, .ref g0_points, .ref g0_px, .ref g0_py, .ref g0_begins, .ref g0_begun, .ref g0_lines, .ref g0_lastX, .ref g0_lastY, .ref g0_startX, .ref g0_startY, .ref g0_startPoint, .ref g0_both, .ref g0_cut, .int v0_other])), (h1, .inl (cI, 3, .inl f1)), (h2, .inl (cI, 4500, .inl f2))] H → va_D A [(h0, .inr (11, [.int v0_wide, .int v0_tall, .ref g0_sheet, .ref h2, .ref h1, .int v0_good, .int v0_faultPlace, .int v0_made, .int v0_fills, .int v0_painted, .ref g0_told, .ref g0_saved, .ref g0_saves, .ref g0_at, .ref g0_points, .ref g0_px, .ref g0_py, .ref g0_begins, .ref g0_begun, .ref g0_lines, .ref g0_lastX, .ref g0_lastY, .ref g0_startX, .ref g0_startY, .ref g0_startPoint, .ref g0_both, .ref g0_cut, .int v0_other])), (h1, .inl (cI, 3, .inl f1)), (h2, .inl (cI, 4500, .inl f2))] → va_S A s.heap H locs → W p l e (headSpec w_X12_feed rm_X12_feed).room s m ([.ref h0, .int p1] : List Value).toArray below meth c H locs 0 0 (MQ below (QMi (res.1) (dC, dI) [(cI, .int), (cZ, .boolean), (cO, .object "ListPainter$Settings")] A [(h0, .inr (11, [.int v0_wide, .int v0_tall, .ref g0_sheet, .ref h2, .ref h1, .int (res.2.1), .int v0_faultPlace, .int (res.2.2.1), .int v0_fills, .int v0_painted, .ref g0_told, .ref g0_saved, .ref g0_saves, .ref g0_at, .ref g0_points, .ref g0_px, .ref g0_py, .ref g0_begins, .ref g0_begun, .ref g0_lines, .ref g0_lastX, .ref g0_lastY, .ref g0_startX, .ref g0_startY, .ref g0_startPoint, .ref g0_both, .ref g0_cut, .int v0_other])), (h1, .inl (cI, 3, .inl (res.2.2.2.1))), (h2, .inl (cI, 4500, .inl (res.2.2.2.2)))]) ([.ref h0, .int p1] : List Value).toArray s 0 0 A) (F0 m 0 ls []) from hgo _ _ hP hD hS
  intro H locs hP hD hS
  refine lv_aload_n hx hb dX12_feed_0 rfl (lv_at hl 0 rfl) ?_
  refine va_get (D := (dC, dI)) (ci := 11) (v := .ref h1) (C := RX12) (T := TX12) (N := 28) hx hb hu inX12 hown hK hP 0 rfl rfl 4 (by decide) (hu _ kw_248) (fun _ h9 => h9) rfl dX12_feed_1 ?_
  refine lv_iconst (v := 0) hx hb dX12_feed_4 (by decide) ?_
  obtain ⟨g_1, hM⟩ := gd_u hM
  refine va_iald hx hb hK hP 1 0 rfl rfl (inb_v g_1) dX12_feed_5 ?_
  refine lv_topi (fun a_2 ea_2 => ?_)
  have hM := nm_u ea_2 hM
  refine lv_sipush (v := 1500) hx hb dX12_feed_6 (by decide) ?_
  refine lv_icmp_ne (tgt := 14) hx hb dX12_feed_9 (by decide) (fun c_3 => ?_) (fun c_3 => ?_)
  · have hM := if_f c_3 hM
    refine lv_aload_n hx hb dX12_feed_14 rfl (lv_at hl 0 rfl) ?_
    refine va_get (D := (dC, dI)) (ci := 11) (v := .ref h2) (C := RX12) (T := TX12) (N := 28) hx hb hu inX12 hown hK hP 0 rfl rfl 3 (by decide) (hu _ kw_249) (fun _ h9 => h9) rfl dX12_feed_15 ?_
    refine lv_aload_n hx hb dX12_feed_18 rfl (lv_at hl 0 rfl) ?_
    refine va_get (D := (dC, dI)) (ci := 11) (v := .ref h1) (C := RX12) (T := TX12) (N := 28) hx hb hu inX12 hown hK hP 0 rfl rfl 4 (by decide) (hu _ kw_248) (fun _ h9 => h9) rfl dX12_feed_19 ?_
    refine lv_iconst (v := 0) hx hb dX12_feed_22 (by decide) ?_
    obtain ⟨g_4, hM⟩ := gd_u hM
    refine va_iald hx hb hK hP 1 0 rfl rfl (inb_v g_4) dX12_feed_23 ?_
    refine lv_topi (fun a_5 ea_5 => ?_)
    have hM := nm_u ea_5 hM
    refine lv_iload_n hx hb dX12_feed_24 rfl (lv_at hl 1 rfl) ?_
    obtain ⟨g_6, hM⟩ := gd_u hM
    refine va_iast hx hb hK hP hD hS 2 0 rfl rfl (inb_v g_6) dX12_feed_25 (fun H locs hP hD hS => ?_)
    obtain ⟨f2_7, ef2_7⟩ : ∃ g : Nat → Int32, g = upd f2 (a_5 : Int32).toNatClampNeg p1 := ⟨_, rfl⟩
    have hM := nm_u ef2_7 hM
    have hP : va_P (dC, dI) vwCl [(h0, .inr (11, [.int v0_wide, .int v0_tall, .ref g0_sheet, .ref h2, .ref h1, .int v0_good, .int v0_faultPlace, .int v0_made, .int v0_fills, .int v0_painted, .ref g0_told, .ref g0_saved, .ref g0_saves, .ref g0_at, .ref g0_points, .ref g0_px, .ref g0_py, .ref g0_begins, .ref g0_begun, .ref g0_lines, .ref g0_lastX, .ref g0_lastY, .ref g0_startX, .ref g0_startY, .ref g0_startPoint, .ref g0_both, .ref g0_cut, .int v0_other])), (h1, .inl (cI, 3, .inl f1)), (h2, .inl (cI, 4500, .inl f2_7))] H := by rw [ef2_7]; exact hP
    have hD : va_D A [(h0, .inr (11, [.int v0_wide, .int v0_tall, .ref g0_sheet, .ref h2, .ref h1, .int v0_good, .int v0_faultPlace, .int v0_made, .int v0_fills, .int v0_painted, .ref g0_told, .ref g0_saved, .ref g0_saves, .ref g0_at, .ref g0_points, .ref g0_px, .ref g0_py, .ref g0_begins, .ref g0_begun, .ref g0_lines, .ref g0_lastX, .ref g0_lastY, .ref g0_startX, .ref g0_startY, .ref g0_startPoint, .ref g0_both, .ref g0_cut, .int v0_other])), (h1, .inl (cI, 3, .inl f1)), (h2, .inl (cI, 4500, .inl f2_7))] := by rw [ef2_7]; exact hD
    refine lv_aload_n hx hb dX12_feed_26 rfl (lv_at hl 0 rfl) ?_
    refine va_get (D := (dC, dI)) (ci := 11) (v := .ref h1) (C := RX12) (T := TX12) (N := 28) hx hb hu inX12 hown hK hP 0 rfl rfl 4 (by decide) (hu _ kw_248) (fun _ h9 => h9) rfl dX12_feed_27 ?_
    refine lv_iconst (v := 0) hx hb dX12_feed_30 (by decide) ?_
    refine lv_dup2_11 hx hb dX12_feed_31 rfl rfl ?_
    obtain ⟨g_8, hM⟩ := gd_u hM
    refine va_iald hx hb hK hP 1 0 rfl rfl (inb_v g_8) dX12_feed_32 ?_
    refine lv_topi (fun a_9 ea_9 => ?_)
    have hM := nm_u ea_9 hM
    refine lv_iconst (v := 1) hx hb dX12_feed_33 (by decide) ?_
    refine lv_iadd hx hb dX12_feed_34 ?_
    refine lv_topi (fun y_10 ey_10 => ?_)
    have hM := nm_u ey_10 hM
    obtain ⟨g_11, hM⟩ := gd_u hM
    refine va_iast hx hb hK hP hD hS 1 0 rfl rfl (inb_v g_11) dX12_feed_35 (fun H locs hP hD hS => ?_)
    obtain ⟨f1_12, ef1_12⟩ : ∃ g : Nat → Int32, g = upd f1 (0 : Int32).toNatClampNeg y_10 := ⟨_, rfl⟩
    have hM := nm_u ef1_12 hM
    have hP : va_P (dC, dI) vwCl [(h0, .inr (11, [.int v0_wide, .int v0_tall, .ref g0_sheet, .ref h2, .ref h1, .int v0_good, .int v0_faultPlace, .int v0_made, .int v0_fills, .int v0_painted, .ref g0_told, .ref g0_saved, .ref g0_saves, .ref g0_at, .ref g0_points, .ref g0_px, .ref g0_py, .ref g0_begins, .ref g0_begun, .ref g0_lines, .ref g0_lastX, .ref g0_lastY, .ref g0_startX, .ref g0_startY, .ref g0_startPoint, .ref g0_both, .ref g0_cut, .int v0_other])), (h1, .inl (cI, 3, .inl f1_12)), (h2, .inl (cI, 4500, .inl f2_7))] H := by rw [ef1_12]; exact hP
    have hD : va_D A [(h0, .inr (11, [.int v0_wide, .int v0_tall, .ref g0_sheet, .ref h2, .ref h1, .int v0_good, .int v0_faultPlace, .int v0_made, .int v0_fills, .int v0_painted, .ref g0_told, .ref g0_saved, .ref g0_saves, .ref g0_at, .ref g0_points, .ref g0_px, .ref g0_py, .ref g0_begins, .ref g0_begun, .ref g0_lines, .ref g0_lastX, .ref g0_lastY, .ref g0_startX, .ref g0_startY, .ref g0_startPoint, .ref g0_both, .ref g0_cut, .int v0_other])), (h1, .inl (cI, 3, .inl f1_12)), (h2, .inl (cI, 4500, .inl f2_7))] := by rw [ef1_12]; exact hD
    refine lv_aload_n hx hb dX12_feed_36 rfl (lv_at hl 0 rfl) ?_
    obtain ⟨v0_13, v0_14, hm_15, hM⟩ := bd2_u hM
    refine cVv (As := []) (rest := []) ⟨hx, hb, hml, hown, hu⟩ (c_X12_changed l dC dI cI cZ cO tL H.size h0 g0_sheet h2 h1 g0_told g0_saved g0_saves g0_at g0_points g0_px g0_py g0_begins g0_begun g0_lines g0_lastX g0_lastY g0_startX g0_startY g0_startPoint g0_both g0_cut v0_wide v0_tall v0_good v0_faultPlace v0_made v0_fills v0_painted v0_other (v0_13, v0_14) hm_15) (cwV 0 hu (gV kw_250 kw_251 kw_252 kw_253 kw_254) rfl rfl rfl (by decide +kernel) ⟨Nat.le_of_ble_eq_true rfl, Nat.le_of_ble_eq_true rfl⟩) hP hD hS hA hK hG [0] (by decide) rfl [some 0, none, none] 1 rfl (by decide +kernel) rfl 11 0 rfl rfl rfl rfl hl.1 rfl (Nat.le_of_ble_eq_true rfl) dX12_feed_37 (Nat.zero_le _) (Nat.zero_le _) (fun H locs hP hD hS => ?_)
    have hP : va_P (dC, dI) vwCl [(h0, .inr (11, [.int v0_wide, .int v0_tall, .ref g0_sheet, .ref h2, .ref h1, .int v0_13, .int v0_faultPlace, .int v0_14, .int v0_fills, .int v0_painted, .ref g0_told, .ref g0_saved, .ref g0_saves, .ref g0_at, .ref g0_points, .ref g0_px, .ref g0_py, .ref g0_begins, .ref g0_begun, .ref g0_lines, .ref g0_lastX, .ref g0_lastY, .ref g0_startX, .ref g0_startY, .ref g0_startPoint, .ref g0_both, .ref g0_cut, .int v0_other])), (h1, .inl (cI, 3, .inl f1_12)), (h2, .inl (cI, 4500, .inl f2_7))] H := hP
    have hD : va_D A [(h0, .inr (11, [.int v0_wide, .int v0_tall, .ref g0_sheet, .ref h2, .ref h1, .int v0_13, .int v0_faultPlace, .int v0_14, .int v0_fills, .int v0_painted, .ref g0_told, .ref g0_saved, .ref g0_saves, .ref g0_at, .ref g0_points, .ref g0_px, .ref g0_py, .ref g0_begins, .ref g0_begun, .ref g0_lines, .ref g0_lastX, .ref g0_lastY, .ref g0_startX, .ref g0_startY, .ref g0_startPoint, .ref g0_both, .ref g0_cut, .int v0_other])), (h1, .inl (cI, 3, .inl f1_12)), (h2, .inl (cI, 4500, .inl f2_7))] := hD
    refine lv_aload_n hx hb dX12_feed_40 rfl (lv_at hl 0 rfl) ?_
    refine va_get (D := (dC, dI)) (ci := 11) (v := .ref h1) (C := RX12) (T := TX12) (N := 28) hx hb hu inX12 hown hK hP 0 rfl rfl 4 (by decide) (hu _ kw_248) (fun _ h9 => h9) rfl dX12_feed_41 ?_
    refine lv_iconst (v := 0) hx hb dX12_feed_44 (by decide) ?_
    obtain ⟨g_16, hM⟩ := gd_u hM
    refine va_iald hx hb hK hP 1 0 rfl rfl (inb_v g_16) dX12_feed_45 ?_
    refine lv_topi (fun a_17 ea_17 => ?_)
    have hM := nm_u ea_17 hM
    have h9 := Option.some.inj hM
    subst h9
    exact W.iret (v := a_17) hx hb hr (fun t ht hW => QMi_mk (by rw [ht]; exact hP) (va_K.moved hW.alike hK) hD (hS.F ht)) hS.2.2 dX12_feed_46
  · have hM := if_t c_3 hM
    refine lv_iconst (v := (-1)) hx hb dX12_feed_12 (by decide) ?_
    have h9 := Option.some.inj hM
    subst h9
    exact W.iret (v := (-1)) hx hb hr (fun t ht hW => QMi_mk (by rw [ht]; exact hP) (va_K.moved hW.alike hK) hD (hS.F ht)) hS.2.2 dX12_feed_13
theorem dX12_five_0 : decode cX12_five 0 = .ok (.aload_n 0, 1) := by decide +kernel
theorem dX12_five_1 : decode cX12_five 1 = .ok (.getfield 16, 3) := by decide +kernel
theorem dX12_five_4 : decode cX12_five 4 = .ok (.iconst 0, 1) := by decide +kernel
theorem dX12_five_5 : decode cX12_five 5 = .ok (.iaload, 1) := by decide +kernel
theorem dX12_five_6 : decode cX12_five 6 = .ok (.iconst 5, 1) := by decide +kernel
theorem dX12_five_7 : decode cX12_five 7 = .ok (.iadd, 1) := by decide +kernel
theorem dX12_five_8 : decode cX12_five 8 = .ok (.sipush 1500, 3) := by decide +kernel
theorem dX12_five_11 : decode cX12_five 11 = .ok (.if_icmp .le 5, 3) := by decide +kernel
theorem dX12_five_14 : decode cX12_five 14 = .ok (.iconst (-1), 1) := by decide +kernel
theorem dX12_five_15 : decode cX12_five 15 = .ok (.ireturn, 1) := by decide +kernel
theorem dX12_five_16 : decode cX12_five 16 = .ok (.aload_n 0, 1) := by decide +kernel
theorem dX12_five_17 : decode cX12_five 17 = .ok (.iload_n 1, 1) := by decide +kernel
theorem dX12_five_18 : decode cX12_five 18 = .ok (.invokevirtual 91, 3) := by decide +kernel
theorem dX12_five_21 : decode cX12_five 21 = .ok (.aload_n 0, 1) := by decide +kernel
theorem dX12_five_22 : decode cX12_five 22 = .ok (.iload_n 2, 1) := by decide +kernel
theorem dX12_five_23 : decode cX12_five 23 = .ok (.invokevirtual 91, 3) := by decide +kernel
theorem dX12_five_26 : decode cX12_five 26 = .ok (.iadd, 1) := by decide +kernel
theorem dX12_five_27 : decode cX12_five 27 = .ok (.aload_n 0, 1) := by decide +kernel
theorem dX12_five_28 : decode cX12_five 28 = .ok (.iload_n 3, 1) := by decide +kernel
theorem dX12_five_29 : decode cX12_five 29 = .ok (.invokevirtual 91, 3) := by decide +kernel
theorem dX12_five_32 : decode cX12_five 32 = .ok (.iadd, 1) := by decide +kernel
theorem dX12_five_33 : decode cX12_five 33 = .ok (.aload_n 0, 1) := by decide +kernel
theorem dX12_five_34 : decode cX12_five 34 = .ok (.iload 4, 2) := by decide +kernel
theorem dX12_five_36 : decode cX12_five 36 = .ok (.invokevirtual 91, 3) := by decide +kernel
theorem dX12_five_39 : decode cX12_five 39 = .ok (.iadd, 1) := by decide +kernel
theorem dX12_five_40 : decode cX12_five 40 = .ok (.istore 6, 2) := by decide +kernel
theorem dX12_five_42 : decode cX12_five 42 = .ok (.aload_n 0, 1) := by decide +kernel
theorem dX12_five_43 : decode cX12_five 43 = .ok (.iload 5, 2) := by decide +kernel
theorem dX12_five_45 : decode cX12_five 45 = .ok (.invokevirtual 91, 3) := by decide +kernel
theorem dX12_five_48 : decode cX12_five 48 = .ok (.ireturn, 1) := by decide +kernel
abbrev rm_X12_five : Room := { frames := 2, cells := 0, slots := 0, locals := 41 }
def w_X12_five : List Cond := Cond.code yX12_five cX12_five 7 (some .int) :: uw
set_option maxHeartbeats 4000000 in
set_option maxRecDepth 100000 in
theorem c_X12_five (l : Launch) (dC : Nat → ClassId) (dI : Nat → Nat → Nat) (cI cZ cO : ClassId) (tL sz : Nat) (h0 : Nat) (h1 : Nat) (h2 : Nat) (g0_sheet : Nat) (g0_told : Nat) (g0_saved : Nat) (g0_saves : Nat) (g0_at : Nat) (g0_points : Nat) (g0_px : Nat) (g0_py : Nat) (g0_begins : Nat) (g0_begun : Nat) (g0_lines : Nat) (g0_lastX : Nat) (g0_lastY : Nat) (g0_startX : Nat) (g0_startY : Nat) (g0_startPoint : Nat) (g0_both : Nat) (g0_cut : Nat) (v0_wide : Int32) (v0_tall : Int32) (v0_good : Int32) (v0_faultPlace : Int32) (v0_made : Int32) (v0_fills : Int32) (v0_painted : Int32) (v0_other : Int32) (f1 : Nat → Int32) (f2 : Nat → Int32) (p1 : Int32) (p2 : Int32) (p3 : Int32) (p4 : Int32) (p5 : Int32) (res : Int32 × Int32 × Int32 × (Nat → Int32) × (Nat → Int32)) (hM : m_X12_five v0_good v0_made f1 f2 p1 p2 p3 p4 p5 = some res) : Met l yX12_five w_X12_five rm_X12_five (PCx [.ref h0, .int p1, .int p2, .int p3, .int p4, .int p5] (dC, dI) [(cI, .int), (cZ, .boolean), (cO, .object "ListPainter$Settings")] sz tL [(h0, .inr (11, [.int v0_wide, .int v0_tall, .ref g0_sheet, .ref h2, .ref h1, .int v0_good, .int v0_faultPlace, .int v0_made, .int v0_fills, .int v0_painted, .ref g0_told, .ref g0_saved, .ref g0_saves, .ref g0_at, .ref g0_points, .ref g0_px, .ref g0_py, .ref g0_begins, .ref g0_begun, .ref g0_lines, .ref g0_lastX, .ref g0_lastY, .ref g0_startX, .ref g0_startY, .ref g0_startPoint, .ref g0_both, .ref g0_cut, .int v0_other])), (h1, .inl (cI, 3, .inl f1)), (h2, .inl (cI, 4500, .inl f2))]) (QMi (res.1) (dC, dI) [(cI, .int), (cZ, .boolean), (cO, .object "ListPainter$Settings")] (va_A [(h0, .inr (11, [.int v0_wide, .int v0_tall, .ref g0_sheet, .ref h2, .ref h1, .int v0_good, .int v0_faultPlace, .int v0_made, .int v0_fills, .int v0_painted, .ref g0_told, .ref g0_saved, .ref g0_saves, .ref g0_at, .ref g0_points, .ref g0_px, .ref g0_py, .ref g0_begins, .ref g0_begun, .ref g0_lines, .ref g0_lastX, .ref g0_lastY, .ref g0_startX, .ref g0_startY, .ref g0_startPoint, .ref g0_both, .ref g0_cut, .int v0_other])), (h1, .inl (cI, 3, .inl f1)), (h2, .inl (cI, 4500, .inl f2))] sz) [(h0, .inr (11, [.int v0_wide, .int v0_tall, .ref g0_sheet, .ref h2, .ref h1, .int (res.2.1), .int v0_faultPlace, .int (res.2.2.1), .int v0_fills, .int v0_painted, .ref g0_told, .ref g0_saved, .ref g0_saves, .ref g0_at, .ref g0_points, .ref g0_px, .ref g0_py, .ref g0_begins, .ref g0_begun, .ref g0_lines, .ref g0_lastX, .ref g0_lastY, .ref g0_startX, .ref g0_startY, .ref g0_startPoint, .ref g0_both, .ref g0_cut, .int v0_other])), (h1, .inl (cI, 3, .inl (res.2.2.2.1))), (h2, .inl (cI, 4500, .inl (res.2.2.2.2)))]) 0 0 (va_A [(h0, .inr (11, [.int v0_wide, .int v0_tall, .ref g0_sheet, .ref h2, .ref h1, .int v0_good, .int v0_faultPlace, .int v0_made, .int v0_fills, .int v0_painted, .ref g0_told, .ref g0_saved, .ref g0_saves, .ref g0_at, .ref g0_points, .ref g0_px, .ref g0_py, .ref g0_begins, .ref g0_begun, .ref g0_lines, .ref g0_lastX, .ref g0_lastY, .ref g0_startX, .ref g0_startY, .ref g0_startPoint, .ref g0_both, .ref g0_cut, .int v0_other])), (h1, .inl (cI, 3, .inl f1)), (h2, .inl (cI, 4500, .inl f2))] sz) := by
  refine Met.ofW (cc := cX12_five) (maxL := 7) (ret := (some .int)) (by decide) rfl ?_
  intro p e s m args below meth c s₁ B hml hv
  obtain ⟨rfl, hsz, hP, hK, hD0, hG⟩ := hv
  have hx := B.exec
  have hb := B.bytes
  have hr := B.returns
  have hu : ∀ w ∈ uw, w.before ([.ref h0, .int p1, .int p2, .int p3, .int p4, .int p5] : List Value).toArray s = true := fun w h => atoms_spec (ws := w_X12_five) B.pre w (List.mem_cons_of_mem _ h)
  have hown : s.vm.findClass RX12 = some m.cls := findClass_of_methodNamed B.named
  have hlocks := B.notSynchronized
  subst hsz
  have hD := hD0.self (sz := s.heap.size)
  generalize hAe : va_A [(h0, .inr (11, [.int v0_wide, .int v0_tall, .ref g0_sheet, .ref h2, .ref h1, .int v0_good, .int v0_faultPlace, .int v0_made, .int v0_fills, .int v0_painted, .ref g0_told, .ref g0_saved, .ref g0_saves, .ref g0_at, .ref g0_points, .ref g0_px, .ref g0_py, .ref g0_begins, .ref g0_begun, .ref g0_lines, .ref g0_lastX, .ref g0_lastY, .ref g0_startX, .ref g0_startY, .ref g0_startPoint, .ref g0_both, .ref g0_cut, .int v0_other])), (h1, .inl (cI, 3, .inl f1)), (h2, .inl (cI, 4500, .inl f2))] s.heap.size = A at hD hG ⊢
  have hA : ∀ q : Nat, s.heap.size ≤ q → A q := fun q h => by rw [← hAe]; exact Or.inr h
  have hS : va_S A s.heap s.heap [] := va_S.rf
  have hP : va_P (dC, dI) vwCl [(h0, .inr (11, [.int v0_wide, .int v0_tall, .ref g0_sheet, .ref h2, .ref h1, .int v0_good, .int v0_faultPlace, .int v0_made, .int v0_fills, .int v0_painted, .ref g0_told, .ref g0_saved, .ref g0_saves, .ref g0_at, .ref g0_points, .ref g0_px, .ref g0_py, .ref g0_begins, .ref g0_begun, .ref g0_lines, .ref g0_lastX, .ref g0_lastY, .ref g0_startX, .ref g0_startY, .ref g0_startPoint, .ref g0_both, .ref g0_cut, .int v0_other])), (h1, .inl (cI, 3, .inl f1)), (h2, .inl (cI, 4500, .inl f2))] s.heap := hP
  have hl := lv_entry ([.ref h0, .int p1, .int p2, .int p3, .int p4, .int p5]) (n := 7) (Nat.le_of_ble_eq_true rfl)
  rw [lg_entry_eq]
  generalize (lg_sl ([.ref h0, .int p1, .int p2, .int p3, .int p4, .int p5]) ++ List.replicate (7 - (lg_sl ([.ref h0, .int p1, .int p2, .int p3, .int p4, .int p5])).length) Slot.unset).toArray = ls at hl ⊢
  have hl : lv_has ls 7 [(0, .ref h0), (1, .int p1), (2, .int p2), (3, .int p3), (4, .int p4), (5, .int p5)] := hl
  rw [m_X12_five] at hM
  suffices hgo : ∀ (H : Heap) (locs : List Loc), va_P (dC, dI) vwCl [(h0, .inr (11, [.int v0_wide, .int v0_tall, .ref g0_sheet, .ref h2, .ref h1, .int v0_good, .int v0_faultPlace, .int v0_made, .int v0_fills, .int v0_painted, .ref g0_told, .ref g0_saved, .ref g0_saves, .ref g0_at, .ref g0_points, .ref g0_px, .ref g0_py, .ref g0_begins, .ref g0_begun, .ref g0_lines, .ref g0_lastX, .ref g0_lastY, .ref g0_startX, .ref g0_startY, .ref g0_startPoint, .ref g0_both, .ref g0_cut, .int v0_other])), (h1, .inl (cI, 3, .inl f1)), (h2, .inl (cI, 4500, .inl f2))] H → va_D A [(h0, .inr (11, [.int v0_wide, .int v0_tall, .ref g0_sheet, .ref h2, .ref h1, .int v0_good, .int v0_faultPlace, .int v0_made, .int v0_fills, .int v0_painted, .ref g0_told, .ref g0_saved, .ref g0_saves, .ref g0_at, .ref g0_points, .ref g0_px, .ref g0_py, .ref g0_begins, .ref g0_begun, .ref g0_lines, .ref g0_lastX, .ref g0_lastY, .ref g0_startX, .ref g0_startY, .ref g0_startPoint, .ref g0_both, .ref g0_cut, .int v0_other])), (h1, .inl (cI, 3, .inl f1)), (h2, .inl (cI, 4500, .inl f2))] → va_S A s.heap H locs → W p l e (headSpec w_X12_five rm_X12_five).room s m ([.ref h0, .int p1, .int p2, .int p3, .int p4, .int p5] : List Value).toArray below meth c H locs 0 0 (MQ below (QMi (res.1) (dC, dI) [(cI, .int), (cZ, .boolean), (cO, .object "ListPainter$Settings")] A [(h0, .inr (11, [.int v0_wide, .int v0_tall, .ref g0_sheet, .ref h2, .ref h1, .int (res.2.1), .int v0_faultPlace, .int (res.2.2.1), .int v0_fills, .int v0_painted, .ref g0_told, .ref g0_saved, .ref g0_saves, .ref g0_at, .ref g0_points, .ref g0_px, .ref g0_py, .ref g0_begins, .ref g0_begun, .ref g0_lines, .ref g0_lastX, .ref g0_lastY, .ref g0_startX, .ref g0_startY, .ref g0_startPoint, .ref g0_both, .ref g0_cut, .int v0_other])), (h1, .inl (cI, 3, .inl (res.2.2.2.1))), (h2, .inl (cI, 4500, .inl (res.2.2.2.2)))]) ([.ref h0, .int p1, .int p2, .int p3, .int p4, .int p5] : List Value).toArray s 0 0 A) (F0 m 0 ls []) from hgo _ _ hP hD hS
  intro H locs hP hD hS
  refine lv_aload_n hx hb dX12_five_0 rfl (lv_at hl 0 rfl) ?_
  refine va_get (D := (dC, dI)) (ci := 11) (v := .ref h1) (C := RX12) (T := TX12) (N := 28) hx hb hu inX12 hown hK hP 0 rfl rfl 4 (by decide) (hu _ kw_248) (fun _ h9 => h9) rfl dX12_five_1 ?_
  refine lv_iconst (v := 0) hx hb dX12_five_4 (by decide) ?_
  obtain ⟨g_1, hM⟩ := gd_u hM
  refine va_iald hx hb hK hP 1 0 rfl rfl (inb_v g_1) dX12_five_5 ?_
  refine lv_topi (fun a_2 ea_2 => ?_)
  have hM := nm_u ea_2 hM
  refine lv_iconst (v := 5) hx hb dX12_five_6 (by decide) ?_
  refine lv_iadd hx hb dX12_five_7 ?_
  refine lv_sipush (v := 1500) hx hb dX12_five_8 (by decide) ?_
  refine lv_icmp_le (tgt := 16) hx hb dX12_five_11 (by decide) (fun c_3 => ?_) (fun c_3 => ?_)
  · have hM := if_t c_3 hM
    refine lv_aload_n hx hb dX12_five_16 rfl (lv_at hl 0 rfl) ?_
    refine lv_iload_n hx hb dX12_five_17 rfl (lv_at hl 1 rfl) ?_
    obtain ⟨r_4, v0_5, v0_6, f1_7, f2_8, hm_9, hM⟩ := bd5_u hM
    refine cVi (r := r_4) (As := [.int p1]) (rest := []) ⟨hx, hb, hml, hown, hu⟩ (c_X12_feed l dC dI cI cZ cO tL H.size h0 h1 h2 g0_sheet g0_told g0_saved g0_saves g0_at g0_points g0_px g0_py g0_begins g0_begun g0_lines g0_lastX g0_lastY g0_startX g0_startY g0_startPoint g0_both g0_cut v0_wide v0_tall v0_good v0_faultPlace v0_made v0_fills v0_painted v0_other f1 f2 p1 (r_4, v0_5, v0_6, f1_7, f2_8) hm_9) (cwV 1 hu (gV kw_255 kw_256 kw_257 kw_253 kw_258) rfl rfl rfl (by decide +kernel) ⟨Nat.le_of_ble_eq_true rfl, Nat.le_of_ble_eq_true rfl⟩) hP hD hS hA hK hG [0, 1, 2] (by decide) rfl [some 0, some 1, some 2] 3 rfl (by decide +kernel) rfl 11 0 rfl rfl rfl rfl hl.1 rfl (Nat.le_of_ble_eq_true rfl) dX12_five_18 (Nat.zero_le _) (Nat.zero_le _) (fun H locs hP hD hS => ?_)
    have hP : va_P (dC, dI) vwCl [(h0, .inr (11, [.int v0_wide, .int v0_tall, .ref g0_sheet, .ref h2, .ref h1, .int v0_5, .int v0_faultPlace, .int v0_6, .int v0_fills, .int v0_painted, .ref g0_told, .ref g0_saved, .ref g0_saves, .ref g0_at, .ref g0_points, .ref g0_px, .ref g0_py, .ref g0_begins, .ref g0_begun, .ref g0_lines, .ref g0_lastX, .ref g0_lastY, .ref g0_startX, .ref g0_startY, .ref g0_startPoint, .ref g0_both, .ref g0_cut, .int v0_other])), (h1, .inl (cI, 3, .inl f1_7)), (h2, .inl (cI, 4500, .inl f2_8))] H := hP
    have hD : va_D A [(h0, .inr (11, [.int v0_wide, .int v0_tall, .ref g0_sheet, .ref h2, .ref h1, .int v0_5, .int v0_faultPlace, .int v0_6, .int v0_fills, .int v0_painted, .ref g0_told, .ref g0_saved, .ref g0_saves, .ref g0_at, .ref g0_points, .ref g0_px, .ref g0_py, .ref g0_begins, .ref g0_begun, .ref g0_lines, .ref g0_lastX, .ref g0_lastY, .ref g0_startX, .ref g0_startY, .ref g0_startPoint, .ref g0_both, .ref g0_cut, .int v0_other])), (h1, .inl (cI, 3, .inl f1_7)), (h2, .inl (cI, 4500, .inl f2_8))] := hD
    refine lv_aload_n hx hb dX12_five_21 rfl (lv_at hl 0 rfl) ?_
    refine lv_iload_n hx hb dX12_five_22 rfl (lv_at hl 2 rfl) ?_
    obtain ⟨r_10, v0_11, v0_12, f1_13, f2_14, hm_15, hM⟩ := bd5_u hM
    refine cVi (r := r_10) (As := [.int p2]) (rest := [.int r_4]) ⟨hx, hb, hml, hown, hu⟩ (c_X12_feed l dC dI cI cZ cO tL H.size h0 h1 h2 g0_sheet g0_told g0_saved g0_saves g0_at g0_points g0_px g0_py g0_begins g0_begun g0_lines g0_lastX g0_lastY g0_startX g0_startY g0_startPoint g0_both g0_cut v0_wide v0_tall v0_5 v0_faultPlace v0_6 v0_fills v0_painted v0_other f1_7 f2_8 p2 (r_10, v0_11, v0_12, f1_13, f2_14) hm_15) (cwV 1 hu (gV kw_255 kw_256 kw_257 kw_253 kw_258) rfl rfl rfl (by decide +kernel) ⟨Nat.le_of_ble_eq_true rfl, Nat.le_of_ble_eq_true rfl⟩) hP hD hS hA hK hG [0, 1, 2] (by decide) rfl [some 0, some 1, some 2] 3 rfl (by decide +kernel) rfl 11 0 rfl rfl rfl rfl hl.1 rfl (Nat.le_of_ble_eq_true rfl) dX12_five_23 (Nat.zero_le _) (Nat.zero_le _) (fun H locs hP hD hS => ?_)
    have hP : va_P (dC, dI) vwCl [(h0, .inr (11, [.int v0_wide, .int v0_tall, .ref g0_sheet, .ref h2, .ref h1, .int v0_11, .int v0_faultPlace, .int v0_12, .int v0_fills, .int v0_painted, .ref g0_told, .ref g0_saved, .ref g0_saves, .ref g0_at, .ref g0_points, .ref g0_px, .ref g0_py, .ref g0_begins, .ref g0_begun, .ref g0_lines, .ref g0_lastX, .ref g0_lastY, .ref g0_startX, .ref g0_startY, .ref g0_startPoint, .ref g0_both, .ref g0_cut, .int v0_other])), (h1, .inl (cI, 3, .inl f1_13)), (h2, .inl (cI, 4500, .inl f2_14))] H := hP
    have hD : va_D A [(h0, .inr (11, [.int v0_wide, .int v0_tall, .ref g0_sheet, .ref h2, .ref h1, .int v0_11, .int v0_faultPlace, .int v0_12, .int v0_fills, .int v0_painted, .ref g0_told, .ref g0_saved, .ref g0_saves, .ref g0_at, .ref g0_points, .ref g0_px, .ref g0_py, .ref g0_begins, .ref g0_begun, .ref g0_lines, .ref g0_lastX, .ref g0_lastY, .ref g0_startX, .ref g0_startY, .ref g0_startPoint, .ref g0_both, .ref g0_cut, .int v0_other])), (h1, .inl (cI, 3, .inl f1_13)), (h2, .inl (cI, 4500, .inl f2_14))] := hD
    refine lv_iadd hx hb dX12_five_26 ?_
    refine lv_aload_n hx hb dX12_five_27 rfl (lv_at hl 0 rfl) ?_
    refine lv_iload_n hx hb dX12_five_28 rfl (lv_at hl 3 rfl) ?_
    obtain ⟨r_16, v0_17, v0_18, f1_19, f2_20, hm_21, hM⟩ := bd5_u hM
    refine cVi (r := r_16) (As := [.int p3]) (rest := [.int (r_4 + r_10)]) ⟨hx, hb, hml, hown, hu⟩ (c_X12_feed l dC dI cI cZ cO tL H.size h0 h1 h2 g0_sheet g0_told g0_saved g0_saves g0_at g0_points g0_px g0_py g0_begins g0_begun g0_lines g0_lastX g0_lastY g0_startX g0_startY g0_startPoint g0_both g0_cut v0_wide v0_tall v0_11 v0_faultPlace v0_12 v0_fills v0_painted v0_other f1_13 f2_14 p3 (r_16, v0_17, v0_18, f1_19, f2_20) hm_21) (cwV 1 hu (gV kw_255 kw_256 kw_257 kw_253 kw_258) rfl rfl rfl (by decide +kernel) ⟨Nat.le_of_ble_eq_true rfl, Nat.le_of_ble_eq_true rfl⟩) hP hD hS hA hK hG [0, 1, 2] (by decide) rfl [some 0, some 1, some 2] 3 rfl (by decide +kernel) rfl 11 0 rfl rfl rfl rfl hl.1 rfl (Nat.le_of_ble_eq_true rfl) dX12_five_29 (Nat.zero_le _) (Nat.zero_le _) (fun H locs hP hD hS => ?_)
    have hP : va_P (dC, dI) vwCl [(h0, .inr (11, [.int v0_wide, .int v0_tall, .ref g0_sheet, .ref h2, .ref h1, .int v0_17, .int v0_faultPlace, .int v0_18, .int v0_fills, .int v0_painted, .ref g0_told, .ref g0_saved, .ref g0_saves, .ref g0_at, .ref g0_points, .ref g0_px, .ref g0_py, .ref g0_begins, .ref g0_begun, .ref g0_lines, .ref g0_lastX, .ref g0_lastY, .ref g0_startX, .ref g0_startY, .ref g0_startPoint, .ref g0_both, .ref g0_cut, .int v0_other])), (h1, .inl (cI, 3, .inl f1_19)), (h2, .inl (cI, 4500, .inl f2_20))] H := hP
    have hD : va_D A [(h0, .inr (11, [.int v0_wide, .int v0_tall, .ref g0_sheet, .ref h2, .ref h1, .int v0_17, .int v0_faultPlace, .int v0_18, .int v0_fills, .int v0_painted, .ref g0_told, .ref g0_saved, .ref g0_saves, .ref g0_at, .ref g0_points, .ref g0_px, .ref g0_py, .ref g0_begins, .ref g0_begun, .ref g0_lines, .ref g0_lastX, .ref g0_lastY, .ref g0_startX, .ref g0_startY, .ref g0_startPoint, .ref g0_both, .ref g0_cut, .int v0_other])), (h1, .inl (cI, 3, .inl f1_19)), (h2, .inl (cI, 4500, .inl f2_20))] := hD
    refine lv_iadd hx hb dX12_five_32 ?_
    refine lv_aload_n hx hb dX12_five_33 rfl (lv_at hl 0 rfl) ?_
    refine lv_iload hx hb dX12_five_34 (lv_at hl 4 rfl) ?_
    obtain ⟨r_22, v0_23, v0_24, f1_25, f2_26, hm_27, hM⟩ := bd5_u hM
    refine cVi (r := r_22) (As := [.int p4]) (rest := [.int ((r_4 + r_10) + r_16)]) ⟨hx, hb, hml, hown, hu⟩ (c_X12_feed l dC dI cI cZ cO tL H.size h0 h1 h2 g0_sheet g0_told g0_saved g0_saves g0_at g0_points g0_px g0_py g0_begins g0_begun g0_lines g0_lastX g0_lastY g0_startX g0_startY g0_startPoint g0_both g0_cut v0_wide v0_tall v0_17 v0_faultPlace v0_18 v0_fills v0_painted v0_other f1_19 f2_20 p4 (r_22, v0_23, v0_24, f1_25, f2_26) hm_27) (cwV 1 hu (gV kw_255 kw_256 kw_257 kw_253 kw_258) rfl rfl rfl (by decide +kernel) ⟨Nat.le_of_ble_eq_true rfl, Nat.le_of_ble_eq_true rfl⟩) hP hD hS hA hK hG [0, 1, 2] (by decide) rfl [some 0, some 1, some 2] 3 rfl (by decide +kernel) rfl 11 0 rfl rfl rfl rfl hl.1 rfl (Nat.le_of_ble_eq_true rfl) dX12_five_36 (Nat.zero_le _) (Nat.zero_le _) (fun H locs hP hD hS => ?_)
    have hP : va_P (dC, dI) vwCl [(h0, .inr (11, [.int v0_wide, .int v0_tall, .ref g0_sheet, .ref h2, .ref h1, .int v0_23, .int v0_faultPlace, .int v0_24, .int v0_fills, .int v0_painted, .ref g0_told, .ref g0_saved, .ref g0_saves, .ref g0_at, .ref g0_points, .ref g0_px, .ref g0_py, .ref g0_begins, .ref g0_begun, .ref g0_lines, .ref g0_lastX, .ref g0_lastY, .ref g0_startX, .ref g0_startY, .ref g0_startPoint, .ref g0_both, .ref g0_cut, .int v0_other])), (h1, .inl (cI, 3, .inl f1_25)), (h2, .inl (cI, 4500, .inl f2_26))] H := hP
    have hD : va_D A [(h0, .inr (11, [.int v0_wide, .int v0_tall, .ref g0_sheet, .ref h2, .ref h1, .int v0_23, .int v0_faultPlace, .int v0_24, .int v0_fills, .int v0_painted, .ref g0_told, .ref g0_saved, .ref g0_saves, .ref g0_at, .ref g0_points, .ref g0_px, .ref g0_py, .ref g0_begins, .ref g0_begun, .ref g0_lines, .ref g0_lastX, .ref g0_lastY, .ref g0_startX, .ref g0_startY, .ref g0_startPoint, .ref g0_both, .ref g0_cut, .int v0_other])), (h1, .inl (cI, 3, .inl f1_25)), (h2, .inl (cI, 4500, .inl f2_26))] := hD
    refine lv_iadd hx hb dX12_five_39 ?_
    refine lv_topi (fun x_28 ex_28 => ?_)
    have hM := nm_u ex_28 hM
    refine lv_istore (lv' := [(6, .int x_28), (0, .ref h0), (1, .int p1), (2, .int p2), (3, .int p3), (4, .int p4), (5, .int p5)]) hx hb dX12_five_40 hl (by decide) rfl (fun ls hl => ?_)
    refine lv_aload_n hx hb dX12_five_42 rfl (lv_at hl 1 rfl) ?_
    refine lv_iload hx hb dX12_five_43 (lv_at hl 6 rfl) ?_
    obtain ⟨r_29, v0_30, v0_31, f1_32, f2_33, hm_34, hM⟩ := bd5_u hM
    refine cVi (r := r_29) (As := [.int p5]) (rest := []) ⟨hx, hb, hml, hown, hu⟩ (c_X12_feed l dC dI cI cZ cO tL H.size h0 h1 h2 g0_sheet g0_told g0_saved g0_saves g0_at g0_points g0_px g0_py g0_begins g0_begun g0_lines g0_lastX g0_lastY g0_startX g0_startY g0_startPoint g0_both g0_cut v0_wide v0_tall v0_23 v0_faultPlace v0_24 v0_fills v0_painted v0_other f1_25 f2_26 p5 (r_29, v0_30, v0_31, f1_32, f2_33) hm_34) (cwV 1 hu (gV kw_255 kw_256 kw_257 kw_253 kw_258) rfl rfl rfl (by decide +kernel) ⟨Nat.le_of_ble_eq_true rfl, Nat.le_of_ble_eq_true rfl⟩) hP hD hS hA hK hG [0, 1, 2] (by decide) rfl [some 0, some 1, some 2] 3 rfl (by decide +kernel) rfl 11 0 rfl rfl rfl rfl hl.1 rfl (Nat.le_of_ble_eq_true rfl) dX12_five_45 (Nat.zero_le _) (Nat.zero_le _) (fun H locs hP hD hS => ?_)
    have hP : va_P (dC, dI) vwCl [(h0, .inr (11, [.int v0_wide, .int v0_tall, .ref g0_sheet, .ref h2, .ref h1, .int v0_30, .int v0_faultPlace, .int v0_31, .int v0_fills, .int v0_painted, .ref g0_told, .ref g0_saved, .ref g0_saves, .ref g0_at, .ref g0_points, .ref g0_px, .ref g0_py, .ref g0_begins, .ref g0_begun, .ref g0_lines, .ref g0_lastX, .ref g0_lastY, .ref g0_startX, .ref g0_startY, .ref g0_startPoint, .ref g0_both, .ref g0_cut, .int v0_other])), (h1, .inl (cI, 3, .inl f1_32)), (h2, .inl (cI, 4500, .inl f2_33))] H := hP
    have hD : va_D A [(h0, .inr (11, [.int v0_wide, .int v0_tall, .ref g0_sheet, .ref h2, .ref h1, .int v0_30, .int v0_faultPlace, .int v0_31, .int v0_fills, .int v0_painted, .ref g0_told, .ref g0_saved, .ref g0_saves, .ref g0_at, .ref g0_points, .ref g0_px, .ref g0_py, .ref g0_begins, .ref g0_begun, .ref g0_lines, .ref g0_lastX, .ref g0_lastY, .ref g0_startX, .ref g0_startY, .ref g0_startPoint, .ref g0_both, .ref g0_cut, .int v0_other])), (h1, .inl (cI, 3, .inl f1_32)), (h2, .inl (cI, 4500, .inl f2_33))] := hD
    have h9 := Option.some.inj hM
    subst h9
    exact W.iret (v := r_29) hx hb hr (fun t ht hW => QMi_mk (by rw [ht]; exact hP) (va_K.moved hW.alike hK) hD (hS.F ht)) hS.2.2 dX12_five_48
  · have hM := if_f c_3 hM
    refine lv_iconst (v := (-1)) hx hb dX12_five_14 (by decide) ?_
    have h9 := Option.some.inj hM
    subst h9
    exact W.iret (v := (-1)) hx hb hr (fun t ht hW => QMi_mk (by rw [ht]; exact hP) (va_K.moved hW.alike hK) hD (hS.F ht)) hS.2.2 dX12_five_15
theorem dX12_reset_0 : decode cX12_reset 0 = .ok (.aload_n 0, 1) := by decide +kernel
theorem dX12_reset_1 : decode cX12_reset 1 = .ok (.getfield 16, 3) := by decide +kernel
theorem dX12_reset_4 : decode cX12_reset 4 = .ok (.iconst 0, 1) := by decide +kernel
theorem dX12_reset_5 : decode cX12_reset 5 = .ok (.iaload, 1) := by decide +kernel
theorem dX12_reset_6 : decode cX12_reset 6 = .ok (.istore_n 1, 1) := by decide +kernel
theorem dX12_reset_7 : decode cX12_reset 7 = .ok (.aload_n 0, 1) := by decide +kernel
theorem dX12_reset_8 : decode cX12_reset 8 = .ok (.getfield 16, 3) := by decide +kernel
theorem dX12_reset_11 : decode cX12_reset 11 = .ok (.iconst 0, 1) := by decide +kernel
theorem dX12_reset_12 : decode cX12_reset 12 = .ok (.iconst 0, 1) := by decide +kernel
theorem dX12_reset_13 : decode cX12_reset 13 = .ok (.iastore, 1) := by decide +kernel
theorem dX12_reset_14 : decode cX12_reset 14 = .ok (.aload_n 0, 1) := by decide +kernel
theorem dX12_reset_15 : decode cX12_reset 15 = .ok (.invokevirtual 88, 3) := by decide +kernel
theorem dX12_reset_18 : decode cX12_reset 18 = .ok (.iload_n 1, 1) := by decide +kernel
theorem dX12_reset_19 : decode cX12_reset 19 = .ok (.ireturn, 1) := by decide +kernel
abbrev rm_X12_reset : Room := { frames := 1, cells := 0, slots := 0, locals := 20 }
def w_X12_reset : List Cond := Cond.code yX12_reset cX12_reset 2 (some .int) :: uw
set_option maxHeartbeats 4000000 in
set_option maxRecDepth 100000 in
theorem c_X12_reset (l : Launch) (dC : Nat → ClassId) (dI : Nat → Nat → Nat) (cI cZ cO : ClassId) (tL sz : Nat) (h0 : Nat) (h1 : Nat) (g0_sheet : Nat) (g0_words : Nat) (g0_told : Nat) (g0_saved : Nat) (g0_saves : Nat) (g0_at : Nat) (g0_points : Nat) (g0_px : Nat) (g0_py : Nat) (g0_begins : Nat) (g0_begun : Nat) (g0_lines : Nat) (g0_lastX : Nat) (g0_lastY : Nat) (g0_startX : Nat) (g0_startY : Nat) (g0_startPoint : Nat) (g0_both : Nat) (g0_cut : Nat) (v0_wide : Int32) (v0_tall : Int32) (v0_good : Int32) (v0_faultPlace : Int32) (v0_made : Int32) (v0_fills : Int32) (v0_painted : Int32) (v0_other : Int32) (f1 : Nat → Int32) (res : Int32 × Int32 × Int32 × (Nat → Int32)) (hM : m_X12_reset v0_good v0_made f1 = some res) : Met l yX12_reset w_X12_reset rm_X12_reset (PCx [.ref h0] (dC, dI) [(cI, .int), (cZ, .boolean), (cO, .object "ListPainter$Settings")] sz tL [(h0, .inr (11, [.int v0_wide, .int v0_tall, .ref g0_sheet, .ref g0_words, .ref h1, .int v0_good, .int v0_faultPlace, .int v0_made, .int v0_fills, .int v0_painted, .ref g0_told, .ref g0_saved, .ref g0_saves, .ref g0_at, .ref g0_points, .ref g0_px, .ref g0_py, .ref g0_begins, .ref g0_begun, .ref g0_lines, .ref g0_lastX, .ref g0_lastY, .ref g0_startX, .ref g0_startY, .ref g0_startPoint, .ref g0_both, .ref g0_cut, .int v0_other])), (h1, .inl (cI, 3, .inl f1))]) (QMi (res.1) (dC, dI) [(cI, .int), (cZ, .boolean), (cO, .object "ListPainter$Settings")] (va_A [(h0, .inr (11, [.int v0_wide, .int v0_tall, .ref g0_sheet, .ref g0_words, .ref h1, .int v0_good, .int v0_faultPlace, .int v0_made, .int v0_fills, .int v0_painted, .ref g0_told, .ref g0_saved, .ref g0_saves, .ref g0_at, .ref g0_points, .ref g0_px, .ref g0_py, .ref g0_begins, .ref g0_begun, .ref g0_lines, .ref g0_lastX, .ref g0_lastY, .ref g0_startX, .ref g0_startY, .ref g0_startPoint, .ref g0_both, .ref g0_cut, .int v0_other])), (h1, .inl (cI, 3, .inl f1))] sz) [(h0, .inr (11, [.int v0_wide, .int v0_tall, .ref g0_sheet, .ref g0_words, .ref h1, .int (res.2.1), .int v0_faultPlace, .int (res.2.2.1), .int v0_fills, .int v0_painted, .ref g0_told, .ref g0_saved, .ref g0_saves, .ref g0_at, .ref g0_points, .ref g0_px, .ref g0_py, .ref g0_begins, .ref g0_begun, .ref g0_lines, .ref g0_lastX, .ref g0_lastY, .ref g0_startX, .ref g0_startY, .ref g0_startPoint, .ref g0_both, .ref g0_cut, .int v0_other])), (h1, .inl (cI, 3, .inl (res.2.2.2)))]) 0 0 (va_A [(h0, .inr (11, [.int v0_wide, .int v0_tall, .ref g0_sheet, .ref g0_words, .ref h1, .int v0_good, .int v0_faultPlace, .int v0_made, .int v0_fills, .int v0_painted, .ref g0_told, .ref g0_saved, .ref g0_saves, .ref g0_at, .ref g0_points, .ref g0_px, .ref g0_py, .ref g0_begins, .ref g0_begun, .ref g0_lines, .ref g0_lastX, .ref g0_lastY, .ref g0_startX, .ref g0_startY, .ref g0_startPoint, .ref g0_both, .ref g0_cut, .int v0_other])), (h1, .inl (cI, 3, .inl f1))] sz) := by
  refine Met.ofW (cc := cX12_reset) (maxL := 2) (ret := (some .int)) (by decide) rfl ?_
  intro p e s m args below meth c s₁ B hml hv
  obtain ⟨rfl, hsz, hP, hK, hD0, hG⟩ := hv
  have hx := B.exec
  have hb := B.bytes
  have hr := B.returns
  have hu : ∀ w ∈ uw, w.before ([.ref h0] : List Value).toArray s = true := fun w h => atoms_spec (ws := w_X12_reset) B.pre w (List.mem_cons_of_mem _ h)
  have hown : s.vm.findClass RX12 = some m.cls := findClass_of_methodNamed B.named
  have hlocks := B.notSynchronized
  subst hsz
  have hD := hD0.self (sz := s.heap.size)
  generalize hAe : va_A [(h0, .inr (11, [.int v0_wide, .int v0_tall, .ref g0_sheet, .ref g0_words, .ref h1, .int v0_good, .int v0_faultPlace, .int v0_made, .int v0_fills, .int v0_painted, .ref g0_told, .ref g0_saved, .ref g0_saves, .ref g0_at, .ref g0_points, .ref g0_px, .ref g0_py, .ref g0_begins, .ref g0_begun, .ref g0_lines, .ref g0_lastX, .ref g0_lastY, .ref g0_startX, .ref g0_startY, .ref g0_startPoint, .ref g0_both, .ref g0_cut, .int v0_other])), (h1, .inl (cI, 3, .inl f1))] s.heap.size = A at hD hG ⊢
  have hA : ∀ q : Nat, s.heap.size ≤ q → A q := fun q h => by rw [← hAe]; exact Or.inr h
  have hS : va_S A s.heap s.heap [] := va_S.rf
  have hP : va_P (dC, dI) vwCl [(h0, .inr (11, [.int v0_wide, .int v0_tall, .ref g0_sheet, .ref g0_words, .ref h1, .int v0_good, .int v0_faultPlace, .int v0_made, .int v0_fills, .int v0_painted, .ref g0_told, .ref g0_saved, .ref g0_saves, .ref g0_at, .ref g0_points, .ref g0_px, .ref g0_py, .ref g0_begins, .ref g0_begun, .ref g0_lines, .ref g0_lastX, .ref g0_lastY, .ref g0_startX, .ref g0_startY, .ref g0_startPoint, .ref g0_both, .ref g0_cut, .int v0_other])), (h1, .inl (cI, 3, .inl f1))] s.heap := hP
  have hl := lv_entry ([.ref h0]) (n := 2) (Nat.le_of_ble_eq_true rfl)
  rw [lg_entry_eq]
  generalize (lg_sl ([.ref h0]) ++ List.replicate (2 - (lg_sl ([.ref h0])).length) Slot.unset).toArray = ls at hl ⊢
  have hl : lv_has ls 2 [(0, .ref h0)] := hl
  rw [m_X12_reset] at hM
  suffices hgo : ∀ (H : Heap) (locs : List Loc), va_P (dC, dI) vwCl [(h0, .inr (11, [.int v0_wide, .int v0_tall, .ref g0_sheet, .ref g0_words, .ref h1, .int v0_good, .int v0_faultPlace, .int v0_made, .int v0_fills, .int v0_painted, .ref g0_told, .ref g0_saved, .ref g0_saves, .ref g0_at, .ref g0_points, .ref g0_px, .ref g0_py, .ref g0_begins, .ref g0_begun, .ref g0_lines, .ref g0_lastX, .ref g0_lastY, .ref g0_startX, .ref g0_startY, .ref g0_startPoint, .ref g0_both, .ref g0_cut, .int v0_other])), (h1, .inl (cI, 3, .inl f1))] H → va_D A [(h0, .inr (11, [.int v0_wide, .int v0_tall, .ref g0_sheet, .ref g0_words, .ref h1, .int v0_good, .int v0_faultPlace, .int v0_made, .int v0_fills, .int v0_painted, .ref g0_told, .ref g0_saved, .ref g0_saves, .ref g0_at, .ref g0_points, .ref g0_px, .ref g0_py, .ref g0_begins, .ref g0_begun, .ref g0_lines, .ref g0_lastX, .ref g0_lastY, .ref g0_startX, .ref g0_startY, .ref g0_startPoint, .ref g0_both, .ref g0_cut, .int v0_other])), (h1, .inl (cI, 3, .inl f1))] → va_S A s.heap H locs → W p l e (headSpec w_X12_reset rm_X12_reset).room s m ([.ref h0] : List Value).toArray below meth c H locs 0 0 (MQ below (QMi (res.1) (dC, dI) [(cI, .int), (cZ, .boolean), (cO, .object "ListPainter$Settings")] A [(h0, .inr (11, [.int v0_wide, .int v0_tall, .ref g0_sheet, .ref g0_words, .ref h1, .int (res.2.1), .int v0_faultPlace, .int (res.2.2.1), .int v0_fills, .int v0_painted, .ref g0_told, .ref g0_saved, .ref g0_saves, .ref g0_at, .ref g0_points, .ref g0_px, .ref g0_py, .ref g0_begins, .ref g0_begun, .ref g0_lines, .ref g0_lastX, .ref g0_lastY, .ref g0_startX, .ref g0_startY, .ref g0_startPoint, .ref g0_both, .ref g0_cut, .int v0_other])), (h1, .inl (cI, 3, .inl (res.2.2.2)))]) ([.ref h0] : List Value).toArray s 0 0 A) (F0 m 0 ls []) from hgo _ _ hP hD hS
  intro H locs hP hD hS
  refine lv_aload_n hx hb dX12_reset_0 rfl (lv_at hl 0 rfl) ?_
  refine va_get (D := (dC, dI)) (ci := 11) (v := .ref h1) (C := RX12) (T := TX12) (N := 28) hx hb hu inX12 hown hK hP 0 rfl rfl 4 (by decide) (hu _ kw_248) (fun _ h9 => h9) rfl dX12_reset_1 ?_
  refine lv_iconst (v := 0) hx hb dX12_reset_4 (by decide) ?_
  obtain ⟨g_1, hM⟩ := gd_u hM
  refine va_iald hx hb hK hP 1 0 rfl rfl (inb_v g_1) dX12_reset_5 ?_
  refine lv_topi (fun a_2 ea_2 => ?_)
  have hM := nm_u ea_2 hM
  refine lv_istore_n (lv' := [(1, .int a_2), (0, .ref h0)]) hx hb dX12_reset_6 rfl hl (by decide) rfl (fun ls hl => ?_)
  refine lv_aload_n hx hb dX12_reset_7 rfl (lv_at hl 1 rfl) ?_
  refine va_get (D := (dC, dI)) (ci := 11) (v := .ref h1) (C := RX12) (T := TX12) (N := 28) hx hb hu inX12 hown hK hP 0 rfl rfl 4 (by decide) (hu _ kw_248) (fun _ h9 => h9) rfl dX12_reset_8 ?_
  refine lv_iconst (v := 0) hx hb dX12_reset_11 (by decide) ?_
  refine lv_iconst (v := 0) hx hb dX12_reset_12 (by decide) ?_
  obtain ⟨g_3, hM⟩ := gd_u hM
  refine va_iast hx hb hK hP hD hS 1 0 rfl rfl (inb_v g_3) dX12_reset_13 (fun H locs hP hD hS => ?_)
  obtain ⟨f1_4, ef1_4⟩ : ∃ g : Nat → Int32, g = upd f1 (0 : Int32).toNatClampNeg 0 := ⟨_, rfl⟩
  have hM := nm_u ef1_4 hM
  have hP : va_P (dC, dI) vwCl [(h0, .inr (11, [.int v0_wide, .int v0_tall, .ref g0_sheet, .ref g0_words, .ref h1, .int v0_good, .int v0_faultPlace, .int v0_made, .int v0_fills, .int v0_painted, .ref g0_told, .ref g0_saved, .ref g0_saves, .ref g0_at, .ref g0_points, .ref g0_px, .ref g0_py, .ref g0_begins, .ref g0_begun, .ref g0_lines, .ref g0_lastX, .ref g0_lastY, .ref g0_startX, .ref g0_startY, .ref g0_startPoint, .ref g0_both, .ref g0_cut, .int v0_other])), (h1, .inl (cI, 3, .inl f1_4))] H := by rw [ef1_4]; exact hP
  have hD : va_D A [(h0, .inr (11, [.int v0_wide, .int v0_tall, .ref g0_sheet, .ref g0_words, .ref h1, .int v0_good, .int v0_faultPlace, .int v0_made, .int v0_fills, .int v0_painted, .ref g0_told, .ref g0_saved, .ref g0_saves, .ref g0_at, .ref g0_points, .ref g0_px, .ref g0_py, .ref g0_begins, .ref g0_begun, .ref g0_lines, .ref g0_lastX, .ref g0_lastY, .ref g0_startX, .ref g0_startY, .ref g0_startPoint, .ref g0_both, .ref g0_cut, .int v0_other])), (h1, .inl (cI, 3, .inl f1_4))] := by rw [ef1_4]; exact hD
  refine lv_aload_n hx hb dX12_reset_14 rfl (lv_at hl 1 rfl) ?_
  obtain ⟨v0_5, v0_6, hm_7, hM⟩ := bd2_u hM
  refine cVv (As := []) (rest := []) ⟨hx, hb, hml, hown, hu⟩ (c_X12_changed l dC dI cI cZ cO tL H.size h0 g0_sheet g0_words h1 g0_told g0_saved g0_saves g0_at g0_points g0_px g0_py g0_begins g0_begun g0_lines g0_lastX g0_lastY g0_startX g0_startY g0_startPoint g0_both g0_cut v0_wide v0_tall v0_good v0_faultPlace v0_made v0_fills v0_painted v0_other (v0_5, v0_6) hm_7) (cwV 0 hu (gV kw_250 kw_251 kw_252 kw_253 kw_254) rfl rfl rfl (by decide +kernel) ⟨Nat.le_of_ble_eq_true rfl, Nat.le_of_ble_eq_true rfl⟩) hP hD hS hA hK hG [0] (by decide) rfl [some 0, none] 1 rfl (by decide +kernel) rfl 11 0 rfl rfl rfl rfl hl.1 rfl (Nat.le_of_ble_eq_true rfl) dX12_reset_15 (Nat.zero_le _) (Nat.zero_le _) (fun H locs hP hD hS => ?_)
  have hP : va_P (dC, dI) vwCl [(h0, .inr (11, [.int v0_wide, .int v0_tall, .ref g0_sheet, .ref g0_words, .ref h1, .int v0_5, .int v0_faultPlace, .int v0_6, .int v0_fills, .int v0_painted, .ref g0_told, .ref g0_saved, .ref g0_saves, .ref g0_at, .ref g0_points, .ref g0_px, .ref g0_py, .ref g0_begins, .ref g0_begun, .ref g0_lines, .ref g0_lastX, .ref g0_lastY, .ref g0_startX, .ref g0_startY, .ref g0_startPoint, .ref g0_both, .ref g0_cut, .int v0_other])), (h1, .inl (cI, 3, .inl f1_4))] H := hP
  have hD : va_D A [(h0, .inr (11, [.int v0_wide, .int v0_tall, .ref g0_sheet, .ref g0_words, .ref h1, .int v0_5, .int v0_faultPlace, .int v0_6, .int v0_fills, .int v0_painted, .ref g0_told, .ref g0_saved, .ref g0_saves, .ref g0_at, .ref g0_points, .ref g0_px, .ref g0_py, .ref g0_begins, .ref g0_begun, .ref g0_lines, .ref g0_lastX, .ref g0_lastY, .ref g0_startX, .ref g0_startY, .ref g0_startPoint, .ref g0_both, .ref g0_cut, .int v0_other])), (h1, .inl (cI, 3, .inl f1_4))] := hD
  refine lv_iload_n hx hb dX12_reset_18 rfl (lv_at hl 0 rfl) ?_
  have h9 := Option.some.inj hM
  subst h9
  exact W.iret (v := a_2) hx hb hr (fun t ht hW => QMi_mk (by rw [ht]; exact hP) (va_K.moved hW.alike hK) hD (hS.F ht)) hS.2.2 dX12_reset_19
theorem dX12_more_0 : decode cX12_more 0 = .ok (.iload_n 0, 1) := by decide +kernel
theorem dX12_more_1 : decode cX12_more 1 = .ok (.iconst 4, 1) := by decide +kernel
theorem dX12_more_2 : decode cX12_more 2 = .ok (.if_icmp .eq 8, 3) := by decide +kernel
theorem dX12_more_5 : decode cX12_more 5 = .ok (.iload_n 0, 1) := by decide +kernel
theorem dX12_more_6 : decode cX12_more 6 = .ok (.iconst 5, 1) := by decide +kernel
theorem dX12_more_7 : decode cX12_more 7 = .ok (.if_icmp .ne 7, 3) := by decide +kernel
theorem dX12_more_10 : decode cX12_more 10 = .ok (.iconst 2, 1) := by decide +kernel
theorem dX12_more_11 : decode cX12_more 11 = .ok (.goto 59, 3) := by decide +kernel
theorem dX12_more_14 : decode cX12_more 14 = .ok (.iload_n 0, 1) := by decide +kernel
theorem dX12_more_15 : decode cX12_more 15 = .ok (.bipush 6, 2) := by decide +kernel
theorem dX12_more_17 : decode cX12_more 17 = .ok (.if_icmp .eq 15, 3) := by decide +kernel
theorem dX12_more_20 : decode cX12_more 20 = .ok (.iload_n 0, 1) := by decide +kernel
theorem dX12_more_21 : decode cX12_more 21 = .ok (.bipush 8, 2) := by decide +kernel
theorem dX12_more_23 : decode cX12_more 23 = .ok (.if_icmp .eq 9, 3) := by decide +kernel
theorem dX12_more_26 : decode cX12_more 26 = .ok (.iload_n 0, 1) := by decide +kernel
theorem dX12_more_27 : decode cX12_more 27 = .ok (.bipush 13, 2) := by decide +kernel
theorem dX12_more_29 : decode cX12_more 29 = .ok (.if_icmp .ne 7, 3) := by decide +kernel
theorem dX12_more_32 : decode cX12_more 32 = .ok (.iconst 4, 1) := by decide +kernel
theorem dX12_more_33 : decode cX12_more 33 = .ok (.goto 37, 3) := by decide +kernel
theorem dX12_more_36 : decode cX12_more 36 = .ok (.iload_n 0, 1) := by decide +kernel
theorem dX12_more_37 : decode cX12_more 37 = .ok (.bipush 9, 2) := by decide +kernel
theorem dX12_more_39 : decode cX12_more 39 = .ok (.if_icmp .eq 15, 3) := by decide +kernel
theorem dX12_more_42 : decode cX12_more 42 = .ok (.iload_n 0, 1) := by decide +kernel
theorem dX12_more_43 : decode cX12_more 43 = .ok (.bipush 10, 2) := by decide +kernel
theorem dX12_more_45 : decode cX12_more 45 = .ok (.if_icmp .eq 9, 3) := by decide +kernel
theorem dX12_more_48 : decode cX12_more 48 = .ok (.iload_n 0, 1) := by decide +kernel
theorem dX12_more_49 : decode cX12_more 49 = .ok (.bipush 11, 2) := by decide +kernel
theorem dX12_more_51 : decode cX12_more 51 = .ok (.if_icmp .ne 7, 3) := by decide +kernel
theorem dX12_more_54 : decode cX12_more 54 = .ok (.iconst 1, 1) := by decide +kernel
theorem dX12_more_55 : decode cX12_more 55 = .ok (.goto 15, 3) := by decide +kernel
theorem dX12_more_58 : decode cX12_more 58 = .ok (.iload_n 0, 1) := by decide +kernel
theorem dX12_more_59 : decode cX12_more 59 = .ok (.bipush 12, 2) := by decide +kernel
theorem dX12_more_61 : decode cX12_more 61 = .ok (.if_icmp .ne 8, 3) := by decide +kernel
theorem dX12_more_64 : decode cX12_more 64 = .ok (.bipush 6, 2) := by decide +kernel
theorem dX12_more_66 : decode cX12_more 66 = .ok (.goto 4, 3) := by decide +kernel
theorem dX12_more_69 : decode cX12_more 69 = .ok (.iconst 0, 1) := by decide +kernel
theorem dX12_more_70 : decode cX12_more 70 = .ok (.ireturn, 1) := by decide +kernel
abbrev rm_X12_more : Room := { frames := 0, cells := 0, slots := 0, locals := 0 }
def w_X12_more : List Cond := Cond.code yX12_more cX12_more 1 (some .int) :: uw
set_option maxHeartbeats 4000000 in
set_option maxRecDepth 100000 in
theorem c_X12_more (l : Launch) (dC : Nat → ClassId) (dI : Nat → Nat → Nat) (cI cZ cO : ClassId) (tL sz : Nat) (p0 : Int32) (res : Int32) (hM : m_X12_more p0 = some res) : Met l yX12_more w_X12_more rm_X12_more (PCx [.int p0] (dC, dI) [(cI, .int), (cZ, .boolean), (cO, .object "ListPainter$Settings")] sz tL []) (QMi res (dC, dI) [(cI, .int), (cZ, .boolean), (cO, .object "ListPainter$Settings")] (va_A [] sz) []) 0 0 (va_A [] sz) := by
  refine Met.ofW (cc := cX12_more) (maxL := 1) (ret := (some .int)) (by decide) rfl ?_
  intro p e s m args below meth c s₁ B hml hv
  obtain ⟨rfl, hsz, hP, hK, hD0, hG⟩ := hv
  have hx := B.exec
  have hb := B.bytes
  have hr := B.returns
  have hu : ∀ w ∈ uw, w.before ([.int p0] : List Value).toArray s = true := fun w h => atoms_spec (ws := w_X12_more) B.pre w (List.mem_cons_of_mem _ h)
  have hown : s.vm.findClass RX12 = some m.cls := findClass_of_methodNamed B.named
  have hlocks := B.notSynchronized
  subst hsz
  have hD := hD0.self (sz := s.heap.size)
  generalize hAe : va_A [] s.heap.size = A at hD hG ⊢
  have hA : ∀ q : Nat, s.heap.size ≤ q → A q := fun q h => by rw [← hAe]; exact Or.inr h
  have hS : va_S A s.heap s.heap [] := va_S.rf
  have hP : va_P (dC, dI) vwCl [] s.heap := hP
  have hl := lv_entry ([.int p0]) (n := 1) (Nat.le_of_ble_eq_true rfl)
  rw [lg_entry_eq]
  generalize (lg_sl ([.int p0]) ++ List.replicate (1 - (lg_sl ([.int p0])).length) Slot.unset).toArray = ls at hl ⊢
  have hl : lv_has ls 1 [(0, .int p0)] := hl
  rw [m_X12_more] at hM
  suffices hgo : ∀ (H : Heap) (locs : List Loc), va_P (dC, dI) vwCl [] H → va_D A [] → va_S A s.heap H locs → W p l e (headSpec w_X12_more rm_X12_more).room s m ([.int p0] : List Value).toArray below meth c H locs 0 0 (MQ below (QMi res (dC, dI) [(cI, .int), (cZ, .boolean), (cO, .object "ListPainter$Settings")] A []) ([.int p0] : List Value).toArray s 0 0 A) (F0 m 0 ls []) from hgo _ _ hP hD hS
  intro H locs hP hD hS
  refine lv_iload_n hx hb dX12_more_0 rfl (lv_at hl 0 rfl) ?_
  refine lv_iconst (v := 4) hx hb dX12_more_1 (by decide) ?_
  refine lv_icmp_eq (tgt := 10) hx hb dX12_more_2 (by decide) (fun c_1 => ?_) (fun c_1 => ?_)
  · have hM := if_t c_1 hM
    refine lv_iconst (v := 2) hx hb dX12_more_10 (by decide) ?_
    refine lv_goto (tgt := 70) hx hb dX12_more_11 (by decide) ?_
    have h9 := Option.some.inj hM
    subst h9
    exact W.iret (v := 2) hx hb hr (fun t ht hW => QMi_mk (by rw [ht]; exact hP) (va_K.moved hW.alike hK) hD (hS.F ht)) hS.2.2 dX12_more_70
  · have hM := if_f c_1 hM
    refine lv_iload_n hx hb dX12_more_5 rfl (lv_at hl 0 rfl) ?_
    refine lv_iconst (v := 5) hx hb dX12_more_6 (by decide) ?_
    refine lv_icmp_ne (tgt := 14) hx hb dX12_more_7 (by decide) (fun c_2 => ?_) (fun c_2 => ?_)
    · have hM := if_f c_2 hM
      refine lv_iload_n hx hb dX12_more_14 rfl (lv_at hl 0 rfl) ?_
      refine lv_bipush (v := 6) hx hb dX12_more_15 (by decide) ?_
      refine lv_icmp_eq (tgt := 32) hx hb dX12_more_17 (by decide) (fun c_3 => ?_) (fun c_3 => ?_)
      · have hM := if_t c_3 hM
        refine lv_iconst (v := 4) hx hb dX12_more_32 (by decide) ?_
        refine lv_goto (tgt := 70) hx hb dX12_more_33 (by decide) ?_
        have h9 := Option.some.inj hM
        subst h9
        exact W.iret (v := 4) hx hb hr (fun t ht hW => QMi_mk (by rw [ht]; exact hP) (va_K.moved hW.alike hK) hD (hS.F ht)) hS.2.2 dX12_more_70
      · have hM := if_f c_3 hM
        refine lv_iload_n hx hb dX12_more_20 rfl (lv_at hl 0 rfl) ?_
        refine lv_bipush (v := 8) hx hb dX12_more_21 (by decide) ?_
        refine lv_icmp_eq (tgt := 32) hx hb dX12_more_23 (by decide) (fun c_4 => ?_) (fun c_4 => ?_)
        · have hM := if_t c_4 hM
          refine lv_iconst (v := 4) hx hb dX12_more_32 (by decide) ?_
          refine lv_goto (tgt := 70) hx hb dX12_more_33 (by decide) ?_
          have h9 := Option.some.inj hM
          subst h9
          exact W.iret (v := 4) hx hb hr (fun t ht hW => QMi_mk (by rw [ht]; exact hP) (va_K.moved hW.alike hK) hD (hS.F ht)) hS.2.2 dX12_more_70
        · have hM := if_f c_4 hM
          refine lv_iload_n hx hb dX12_more_26 rfl (lv_at hl 0 rfl) ?_
          refine lv_bipush (v := 13) hx hb dX12_more_27 (by decide) ?_
          refine lv_icmp_ne (tgt := 36) hx hb dX12_more_29 (by decide) (fun c_5 => ?_) (fun c_5 => ?_)
          · have hM := if_f c_5 hM
            refine lv_iload_n hx hb dX12_more_36 rfl (lv_at hl 0 rfl) ?_
            refine lv_bipush (v := 9) hx hb dX12_more_37 (by decide) ?_
            refine lv_icmp_eq (tgt := 54) hx hb dX12_more_39 (by decide) (fun c_6 => ?_) (fun c_6 => ?_)
            · have hM := if_t c_6 hM
              refine lv_iconst (v := 1) hx hb dX12_more_54 (by decide) ?_
              refine lv_goto (tgt := 70) hx hb dX12_more_55 (by decide) ?_
              have h9 := Option.some.inj hM
              subst h9
              exact W.iret (v := 1) hx hb hr (fun t ht hW => QMi_mk (by rw [ht]; exact hP) (va_K.moved hW.alike hK) hD (hS.F ht)) hS.2.2 dX12_more_70
            · have hM := if_f c_6 hM
              refine lv_iload_n hx hb dX12_more_42 rfl (lv_at hl 0 rfl) ?_
              refine lv_bipush (v := 10) hx hb dX12_more_43 (by decide) ?_
              refine lv_icmp_eq (tgt := 54) hx hb dX12_more_45 (by decide) (fun c_7 => ?_) (fun c_7 => ?_)
              · have hM := if_t c_7 hM
                refine lv_iconst (v := 1) hx hb dX12_more_54 (by decide) ?_
                refine lv_goto (tgt := 70) hx hb dX12_more_55 (by decide) ?_
                have h9 := Option.some.inj hM
                subst h9
                exact W.iret (v := 1) hx hb hr (fun t ht hW => QMi_mk (by rw [ht]; exact hP) (va_K.moved hW.alike hK) hD (hS.F ht)) hS.2.2 dX12_more_70
              · have hM := if_f c_7 hM
                refine lv_iload_n hx hb dX12_more_48 rfl (lv_at hl 0 rfl) ?_
                refine lv_bipush (v := 11) hx hb dX12_more_49 (by decide) ?_
                refine lv_icmp_ne (tgt := 58) hx hb dX12_more_51 (by decide) (fun c_8 => ?_) (fun c_8 => ?_)
                · have hM := if_f c_8 hM
                  refine lv_iload_n hx hb dX12_more_58 rfl (lv_at hl 0 rfl) ?_
                  refine lv_bipush (v := 12) hx hb dX12_more_59 (by decide) ?_
                  refine lv_icmp_ne (tgt := 69) hx hb dX12_more_61 (by decide) (fun c_9 => ?_) (fun c_9 => ?_)
                  · have hM := if_f c_9 hM
                    refine lv_iconst (v := 0) hx hb dX12_more_69 (by decide) ?_
                    have h9 := Option.some.inj hM
                    subst h9
                    exact W.iret (v := 0) hx hb hr (fun t ht hW => QMi_mk (by rw [ht]; exact hP) (va_K.moved hW.alike hK) hD (hS.F ht)) hS.2.2 dX12_more_70
                  · have hM := if_t c_9 hM
                    refine lv_bipush (v := 6) hx hb dX12_more_64 (by decide) ?_
                    refine lv_goto (tgt := 70) hx hb dX12_more_66 (by decide) ?_
                    have h9 := Option.some.inj hM
                    subst h9
                    exact W.iret (v := 6) hx hb hr (fun t ht hW => QMi_mk (by rw [ht]; exact hP) (va_K.moved hW.alike hK) hD (hS.F ht)) hS.2.2 dX12_more_70
                · have hM := if_t c_8 hM
                  refine lv_iconst (v := 1) hx hb dX12_more_54 (by decide) ?_
                  refine lv_goto (tgt := 70) hx hb dX12_more_55 (by decide) ?_
                  have h9 := Option.some.inj hM
                  subst h9
                  exact W.iret (v := 1) hx hb hr (fun t ht hW => QMi_mk (by rw [ht]; exact hP) (va_K.moved hW.alike hK) hD (hS.F ht)) hS.2.2 dX12_more_70
          · have hM := if_t c_5 hM
            refine lv_iconst (v := 4) hx hb dX12_more_32 (by decide) ?_
            refine lv_goto (tgt := 70) hx hb dX12_more_33 (by decide) ?_
            have h9 := Option.some.inj hM
            subst h9
            exact W.iret (v := 4) hx hb hr (fun t ht hW => QMi_mk (by rw [ht]; exact hP) (va_K.moved hW.alike hK) hD (hS.F ht)) hS.2.2 dX12_more_70
    · have hM := if_t c_2 hM
      refine lv_iconst (v := 2) hx hb dX12_more_10 (by decide) ?_
      refine lv_goto (tgt := 70) hx hb dX12_more_11 (by decide) ?_
      have h9 := Option.some.inj hM
      subst h9
      exact W.iret (v := 2) hx hb hr (fun t ht hW => QMi_mk (by rw [ht]; exact hP) (va_K.moved hW.alike hK) hD (hS.F ht)) hS.2.2 dX12_more_70
theorem dX12_within_0 : decode cX12_within 0 = .ok (.iload_n 0, 1) := by decide +kernel
theorem dX12_within_1 : decode cX12_within 1 = .ok (.iload_n 1, 1) := by decide +kernel
theorem dX12_within_2 : decode cX12_within 2 = .ok (.if_icmp .lt 12, 3) := by decide +kernel
theorem dX12_within_5 : decode cX12_within 5 = .ok (.iload_n 0, 1) := by decide +kernel
theorem dX12_within_6 : decode cX12_within 6 = .ok (.iload_n 2, 1) := by decide +kernel
theorem dX12_within_7 : decode cX12_within 7 = .ok (.if_icmp .gt 7, 3) := by decide +kernel
theorem dX12_within_10 : decode cX12_within 10 = .ok (.iconst 1, 1) := by decide +kernel
theorem dX12_within_11 : decode cX12_within 11 = .ok (.goto 4, 3) := by decide +kernel
theorem dX12_within_14 : decode cX12_within 14 = .ok (.iconst 0, 1) := by decide +kernel
theorem dX12_within_15 : decode cX12_within 15 = .ok (.ireturn, 1) := by decide +kernel
abbrev rm_X12_within : Room := { frames := 0, cells := 0, slots := 0, locals := 0 }
def w_X12_within : List Cond := Cond.code yX12_within cX12_within 3 (some .boolean) :: uw
set_option maxHeartbeats 4000000 in
set_option maxRecDepth 100000 in
theorem c_X12_within (l : Launch) (dC : Nat → ClassId) (dI : Nat → Nat → Nat) (cI cZ cO : ClassId) (tL sz : Nat) (p0 : Int32) (p1 : Int32) (p2 : Int32) (res : Int32) (hM : m_X12_within p0 p1 p2 = some res) : Met l yX12_within w_X12_within rm_X12_within (PCx [.int p0, .int p1, .int p2] (dC, dI) [(cI, .int), (cZ, .boolean), (cO, .object "ListPainter$Settings")] sz tL []) (QMz res (dC, dI) [(cI, .int), (cZ, .boolean), (cO, .object "ListPainter$Settings")] (va_A [] sz) []) 0 0 (va_A [] sz) := by
  refine Met.ofW (cc := cX12_within) (maxL := 3) (ret := (some .boolean)) (by decide) rfl ?_
  intro p e s m args below meth c s₁ B hml hv
  obtain ⟨rfl, hsz, hP, hK, hD0, hG⟩ := hv
  have hx := B.exec
  have hb := B.bytes
  have hr := B.returns
  have hu : ∀ w ∈ uw, w.before ([.int p0, .int p1, .int p2] : List Value).toArray s = true := fun w h => atoms_spec (ws := w_X12_within) B.pre w (List.mem_cons_of_mem _ h)
  have hown : s.vm.findClass RX12 = some m.cls := findClass_of_methodNamed B.named
  have hlocks := B.notSynchronized
  subst hsz
  have hD := hD0.self (sz := s.heap.size)
  generalize hAe : va_A [] s.heap.size = A at hD hG ⊢
  have hA : ∀ q : Nat, s.heap.size ≤ q → A q := fun q h => by rw [← hAe]; exact Or.inr h
  have hS : va_S A s.heap s.heap [] := va_S.rf
  have hP : va_P (dC, dI) vwCl [] s.heap := hP
  have hl := lv_entry ([.int p0, .int p1, .int p2]) (n := 3) (Nat.le_of_ble_eq_true rfl)
  rw [lg_entry_eq]
  generalize (lg_sl ([.int p0, .int p1, .int p2]) ++ List.replicate (3 - (lg_sl ([.int p0, .int p1, .int p2])).length) Slot.unset).toArray = ls at hl ⊢
  have hl : lv_has ls 3 [(0, .int p0), (1, .int p1), (2, .int p2)] := hl
  rw [m_X12_within] at hM
  suffices hgo : ∀ (H : Heap) (locs : List Loc), va_P (dC, dI) vwCl [] H → va_D A [] → va_S A s.heap H locs → W p l e (headSpec w_X12_within rm_X12_within).room s m ([.int p0, .int p1, .int p2] : List Value).toArray below meth c H locs 0 0 (MQ below (QMz res (dC, dI) [(cI, .int), (cZ, .boolean), (cO, .object "ListPainter$Settings")] A []) ([.int p0, .int p1, .int p2] : List Value).toArray s 0 0 A) (F0 m 0 ls []) from hgo _ _ hP hD hS
  intro H locs hP hD hS
  refine lv_iload_n hx hb dX12_within_0 rfl (lv_at hl 0 rfl) ?_
  refine lv_iload_n hx hb dX12_within_1 rfl (lv_at hl 1 rfl) ?_
  refine lv_icmp_lt (tgt := 14) hx hb dX12_within_2 (by decide) (fun c_1 => ?_) (fun c_1 => ?_)
  · have hM := if_t c_1 hM
    refine lv_iconst (v := 0) hx hb dX12_within_14 (by decide) ?_
    have h9 := Option.some.inj hM
    subst h9
    exact W.zret (v := 0) hx hb hr (zb_n (Or.inl rfl)) (fun t ht hW => QMz_mk (Or.inl rfl) (by rw [ht]; exact hP) (va_K.moved hW.alike hK) hD (hS.F ht)) hS.2.2 dX12_within_15
  · have hM := if_f c_1 hM
    refine lv_iload_n hx hb dX12_within_5 rfl (lv_at hl 0 rfl) ?_
    refine lv_iload_n hx hb dX12_within_6 rfl (lv_at hl 2 rfl) ?_
    refine lv_icmp_gt (tgt := 14) hx hb dX12_within_7 (by decide) (fun c_2 => ?_) (fun c_2 => ?_)
    · have hM := if_t c_2 hM
      refine lv_iconst (v := 0) hx hb dX12_within_14 (by decide) ?_
      have h9 := Option.some.inj hM
      subst h9
      exact W.zret (v := 0) hx hb hr (zb_n (Or.inl rfl)) (fun t ht hW => QMz_mk (Or.inl rfl) (by rw [ht]; exact hP) (va_K.moved hW.alike hK) hD (hS.F ht)) hS.2.2 dX12_within_15
    · have hM := if_f c_2 hM
      refine lv_iconst (v := 1) hx hb dX12_within_10 (by decide) ?_
      refine lv_goto (tgt := 15) hx hb dX12_within_11 (by decide) ?_
      have h9 := Option.some.inj hM
      subst h9
      exact W.zret (v := 1) hx hb hr (zb_n (Or.inr rfl)) (fun t ht hW => QMz_mk (Or.inr rfl) (by rw [ht]; exact hP) (va_K.moved hW.alike hK) hD (hS.F ht)) hS.2.2 dX12_within_15
theorem dX12_areBounds_0 : decode cX12_areBounds 0 = .ok (.iconst 1, 1) := by decide +kernel
theorem dX12_areBounds_1 : decode cX12_areBounds 1 = .ok (.istore_n 3, 1) := by decide +kernel
theorem dX12_areBounds_2 : decode cX12_areBounds 2 = .ok (.iconst 1, 1) := by decide +kernel
theorem dX12_areBounds_3 : decode cX12_areBounds 3 = .ok (.istore 4, 2) := by decide +kernel
theorem dX12_areBounds_5 : decode cX12_areBounds 5 = .ok (.iload 4, 2) := by decide +kernel
theorem dX12_areBounds_7 : decode cX12_areBounds 7 = .ok (.iload_n 2, 1) := by decide +kernel
theorem dX12_areBounds_8 : decode cX12_areBounds 8 = .ok (.invokestatic 95, 3) := by decide +kernel
theorem dX12_areBounds_11 : decode cX12_areBounds 11 = .ok (.if_icmp .gt 148, 3) := by decide +kernel
theorem dX12_areBounds_14 : decode cX12_areBounds 14 = .ok (.aload_n 0, 1) := by decide +kernel
theorem dX12_areBounds_15 : decode cX12_areBounds 15 = .ok (.getfield 13, 3) := by decide +kernel
theorem dX12_areBounds_18 : decode cX12_areBounds 18 = .ok (.iload_n 1, 1) := by decide +kernel
theorem dX12_areBounds_19 : decode cX12_areBounds 19 = .ok (.iload 4, 2) := by decide +kernel
theorem dX12_areBounds_21 : decode cX12_areBounds 21 = .ok (.iadd, 1) := by decide +kernel
theorem dX12_areBounds_22 : decode cX12_areBounds 22 = .ok (.iaload, 1) := by decide +kernel
theorem dX12_areBounds_23 : decode cX12_areBounds 23 = .ok (.istore 5, 2) := by decide +kernel
theorem dX12_areBounds_25 : decode cX12_areBounds 25 = .ok (.iload_n 2, 1) := by decide +kernel
theorem dX12_areBounds_26 : decode cX12_areBounds 26 = .ok (.iconst 4, 1) := by decide +kernel
theorem dX12_areBounds_27 : decode cX12_areBounds 27 = .ok (.if_icmp .lt 31, 3) := by decide +kernel
theorem dX12_areBounds_30 : decode cX12_areBounds 30 = .ok (.iload_n 2, 1) := by decide +kernel
theorem dX12_areBounds_31 : decode cX12_areBounds 31 = .ok (.bipush 8, 2) := by decide +kernel
theorem dX12_areBounds_33 : decode cX12_areBounds 33 = .ok (.if_icmp .gt 25, 3) := by decide +kernel
theorem dX12_areBounds_36 : decode cX12_areBounds 36 = .ok (.iload 5, 2) := by decide +kernel
theorem dX12_areBounds_38 : decode cX12_areBounds 38 = .ok (.ldc 98, 2) := by decide +kernel
theorem dX12_areBounds_40 : decode cX12_areBounds 40 = .ok (.if_icmp .le 14, 3) := by decide +kernel
theorem dX12_areBounds_43 : decode cX12_areBounds 43 = .ok (.iload 5, 2) := by decide +kernel
theorem dX12_areBounds_45 : decode cX12_areBounds 45 = .ok (.ldc 99, 2) := by decide +kernel
theorem dX12_areBounds_47 : decode cX12_areBounds 47 = .ok (.if_icmp .ge 7, 3) := by decide +kernel
theorem dX12_areBounds_50 : decode cX12_areBounds 50 = .ok (.iconst 1, 1) := by decide +kernel
theorem dX12_areBounds_51 : decode cX12_areBounds 51 = .ok (.goto 85, 3) := by decide +kernel
theorem dX12_areBounds_54 : decode cX12_areBounds 54 = .ok (.iconst 0, 1) := by decide +kernel
theorem dX12_areBounds_55 : decode cX12_areBounds 55 = .ok (.goto 81, 3) := by decide +kernel
theorem dX12_areBounds_58 : decode cX12_areBounds 58 = .ok (.iload_n 2, 1) := by decide +kernel
theorem dX12_areBounds_59 : decode cX12_areBounds 59 = .ok (.bipush 9, 2) := by decide +kernel
theorem dX12_areBounds_61 : decode cX12_areBounds 61 = .ok (.if_icmp .ne 13, 3) := by decide +kernel
theorem dX12_areBounds_64 : decode cX12_areBounds 64 = .ok (.iload 5, 2) := by decide +kernel
theorem dX12_areBounds_66 : decode cX12_areBounds 66 = .ok (.iconst 0, 1) := by decide +kernel
theorem dX12_areBounds_67 : decode cX12_areBounds 67 = .ok (.iconst 1, 1) := by decide +kernel
theorem dX12_areBounds_68 : decode cX12_areBounds 68 = .ok (.invokestatic 100, 3) := by decide +kernel
theorem dX12_areBounds_71 : decode cX12_areBounds 71 = .ok (.goto 65, 3) := by decide +kernel
theorem dX12_areBounds_74 : decode cX12_areBounds 74 = .ok (.iload_n 2, 1) := by decide +kernel
theorem dX12_areBounds_75 : decode cX12_areBounds 75 = .ok (.bipush 11, 2) := by decide +kernel
theorem dX12_areBounds_77 : decode cX12_areBounds 77 = .ok (.if_icmp .ne 13, 3) := by decide +kernel
theorem dX12_areBounds_80 : decode cX12_areBounds 80 = .ok (.iload 5, 2) := by decide +kernel
theorem dX12_areBounds_82 : decode cX12_areBounds 82 = .ok (.iconst 0, 1) := by decide +kernel
theorem dX12_areBounds_83 : decode cX12_areBounds 83 = .ok (.iconst 4, 1) := by decide +kernel
theorem dX12_areBounds_84 : decode cX12_areBounds 84 = .ok (.invokestatic 100, 3) := by decide +kernel
theorem dX12_areBounds_87 : decode cX12_areBounds 87 = .ok (.goto 49, 3) := by decide +kernel
theorem dX12_areBounds_90 : decode cX12_areBounds 90 = .ok (.iload_n 2, 1) := by decide +kernel
theorem dX12_areBounds_91 : decode cX12_areBounds 91 = .ok (.bipush 13, 2) := by decide +kernel
theorem dX12_areBounds_93 : decode cX12_areBounds 93 = .ok (.if_icmp .ne 42, 3) := by decide +kernel
theorem dX12_areBounds_96 : decode cX12_areBounds 96 = .ok (.iload 4, 2) := by decide +kernel
theorem dX12_areBounds_98 : decode cX12_areBounds 98 = .ok (.iconst 3, 1) := by decide +kernel
theorem dX12_areBounds_99 : decode cX12_areBounds 99 = .ok (.if_icmp .ge 25, 3) := by decide +kernel
theorem dX12_areBounds_102 : decode cX12_areBounds 102 = .ok (.iload 5, 2) := by decide +kernel
theorem dX12_areBounds_104 : decode cX12_areBounds 104 = .ok (.ldc 104, 2) := by decide +kernel
theorem dX12_areBounds_106 : decode cX12_areBounds 106 = .ok (.if_icmp .le 14, 3) := by decide +kernel
theorem dX12_areBounds_109 : decode cX12_areBounds 109 = .ok (.iload 5, 2) := by decide +kernel
theorem dX12_areBounds_111 : decode cX12_areBounds 111 = .ok (.ldc 105, 2) := by decide +kernel
theorem dX12_areBounds_113 : decode cX12_areBounds 113 = .ok (.if_icmp .ge 7, 3) := by decide +kernel
theorem dX12_areBounds_116 : decode cX12_areBounds 116 = .ok (.iconst 1, 1) := by decide +kernel
theorem dX12_areBounds_117 : decode cX12_areBounds 117 = .ok (.goto 19, 3) := by decide +kernel
theorem dX12_areBounds_120 : decode cX12_areBounds 120 = .ok (.iconst 0, 1) := by decide +kernel
theorem dX12_areBounds_121 : decode cX12_areBounds 121 = .ok (.goto 15, 3) := by decide +kernel
theorem dX12_areBounds_124 : decode cX12_areBounds 124 = .ok (.iload 5, 2) := by decide +kernel
theorem dX12_areBounds_126 : decode cX12_areBounds 126 = .ok (.iconst 0, 1) := by decide +kernel
theorem dX12_areBounds_127 : decode cX12_areBounds 127 = .ok (.ldc 105, 2) := by decide +kernel
theorem dX12_areBounds_129 : decode cX12_areBounds 129 = .ok (.invokestatic 100, 3) := by decide +kernel
theorem dX12_areBounds_132 : decode cX12_areBounds 132 = .ok (.goto 4, 3) := by decide +kernel
theorem dX12_areBounds_135 : decode cX12_areBounds 135 = .ok (.iconst 1, 1) := by decide +kernel
theorem dX12_areBounds_136 : decode cX12_areBounds 136 = .ok (.istore 6, 2) := by decide +kernel
theorem dX12_areBounds_138 : decode cX12_areBounds 138 = .ok (.iload_n 3, 1) := by decide +kernel
theorem dX12_areBounds_139 : decode cX12_areBounds 139 = .ok (.ifCond .eq 12, 3) := by decide +kernel
theorem dX12_areBounds_142 : decode cX12_areBounds 142 = .ok (.iload 6, 2) := by decide +kernel
theorem dX12_areBounds_144 : decode cX12_areBounds 144 = .ok (.ifCond .eq 7, 3) := by decide +kernel
theorem dX12_areBounds_147 : decode cX12_areBounds 147 = .ok (.iconst 1, 1) := by decide +kernel
theorem dX12_areBounds_148 : decode cX12_areBounds 148 = .ok (.goto 4, 3) := by decide +kernel
theorem dX12_areBounds_151 : decode cX12_areBounds 151 = .ok (.iconst 0, 1) := by decide +kernel
theorem dX12_areBounds_152 : decode cX12_areBounds 152 = .ok (.istore_n 3, 1) := by decide +kernel
theorem dX12_areBounds_153 : decode cX12_areBounds 153 = .ok (.iinc 4 1, 3) := by decide +kernel
theorem dX12_areBounds_156 : decode cX12_areBounds 156 = .ok (.goto (-151), 3) := by decide +kernel
theorem dX12_areBounds_159 : decode cX12_areBounds 159 = .ok (.iload_n 3, 1) := by decide +kernel
theorem dX12_areBounds_160 : decode cX12_areBounds 160 = .ok (.ireturn, 1) := by decide +kernel
abbrev rm_X12_areBounds : Room := { frames := 1, cells := 0, slots := 0, locals := 22 }
def w_X12_areBounds : List Cond := Cond.code yX12_areBounds cX12_areBounds 7 (some .boolean) :: uw
set_option maxHeartbeats 4000000 in
set_option maxRecDepth 100000 in
theorem c_X12_areBounds (l : Launch) (dC : Nat → ClassId) (dI : Nat → Nat → Nat) (cI cZ cO : ClassId) (tL sz : Nat) (h0 : Nat) (h1 : Nat) (g0_sheet : Nat) (g0_size : Nat) (g0_told : Nat) (g0_saved : Nat) (g0_saves : Nat) (g0_at : Nat) (g0_points : Nat) (g0_px : Nat) (g0_py : Nat) (g0_begins : Nat) (g0_begun : Nat) (g0_lines : Nat) (g0_lastX : Nat) (g0_lastY : Nat) (g0_startX : Nat) (g0_startY : Nat) (g0_startPoint : Nat) (g0_both : Nat) (g0_cut : Nat) (v0_wide : Int32) (v0_tall : Int32) (v0_good : Int32) (v0_faultPlace : Int32) (v0_made : Int32) (v0_fills : Int32) (v0_painted : Int32) (v0_other : Int32) (f1 : Nat → Int32) (p1 : Int32) (p2 : Int32) (res : Int32) (hM : m_X12_areBounds f1 p1 p2 = some res) : Met l yX12_areBounds w_X12_areBounds rm_X12_areBounds (PCx [.ref h0, .int p1, .int p2] (dC, dI) [(cI, .int), (cZ, .boolean), (cO, .object "ListPainter$Settings")] sz tL [(h0, .inr (11, [.int v0_wide, .int v0_tall, .ref g0_sheet, .ref h1, .ref g0_size, .int v0_good, .int v0_faultPlace, .int v0_made, .int v0_fills, .int v0_painted, .ref g0_told, .ref g0_saved, .ref g0_saves, .ref g0_at, .ref g0_points, .ref g0_px, .ref g0_py, .ref g0_begins, .ref g0_begun, .ref g0_lines, .ref g0_lastX, .ref g0_lastY, .ref g0_startX, .ref g0_startY, .ref g0_startPoint, .ref g0_both, .ref g0_cut, .int v0_other])), (h1, .inl (cI, 4500, .inl f1))]) (QMz res (dC, dI) [(cI, .int), (cZ, .boolean), (cO, .object "ListPainter$Settings")] (va_A [(h0, .inr (11, [.int v0_wide, .int v0_tall, .ref g0_sheet, .ref h1, .ref g0_size, .int v0_good, .int v0_faultPlace, .int v0_made, .int v0_fills, .int v0_painted, .ref g0_told, .ref g0_saved, .ref g0_saves, .ref g0_at, .ref g0_points, .ref g0_px, .ref g0_py, .ref g0_begins, .ref g0_begun, .ref g0_lines, .ref g0_lastX, .ref g0_lastY, .ref g0_startX, .ref g0_startY, .ref g0_startPoint, .ref g0_both, .ref g0_cut, .int v0_other])), (h1, .inl (cI, 4500, .inl f1))] sz) [(h0, .inr (11, [.int v0_wide, .int v0_tall, .ref g0_sheet, .ref h1, .ref g0_size, .int v0_good, .int v0_faultPlace, .int v0_made, .int v0_fills, .int v0_painted, .ref g0_told, .ref g0_saved, .ref g0_saves, .ref g0_at, .ref g0_points, .ref g0_px, .ref g0_py, .ref g0_begins, .ref g0_begun, .ref g0_lines, .ref g0_lastX, .ref g0_lastY, .ref g0_startX, .ref g0_startY, .ref g0_startPoint, .ref g0_both, .ref g0_cut, .int v0_other])), (h1, .inl (cI, 4500, .inl f1))]) 0 0 (va_A [(h0, .inr (11, [.int v0_wide, .int v0_tall, .ref g0_sheet, .ref h1, .ref g0_size, .int v0_good, .int v0_faultPlace, .int v0_made, .int v0_fills, .int v0_painted, .ref g0_told, .ref g0_saved, .ref g0_saves, .ref g0_at, .ref g0_points, .ref g0_px, .ref g0_py, .ref g0_begins, .ref g0_begun, .ref g0_lines, .ref g0_lastX, .ref g0_lastY, .ref g0_startX, .ref g0_startY, .ref g0_startPoint, .ref g0_both, .ref g0_cut, .int v0_other])), (h1, .inl (cI, 4500, .inl f1))] sz) := by
  refine Met.ofW (cc := cX12_areBounds) (maxL := 7) (ret := (some .boolean)) (by decide) rfl ?_
  intro p e s m args below meth c s₁ B hml hv
  obtain ⟨rfl, hsz, hP, hK, hD0, hG⟩ := hv
  have hx := B.exec
  have hb := B.bytes
  have hr := B.returns
  have hu : ∀ w ∈ uw, w.before ([.ref h0, .int p1, .int p2] : List Value).toArray s = true := fun w h => atoms_spec (ws := w_X12_areBounds) B.pre w (List.mem_cons_of_mem _ h)
  have hown : s.vm.findClass RX12 = some m.cls := findClass_of_methodNamed B.named
  have hlocks := B.notSynchronized
  subst hsz
  have hD := hD0.self (sz := s.heap.size)
  generalize hAe : va_A [(h0, .inr (11, [.int v0_wide, .int v0_tall, .ref g0_sheet, .ref h1, .ref g0_size, .int v0_good, .int v0_faultPlace, .int v0_made, .int v0_fills, .int v0_painted, .ref g0_told, .ref g0_saved, .ref g0_saves, .ref g0_at, .ref g0_points, .ref g0_px, .ref g0_py, .ref g0_begins, .ref g0_begun, .ref g0_lines, .ref g0_lastX, .ref g0_lastY, .ref g0_startX, .ref g0_startY, .ref g0_startPoint, .ref g0_both, .ref g0_cut, .int v0_other])), (h1, .inl (cI, 4500, .inl f1))] s.heap.size = A at hD hG ⊢
  have hA : ∀ q : Nat, s.heap.size ≤ q → A q := fun q h => by rw [← hAe]; exact Or.inr h
  have hS : va_S A s.heap s.heap [] := va_S.rf
  have hP : va_P (dC, dI) vwCl [(h0, .inr (11, [.int v0_wide, .int v0_tall, .ref g0_sheet, .ref h1, .ref g0_size, .int v0_good, .int v0_faultPlace, .int v0_made, .int v0_fills, .int v0_painted, .ref g0_told, .ref g0_saved, .ref g0_saves, .ref g0_at, .ref g0_points, .ref g0_px, .ref g0_py, .ref g0_begins, .ref g0_begun, .ref g0_lines, .ref g0_lastX, .ref g0_lastY, .ref g0_startX, .ref g0_startY, .ref g0_startPoint, .ref g0_both, .ref g0_cut, .int v0_other])), (h1, .inl (cI, 4500, .inl f1))] s.heap := hP
  have hl := lv_entry ([.ref h0, .int p1, .int p2]) (n := 7) (Nat.le_of_ble_eq_true rfl)
  rw [lg_entry_eq]
  generalize (lg_sl ([.ref h0, .int p1, .int p2]) ++ List.replicate (7 - (lg_sl ([.ref h0, .int p1, .int p2])).length) Slot.unset).toArray = ls at hl ⊢
  have hl : lv_has ls 7 [(0, .ref h0), (1, .int p1), (2, .int p2)] := hl
  rw [m_X12_areBounds] at hM
  suffices hgo : ∀ (H : Heap) (locs : List Loc), va_P (dC, dI) vwCl [(h0, .inr (11, [.int v0_wide, .int v0_tall, .ref g0_sheet, .ref h1, .ref g0_size, .int v0_good, .int v0_faultPlace, .int v0_made, .int v0_fills, .int v0_painted, .ref g0_told, .ref g0_saved, .ref g0_saves, .ref g0_at, .ref g0_points, .ref g0_px, .ref g0_py, .ref g0_begins, .ref g0_begun, .ref g0_lines, .ref g0_lastX, .ref g0_lastY, .ref g0_startX, .ref g0_startY, .ref g0_startPoint, .ref g0_both, .ref g0_cut, .int v0_other])), (h1, .inl (cI, 4500, .inl f1))] H → va_D A [(h0, .inr (11, [.int v0_wide, .int v0_tall, .ref g0_sheet, .ref h1, .ref g0_size, .int v0_good, .int v0_faultPlace, .int v0_made, .int v0_fills, .int v0_painted, .ref g0_told, .ref g0_saved, .ref g0_saves, .ref g0_at, .ref g0_points, .ref g0_px, .ref g0_py, .ref g0_begins, .ref g0_begun, .ref g0_lines, .ref g0_lastX, .ref g0_lastY, .ref g0_startX, .ref g0_startY, .ref g0_startPoint, .ref g0_both, .ref g0_cut, .int v0_other])), (h1, .inl (cI, 4500, .inl f1))] → va_S A s.heap H locs → W p l e (headSpec w_X12_areBounds rm_X12_areBounds).room s m ([.ref h0, .int p1, .int p2] : List Value).toArray below meth c H locs 0 0 (MQ below (QMz res (dC, dI) [(cI, .int), (cZ, .boolean), (cO, .object "ListPainter$Settings")] A [(h0, .inr (11, [.int v0_wide, .int v0_tall, .ref g0_sheet, .ref h1, .ref g0_size, .int v0_good, .int v0_faultPlace, .int v0_made, .int v0_fills, .int v0_painted, .ref g0_told, .ref g0_saved, .ref g0_saves, .ref g0_at, .ref g0_points, .ref g0_px, .ref g0_py, .ref g0_begins, .ref g0_begun, .ref g0_lines, .ref g0_lastX, .ref g0_lastY, .ref g0_startX, .ref g0_startY, .ref g0_startPoint, .ref g0_both, .ref g0_cut, .int v0_other])), (h1, .inl (cI, 4500, .inl f1))]) ([.ref h0, .int p1, .int p2] : List Value).toArray s 0 0 A) (F0 m 0 ls []) from hgo _ _ hP hD hS
  intro H locs hP hD hS
  refine lv_iconst (v := 1) hx hb dX12_areBounds_0 (by decide) ?_
  refine lv_istore_n (lv' := [(3, .int 1), (0, .ref h0), (1, .int p1), (2, .int p2)]) hx hb dX12_areBounds_1 rfl hl (by decide) rfl (fun ls hl => ?_)
  refine lv_iconst (v := 1) hx hb dX12_areBounds_2 (by decide) ?_
  refine lv_istore (lv' := [(4, .int 1), (3, .int 1), (0, .ref h0), (1, .int p1), (2, .int p2)]) hx hb dX12_areBounds_3 hl (by decide) rfl (fun ls hl => ?_)
  have hL5_3 : ∀ (n : Nat) (l3_1 : Int32) (l4_2 : Int32) , zb l3_1 → ∀ (H : Heap) (locs : List Loc) (ls : Array Slot), va_P (dC, dI) vwCl [(h0, .inr (11, [.int v0_wide, .int v0_tall, .ref g0_sheet, .ref h1, .ref g0_size, .int v0_good, .int v0_faultPlace, .int v0_made, .int v0_fills, .int v0_painted, .ref g0_told, .ref g0_saved, .ref g0_saves, .ref g0_at, .ref g0_points, .ref g0_px, .ref g0_py, .ref g0_begins, .ref g0_begun, .ref g0_lines, .ref g0_lastX, .ref g0_lastY, .ref g0_startX, .ref g0_startY, .ref g0_startPoint, .ref g0_both, .ref g0_cut, .int v0_other])), (h1, .inl (cI, 4500, .inl f1))] H → va_D A [(h0, .inr (11, [.int v0_wide, .int v0_tall, .ref g0_sheet, .ref h1, .ref g0_size, .int v0_good, .int v0_faultPlace, .int v0_made, .int v0_fills, .int v0_painted, .ref g0_told, .ref g0_saved, .ref g0_saves, .ref g0_at, .ref g0_points, .ref g0_px, .ref g0_py, .ref g0_begins, .ref g0_begun, .ref g0_lines, .ref g0_lastX, .ref g0_lastY, .ref g0_startX, .ref g0_startY, .ref g0_startPoint, .ref g0_both, .ref g0_cut, .int v0_other])), (h1, .inl (cI, 4500, .inl f1))] → va_S A s.heap H locs → lv_has ls 7 [(0, .ref h0), (1, .int p1), (2, .int p2), (3, .int l3_1), (4, .int l4_2)] → lp_X12_areBounds_5 p2 p1 f1 n l3_1 l4_2 = some res → W p l e (headSpec w_X12_areBounds rm_X12_areBounds).room s m ([.ref h0, .int p1, .int p2] : List Value).toArray below meth c H locs 0 0 (MQ below (QMz res (dC, dI) [(cI, .int), (cZ, .boolean), (cO, .object "ListPainter$Settings")] A [(h0, .inr (11, [.int v0_wide, .int v0_tall, .ref g0_sheet, .ref h1, .ref g0_size, .int v0_good, .int v0_faultPlace, .int v0_made, .int v0_fills, .int v0_painted, .ref g0_told, .ref g0_saved, .ref g0_saves, .ref g0_at, .ref g0_points, .ref g0_px, .ref g0_py, .ref g0_begins, .ref g0_begun, .ref g0_lines, .ref g0_lastX, .ref g0_lastY, .ref g0_startX, .ref g0_startY, .ref g0_startPoint, .ref g0_both, .ref g0_cut, .int v0_other])), (h1, .inl (cI, 4500, .inl f1))]) ([.ref h0, .int p1, .int p2] : List Value).toArray s 0 0 A) (F0 m 5 ls []) := by
    intro n
    induction n with
    | zero =>
      intro l3_1 l4_2 hz_l3_1 H locs ls hP hD hS hl hM
      rw [lp_X12_areBounds_5] at hM
      exact lp0 hM
    | succ n5_3 ih5_3 =>
      intro l3_1 l4_2 hz_l3_1 H locs ls hP hD hS hl hM
      rw [lp_X12_areBounds_5] at hM
      refine lv_iload hx hb dX12_areBounds_5 (lv_at hl 4 rfl) ?_
      refine lv_iload_n hx hb dX12_areBounds_7 rfl (lv_at hl 2 rfl) ?_
      obtain ⟨r_4, hm_5, hM⟩ := bd1_u hM
      refine cSi (r := r_4) (As := [.int p2]) (rest := [.int l4_2]) ⟨hx, hb, hml, hown, hu⟩ (c_X12_more l dC dI cI cZ cO tL H.size p2 r_4 hm_5) (va_cwS 1 hu (gS kw_259 kw_260 kw_253 kw_261) rfl rfl rfl (by decide +kernel) ⟨Nat.le_of_ble_eq_true rfl, Nat.le_of_ble_eq_true rfl⟩) hP hD hS hA hK hG [] (by decide) rfl [none, none] 0 rfl (by decide +kernel) rfl rfl hl.1 rfl (Nat.le_of_ble_eq_true rfl) dX12_areBounds_8 (Nat.zero_le _) (Nat.zero_le _) (fun H locs hP hD hS => ?_)
      have hP : va_P (dC, dI) vwCl [(h0, .inr (11, [.int v0_wide, .int v0_tall, .ref g0_sheet, .ref h1, .ref g0_size, .int v0_good, .int v0_faultPlace, .int v0_made, .int v0_fills, .int v0_painted, .ref g0_told, .ref g0_saved, .ref g0_saves, .ref g0_at, .ref g0_points, .ref g0_px, .ref g0_py, .ref g0_begins, .ref g0_begun, .ref g0_lines, .ref g0_lastX, .ref g0_lastY, .ref g0_startX, .ref g0_startY, .ref g0_startPoint, .ref g0_both, .ref g0_cut, .int v0_other])), (h1, .inl (cI, 4500, .inl f1))] H := hP
      have hD : va_D A [(h0, .inr (11, [.int v0_wide, .int v0_tall, .ref g0_sheet, .ref h1, .ref g0_size, .int v0_good, .int v0_faultPlace, .int v0_made, .int v0_fills, .int v0_painted, .ref g0_told, .ref g0_saved, .ref g0_saves, .ref g0_at, .ref g0_points, .ref g0_px, .ref g0_py, .ref g0_begins, .ref g0_begun, .ref g0_lines, .ref g0_lastX, .ref g0_lastY, .ref g0_startX, .ref g0_startY, .ref g0_startPoint, .ref g0_both, .ref g0_cut, .int v0_other])), (h1, .inl (cI, 4500, .inl f1))] := hD
      refine lv_icmp_gt (tgt := 159) hx hb dX12_areBounds_11 (by decide) (fun c_6 => ?_) (fun c_6 => ?_)
      · have hM := if_t c_6 hM
        refine lv_iload_n hx hb dX12_areBounds_159 rfl (lv_at hl 3 rfl) ?_
        have h9 := Option.some.inj hM
        subst h9
        exact W.zret (v := l3_1) hx hb hr (zb_n hz_l3_1) (fun t ht hW => QMz_mk hz_l3_1 (by rw [ht]; exact hP) (va_K.moved hW.alike hK) hD (hS.F ht)) hS.2.2 dX12_areBounds_160
      · have hM := if_f c_6 hM
        refine lv_aload_n hx hb dX12_areBounds_14 rfl (lv_at hl 0 rfl) ?_
        refine va_get (D := (dC, dI)) (ci := 11) (v := .ref h1) (C := RX12) (T := TX12) (N := 28) hx hb hu inX12 hown hK hP 0 rfl rfl 3 (by decide) (hu _ kw_249) (fun _ h9 => h9) rfl dX12_areBounds_15 ?_
        refine lv_iload_n hx hb dX12_areBounds_18 rfl (lv_at hl 1 rfl) ?_
        refine lv_iload hx hb dX12_areBounds_19 (lv_at hl 4 rfl) ?_
        refine lv_iadd hx hb dX12_areBounds_21 ?_
        obtain ⟨g_7, hM⟩ := gd_u hM
        refine va_iald hx hb hK hP 1 0 rfl rfl (inb_v g_7) dX12_areBounds_22 ?_
        refine lv_topi (fun a_8 ea_8 => ?_)
        have hM := nm_u ea_8 hM
        refine lv_istore (lv' := [(5, .int a_8), (0, .ref h0), (1, .int p1), (2, .int p2), (3, .int l3_1), (4, .int l4_2)]) hx hb dX12_areBounds_23 hl (by decide) rfl (fun ls hl => ?_)
        refine lv_iload_n hx hb dX12_areBounds_25 rfl (lv_at hl 3 rfl) ?_
        refine lv_iconst (v := 4) hx hb dX12_areBounds_26 (by decide) ?_
        obtain ⟨K136_10, eK136_10, hM⟩ := jn_u hM
        have hJ136_10 : ∀ (s0_9 : Int32) , zb s0_9 → ∀ (H : Heap) (locs : List Loc) (ls : Array Slot), va_P (dC, dI) vwCl [(h0, .inr (11, [.int v0_wide, .int v0_tall, .ref g0_sheet, .ref h1, .ref g0_size, .int v0_good, .int v0_faultPlace, .int v0_made, .int v0_fills, .int v0_painted, .ref g0_told, .ref g0_saved, .ref g0_saves, .ref g0_at, .ref g0_points, .ref g0_px, .ref g0_py, .ref g0_begins, .ref g0_begun, .ref g0_lines, .ref g0_lastX, .ref g0_lastY, .ref g0_startX, .ref g0_startY, .ref g0_startPoint, .ref g0_both, .ref g0_cut, .int v0_other])), (h1, .inl (cI, 4500, .inl f1))] H → va_D A [(h0, .inr (11, [.int v0_wide, .int v0_tall, .ref g0_sheet, .ref h1, .ref g0_size, .int v0_good, .int v0_faultPlace, .int v0_made, .int v0_fills, .int v0_painted, .ref g0_told, .ref g0_saved, .ref g0_saves, .ref g0_at, .ref g0_points, .ref g0_px, .ref g0_py, .ref g0_begins, .ref g0_begun, .ref g0_lines, .ref g0_lastX, .ref g0_lastY, .ref g0_startX, .ref g0_startY, .ref g0_startPoint, .ref g0_both, .ref g0_cut, .int v0_other])), (h1, .inl (cI, 4500, .inl f1))] → va_S A s.heap H locs → lv_has ls 7 [(0, .ref h0), (1, .int p1), (2, .int p2), (3, .int l3_1), (4, .int l4_2)] → K136_10 s0_9 = some res → W p l e (headSpec w_X12_areBounds rm_X12_areBounds).room s m ([.ref h0, .int p1, .int p2] : List Value).toArray below meth c H locs 0 0 (MQ below (QMz res (dC, dI) [(cI, .int), (cZ, .boolean), (cO, .object "ListPainter$Settings")] A [(h0, .inr (11, [.int v0_wide, .int v0_tall, .ref g0_sheet, .ref h1, .ref g0_size, .int v0_good, .int v0_faultPlace, .int v0_made, .int v0_fills, .int v0_painted, .ref g0_told, .ref g0_saved, .ref g0_saves, .ref g0_at, .ref g0_points, .ref g0_px, .ref g0_py, .ref g0_begins, .ref g0_begun, .ref g0_lines, .ref g0_lastX, .ref g0_lastY, .ref g0_startX, .ref g0_startY, .ref g0_startPoint, .ref g0_both, .ref g0_cut, .int v0_other])), (h1, .inl (cI, 4500, .inl f1))]) ([.ref h0, .int p1, .int p2] : List Value).toArray s 0 0 A) (F0 m 136 ls [.int s0_9]) := by
          intro s0_9 hz_s0_9 H locs ls hP hD hS hl hM
          have hM := ja1 eK136_10 hM
          refine lv_istore (lv' := [(6, .int s0_9), (0, .ref h0), (1, .int p1), (2, .int p2), (3, .int l3_1), (4, .int l4_2)]) hx hb dX12_areBounds_136 hl (by decide) rfl (fun ls hl => ?_)
          refine lv_iload_n hx hb dX12_areBounds_138 rfl (lv_at hl 4 rfl) ?_
          obtain ⟨K152_12, eK152_12, hM⟩ := jn_u hM
          have hJ152_12 : ∀ (s0_11 : Int32) , zb s0_11 → ∀ (H : Heap) (locs : List Loc) (ls : Array Slot), va_P (dC, dI) vwCl [(h0, .inr (11, [.int v0_wide, .int v0_tall, .ref g0_sheet, .ref h1, .ref g0_size, .int v0_good, .int v0_faultPlace, .int v0_made, .int v0_fills, .int v0_painted, .ref g0_told, .ref g0_saved, .ref g0_saves, .ref g0_at, .ref g0_points, .ref g0_px, .ref g0_py, .ref g0_begins, .ref g0_begun, .ref g0_lines, .ref g0_lastX, .ref g0_lastY, .ref g0_startX, .ref g0_startY, .ref g0_startPoint, .ref g0_both, .ref g0_cut, .int v0_other])), (h1, .inl (cI, 4500, .inl f1))] H → va_D A [(h0, .inr (11, [.int v0_wide, .int v0_tall, .ref g0_sheet, .ref h1, .ref g0_size, .int v0_good, .int v0_faultPlace, .int v0_made, .int v0_fills, .int v0_painted, .ref g0_told, .ref g0_saved, .ref g0_saves, .ref g0_at, .ref g0_points, .ref g0_px, .ref g0_py, .ref g0_begins, .ref g0_begun, .ref g0_lines, .ref g0_lastX, .ref g0_lastY, .ref g0_startX, .ref g0_startY, .ref g0_startPoint, .ref g0_both, .ref g0_cut, .int v0_other])), (h1, .inl (cI, 4500, .inl f1))] → va_S A s.heap H locs → lv_has ls 7 [(0, .ref h0), (1, .int p1), (2, .int p2), (4, .int l4_2)] → K152_12 s0_11 = some res → W p l e (headSpec w_X12_areBounds rm_X12_areBounds).room s m ([.ref h0, .int p1, .int p2] : List Value).toArray below meth c H locs 0 0 (MQ below (QMz res (dC, dI) [(cI, .int), (cZ, .boolean), (cO, .object "ListPainter$Settings")] A [(h0, .inr (11, [.int v0_wide, .int v0_tall, .ref g0_sheet, .ref h1, .ref g0_size, .int v0_good, .int v0_faultPlace, .int v0_made, .int v0_fills, .int v0_painted, .ref g0_told, .ref g0_saved, .ref g0_saves, .ref g0_at, .ref g0_points, .ref g0_px, .ref g0_py, .ref g0_begins, .ref g0_begun, .ref g0_lines, .ref g0_lastX, .ref g0_lastY, .ref g0_startX, .ref g0_startY, .ref g0_startPoint, .ref g0_both, .ref g0_cut, .int v0_other])), (h1, .inl (cI, 4500, .inl f1))]) ([.ref h0, .int p1, .int p2] : List Value).toArray s 0 0 A) (F0 m 152 ls [.int s0_11]) := by
            intro s0_11 hz_s0_11 H locs ls hP hD hS hl hM
            have hM := ja1 eK152_12 hM
            refine lv_istore_n (lv' := [(3, .int s0_11), (0, .ref h0), (1, .int p1), (2, .int p2), (4, .int l4_2)]) hx hb dX12_areBounds_152 rfl hl (by decide) rfl (fun ls hl => ?_)
            obtain ⟨x_13, ex_13⟩ : ∃ y : Int32, y = l4_2 + 1 := ⟨_, rfl⟩
            have hM := nm_u ex_13 hM
            refine lv_iinc (v := x_13) (lv' := [(4, .int x_13), (3, .int s0_11), (0, .ref h0), (1, .int p1), (2, .int p2)]) hx hb dX12_areBounds_153 hl (k := 4) rfl (by rw [ex_13]; rfl) (by decide) rfl (fun ls hl => ?_)
            refine lv_goto (tgt := 5) hx hb dX12_areBounds_156 (by decide) ?_
            exact ih5_3 s0_11 x_13 hz_s0_11 H locs ls hP hD hS (lv_sub hl [2, 3, 4, 1, 0] rfl) hM
          obtain ⟨K151_14, eK151_14, hM⟩ := jn_u hM
          have hJ151_14 : ∀ (H : Heap) (locs : List Loc) (ls : Array Slot), va_P (dC, dI) vwCl [(h0, .inr (11, [.int v0_wide, .int v0_tall, .ref g0_sheet, .ref h1, .ref g0_size, .int v0_good, .int v0_faultPlace, .int v0_made, .int v0_fills, .int v0_painted, .ref g0_told, .ref g0_saved, .ref g0_saves, .ref g0_at, .ref g0_points, .ref g0_px, .ref g0_py, .ref g0_begins, .ref g0_begun, .ref g0_lines, .ref g0_lastX, .ref g0_lastY, .ref g0_startX, .ref g0_startY, .ref g0_startPoint, .ref g0_both, .ref g0_cut, .int v0_other])), (h1, .inl (cI, 4500, .inl f1))] H → va_D A [(h0, .inr (11, [.int v0_wide, .int v0_tall, .ref g0_sheet, .ref h1, .ref g0_size, .int v0_good, .int v0_faultPlace, .int v0_made, .int v0_fills, .int v0_painted, .ref g0_told, .ref g0_saved, .ref g0_saves, .ref g0_at, .ref g0_points, .ref g0_px, .ref g0_py, .ref g0_begins, .ref g0_begun, .ref g0_lines, .ref g0_lastX, .ref g0_lastY, .ref g0_startX, .ref g0_startY, .ref g0_startPoint, .ref g0_both, .ref g0_cut, .int v0_other])), (h1, .inl (cI, 4500, .inl f1))] → va_S A s.heap H locs → lv_has ls 7 [(0, .ref h0), (1, .int p1), (2, .int p2), (4, .int l4_2)] → K151_14 = some res → W p l e (headSpec w_X12_areBounds rm_X12_areBounds).room s m ([.ref h0, .int p1, .int p2] : List Value).toArray below meth c H locs 0 0 (MQ below (QMz res (dC, dI) [(cI, .int), (cZ, .boolean), (cO, .object "ListPainter$Settings")] A [(h0, .inr (11, [.int v0_wide, .int v0_tall, .ref g0_sheet, .ref h1, .ref g0_size, .int v0_good, .int v0_faultPlace, .int v0_made, .int v0_fills, .int v0_painted, .ref g0_told, .ref g0_saved, .ref g0_saves, .ref g0_at, .ref g0_points, .ref g0_px, .ref g0_py, .ref g0_begins, .ref g0_begun, .ref g0_lines, .ref g0_lastX, .ref g0_lastY, .ref g0_startX, .ref g0_startY, .ref g0_startPoint, .ref g0_both, .ref g0_cut, .int v0_other])), (h1, .inl (cI, 4500, .inl f1))]) ([.ref h0, .int p1, .int p2] : List Value).toArray s 0 0 A) (F0 m 151 ls []) := by
            intro H locs ls hP hD hS hl hM
            have hM := ja0 eK151_14 hM
            refine lv_iconst (v := 0) hx hb dX12_areBounds_151 (by decide) ?_
            exact hJ152_12 0 (Or.inl rfl) H locs ls hP hD hS (lv_sub hl [0, 1, 2, 3] rfl) hM
          refine lv_if_eq (tgt := 151) hx hb dX12_areBounds_139 (by decide) (fun c_15 => ?_) (fun c_15 => ?_)
          · have hM := if_t c_15 hM
            exact hJ151_14  H locs ls hP hD hS (lv_sub hl [1, 2, 3, 5] rfl) hM
          · have hM := if_f c_15 hM
            refine lv_iload hx hb dX12_areBounds_142 (lv_at hl 0 rfl) ?_
            refine lv_if_eq (tgt := 151) hx hb dX12_areBounds_144 (by decide) (fun c_16 => ?_) (fun c_16 => ?_)
            · have hM := if_t c_16 hM
              exact hJ151_14  H locs ls hP hD hS (lv_sub hl [1, 2, 3, 5] rfl) hM
            · have hM := if_f c_16 hM
              refine lv_iconst (v := 1) hx hb dX12_areBounds_147 (by decide) ?_
              refine lv_goto (tgt := 152) hx hb dX12_areBounds_148 (by decide) ?_
              exact hJ152_12 1 (Or.inr rfl) H locs ls hP hD hS (lv_sub hl [1, 2, 3, 5] rfl) hM
        obtain ⟨K58_17, eK58_17, hM⟩ := jn_u hM
        have hJ58_17 : ∀ (H : Heap) (locs : List Loc) (ls : Array Slot), va_P (dC, dI) vwCl [(h0, .inr (11, [.int v0_wide, .int v0_tall, .ref g0_sheet, .ref h1, .ref g0_size, .int v0_good, .int v0_faultPlace, .int v0_made, .int v0_fills, .int v0_painted, .ref g0_told, .ref g0_saved, .ref g0_saves, .ref g0_at, .ref g0_points, .ref g0_px, .ref g0_py, .ref g0_begins, .ref g0_begun, .ref g0_lines, .ref g0_lastX, .ref g0_lastY, .ref g0_startX, .ref g0_startY, .ref g0_startPoint, .ref g0_both, .ref g0_cut, .int v0_other])), (h1, .inl (cI, 4500, .inl f1))] H → va_D A [(h0, .inr (11, [.int v0_wide, .int v0_tall, .ref g0_sheet, .ref h1, .ref g0_size, .int v0_good, .int v0_faultPlace, .int v0_made, .int v0_fills, .int v0_painted, .ref g0_told, .ref g0_saved, .ref g0_saves, .ref g0_at, .ref g0_points, .ref g0_px, .ref g0_py, .ref g0_begins, .ref g0_begun, .ref g0_lines, .ref g0_lastX, .ref g0_lastY, .ref g0_startX, .ref g0_startY, .ref g0_startPoint, .ref g0_both, .ref g0_cut, .int v0_other])), (h1, .inl (cI, 4500, .inl f1))] → va_S A s.heap H locs → lv_has ls 7 [(0, .ref h0), (1, .int p1), (2, .int p2), (3, .int l3_1), (4, .int l4_2), (5, .int a_8)] → K58_17 = some res → W p l e (headSpec w_X12_areBounds rm_X12_areBounds).room s m ([.ref h0, .int p1, .int p2] : List Value).toArray below meth c H locs 0 0 (MQ below (QMz res (dC, dI) [(cI, .int), (cZ, .boolean), (cO, .object "ListPainter$Settings")] A [(h0, .inr (11, [.int v0_wide, .int v0_tall, .ref g0_sheet, .ref h1, .ref g0_size, .int v0_good, .int v0_faultPlace, .int v0_made, .int v0_fills, .int v0_painted, .ref g0_told, .ref g0_saved, .ref g0_saves, .ref g0_at, .ref g0_points, .ref g0_px, .ref g0_py, .ref g0_begins, .ref g0_begun, .ref g0_lines, .ref g0_lastX, .ref g0_lastY, .ref g0_startX, .ref g0_startY, .ref g0_startPoint, .ref g0_both, .ref g0_cut, .int v0_other])), (h1, .inl (cI, 4500, .inl f1))]) ([.ref h0, .int p1, .int p2] : List Value).toArray s 0 0 A) (F0 m 58 ls []) := by
          intro H locs ls hP hD hS hl hM
          have hM := ja0 eK58_17 hM
          refine lv_iload_n hx hb dX12_areBounds_58 rfl (lv_at hl 2 rfl) ?_
          refine lv_bipush (v := 9) hx hb dX12_areBounds_59 (by decide) ?_
          refine lv_icmp_ne (tgt := 74) hx hb dX12_areBounds_61 (by decide) (fun c_18 => ?_) (fun c_18 => ?_)
          · have hM := if_f c_18 hM
            refine lv_iload_n hx hb dX12_areBounds_74 rfl (lv_at hl 2 rfl) ?_
            refine lv_bipush (v := 11) hx hb dX12_areBounds_75 (by decide) ?_
            refine lv_icmp_ne (tgt := 90) hx hb dX12_areBounds_77 (by decide) (fun c_19 => ?_) (fun c_19 => ?_)
            · have hM := if_f c_19 hM
              refine lv_iload_n hx hb dX12_areBounds_90 rfl (lv_at hl 2 rfl) ?_
              refine lv_bipush (v := 13) hx hb dX12_areBounds_91 (by decide) ?_
              refine lv_icmp_ne (tgt := 135) hx hb dX12_areBounds_93 (by decide) (fun c_20 => ?_) (fun c_20 => ?_)
              · have hM := if_f c_20 hM
                refine lv_iconst (v := 1) hx hb dX12_areBounds_135 (by decide) ?_
                exact hJ136_10 1 (Or.inr rfl) H locs ls hP hD hS (lv_sub hl [0, 1, 2, 3, 4] rfl) hM
              · have hM := if_t c_20 hM
                refine lv_iload hx hb dX12_areBounds_96 (lv_at hl 4 rfl) ?_
                refine lv_iconst (v := 3) hx hb dX12_areBounds_98 (by decide) ?_
                refine lv_icmp_ge (tgt := 124) hx hb dX12_areBounds_99 (by decide) (fun c_21 => ?_) (fun c_21 => ?_)
                · have hM := if_t c_21 hM
                  refine lv_iload hx hb dX12_areBounds_124 (lv_at hl 5 rfl) ?_
                  refine lv_iconst (v := 0) hx hb dX12_areBounds_126 (by decide) ?_
                  refine lv_ldc (v := 1000000) hx hb hown (hu _ kw_262) dX12_areBounds_127 ?_
                  obtain ⟨r_22, hm_23, hM⟩ := bd1_u hM
                  refine cSz (r := r_22) (As := [.int a_8, .int 0, .int 1000000]) (rest := []) ⟨hx, hb, hml, hown, hu⟩ (c_X12_within l dC dI cI cZ cO tL H.size a_8 0 1000000 r_22 hm_23) (va_cwS 3 hu (gS kw_263 kw_264 kw_253 kw_265) rfl rfl rfl (by decide +kernel) ⟨Nat.le_of_ble_eq_true rfl, Nat.le_of_ble_eq_true rfl⟩) hP hD hS hA hK hG [] (by decide) rfl [none, none] 0 rfl (by decide +kernel) rfl rfl hl.1 rfl (Nat.le_of_ble_eq_true rfl) dX12_areBounds_129 (Nat.zero_le _) (Nat.zero_le _) (fun H locs hz_r_22 hP hD hS => ?_)
                  have hP : va_P (dC, dI) vwCl [(h0, .inr (11, [.int v0_wide, .int v0_tall, .ref g0_sheet, .ref h1, .ref g0_size, .int v0_good, .int v0_faultPlace, .int v0_made, .int v0_fills, .int v0_painted, .ref g0_told, .ref g0_saved, .ref g0_saves, .ref g0_at, .ref g0_points, .ref g0_px, .ref g0_py, .ref g0_begins, .ref g0_begun, .ref g0_lines, .ref g0_lastX, .ref g0_lastY, .ref g0_startX, .ref g0_startY, .ref g0_startPoint, .ref g0_both, .ref g0_cut, .int v0_other])), (h1, .inl (cI, 4500, .inl f1))] H := hP
                  have hD : va_D A [(h0, .inr (11, [.int v0_wide, .int v0_tall, .ref g0_sheet, .ref h1, .ref g0_size, .int v0_good, .int v0_faultPlace, .int v0_made, .int v0_fills, .int v0_painted, .ref g0_told, .ref g0_saved, .ref g0_saves, .ref g0_at, .ref g0_points, .ref g0_px, .ref g0_py, .ref g0_begins, .ref g0_begun, .ref g0_lines, .ref g0_lastX, .ref g0_lastY, .ref g0_startX, .ref g0_startY, .ref g0_startPoint, .ref g0_both, .ref g0_cut, .int v0_other])), (h1, .inl (cI, 4500, .inl f1))] := hD
                  refine lv_goto (tgt := 136) hx hb dX12_areBounds_132 (by decide) ?_
                  exact hJ136_10 r_22 hz_r_22 H locs ls hP hD hS (lv_sub hl [0, 1, 2, 3, 4] rfl) hM
                · have hM := if_f c_21 hM
                  refine lv_iload hx hb dX12_areBounds_102 (lv_at hl 5 rfl) ?_
                  refine lv_ldc (v := (-1000000)) hx hb hown (hu _ kw_266) dX12_areBounds_104 ?_
                  obtain ⟨K120_24, eK120_24, hM⟩ := jn_u hM
                  have hJ120_24 : ∀ (H : Heap) (locs : List Loc) (ls : Array Slot), va_P (dC, dI) vwCl [(h0, .inr (11, [.int v0_wide, .int v0_tall, .ref g0_sheet, .ref h1, .ref g0_size, .int v0_good, .int v0_faultPlace, .int v0_made, .int v0_fills, .int v0_painted, .ref g0_told, .ref g0_saved, .ref g0_saves, .ref g0_at, .ref g0_points, .ref g0_px, .ref g0_py, .ref g0_begins, .ref g0_begun, .ref g0_lines, .ref g0_lastX, .ref g0_lastY, .ref g0_startX, .ref g0_startY, .ref g0_startPoint, .ref g0_both, .ref g0_cut, .int v0_other])), (h1, .inl (cI, 4500, .inl f1))] H → va_D A [(h0, .inr (11, [.int v0_wide, .int v0_tall, .ref g0_sheet, .ref h1, .ref g0_size, .int v0_good, .int v0_faultPlace, .int v0_made, .int v0_fills, .int v0_painted, .ref g0_told, .ref g0_saved, .ref g0_saves, .ref g0_at, .ref g0_points, .ref g0_px, .ref g0_py, .ref g0_begins, .ref g0_begun, .ref g0_lines, .ref g0_lastX, .ref g0_lastY, .ref g0_startX, .ref g0_startY, .ref g0_startPoint, .ref g0_both, .ref g0_cut, .int v0_other])), (h1, .inl (cI, 4500, .inl f1))] → va_S A s.heap H locs → lv_has ls 7 [(0, .ref h0), (1, .int p1), (2, .int p2), (3, .int l3_1), (4, .int l4_2)] → K120_24 = some res → W p l e (headSpec w_X12_areBounds rm_X12_areBounds).room s m ([.ref h0, .int p1, .int p2] : List Value).toArray below meth c H locs 0 0 (MQ below (QMz res (dC, dI) [(cI, .int), (cZ, .boolean), (cO, .object "ListPainter$Settings")] A [(h0, .inr (11, [.int v0_wide, .int v0_tall, .ref g0_sheet, .ref h1, .ref g0_size, .int v0_good, .int v0_faultPlace, .int v0_made, .int v0_fills, .int v0_painted, .ref g0_told, .ref g0_saved, .ref g0_saves, .ref g0_at, .ref g0_points, .ref g0_px, .ref g0_py, .ref g0_begins, .ref g0_begun, .ref g0_lines, .ref g0_lastX, .ref g0_lastY, .ref g0_startX, .ref g0_startY, .ref g0_startPoint, .ref g0_both, .ref g0_cut, .int v0_other])), (h1, .inl (cI, 4500, .inl f1))]) ([.ref h0, .int p1, .int p2] : List Value).toArray s 0 0 A) (F0 m 120 ls []) := by
                    intro H locs ls hP hD hS hl hM
                    have hM := ja0 eK120_24 hM
                    refine lv_iconst (v := 0) hx hb dX12_areBounds_120 (by decide) ?_
                    refine lv_goto (tgt := 136) hx hb dX12_areBounds_121 (by decide) ?_
                    exact hJ136_10 0 (Or.inl rfl) H locs ls hP hD hS (lv_sub hl [0, 1, 2, 3, 4] rfl) hM
                  refine lv_icmp_le (tgt := 120) hx hb dX12_areBounds_106 (by decide) (fun c_25 => ?_) (fun c_25 => ?_)
                  · have hM := if_t c_25 hM
                    exact hJ120_24  H locs ls hP hD hS (lv_sub hl [0, 1, 2, 3, 4] rfl) hM
                  · have hM := if_f c_25 hM
                    refine lv_iload hx hb dX12_areBounds_109 (lv_at hl 5 rfl) ?_
                    refine lv_ldc (v := 1000000) hx hb hown (hu _ kw_262) dX12_areBounds_111 ?_
                    refine lv_icmp_ge (tgt := 120) hx hb dX12_areBounds_113 (by decide) (fun c_26 => ?_) (fun c_26 => ?_)
                    · have hM := if_t c_26 hM
                      exact hJ120_24  H locs ls hP hD hS (lv_sub hl [0, 1, 2, 3, 4] rfl) hM
                    · have hM := if_f c_26 hM
                      refine lv_iconst (v := 1) hx hb dX12_areBounds_116 (by decide) ?_
                      refine lv_goto (tgt := 136) hx hb dX12_areBounds_117 (by decide) ?_
                      exact hJ136_10 1 (Or.inr rfl) H locs ls hP hD hS (lv_sub hl [0, 1, 2, 3, 4] rfl) hM
            · have hM := if_t c_19 hM
              refine lv_iload hx hb dX12_areBounds_80 (lv_at hl 5 rfl) ?_
              refine lv_iconst (v := 0) hx hb dX12_areBounds_82 (by decide) ?_
              refine lv_iconst (v := 4) hx hb dX12_areBounds_83 (by decide) ?_
              obtain ⟨r_27, hm_28, hM⟩ := bd1_u hM
              refine cSz (r := r_27) (As := [.int a_8, .int 0, .int 4]) (rest := []) ⟨hx, hb, hml, hown, hu⟩ (c_X12_within l dC dI cI cZ cO tL H.size a_8 0 4 r_27 hm_28) (va_cwS 3 hu (gS kw_263 kw_264 kw_253 kw_265) rfl rfl rfl (by decide +kernel) ⟨Nat.le_of_ble_eq_true rfl, Nat.le_of_ble_eq_true rfl⟩) hP hD hS hA hK hG [] (by decide) rfl [none, none] 0 rfl (by decide +kernel) rfl rfl hl.1 rfl (Nat.le_of_ble_eq_true rfl) dX12_areBounds_84 (Nat.zero_le _) (Nat.zero_le _) (fun H locs hz_r_27 hP hD hS => ?_)
              have hP : va_P (dC, dI) vwCl [(h0, .inr (11, [.int v0_wide, .int v0_tall, .ref g0_sheet, .ref h1, .ref g0_size, .int v0_good, .int v0_faultPlace, .int v0_made, .int v0_fills, .int v0_painted, .ref g0_told, .ref g0_saved, .ref g0_saves, .ref g0_at, .ref g0_points, .ref g0_px, .ref g0_py, .ref g0_begins, .ref g0_begun, .ref g0_lines, .ref g0_lastX, .ref g0_lastY, .ref g0_startX, .ref g0_startY, .ref g0_startPoint, .ref g0_both, .ref g0_cut, .int v0_other])), (h1, .inl (cI, 4500, .inl f1))] H := hP
              have hD : va_D A [(h0, .inr (11, [.int v0_wide, .int v0_tall, .ref g0_sheet, .ref h1, .ref g0_size, .int v0_good, .int v0_faultPlace, .int v0_made, .int v0_fills, .int v0_painted, .ref g0_told, .ref g0_saved, .ref g0_saves, .ref g0_at, .ref g0_points, .ref g0_px, .ref g0_py, .ref g0_begins, .ref g0_begun, .ref g0_lines, .ref g0_lastX, .ref g0_lastY, .ref g0_startX, .ref g0_startY, .ref g0_startPoint, .ref g0_both, .ref g0_cut, .int v0_other])), (h1, .inl (cI, 4500, .inl f1))] := hD
              refine lv_goto (tgt := 136) hx hb dX12_areBounds_87 (by decide) ?_
              exact hJ136_10 r_27 hz_r_27 H locs ls hP hD hS (lv_sub hl [0, 1, 2, 3, 4] rfl) hM
          · have hM := if_t c_18 hM
            refine lv_iload hx hb dX12_areBounds_64 (lv_at hl 5 rfl) ?_
            refine lv_iconst (v := 0) hx hb dX12_areBounds_66 (by decide) ?_
            refine lv_iconst (v := 1) hx hb dX12_areBounds_67 (by decide) ?_
            obtain ⟨r_29, hm_30, hM⟩ := bd1_u hM
            refine cSz (r := r_29) (As := [.int a_8, .int 0, .int 1]) (rest := []) ⟨hx, hb, hml, hown, hu⟩ (c_X12_within l dC dI cI cZ cO tL H.size a_8 0 1 r_29 hm_30) (va_cwS 3 hu (gS kw_263 kw_264 kw_253 kw_265) rfl rfl rfl (by decide +kernel) ⟨Nat.le_of_ble_eq_true rfl, Nat.le_of_ble_eq_true rfl⟩) hP hD hS hA hK hG [] (by decide) rfl [none, none] 0 rfl (by decide +kernel) rfl rfl hl.1 rfl (Nat.le_of_ble_eq_true rfl) dX12_areBounds_68 (Nat.zero_le _) (Nat.zero_le _) (fun H locs hz_r_29 hP hD hS => ?_)
            have hP : va_P (dC, dI) vwCl [(h0, .inr (11, [.int v0_wide, .int v0_tall, .ref g0_sheet, .ref h1, .ref g0_size, .int v0_good, .int v0_faultPlace, .int v0_made, .int v0_fills, .int v0_painted, .ref g0_told, .ref g0_saved, .ref g0_saves, .ref g0_at, .ref g0_points, .ref g0_px, .ref g0_py, .ref g0_begins, .ref g0_begun, .ref g0_lines, .ref g0_lastX, .ref g0_lastY, .ref g0_startX, .ref g0_startY, .ref g0_startPoint, .ref g0_both, .ref g0_cut, .int v0_other])), (h1, .inl (cI, 4500, .inl f1))] H := hP
            have hD : va_D A [(h0, .inr (11, [.int v0_wide, .int v0_tall, .ref g0_sheet, .ref h1, .ref g0_size, .int v0_good, .int v0_faultPlace, .int v0_made, .int v0_fills, .int v0_painted, .ref g0_told, .ref g0_saved, .ref g0_saves, .ref g0_at, .ref g0_points, .ref g0_px, .ref g0_py, .ref g0_begins, .ref g0_begun, .ref g0_lines, .ref g0_lastX, .ref g0_lastY, .ref g0_startX, .ref g0_startY, .ref g0_startPoint, .ref g0_both, .ref g0_cut, .int v0_other])), (h1, .inl (cI, 4500, .inl f1))] := hD
            refine lv_goto (tgt := 136) hx hb dX12_areBounds_71 (by decide) ?_
            exact hJ136_10 r_29 hz_r_29 H locs ls hP hD hS (lv_sub hl [0, 1, 2, 3, 4] rfl) hM
        refine lv_icmp_lt (tgt := 58) hx hb dX12_areBounds_27 (by decide) (fun c_31 => ?_) (fun c_31 => ?_)
        · have hM := if_t c_31 hM
          exact hJ58_17  H locs ls hP hD hS (lv_sub hl [1, 2, 3, 4, 5, 0] rfl) hM
        · have hM := if_f c_31 hM
          refine lv_iload_n hx hb dX12_areBounds_30 rfl (lv_at hl 3 rfl) ?_
          refine lv_bipush (v := 8) hx hb dX12_areBounds_31 (by decide) ?_
          refine lv_icmp_gt (tgt := 58) hx hb dX12_areBounds_33 (by decide) (fun c_32 => ?_) (fun c_32 => ?_)
          · have hM := if_t c_32 hM
            exact hJ58_17  H locs ls hP hD hS (lv_sub hl [1, 2, 3, 4, 5, 0] rfl) hM
          · have hM := if_f c_32 hM
            refine lv_iload hx hb dX12_areBounds_36 (lv_at hl 0 rfl) ?_
            refine lv_ldc (v := (-67108864)) hx hb hown (hu _ kw_267) dX12_areBounds_38 ?_
            obtain ⟨K54_33, eK54_33, hM⟩ := jn_u hM
            have hJ54_33 : ∀ (H : Heap) (locs : List Loc) (ls : Array Slot), va_P (dC, dI) vwCl [(h0, .inr (11, [.int v0_wide, .int v0_tall, .ref g0_sheet, .ref h1, .ref g0_size, .int v0_good, .int v0_faultPlace, .int v0_made, .int v0_fills, .int v0_painted, .ref g0_told, .ref g0_saved, .ref g0_saves, .ref g0_at, .ref g0_points, .ref g0_px, .ref g0_py, .ref g0_begins, .ref g0_begun, .ref g0_lines, .ref g0_lastX, .ref g0_lastY, .ref g0_startX, .ref g0_startY, .ref g0_startPoint, .ref g0_both, .ref g0_cut, .int v0_other])), (h1, .inl (cI, 4500, .inl f1))] H → va_D A [(h0, .inr (11, [.int v0_wide, .int v0_tall, .ref g0_sheet, .ref h1, .ref g0_size, .int v0_good, .int v0_faultPlace, .int v0_made, .int v0_fills, .int v0_painted, .ref g0_told, .ref g0_saved, .ref g0_saves, .ref g0_at, .ref g0_points, .ref g0_px, .ref g0_py, .ref g0_begins, .ref g0_begun, .ref g0_lines, .ref g0_lastX, .ref g0_lastY, .ref g0_startX, .ref g0_startY, .ref g0_startPoint, .ref g0_both, .ref g0_cut, .int v0_other])), (h1, .inl (cI, 4500, .inl f1))] → va_S A s.heap H locs → lv_has ls 7 [(0, .ref h0), (1, .int p1), (2, .int p2), (3, .int l3_1), (4, .int l4_2)] → K54_33 = some res → W p l e (headSpec w_X12_areBounds rm_X12_areBounds).room s m ([.ref h0, .int p1, .int p2] : List Value).toArray below meth c H locs 0 0 (MQ below (QMz res (dC, dI) [(cI, .int), (cZ, .boolean), (cO, .object "ListPainter$Settings")] A [(h0, .inr (11, [.int v0_wide, .int v0_tall, .ref g0_sheet, .ref h1, .ref g0_size, .int v0_good, .int v0_faultPlace, .int v0_made, .int v0_fills, .int v0_painted, .ref g0_told, .ref g0_saved, .ref g0_saves, .ref g0_at, .ref g0_points, .ref g0_px, .ref g0_py, .ref g0_begins, .ref g0_begun, .ref g0_lines, .ref g0_lastX, .ref g0_lastY, .ref g0_startX, .ref g0_startY, .ref g0_startPoint, .ref g0_both, .ref g0_cut, .int v0_other])), (h1, .inl (cI, 4500, .inl f1))]) ([.ref h0, .int p1, .int p2] : List Value).toArray s 0 0 A) (F0 m 54 ls []) := by
              intro H locs ls hP hD hS hl hM
              have hM := ja0 eK54_33 hM
              refine lv_iconst (v := 0) hx hb dX12_areBounds_54 (by decide) ?_
              refine lv_goto (tgt := 136) hx hb dX12_areBounds_55 (by decide) ?_
              exact hJ136_10 0 (Or.inl rfl) H locs ls hP hD hS (lv_sub hl [0, 1, 2, 3, 4] rfl) hM
            refine lv_icmp_le (tgt := 54) hx hb dX12_areBounds_40 (by decide) (fun c_34 => ?_) (fun c_34 => ?_)
            · have hM := if_t c_34 hM
              exact hJ54_33  H locs ls hP hD hS (lv_sub hl [1, 2, 3, 4, 5] rfl) hM
            · have hM := if_f c_34 hM
              refine lv_iload hx hb dX12_areBounds_43 (lv_at hl 0 rfl) ?_
              refine lv_ldc (v := 67108864) hx hb hown (hu _ kw_268) dX12_areBounds_45 ?_
              refine lv_icmp_ge (tgt := 54) hx hb dX12_areBounds_47 (by decide) (fun c_35 => ?_) (fun c_35 => ?_)
              · have hM := if_t c_35 hM
                exact hJ54_33  H locs ls hP hD hS (lv_sub hl [1, 2, 3, 4, 5] rfl) hM
              · have hM := if_f c_35 hM
                refine lv_iconst (v := 1) hx hb dX12_areBounds_50 (by decide) ?_
                refine lv_goto (tgt := 136) hx hb dX12_areBounds_51 (by decide) ?_
                exact hJ136_10 1 (Or.inr rfl) H locs ls hP hD hS (lv_sub hl [1, 2, 3, 4, 5] rfl) hM
  exact hL5_3 FU 1 1 (Or.inr rfl) H locs ls hP hD hS (lv_sub hl [2, 3, 4, 1, 0] rfl) hM
theorem dX12_plain_0 : decode cX12_plain 0 = .ok (.iconst 0, 1) := by decide +kernel
theorem dX12_plain_1 : decode cX12_plain 1 = .ok (.istore_n 2, 1) := by decide +kernel
theorem dX12_plain_2 : decode cX12_plain 2 = .ok (.iload_n 2, 1) := by decide +kernel
theorem dX12_plain_3 : decode cX12_plain 3 = .ok (.bipush 6, 2) := by decide +kernel
theorem dX12_plain_5 : decode cX12_plain 5 = .ok (.if_icmp .ge 35, 3) := by decide +kernel
theorem dX12_plain_8 : decode cX12_plain 8 = .ok (.aload_n 0, 1) := by decide +kernel
theorem dX12_plain_9 : decode cX12_plain 9 = .ok (.getfield 23, 3) := by decide +kernel
theorem dX12_plain_12 : decode cX12_plain 12 = .ok (.bipush 12, 2) := by decide +kernel
theorem dX12_plain_14 : decode cX12_plain 14 = .ok (.iload_n 1, 1) := by decide +kernel
theorem dX12_plain_15 : decode cX12_plain 15 = .ok (.imul, 1) := by decide +kernel
theorem dX12_plain_16 : decode cX12_plain 16 = .ok (.iload_n 2, 1) := by decide +kernel
theorem dX12_plain_17 : decode cX12_plain 17 = .ok (.iadd, 1) := by decide +kernel
theorem dX12_plain_18 : decode cX12_plain 18 = .ok (.iload_n 2, 1) := by decide +kernel
theorem dX12_plain_19 : decode cX12_plain 19 = .ok (.ifCond .eq 8, 3) := by decide +kernel
theorem dX12_plain_22 : decode cX12_plain 22 = .ok (.iload_n 2, 1) := by decide +kernel
theorem dX12_plain_23 : decode cX12_plain 23 = .ok (.iconst 3, 1) := by decide +kernel
theorem dX12_plain_24 : decode cX12_plain 24 = .ok (.if_icmp .ne 8, 3) := by decide +kernel
theorem dX12_plain_27 : decode cX12_plain 27 = .ok (.ldc 123, 2) := by decide +kernel
theorem dX12_plain_29 : decode cX12_plain 29 = .ok (.goto 4, 3) := by decide +kernel
theorem dX12_plain_32 : decode cX12_plain 32 = .ok (.iconst 0, 1) := by decide +kernel
theorem dX12_plain_33 : decode cX12_plain 33 = .ok (.iastore, 1) := by decide +kernel
theorem dX12_plain_34 : decode cX12_plain 34 = .ok (.iinc 2 1, 3) := by decide +kernel
theorem dX12_plain_37 : decode cX12_plain 37 = .ok (.goto (-35), 3) := by decide +kernel
theorem dX12_plain_40 : decode cX12_plain 40 = .ok (.return_, 1) := by decide +kernel
abbrev rm_X12_plain : Room := { frames := 0, cells := 0, slots := 0, locals := 0 }
def w_X12_plain : List Cond := Cond.code yX12_plain cX12_plain 3 none :: uw
set_option maxHeartbeats 4000000 in
set_option maxRecDepth 100000 in
theorem c_X12_plain (l : Launch) (dC : Nat → ClassId) (dI : Nat → Nat → Nat) (cI cZ cO : ClassId) (tL sz : Nat) (h0 : Nat) (h1 : Nat) (g0_sheet : Nat) (g0_words : Nat) (g0_size : Nat) (g0_saved : Nat) (g0_saves : Nat) (g0_at : Nat) (g0_points : Nat) (g0_px : Nat) (g0_py : Nat) (g0_begins : Nat) (g0_begun : Nat) (g0_lines : Nat) (g0_lastX : Nat) (g0_lastY : Nat) (g0_startX : Nat) (g0_startY : Nat) (g0_startPoint : Nat) (g0_both : Nat) (g0_cut : Nat) (v0_wide : Int32) (v0_tall : Int32) (v0_good : Int32) (v0_faultPlace : Int32) (v0_made : Int32) (v0_fills : Int32) (v0_painted : Int32) (v0_other : Int32) (f1 : Nat → Int32) (p1 : Int32) (res : (Nat → Int32)) (hM : m_X12_plain f1 p1 = some res) : Met l yX12_plain w_X12_plain rm_X12_plain (PCx [.ref h0, .int p1] (dC, dI) [(cI, .int), (cZ, .boolean), (cO, .object "ListPainter$Settings")] sz tL [(h0, .inr (11, [.int v0_wide, .int v0_tall, .ref g0_sheet, .ref g0_words, .ref g0_size, .int v0_good, .int v0_faultPlace, .int v0_made, .int v0_fills, .int v0_painted, .ref h1, .ref g0_saved, .ref g0_saves, .ref g0_at, .ref g0_points, .ref g0_px, .ref g0_py, .ref g0_begins, .ref g0_begun, .ref g0_lines, .ref g0_lastX, .ref g0_lastY, .ref g0_startX, .ref g0_startY, .ref g0_startPoint, .ref g0_both, .ref g0_cut, .int v0_other])), (h1, .inl (cI, 24, .inl f1))]) (QMv (dC, dI) [(cI, .int), (cZ, .boolean), (cO, .object "ListPainter$Settings")] (va_A [(h0, .inr (11, [.int v0_wide, .int v0_tall, .ref g0_sheet, .ref g0_words, .ref g0_size, .int v0_good, .int v0_faultPlace, .int v0_made, .int v0_fills, .int v0_painted, .ref h1, .ref g0_saved, .ref g0_saves, .ref g0_at, .ref g0_points, .ref g0_px, .ref g0_py, .ref g0_begins, .ref g0_begun, .ref g0_lines, .ref g0_lastX, .ref g0_lastY, .ref g0_startX, .ref g0_startY, .ref g0_startPoint, .ref g0_both, .ref g0_cut, .int v0_other])), (h1, .inl (cI, 24, .inl f1))] sz) [(h0, .inr (11, [.int v0_wide, .int v0_tall, .ref g0_sheet, .ref g0_words, .ref g0_size, .int v0_good, .int v0_faultPlace, .int v0_made, .int v0_fills, .int v0_painted, .ref h1, .ref g0_saved, .ref g0_saves, .ref g0_at, .ref g0_points, .ref g0_px, .ref g0_py, .ref g0_begins, .ref g0_begun, .ref g0_lines, .ref g0_lastX, .ref g0_lastY, .ref g0_startX, .ref g0_startY, .ref g0_startPoint, .ref g0_both, .ref g0_cut, .int v0_other])), (h1, .inl (cI, 24, .inl res))]) 0 0 (va_A [(h0, .inr (11, [.int v0_wide, .int v0_tall, .ref g0_sheet, .ref g0_words, .ref g0_size, .int v0_good, .int v0_faultPlace, .int v0_made, .int v0_fills, .int v0_painted, .ref h1, .ref g0_saved, .ref g0_saves, .ref g0_at, .ref g0_points, .ref g0_px, .ref g0_py, .ref g0_begins, .ref g0_begun, .ref g0_lines, .ref g0_lastX, .ref g0_lastY, .ref g0_startX, .ref g0_startY, .ref g0_startPoint, .ref g0_both, .ref g0_cut, .int v0_other])), (h1, .inl (cI, 24, .inl f1))] sz) := by
  refine Met.ofW (cc := cX12_plain) (maxL := 3) (ret := none) (by decide) rfl ?_
  intro p e s m args below meth c s₁ B hml hv
  obtain ⟨rfl, hsz, hP, hK, hD0, hG⟩ := hv
  have hx := B.exec
  have hb := B.bytes
  have hr := B.returns
  have hu : ∀ w ∈ uw, w.before ([.ref h0, .int p1] : List Value).toArray s = true := fun w h => atoms_spec (ws := w_X12_plain) B.pre w (List.mem_cons_of_mem _ h)
  have hown : s.vm.findClass RX12 = some m.cls := findClass_of_methodNamed B.named
  have hlocks := B.notSynchronized
  subst hsz
  have hD := hD0.self (sz := s.heap.size)
  generalize hAe : va_A [(h0, .inr (11, [.int v0_wide, .int v0_tall, .ref g0_sheet, .ref g0_words, .ref g0_size, .int v0_good, .int v0_faultPlace, .int v0_made, .int v0_fills, .int v0_painted, .ref h1, .ref g0_saved, .ref g0_saves, .ref g0_at, .ref g0_points, .ref g0_px, .ref g0_py, .ref g0_begins, .ref g0_begun, .ref g0_lines, .ref g0_lastX, .ref g0_lastY, .ref g0_startX, .ref g0_startY, .ref g0_startPoint, .ref g0_both, .ref g0_cut, .int v0_other])), (h1, .inl (cI, 24, .inl f1))] s.heap.size = A at hD hG ⊢
  have hA : ∀ q : Nat, s.heap.size ≤ q → A q := fun q h => by rw [← hAe]; exact Or.inr h
  have hS : va_S A s.heap s.heap [] := va_S.rf
  have hP : va_P (dC, dI) vwCl [(h0, .inr (11, [.int v0_wide, .int v0_tall, .ref g0_sheet, .ref g0_words, .ref g0_size, .int v0_good, .int v0_faultPlace, .int v0_made, .int v0_fills, .int v0_painted, .ref h1, .ref g0_saved, .ref g0_saves, .ref g0_at, .ref g0_points, .ref g0_px, .ref g0_py, .ref g0_begins, .ref g0_begun, .ref g0_lines, .ref g0_lastX, .ref g0_lastY, .ref g0_startX, .ref g0_startY, .ref g0_startPoint, .ref g0_both, .ref g0_cut, .int v0_other])), (h1, .inl (cI, 24, .inl f1))] s.heap := hP
  have hl := lv_entry ([.ref h0, .int p1]) (n := 3) (Nat.le_of_ble_eq_true rfl)
  rw [lg_entry_eq]
  generalize (lg_sl ([.ref h0, .int p1]) ++ List.replicate (3 - (lg_sl ([.ref h0, .int p1])).length) Slot.unset).toArray = ls at hl ⊢
  have hl : lv_has ls 3 [(0, .ref h0), (1, .int p1)] := hl
  rw [m_X12_plain] at hM
  suffices hgo : ∀ (H : Heap) (locs : List Loc), va_P (dC, dI) vwCl [(h0, .inr (11, [.int v0_wide, .int v0_tall, .ref g0_sheet, .ref g0_words, .ref g0_size, .int v0_good, .int v0_faultPlace, .int v0_made, .int v0_fills, .int v0_painted, .ref h1, .ref g0_saved, .ref g0_saves, .ref g0_at, .ref g0_points, .ref g0_px, .ref g0_py, .ref g0_begins, .ref g0_begun, .ref g0_lines, .ref g0_lastX, .ref g0_lastY, .ref g0_startX, .ref g0_startY, .ref g0_startPoint, .ref g0_both, .ref g0_cut, .int v0_other])), (h1, .inl (cI, 24, .inl f1))] H → va_D A [(h0, .inr (11, [.int v0_wide, .int v0_tall, .ref g0_sheet, .ref g0_words, .ref g0_size, .int v0_good, .int v0_faultPlace, .int v0_made, .int v0_fills, .int v0_painted, .ref h1, .ref g0_saved, .ref g0_saves, .ref g0_at, .ref g0_points, .ref g0_px, .ref g0_py, .ref g0_begins, .ref g0_begun, .ref g0_lines, .ref g0_lastX, .ref g0_lastY, .ref g0_startX, .ref g0_startY, .ref g0_startPoint, .ref g0_both, .ref g0_cut, .int v0_other])), (h1, .inl (cI, 24, .inl f1))] → va_S A s.heap H locs → W p l e (headSpec w_X12_plain rm_X12_plain).room s m ([.ref h0, .int p1] : List Value).toArray below meth c H locs 0 0 (MQ below (QMv (dC, dI) [(cI, .int), (cZ, .boolean), (cO, .object "ListPainter$Settings")] A [(h0, .inr (11, [.int v0_wide, .int v0_tall, .ref g0_sheet, .ref g0_words, .ref g0_size, .int v0_good, .int v0_faultPlace, .int v0_made, .int v0_fills, .int v0_painted, .ref h1, .ref g0_saved, .ref g0_saves, .ref g0_at, .ref g0_points, .ref g0_px, .ref g0_py, .ref g0_begins, .ref g0_begun, .ref g0_lines, .ref g0_lastX, .ref g0_lastY, .ref g0_startX, .ref g0_startY, .ref g0_startPoint, .ref g0_both, .ref g0_cut, .int v0_other])), (h1, .inl (cI, 24, .inl res))]) ([.ref h0, .int p1] : List Value).toArray s 0 0 A) (F0 m 0 ls []) from hgo _ _ hP hD hS
  intro H locs hP hD hS
  refine lv_iconst (v := 0) hx hb dX12_plain_0 (by decide) ?_
  refine lv_istore_n (lv' := [(2, .int 0), (0, .ref h0), (1, .int p1)]) hx hb dX12_plain_1 rfl hl (by decide) rfl (fun ls hl => ?_)
  have hL2_3 : ∀ (n : Nat) (l2_1 : Int32) (f1_2 : Nat → Int32) , ∀ (H : Heap) (locs : List Loc) (ls : Array Slot), va_P (dC, dI) vwCl [(h0, .inr (11, [.int v0_wide, .int v0_tall, .ref g0_sheet, .ref g0_words, .ref g0_size, .int v0_good, .int v0_faultPlace, .int v0_made, .int v0_fills, .int v0_painted, .ref h1, .ref g0_saved, .ref g0_saves, .ref g0_at, .ref g0_points, .ref g0_px, .ref g0_py, .ref g0_begins, .ref g0_begun, .ref g0_lines, .ref g0_lastX, .ref g0_lastY, .ref g0_startX, .ref g0_startY, .ref g0_startPoint, .ref g0_both, .ref g0_cut, .int v0_other])), (h1, .inl (cI, 24, .inl f1_2))] H → va_D A [(h0, .inr (11, [.int v0_wide, .int v0_tall, .ref g0_sheet, .ref g0_words, .ref g0_size, .int v0_good, .int v0_faultPlace, .int v0_made, .int v0_fills, .int v0_painted, .ref h1, .ref g0_saved, .ref g0_saves, .ref g0_at, .ref g0_points, .ref g0_px, .ref g0_py, .ref g0_begins, .ref g0_begun, .ref g0_lines, .ref g0_lastX, .ref g0_lastY, .ref g0_startX, .ref g0_startY, .ref g0_startPoint, .ref g0_both, .ref g0_cut, .int v0_other])), (h1, .inl (cI, 24, .inl f1_2))] → va_S A s.heap H locs → lv_has ls 3 [(0, .ref h0), (1, .int p1), (2, .int l2_1)] → lp_X12_plain_2 p1 n l2_1 f1_2 = some res → W p l e (headSpec w_X12_plain rm_X12_plain).room s m ([.ref h0, .int p1] : List Value).toArray below meth c H locs 0 0 (MQ below (QMv (dC, dI) [(cI, .int), (cZ, .boolean), (cO, .object "ListPainter$Settings")] A [(h0, .inr (11, [.int v0_wide, .int v0_tall, .ref g0_sheet, .ref g0_words, .ref g0_size, .int v0_good, .int v0_faultPlace, .int v0_made, .int v0_fills, .int v0_painted, .ref h1, .ref g0_saved, .ref g0_saves, .ref g0_at, .ref g0_points, .ref g0_px, .ref g0_py, .ref g0_begins, .ref g0_begun, .ref g0_lines, .ref g0_lastX, .ref g0_lastY, .ref g0_startX, .ref g0_startY, .ref g0_startPoint, .ref g0_both, .ref g0_cut, .int v0_other])), (h1, .inl (cI, 24, .inl res))]) ([.ref h0, .int p1] : List Value).toArray s 0 0 A) (F0 m 2 ls []) := by
    intro n
    induction n with
    | zero =>
      intro l2_1 f1_2 H locs ls hP hD hS hl hM
      rw [lp_X12_plain_2] at hM
      exact lp0 hM
    | succ n2_3 ih2_3 =>
      intro l2_1 f1_2 H locs ls hP hD hS hl hM
      rw [lp_X12_plain_2] at hM
      refine lv_iload_n hx hb dX12_plain_2 rfl (lv_at hl 2 rfl) ?_
      refine lv_bipush (v := 6) hx hb dX12_plain_3 (by decide) ?_
      refine lv_icmp_ge (tgt := 40) hx hb dX12_plain_5 (by decide) (fun c_4 => ?_) (fun c_4 => ?_)
      · have hM := if_t c_4 hM
        have h9 := Option.some.inj hM
        subst h9
        exact W.vret hx hb hr (fun t ht hW => QMv_mk (by rw [ht]; exact hP) (va_K.moved hW.alike hK) hD (hS.F ht)) hS.2.2 dX12_plain_40
      · have hM := if_f c_4 hM
        refine lv_aload_n hx hb dX12_plain_8 rfl (lv_at hl 0 rfl) ?_
        refine va_get (D := (dC, dI)) (ci := 11) (v := .ref h1) (C := RX12) (T := TX12) (N := 28) hx hb hu inX12 hown hK hP 0 rfl rfl 10 (by decide) (hu _ kw_269) (fun _ h9 => h9) rfl dX12_plain_9 ?_
        refine lv_bipush (v := 12) hx hb dX12_plain_12 (by decide) ?_
        refine lv_iload_n hx hb dX12_plain_14 rfl (lv_at hl 1 rfl) ?_
        refine lv_imul hx hb dX12_plain_15 ?_
        refine lv_iload_n hx hb dX12_plain_16 rfl (lv_at hl 2 rfl) ?_
        refine lv_iadd hx hb dX12_plain_17 ?_
        refine lv_iload_n hx hb dX12_plain_18 rfl (lv_at hl 2 rfl) ?_
        obtain ⟨K33_6, eK33_6, hM⟩ := jn_u hM
        have hJ33_6 : ∀ (s2_5 : Int32) , ∀ (H : Heap) (locs : List Loc) (ls : Array Slot), va_P (dC, dI) vwCl [(h0, .inr (11, [.int v0_wide, .int v0_tall, .ref g0_sheet, .ref g0_words, .ref g0_size, .int v0_good, .int v0_faultPlace, .int v0_made, .int v0_fills, .int v0_painted, .ref h1, .ref g0_saved, .ref g0_saves, .ref g0_at, .ref g0_points, .ref g0_px, .ref g0_py, .ref g0_begins, .ref g0_begun, .ref g0_lines, .ref g0_lastX, .ref g0_lastY, .ref g0_startX, .ref g0_startY, .ref g0_startPoint, .ref g0_both, .ref g0_cut, .int v0_other])), (h1, .inl (cI, 24, .inl f1_2))] H → va_D A [(h0, .inr (11, [.int v0_wide, .int v0_tall, .ref g0_sheet, .ref g0_words, .ref g0_size, .int v0_good, .int v0_faultPlace, .int v0_made, .int v0_fills, .int v0_painted, .ref h1, .ref g0_saved, .ref g0_saves, .ref g0_at, .ref g0_points, .ref g0_px, .ref g0_py, .ref g0_begins, .ref g0_begun, .ref g0_lines, .ref g0_lastX, .ref g0_lastY, .ref g0_startX, .ref g0_startY, .ref g0_startPoint, .ref g0_both, .ref g0_cut, .int v0_other])), (h1, .inl (cI, 24, .inl f1_2))] → va_S A s.heap H locs → lv_has ls 3 [(0, .ref h0), (1, .int p1), (2, .int l2_1)] → K33_6 s2_5 = some res → W p l e (headSpec w_X12_plain rm_X12_plain).room s m ([.ref h0, .int p1] : List Value).toArray below meth c H locs 0 0 (MQ below (QMv (dC, dI) [(cI, .int), (cZ, .boolean), (cO, .object "ListPainter$Settings")] A [(h0, .inr (11, [.int v0_wide, .int v0_tall, .ref g0_sheet, .ref g0_words, .ref g0_size, .int v0_good, .int v0_faultPlace, .int v0_made, .int v0_fills, .int v0_painted, .ref h1, .ref g0_saved, .ref g0_saves, .ref g0_at, .ref g0_points, .ref g0_px, .ref g0_py, .ref g0_begins, .ref g0_begun, .ref g0_lines, .ref g0_lastX, .ref g0_lastY, .ref g0_startX, .ref g0_startY, .ref g0_startPoint, .ref g0_both, .ref g0_cut, .int v0_other])), (h1, .inl (cI, 24, .inl res))]) ([.ref h0, .int p1] : List Value).toArray s 0 0 A) (F0 m 33 ls [.int s2_5, .int ((12 * p1) + l2_1), .ref h1]) := by
          intro s2_5 H locs ls hP hD hS hl hM
          have hM := ja1 eK33_6 hM
          obtain ⟨g_7, hM⟩ := gd_u hM
          refine va_iast hx hb hK hP hD hS 1 0 rfl rfl (inb_v g_7) dX12_plain_33 (fun H locs hP hD hS => ?_)
          obtain ⟨f1_8, ef1_8⟩ : ∃ g : Nat → Int32, g = upd f1_2 (((12 * p1) + l2_1) : Int32).toNatClampNeg s2_5 := ⟨_, rfl⟩
          have hM := nm_u ef1_8 hM
          have hP : va_P (dC, dI) vwCl [(h0, .inr (11, [.int v0_wide, .int v0_tall, .ref g0_sheet, .ref g0_words, .ref g0_size, .int v0_good, .int v0_faultPlace, .int v0_made, .int v0_fills, .int v0_painted, .ref h1, .ref g0_saved, .ref g0_saves, .ref g0_at, .ref g0_points, .ref g0_px, .ref g0_py, .ref g0_begins, .ref g0_begun, .ref g0_lines, .ref g0_lastX, .ref g0_lastY, .ref g0_startX, .ref g0_startY, .ref g0_startPoint, .ref g0_both, .ref g0_cut, .int v0_other])), (h1, .inl (cI, 24, .inl f1_8))] H := by rw [ef1_8]; exact hP
          have hD : va_D A [(h0, .inr (11, [.int v0_wide, .int v0_tall, .ref g0_sheet, .ref g0_words, .ref g0_size, .int v0_good, .int v0_faultPlace, .int v0_made, .int v0_fills, .int v0_painted, .ref h1, .ref g0_saved, .ref g0_saves, .ref g0_at, .ref g0_points, .ref g0_px, .ref g0_py, .ref g0_begins, .ref g0_begun, .ref g0_lines, .ref g0_lastX, .ref g0_lastY, .ref g0_startX, .ref g0_startY, .ref g0_startPoint, .ref g0_both, .ref g0_cut, .int v0_other])), (h1, .inl (cI, 24, .inl f1_8))] := by rw [ef1_8]; exact hD
          obtain ⟨x_9, ex_9⟩ : ∃ y : Int32, y = l2_1 + 1 := ⟨_, rfl⟩
          have hM := nm_u ex_9 hM
          refine lv_iinc (v := x_9) (lv' := [(2, .int x_9), (0, .ref h0), (1, .int p1)]) hx hb dX12_plain_34 hl (k := 2) rfl (by rw [ex_9]; rfl) (by decide) rfl (fun ls hl => ?_)
          refine lv_goto (tgt := 2) hx hb dX12_plain_37 (by decide) ?_
          exact ih2_3 x_9 f1_8 H locs ls hP hD hS (lv_sub hl [1, 2, 0] rfl) hM
        obtain ⟨K27_10, eK27_10, hM⟩ := jn_u hM
        have hJ27_10 : ∀ (H : Heap) (locs : List Loc) (ls : Array Slot), va_P (dC, dI) vwCl [(h0, .inr (11, [.int v0_wide, .int v0_tall, .ref g0_sheet, .ref g0_words, .ref g0_size, .int v0_good, .int v0_faultPlace, .int v0_made, .int v0_fills, .int v0_painted, .ref h1, .ref g0_saved, .ref g0_saves, .ref g0_at, .ref g0_points, .ref g0_px, .ref g0_py, .ref g0_begins, .ref g0_begun, .ref g0_lines, .ref g0_lastX, .ref g0_lastY, .ref g0_startX, .ref g0_startY, .ref g0_startPoint, .ref g0_both, .ref g0_cut, .int v0_other])), (h1, .inl (cI, 24, .inl f1_2))] H → va_D A [(h0, .inr (11, [.int v0_wide, .int v0_tall, .ref g0_sheet, .ref g0_words, .ref g0_size, .int v0_good, .int v0_faultPlace, .int v0_made, .int v0_fills, .int v0_painted, .ref h1, .ref g0_saved, .ref g0_saves, .ref g0_at, .ref g0_points, .ref g0_px, .ref g0_py, .ref g0_begins, .ref g0_begun, .ref g0_lines, .ref g0_lastX, .ref g0_lastY, .ref g0_startX, .ref g0_startY, .ref g0_startPoint, .ref g0_both, .ref g0_cut, .int v0_other])), (h1, .inl (cI, 24, .inl f1_2))] → va_S A s.heap H locs → lv_has ls 3 [(0, .ref h0), (1, .int p1), (2, .int l2_1)] → K27_10 = some res → W p l e (headSpec w_X12_plain rm_X12_plain).room s m ([.ref h0, .int p1] : List Value).toArray below meth c H locs 0 0 (MQ below (QMv (dC, dI) [(cI, .int), (cZ, .boolean), (cO, .object "ListPainter$Settings")] A [(h0, .inr (11, [.int v0_wide, .int v0_tall, .ref g0_sheet, .ref g0_words, .ref g0_size, .int v0_good, .int v0_faultPlace, .int v0_made, .int v0_fills, .int v0_painted, .ref h1, .ref g0_saved, .ref g0_saves, .ref g0_at, .ref g0_points, .ref g0_px, .ref g0_py, .ref g0_begins, .ref g0_begun, .ref g0_lines, .ref g0_lastX, .ref g0_lastY, .ref g0_startX, .ref g0_startY, .ref g0_startPoint, .ref g0_both, .ref g0_cut, .int v0_other])), (h1, .inl (cI, 24, .inl res))]) ([.ref h0, .int p1] : List Value).toArray s 0 0 A) (F0 m 27 ls [.int ((12 * p1) + l2_1), .ref h1]) := by
          intro H locs ls hP hD hS hl hM
          have hM := ja0 eK27_10 hM
          refine lv_ldc (v := 65536) hx hb hown (hu _ kw_270) dX12_plain_27 ?_
          refine lv_goto (tgt := 33) hx hb dX12_plain_29 (by decide) ?_
          exact hJ33_6 65536 H locs ls hP hD hS (lv_sub hl [0, 1, 2] rfl) hM
        refine lv_if_eq (tgt := 27) hx hb dX12_plain_19 (by decide) (fun c_11 => ?_) (fun c_11 => ?_)
        · have hM := if_t c_11 hM
          exact hJ27_10  H locs ls hP hD hS (lv_sub hl [0, 1, 2] rfl) hM
        · have hM := if_f c_11 hM
          refine lv_iload_n hx hb dX12_plain_22 rfl (lv_at hl 2 rfl) ?_
          refine lv_iconst (v := 3) hx hb dX12_plain_23 (by decide) ?_
          refine lv_icmp_ne (tgt := 32) hx hb dX12_plain_24 (by decide) (fun c_12 => ?_) (fun c_12 => ?_)
          · have hM := if_f c_12 hM
            refine lv_iconst (v := 0) hx hb dX12_plain_32 (by decide) ?_
            exact hJ33_6 0 H locs ls hP hD hS (lv_sub hl [0, 1, 2] rfl) hM
          · have hM := if_t c_12 hM
            exact hJ27_10  H locs ls hP hD hS (lv_sub hl [0, 1, 2] rfl) hM
  exact hL2_3 FU 0 f1 H locs ls hP hD hS (lv_sub hl [1, 2, 0] rfl) hM
theorem dX12_noPath_0 : decode cX12_noPath 0 = .ok (.aload_n 0, 1) := by decide +kernel
theorem dX12_noPath_1 : decode cX12_noPath 1 = .ok (.getfield 35, 3) := by decide +kernel
theorem dX12_noPath_4 : decode cX12_noPath 4 = .ok (.iload_n 1, 1) := by decide +kernel
theorem dX12_noPath_5 : decode cX12_noPath 5 = .ok (.iconst 0, 1) := by decide +kernel
theorem dX12_noPath_6 : decode cX12_noPath 6 = .ok (.iastore, 1) := by decide +kernel
theorem dX12_noPath_7 : decode cX12_noPath 7 = .ok (.aload_n 0, 1) := by decide +kernel
theorem dX12_noPath_8 : decode cX12_noPath 8 = .ok (.getfield 48, 3) := by decide +kernel
theorem dX12_noPath_11 : decode cX12_noPath 11 = .ok (.iload_n 1, 1) := by decide +kernel
theorem dX12_noPath_12 : decode cX12_noPath 12 = .ok (.iconst 0, 1) := by decide +kernel
theorem dX12_noPath_13 : decode cX12_noPath 13 = .ok (.bastore, 1) := by decide +kernel
theorem dX12_noPath_14 : decode cX12_noPath 14 = .ok (.aload_n 0, 1) := by decide +kernel
theorem dX12_noPath_15 : decode cX12_noPath 15 = .ok (.getfield 51, 3) := by decide +kernel
theorem dX12_noPath_18 : decode cX12_noPath 18 = .ok (.iload_n 1, 1) := by decide +kernel
theorem dX12_noPath_19 : decode cX12_noPath 19 = .ok (.iconst 0, 1) := by decide +kernel
theorem dX12_noPath_20 : decode cX12_noPath 20 = .ok (.iastore, 1) := by decide +kernel
theorem dX12_noPath_21 : decode cX12_noPath 21 = .ok (.return_, 1) := by decide +kernel
abbrev rm_X12_noPath : Room := { frames := 0, cells := 0, slots := 0, locals := 0 }
def w_X12_noPath : List Cond := Cond.code yX12_noPath cX12_noPath 2 none :: uw
set_option maxHeartbeats 4000000 in
set_option maxRecDepth 100000 in
theorem c_X12_noPath (l : Launch) (dC : Nat → ClassId) (dI : Nat → Nat → Nat) (cI cZ cO : ClassId) (tL sz : Nat) (h0 : Nat) (h1 : Nat) (h2 : Nat) (h3 : Nat) (g0_sheet : Nat) (g0_words : Nat) (g0_size : Nat) (g0_told : Nat) (g0_saved : Nat) (g0_saves : Nat) (g0_at : Nat) (g0_px : Nat) (g0_py : Nat) (g0_begins : Nat) (g0_lastX : Nat) (g0_lastY : Nat) (g0_startX : Nat) (g0_startY : Nat) (g0_startPoint : Nat) (g0_both : Nat) (g0_cut : Nat) (v0_wide : Int32) (v0_tall : Int32) (v0_good : Int32) (v0_faultPlace : Int32) (v0_made : Int32) (v0_fills : Int32) (v0_painted : Int32) (v0_other : Int32) (f1 : Nat → Int32) (f2 : Nat → Int32) (f3 : Nat → Int32) (p1 : Int32) (res : (Nat → Int32) × (Nat → Int32) × (Nat → Int32)) (hM : m_X12_noPath f1 f2 f3 p1 = some res) : Met l yX12_noPath w_X12_noPath rm_X12_noPath (PCx [.ref h0, .int p1] (dC, dI) [(cI, .int), (cZ, .boolean), (cO, .object "ListPainter$Settings")] sz tL [(h0, .inr (11, [.int v0_wide, .int v0_tall, .ref g0_sheet, .ref g0_words, .ref g0_size, .int v0_good, .int v0_faultPlace, .int v0_made, .int v0_fills, .int v0_painted, .ref g0_told, .ref g0_saved, .ref g0_saves, .ref g0_at, .ref h1, .ref g0_px, .ref g0_py, .ref g0_begins, .ref h2, .ref h3, .ref g0_lastX, .ref g0_lastY, .ref g0_startX, .ref g0_startY, .ref g0_startPoint, .ref g0_both, .ref g0_cut, .int v0_other])), (h1, .inl (cI, 2, .inl f1)), (h2, .inl (cZ, 2, .inl f2)), (h3, .inl (cI, 2, .inl f3))]) (QMv (dC, dI) [(cI, .int), (cZ, .boolean), (cO, .object "ListPainter$Settings")] (va_A [(h0, .inr (11, [.int v0_wide, .int v0_tall, .ref g0_sheet, .ref g0_words, .ref g0_size, .int v0_good, .int v0_faultPlace, .int v0_made, .int v0_fills, .int v0_painted, .ref g0_told, .ref g0_saved, .ref g0_saves, .ref g0_at, .ref h1, .ref g0_px, .ref g0_py, .ref g0_begins, .ref h2, .ref h3, .ref g0_lastX, .ref g0_lastY, .ref g0_startX, .ref g0_startY, .ref g0_startPoint, .ref g0_both, .ref g0_cut, .int v0_other])), (h1, .inl (cI, 2, .inl f1)), (h2, .inl (cZ, 2, .inl f2)), (h3, .inl (cI, 2, .inl f3))] sz) [(h0, .inr (11, [.int v0_wide, .int v0_tall, .ref g0_sheet, .ref g0_words, .ref g0_size, .int v0_good, .int v0_faultPlace, .int v0_made, .int v0_fills, .int v0_painted, .ref g0_told, .ref g0_saved, .ref g0_saves, .ref g0_at, .ref h1, .ref g0_px, .ref g0_py, .ref g0_begins, .ref h2, .ref h3, .ref g0_lastX, .ref g0_lastY, .ref g0_startX, .ref g0_startY, .ref g0_startPoint, .ref g0_both, .ref g0_cut, .int v0_other])), (h1, .inl (cI, 2, .inl (res.1))), (h2, .inl (cZ, 2, .inl (res.2.1))), (h3, .inl (cI, 2, .inl (res.2.2)))]) 0 0 (va_A [(h0, .inr (11, [.int v0_wide, .int v0_tall, .ref g0_sheet, .ref g0_words, .ref g0_size, .int v0_good, .int v0_faultPlace, .int v0_made, .int v0_fills, .int v0_painted, .ref g0_told, .ref g0_saved, .ref g0_saves, .ref g0_at, .ref h1, .ref g0_px, .ref g0_py, .ref g0_begins, .ref h2, .ref h3, .ref g0_lastX, .ref g0_lastY, .ref g0_startX, .ref g0_startY, .ref g0_startPoint, .ref g0_both, .ref g0_cut, .int v0_other])), (h1, .inl (cI, 2, .inl f1)), (h2, .inl (cZ, 2, .inl f2)), (h3, .inl (cI, 2, .inl f3))] sz) := by
  refine Met.ofW (cc := cX12_noPath) (maxL := 2) (ret := none) (by decide) rfl ?_
  intro p e s m args below meth c s₁ B hml hv
  obtain ⟨rfl, hsz, hP, hK, hD0, hG⟩ := hv
  have hx := B.exec
  have hb := B.bytes
  have hr := B.returns
  have hu : ∀ w ∈ uw, w.before ([.ref h0, .int p1] : List Value).toArray s = true := fun w h => atoms_spec (ws := w_X12_noPath) B.pre w (List.mem_cons_of_mem _ h)
  have hown : s.vm.findClass RX12 = some m.cls := findClass_of_methodNamed B.named
  have hlocks := B.notSynchronized
  subst hsz
  have hD := hD0.self (sz := s.heap.size)
  generalize hAe : va_A [(h0, .inr (11, [.int v0_wide, .int v0_tall, .ref g0_sheet, .ref g0_words, .ref g0_size, .int v0_good, .int v0_faultPlace, .int v0_made, .int v0_fills, .int v0_painted, .ref g0_told, .ref g0_saved, .ref g0_saves, .ref g0_at, .ref h1, .ref g0_px, .ref g0_py, .ref g0_begins, .ref h2, .ref h3, .ref g0_lastX, .ref g0_lastY, .ref g0_startX, .ref g0_startY, .ref g0_startPoint, .ref g0_both, .ref g0_cut, .int v0_other])), (h1, .inl (cI, 2, .inl f1)), (h2, .inl (cZ, 2, .inl f2)), (h3, .inl (cI, 2, .inl f3))] s.heap.size = A at hD hG ⊢
  have hA : ∀ q : Nat, s.heap.size ≤ q → A q := fun q h => by rw [← hAe]; exact Or.inr h
  have hS : va_S A s.heap s.heap [] := va_S.rf
  have hP : va_P (dC, dI) vwCl [(h0, .inr (11, [.int v0_wide, .int v0_tall, .ref g0_sheet, .ref g0_words, .ref g0_size, .int v0_good, .int v0_faultPlace, .int v0_made, .int v0_fills, .int v0_painted, .ref g0_told, .ref g0_saved, .ref g0_saves, .ref g0_at, .ref h1, .ref g0_px, .ref g0_py, .ref g0_begins, .ref h2, .ref h3, .ref g0_lastX, .ref g0_lastY, .ref g0_startX, .ref g0_startY, .ref g0_startPoint, .ref g0_both, .ref g0_cut, .int v0_other])), (h1, .inl (cI, 2, .inl f1)), (h2, .inl (cZ, 2, .inl f2)), (h3, .inl (cI, 2, .inl f3))] s.heap := hP
  have hl := lv_entry ([.ref h0, .int p1]) (n := 2) (Nat.le_of_ble_eq_true rfl)
  rw [lg_entry_eq]
  generalize (lg_sl ([.ref h0, .int p1]) ++ List.replicate (2 - (lg_sl ([.ref h0, .int p1])).length) Slot.unset).toArray = ls at hl ⊢
  have hl : lv_has ls 2 [(0, .ref h0), (1, .int p1)] := hl
  rw [m_X12_noPath] at hM
  suffices hgo : ∀ (H : Heap) (locs : List Loc), va_P (dC, dI) vwCl [(h0, .inr (11, [.int v0_wide, .int v0_tall, .ref g0_sheet, .ref g0_words, .ref g0_size, .int v0_good, .int v0_faultPlace, .int v0_made, .int v0_fills, .int v0_painted, .ref g0_told, .ref g0_saved, .ref g0_saves, .ref g0_at, .ref h1, .ref g0_px, .ref g0_py, .ref g0_begins, .ref h2, .ref h3, .ref g0_lastX, .ref g0_lastY, .ref g0_startX, .ref g0_startY, .ref g0_startPoint, .ref g0_both, .ref g0_cut, .int v0_other])), (h1, .inl (cI, 2, .inl f1)), (h2, .inl (cZ, 2, .inl f2)), (h3, .inl (cI, 2, .inl f3))] H → va_D A [(h0, .inr (11, [.int v0_wide, .int v0_tall, .ref g0_sheet, .ref g0_words, .ref g0_size, .int v0_good, .int v0_faultPlace, .int v0_made, .int v0_fills, .int v0_painted, .ref g0_told, .ref g0_saved, .ref g0_saves, .ref g0_at, .ref h1, .ref g0_px, .ref g0_py, .ref g0_begins, .ref h2, .ref h3, .ref g0_lastX, .ref g0_lastY, .ref g0_startX, .ref g0_startY, .ref g0_startPoint, .ref g0_both, .ref g0_cut, .int v0_other])), (h1, .inl (cI, 2, .inl f1)), (h2, .inl (cZ, 2, .inl f2)), (h3, .inl (cI, 2, .inl f3))] → va_S A s.heap H locs → W p l e (headSpec w_X12_noPath rm_X12_noPath).room s m ([.ref h0, .int p1] : List Value).toArray below meth c H locs 0 0 (MQ below (QMv (dC, dI) [(cI, .int), (cZ, .boolean), (cO, .object "ListPainter$Settings")] A [(h0, .inr (11, [.int v0_wide, .int v0_tall, .ref g0_sheet, .ref g0_words, .ref g0_size, .int v0_good, .int v0_faultPlace, .int v0_made, .int v0_fills, .int v0_painted, .ref g0_told, .ref g0_saved, .ref g0_saves, .ref g0_at, .ref h1, .ref g0_px, .ref g0_py, .ref g0_begins, .ref h2, .ref h3, .ref g0_lastX, .ref g0_lastY, .ref g0_startX, .ref g0_startY, .ref g0_startPoint, .ref g0_both, .ref g0_cut, .int v0_other])), (h1, .inl (cI, 2, .inl (res.1))), (h2, .inl (cZ, 2, .inl (res.2.1))), (h3, .inl (cI, 2, .inl (res.2.2)))]) ([.ref h0, .int p1] : List Value).toArray s 0 0 A) (F0 m 0 ls []) from hgo _ _ hP hD hS
  intro H locs hP hD hS
  refine lv_aload_n hx hb dX12_noPath_0 rfl (lv_at hl 0 rfl) ?_
  refine va_get (D := (dC, dI)) (ci := 11) (v := .ref h1) (C := RX12) (T := TX12) (N := 28) hx hb hu inX12 hown hK hP 0 rfl rfl 14 (by decide) (hu _ kw_271) (fun _ h9 => h9) rfl dX12_noPath_1 ?_
  refine lv_iload_n hx hb dX12_noPath_4 rfl (lv_at hl 1 rfl) ?_
  refine lv_iconst (v := 0) hx hb dX12_noPath_5 (by decide) ?_
  obtain ⟨g_1, hM⟩ := gd_u hM
  refine va_iast hx hb hK hP hD hS 1 0 rfl rfl (inb_v g_1) dX12_noPath_6 (fun H locs hP hD hS => ?_)
  obtain ⟨f1_2, ef1_2⟩ : ∃ g : Nat → Int32, g = upd f1 (p1 : Int32).toNatClampNeg 0 := ⟨_, rfl⟩
  have hM := nm_u ef1_2 hM
  have hP : va_P (dC, dI) vwCl [(h0, .inr (11, [.int v0_wide, .int v0_tall, .ref g0_sheet, .ref g0_words, .ref g0_size, .int v0_good, .int v0_faultPlace, .int v0_made, .int v0_fills, .int v0_painted, .ref g0_told, .ref g0_saved, .ref g0_saves, .ref g0_at, .ref h1, .ref g0_px, .ref g0_py, .ref g0_begins, .ref h2, .ref h3, .ref g0_lastX, .ref g0_lastY, .ref g0_startX, .ref g0_startY, .ref g0_startPoint, .ref g0_both, .ref g0_cut, .int v0_other])), (h1, .inl (cI, 2, .inl f1_2)), (h2, .inl (cZ, 2, .inl f2)), (h3, .inl (cI, 2, .inl f3))] H := by rw [ef1_2]; exact hP
  have hD : va_D A [(h0, .inr (11, [.int v0_wide, .int v0_tall, .ref g0_sheet, .ref g0_words, .ref g0_size, .int v0_good, .int v0_faultPlace, .int v0_made, .int v0_fills, .int v0_painted, .ref g0_told, .ref g0_saved, .ref g0_saves, .ref g0_at, .ref h1, .ref g0_px, .ref g0_py, .ref g0_begins, .ref h2, .ref h3, .ref g0_lastX, .ref g0_lastY, .ref g0_startX, .ref g0_startY, .ref g0_startPoint, .ref g0_both, .ref g0_cut, .int v0_other])), (h1, .inl (cI, 2, .inl f1_2)), (h2, .inl (cZ, 2, .inl f2)), (h3, .inl (cI, 2, .inl f3))] := by rw [ef1_2]; exact hD
  refine lv_aload_n hx hb dX12_noPath_7 rfl (lv_at hl 0 rfl) ?_
  refine va_get (D := (dC, dI)) (ci := 11) (v := .ref h2) (C := RX12) (T := TX12) (N := 28) hx hb hu inX12 hown hK hP 0 rfl rfl 18 (by decide) (hu _ kw_272) (fun _ h9 => h9) rfl dX12_noPath_8 ?_
  refine lv_iload_n hx hb dX12_noPath_11 rfl (lv_at hl 1 rfl) ?_
  refine lv_iconst (v := 0) hx hb dX12_noPath_12 (by decide) ?_
  obtain ⟨g_3, hM⟩ := gd_u hM
  refine va_zast hx hb hK hP hD hS 2 1 rfl rfl (inb_v g_3) dX12_noPath_13 (fun H locs hP hD hS => ?_)
  obtain ⟨f2_4, ef2_4⟩ : ∃ g : Nat → Int32, g = upd f2 (p1 : Int32).toNatClampNeg (vp_nar .boolean 0) := ⟨_, rfl⟩
  have hM := nm_u ef2_4 hM
  have hP : va_P (dC, dI) vwCl [(h0, .inr (11, [.int v0_wide, .int v0_tall, .ref g0_sheet, .ref g0_words, .ref g0_size, .int v0_good, .int v0_faultPlace, .int v0_made, .int v0_fills, .int v0_painted, .ref g0_told, .ref g0_saved, .ref g0_saves, .ref g0_at, .ref h1, .ref g0_px, .ref g0_py, .ref g0_begins, .ref h2, .ref h3, .ref g0_lastX, .ref g0_lastY, .ref g0_startX, .ref g0_startY, .ref g0_startPoint, .ref g0_both, .ref g0_cut, .int v0_other])), (h1, .inl (cI, 2, .inl f1_2)), (h2, .inl (cZ, 2, .inl f2_4)), (h3, .inl (cI, 2, .inl f3))] H := by rw [ef2_4]; exact hP
  have hD : va_D A [(h0, .inr (11, [.int v0_wide, .int v0_tall, .ref g0_sheet, .ref g0_words, .ref g0_size, .int v0_good, .int v0_faultPlace, .int v0_made, .int v0_fills, .int v0_painted, .ref g0_told, .ref g0_saved, .ref g0_saves, .ref g0_at, .ref h1, .ref g0_px, .ref g0_py, .ref g0_begins, .ref h2, .ref h3, .ref g0_lastX, .ref g0_lastY, .ref g0_startX, .ref g0_startY, .ref g0_startPoint, .ref g0_both, .ref g0_cut, .int v0_other])), (h1, .inl (cI, 2, .inl f1_2)), (h2, .inl (cZ, 2, .inl f2_4)), (h3, .inl (cI, 2, .inl f3))] := by rw [ef2_4]; exact hD
  refine lv_aload_n hx hb dX12_noPath_14 rfl (lv_at hl 0 rfl) ?_
  refine va_get (D := (dC, dI)) (ci := 11) (v := .ref h3) (C := RX12) (T := TX12) (N := 28) hx hb hu inX12 hown hK hP 0 rfl rfl 19 (by decide) (hu _ kw_273) (fun _ h9 => h9) rfl dX12_noPath_15 ?_
  refine lv_iload_n hx hb dX12_noPath_18 rfl (lv_at hl 1 rfl) ?_
  refine lv_iconst (v := 0) hx hb dX12_noPath_19 (by decide) ?_
  obtain ⟨g_5, hM⟩ := gd_u hM
  refine va_iast hx hb hK hP hD hS 3 0 rfl rfl (inb_v g_5) dX12_noPath_20 (fun H locs hP hD hS => ?_)
  obtain ⟨f3_6, ef3_6⟩ : ∃ g : Nat → Int32, g = upd f3 (p1 : Int32).toNatClampNeg 0 := ⟨_, rfl⟩
  have hM := nm_u ef3_6 hM
  have hP : va_P (dC, dI) vwCl [(h0, .inr (11, [.int v0_wide, .int v0_tall, .ref g0_sheet, .ref g0_words, .ref g0_size, .int v0_good, .int v0_faultPlace, .int v0_made, .int v0_fills, .int v0_painted, .ref g0_told, .ref g0_saved, .ref g0_saves, .ref g0_at, .ref h1, .ref g0_px, .ref g0_py, .ref g0_begins, .ref h2, .ref h3, .ref g0_lastX, .ref g0_lastY, .ref g0_startX, .ref g0_startY, .ref g0_startPoint, .ref g0_both, .ref g0_cut, .int v0_other])), (h1, .inl (cI, 2, .inl f1_2)), (h2, .inl (cZ, 2, .inl f2_4)), (h3, .inl (cI, 2, .inl f3_6))] H := by rw [ef3_6]; exact hP
  have hD : va_D A [(h0, .inr (11, [.int v0_wide, .int v0_tall, .ref g0_sheet, .ref g0_words, .ref g0_size, .int v0_good, .int v0_faultPlace, .int v0_made, .int v0_fills, .int v0_painted, .ref g0_told, .ref g0_saved, .ref g0_saves, .ref g0_at, .ref h1, .ref g0_px, .ref g0_py, .ref g0_begins, .ref h2, .ref h3, .ref g0_lastX, .ref g0_lastY, .ref g0_startX, .ref g0_startY, .ref g0_startPoint, .ref g0_both, .ref g0_cut, .int v0_other])), (h1, .inl (cI, 2, .inl f1_2)), (h2, .inl (cZ, 2, .inl f2_4)), (h3, .inl (cI, 2, .inl f3_6))] := by rw [ef3_6]; exact hD
  have h9 := Option.some.inj hM
  subst h9
  exact W.vret hx hb hr (fun t ht hW => QMv_mk (by rw [ht]; exact hP) (va_K.moved hW.alike hK) hD (hS.F ht)) hS.2.2 dX12_noPath_21
theorem dX12_begin_0 : decode cX12_begin 0 = .ok (.aload_n 0, 1) := by decide +kernel
theorem dX12_begin_1 : decode cX12_begin 1 = .ok (.iload_n 1, 1) := by decide +kernel
theorem dX12_begin_2 : decode cX12_begin 2 = .ok (.invokevirtual 124, 3) := by decide +kernel
theorem dX12_begin_5 : decode cX12_begin 5 = .ok (.aload_n 0, 1) := by decide +kernel
theorem dX12_begin_6 : decode cX12_begin 6 = .ok (.getfield 23, 3) := by decide +kernel
theorem dX12_begin_9 : decode cX12_begin 9 = .ok (.bipush 12, 2) := by decide +kernel
theorem dX12_begin_11 : decode cX12_begin 11 = .ok (.iload_n 1, 1) := by decide +kernel
theorem dX12_begin_12 : decode cX12_begin 12 = .ok (.imul, 1) := by decide +kernel
theorem dX12_begin_13 : decode cX12_begin 13 = .ok (.bipush 6, 2) := by decide +kernel
theorem dX12_begin_15 : decode cX12_begin 15 = .ok (.iadd, 1) := by decide +kernel
theorem dX12_begin_16 : decode cX12_begin 16 = .ok (.iconst 0, 1) := by decide +kernel
theorem dX12_begin_17 : decode cX12_begin 17 = .ok (.iastore, 1) := by decide +kernel
theorem dX12_begin_18 : decode cX12_begin 18 = .ok (.aload_n 0, 1) := by decide +kernel
theorem dX12_begin_19 : decode cX12_begin 19 = .ok (.getfield 23, 3) := by decide +kernel
theorem dX12_begin_22 : decode cX12_begin 22 = .ok (.bipush 12, 2) := by decide +kernel
theorem dX12_begin_24 : decode cX12_begin 24 = .ok (.iload_n 1, 1) := by decide +kernel
theorem dX12_begin_25 : decode cX12_begin 25 = .ok (.imul, 1) := by decide +kernel
theorem dX12_begin_26 : decode cX12_begin 26 = .ok (.bipush 7, 2) := by decide +kernel
theorem dX12_begin_28 : decode cX12_begin 28 = .ok (.iadd, 1) := by decide +kernel
theorem dX12_begin_29 : decode cX12_begin 29 = .ok (.iconst 0, 1) := by decide +kernel
theorem dX12_begin_30 : decode cX12_begin 30 = .ok (.iastore, 1) := by decide +kernel
theorem dX12_begin_31 : decode cX12_begin 31 = .ok (.aload_n 0, 1) := by decide +kernel
theorem dX12_begin_32 : decode cX12_begin 32 = .ok (.getfield 23, 3) := by decide +kernel
theorem dX12_begin_35 : decode cX12_begin 35 = .ok (.bipush 12, 2) := by decide +kernel
theorem dX12_begin_37 : decode cX12_begin 37 = .ok (.iload_n 1, 1) := by decide +kernel
theorem dX12_begin_38 : decode cX12_begin 38 = .ok (.imul, 1) := by decide +kernel
theorem dX12_begin_39 : decode cX12_begin 39 = .ok (.bipush 8, 2) := by decide +kernel
theorem dX12_begin_41 : decode cX12_begin 41 = .ok (.iadd, 1) := by decide +kernel
theorem dX12_begin_42 : decode cX12_begin 42 = .ok (.aload_n 0, 1) := by decide +kernel
theorem dX12_begin_43 : decode cX12_begin 43 = .ok (.getfield 75, 3) := by decide +kernel
theorem dX12_begin_46 : decode cX12_begin 46 = .ok (.iastore, 1) := by decide +kernel
theorem dX12_begin_47 : decode cX12_begin 47 = .ok (.aload_n 0, 1) := by decide +kernel
theorem dX12_begin_48 : decode cX12_begin 48 = .ok (.getfield 23, 3) := by decide +kernel
theorem dX12_begin_51 : decode cX12_begin 51 = .ok (.bipush 12, 2) := by decide +kernel
theorem dX12_begin_53 : decode cX12_begin 53 = .ok (.iload_n 1, 1) := by decide +kernel
theorem dX12_begin_54 : decode cX12_begin 54 = .ok (.imul, 1) := by decide +kernel
theorem dX12_begin_55 : decode cX12_begin 55 = .ok (.bipush 9, 2) := by decide +kernel
theorem dX12_begin_57 : decode cX12_begin 57 = .ok (.iadd, 1) := by decide +kernel
theorem dX12_begin_58 : decode cX12_begin 58 = .ok (.aload_n 0, 1) := by decide +kernel
theorem dX12_begin_59 : decode cX12_begin 59 = .ok (.getfield 78, 3) := by decide +kernel
theorem dX12_begin_62 : decode cX12_begin 62 = .ok (.iastore, 1) := by decide +kernel
theorem dX12_begin_63 : decode cX12_begin 63 = .ok (.aload_n 0, 1) := by decide +kernel
theorem dX12_begin_64 : decode cX12_begin 64 = .ok (.getfield 23, 3) := by decide +kernel
theorem dX12_begin_67 : decode cX12_begin 67 = .ok (.bipush 12, 2) := by decide +kernel
theorem dX12_begin_69 : decode cX12_begin 69 = .ok (.iload_n 1, 1) := by decide +kernel
theorem dX12_begin_70 : decode cX12_begin 70 = .ok (.imul, 1) := by decide +kernel
theorem dX12_begin_71 : decode cX12_begin 71 = .ok (.bipush 10, 2) := by decide +kernel
theorem dX12_begin_73 : decode cX12_begin 73 = .ok (.iadd, 1) := by decide +kernel
theorem dX12_begin_74 : decode cX12_begin 74 = .ok (.ldc 127, 2) := by decide +kernel
theorem dX12_begin_76 : decode cX12_begin 76 = .ok (.iastore, 1) := by decide +kernel
theorem dX12_begin_77 : decode cX12_begin 77 = .ok (.aload_n 0, 1) := by decide +kernel
theorem dX12_begin_78 : decode cX12_begin 78 = .ok (.getfield 23, 3) := by decide +kernel
theorem dX12_begin_81 : decode cX12_begin 81 = .ok (.bipush 12, 2) := by decide +kernel
theorem dX12_begin_83 : decode cX12_begin 83 = .ok (.iload_n 1, 1) := by decide +kernel
theorem dX12_begin_84 : decode cX12_begin 84 = .ok (.imul, 1) := by decide +kernel
theorem dX12_begin_85 : decode cX12_begin 85 = .ok (.bipush 11, 2) := by decide +kernel
theorem dX12_begin_87 : decode cX12_begin 87 = .ok (.iadd, 1) := by decide +kernel
theorem dX12_begin_88 : decode cX12_begin 88 = .ok (.iconst 0, 1) := by decide +kernel
theorem dX12_begin_89 : decode cX12_begin 89 = .ok (.iastore, 1) := by decide +kernel
theorem dX12_begin_90 : decode cX12_begin 90 = .ok (.aload_n 0, 1) := by decide +kernel
theorem dX12_begin_91 : decode cX12_begin 91 = .ok (.getfield 29, 3) := by decide +kernel
theorem dX12_begin_94 : decode cX12_begin 94 = .ok (.iload_n 1, 1) := by decide +kernel
theorem dX12_begin_95 : decode cX12_begin 95 = .ok (.iconst 0, 1) := by decide +kernel
theorem dX12_begin_96 : decode cX12_begin 96 = .ok (.iastore, 1) := by decide +kernel
theorem dX12_begin_97 : decode cX12_begin 97 = .ok (.aload_n 0, 1) := by decide +kernel
theorem dX12_begin_98 : decode cX12_begin 98 = .ok (.getfield 32, 3) := by decide +kernel
theorem dX12_begin_101 : decode cX12_begin 101 = .ok (.iload_n 1, 1) := by decide +kernel
theorem dX12_begin_102 : decode cX12_begin 102 = .ok (.iconst 0, 1) := by decide +kernel
theorem dX12_begin_103 : decode cX12_begin 103 = .ok (.iastore, 1) := by decide +kernel
theorem dX12_begin_104 : decode cX12_begin 104 = .ok (.aload_n 0, 1) := by decide +kernel
theorem dX12_begin_105 : decode cX12_begin 105 = .ok (.iload_n 1, 1) := by decide +kernel
theorem dX12_begin_106 : decode cX12_begin 106 = .ok (.invokevirtual 128, 3) := by decide +kernel
theorem dX12_begin_109 : decode cX12_begin 109 = .ok (.return_, 1) := by decide +kernel
abbrev rm_X12_begin : Room := { frames := 1, cells := 0, slots := 0, locals := 22 }
def w_X12_begin : List Cond := Cond.code yX12_begin cX12_begin 2 none :: uw
set_option maxHeartbeats 4000000 in
set_option maxRecDepth 100000 in
theorem c_X12_begin (l : Launch) (dC : Nat → ClassId) (dI : Nat → Nat → Nat) (cI cZ cO : ClassId) (tL sz : Nat) (h0 : Nat) (h1 : Nat) (h2 : Nat) (h3 : Nat) (h4 : Nat) (h5 : Nat) (h6 : Nat) (g0_sheet : Nat) (g0_words : Nat) (g0_size : Nat) (g0_saved : Nat) (g0_px : Nat) (g0_py : Nat) (g0_begins : Nat) (g0_lastX : Nat) (g0_lastY : Nat) (g0_startX : Nat) (g0_startY : Nat) (g0_startPoint : Nat) (g0_both : Nat) (g0_cut : Nat) (v0_wide : Int32) (v0_tall : Int32) (v0_good : Int32) (v0_faultPlace : Int32) (v0_made : Int32) (v0_fills : Int32) (v0_painted : Int32) (v0_other : Int32) (f1 : Nat → Int32) (f2 : Nat → Int32) (f3 : Nat → Int32) (f4 : Nat → Int32) (f5 : Nat → Int32) (f6 : Nat → Int32) (p1 : Int32) (res : (Nat → Int32) × (Nat → Int32) × (Nat → Int32) × (Nat → Int32) × (Nat → Int32) × (Nat → Int32)) (hM : m_X12_begin v0_wide v0_tall f1 f2 f3 f4 f5 f6 p1 = some res) : Met l yX12_begin w_X12_begin rm_X12_begin (PCx [.ref h0, .int p1] (dC, dI) [(cI, .int), (cZ, .boolean), (cO, .object "ListPainter$Settings")] sz tL [(h0, .inr (11, [.int v0_wide, .int v0_tall, .ref g0_sheet, .ref g0_words, .ref g0_size, .int v0_good, .int v0_faultPlace, .int v0_made, .int v0_fills, .int v0_painted, .ref h1, .ref g0_saved, .ref h2, .ref h3, .ref h4, .ref g0_px, .ref g0_py, .ref g0_begins, .ref h5, .ref h6, .ref g0_lastX, .ref g0_lastY, .ref g0_startX, .ref g0_startY, .ref g0_startPoint, .ref g0_both, .ref g0_cut, .int v0_other])), (h1, .inl (cI, 24, .inl f1)), (h2, .inl (cI, 2, .inl f2)), (h3, .inl (cI, 2, .inl f3)), (h4, .inl (cI, 2, .inl f4)), (h5, .inl (cZ, 2, .inl f5)), (h6, .inl (cI, 2, .inl f6))]) (QMv (dC, dI) [(cI, .int), (cZ, .boolean), (cO, .object "ListPainter$Settings")] (va_A [(h0, .inr (11, [.int v0_wide, .int v0_tall, .ref g0_sheet, .ref g0_words, .ref g0_size, .int v0_good, .int v0_faultPlace, .int v0_made, .int v0_fills, .int v0_painted, .ref h1, .ref g0_saved, .ref h2, .ref h3, .ref h4, .ref g0_px, .ref g0_py, .ref g0_begins, .ref h5, .ref h6, .ref g0_lastX, .ref g0_lastY, .ref g0_startX, .ref g0_startY, .ref g0_startPoint, .ref g0_both, .ref g0_cut, .int v0_other])), (h1, .inl (cI, 24, .inl f1)), (h2, .inl (cI, 2, .inl f2)), (h3, .inl (cI, 2, .inl f3)), (h4, .inl (cI, 2, .inl f4)), (h5, .inl (cZ, 2, .inl f5)), (h6, .inl (cI, 2, .inl f6))] sz) [(h0, .inr (11, [.int v0_wide, .int v0_tall, .ref g0_sheet, .ref g0_words, .ref g0_size, .int v0_good, .int v0_faultPlace, .int v0_made, .int v0_fills, .int v0_painted, .ref h1, .ref g0_saved, .ref h2, .ref h3, .ref h4, .ref g0_px, .ref g0_py, .ref g0_begins, .ref h5, .ref h6, .ref g0_lastX, .ref g0_lastY, .ref g0_startX, .ref g0_startY, .ref g0_startPoint, .ref g0_both, .ref g0_cut, .int v0_other])), (h1, .inl (cI, 24, .inl (res.1))), (h2, .inl (cI, 2, .inl (res.2.1))), (h3, .inl (cI, 2, .inl (res.2.2.1))), (h4, .inl (cI, 2, .inl (res.2.2.2.1))), (h5, .inl (cZ, 2, .inl (res.2.2.2.2.1))), (h6, .inl (cI, 2, .inl (res.2.2.2.2.2)))]) 0 0 (va_A [(h0, .inr (11, [.int v0_wide, .int v0_tall, .ref g0_sheet, .ref g0_words, .ref g0_size, .int v0_good, .int v0_faultPlace, .int v0_made, .int v0_fills, .int v0_painted, .ref h1, .ref g0_saved, .ref h2, .ref h3, .ref h4, .ref g0_px, .ref g0_py, .ref g0_begins, .ref h5, .ref h6, .ref g0_lastX, .ref g0_lastY, .ref g0_startX, .ref g0_startY, .ref g0_startPoint, .ref g0_both, .ref g0_cut, .int v0_other])), (h1, .inl (cI, 24, .inl f1)), (h2, .inl (cI, 2, .inl f2)), (h3, .inl (cI, 2, .inl f3)), (h4, .inl (cI, 2, .inl f4)), (h5, .inl (cZ, 2, .inl f5)), (h6, .inl (cI, 2, .inl f6))] sz) := by
  refine Met.ofW (cc := cX12_begin) (maxL := 2) (ret := none) (by decide) rfl ?_
  intro p e s m args below meth c s₁ B hml hv
  obtain ⟨rfl, hsz, hP, hK, hD0, hG⟩ := hv
  have hx := B.exec
  have hb := B.bytes
  have hr := B.returns
  have hu : ∀ w ∈ uw, w.before ([.ref h0, .int p1] : List Value).toArray s = true := fun w h => atoms_spec (ws := w_X12_begin) B.pre w (List.mem_cons_of_mem _ h)
  have hown : s.vm.findClass RX12 = some m.cls := findClass_of_methodNamed B.named
  have hlocks := B.notSynchronized
  subst hsz
  have hD := hD0.self (sz := s.heap.size)
  generalize hAe : va_A [(h0, .inr (11, [.int v0_wide, .int v0_tall, .ref g0_sheet, .ref g0_words, .ref g0_size, .int v0_good, .int v0_faultPlace, .int v0_made, .int v0_fills, .int v0_painted, .ref h1, .ref g0_saved, .ref h2, .ref h3, .ref h4, .ref g0_px, .ref g0_py, .ref g0_begins, .ref h5, .ref h6, .ref g0_lastX, .ref g0_lastY, .ref g0_startX, .ref g0_startY, .ref g0_startPoint, .ref g0_both, .ref g0_cut, .int v0_other])), (h1, .inl (cI, 24, .inl f1)), (h2, .inl (cI, 2, .inl f2)), (h3, .inl (cI, 2, .inl f3)), (h4, .inl (cI, 2, .inl f4)), (h5, .inl (cZ, 2, .inl f5)), (h6, .inl (cI, 2, .inl f6))] s.heap.size = A at hD hG ⊢
  have hA : ∀ q : Nat, s.heap.size ≤ q → A q := fun q h => by rw [← hAe]; exact Or.inr h
  have hS : va_S A s.heap s.heap [] := va_S.rf
  have hP : va_P (dC, dI) vwCl [(h0, .inr (11, [.int v0_wide, .int v0_tall, .ref g0_sheet, .ref g0_words, .ref g0_size, .int v0_good, .int v0_faultPlace, .int v0_made, .int v0_fills, .int v0_painted, .ref h1, .ref g0_saved, .ref h2, .ref h3, .ref h4, .ref g0_px, .ref g0_py, .ref g0_begins, .ref h5, .ref h6, .ref g0_lastX, .ref g0_lastY, .ref g0_startX, .ref g0_startY, .ref g0_startPoint, .ref g0_both, .ref g0_cut, .int v0_other])), (h1, .inl (cI, 24, .inl f1)), (h2, .inl (cI, 2, .inl f2)), (h3, .inl (cI, 2, .inl f3)), (h4, .inl (cI, 2, .inl f4)), (h5, .inl (cZ, 2, .inl f5)), (h6, .inl (cI, 2, .inl f6))] s.heap := hP
  have hl := lv_entry ([.ref h0, .int p1]) (n := 2) (Nat.le_of_ble_eq_true rfl)
  rw [lg_entry_eq]
  generalize (lg_sl ([.ref h0, .int p1]) ++ List.replicate (2 - (lg_sl ([.ref h0, .int p1])).length) Slot.unset).toArray = ls at hl ⊢
  have hl : lv_has ls 2 [(0, .ref h0), (1, .int p1)] := hl
  rw [m_X12_begin] at hM
  suffices hgo : ∀ (H : Heap) (locs : List Loc), va_P (dC, dI) vwCl [(h0, .inr (11, [.int v0_wide, .int v0_tall, .ref g0_sheet, .ref g0_words, .ref g0_size, .int v0_good, .int v0_faultPlace, .int v0_made, .int v0_fills, .int v0_painted, .ref h1, .ref g0_saved, .ref h2, .ref h3, .ref h4, .ref g0_px, .ref g0_py, .ref g0_begins, .ref h5, .ref h6, .ref g0_lastX, .ref g0_lastY, .ref g0_startX, .ref g0_startY, .ref g0_startPoint, .ref g0_both, .ref g0_cut, .int v0_other])), (h1, .inl (cI, 24, .inl f1)), (h2, .inl (cI, 2, .inl f2)), (h3, .inl (cI, 2, .inl f3)), (h4, .inl (cI, 2, .inl f4)), (h5, .inl (cZ, 2, .inl f5)), (h6, .inl (cI, 2, .inl f6))] H → va_D A [(h0, .inr (11, [.int v0_wide, .int v0_tall, .ref g0_sheet, .ref g0_words, .ref g0_size, .int v0_good, .int v0_faultPlace, .int v0_made, .int v0_fills, .int v0_painted, .ref h1, .ref g0_saved, .ref h2, .ref h3, .ref h4, .ref g0_px, .ref g0_py, .ref g0_begins, .ref h5, .ref h6, .ref g0_lastX, .ref g0_lastY, .ref g0_startX, .ref g0_startY, .ref g0_startPoint, .ref g0_both, .ref g0_cut, .int v0_other])), (h1, .inl (cI, 24, .inl f1)), (h2, .inl (cI, 2, .inl f2)), (h3, .inl (cI, 2, .inl f3)), (h4, .inl (cI, 2, .inl f4)), (h5, .inl (cZ, 2, .inl f5)), (h6, .inl (cI, 2, .inl f6))] → va_S A s.heap H locs → W p l e (headSpec w_X12_begin rm_X12_begin).room s m ([.ref h0, .int p1] : List Value).toArray below meth c H locs 0 0 (MQ below (QMv (dC, dI) [(cI, .int), (cZ, .boolean), (cO, .object "ListPainter$Settings")] A [(h0, .inr (11, [.int v0_wide, .int v0_tall, .ref g0_sheet, .ref g0_words, .ref g0_size, .int v0_good, .int v0_faultPlace, .int v0_made, .int v0_fills, .int v0_painted, .ref h1, .ref g0_saved, .ref h2, .ref h3, .ref h4, .ref g0_px, .ref g0_py, .ref g0_begins, .ref h5, .ref h6, .ref g0_lastX, .ref g0_lastY, .ref g0_startX, .ref g0_startY, .ref g0_startPoint, .ref g0_both, .ref g0_cut, .int v0_other])), (h1, .inl (cI, 24, .inl (res.1))), (h2, .inl (cI, 2, .inl (res.2.1))), (h3, .inl (cI, 2, .inl (res.2.2.1))), (h4, .inl (cI, 2, .inl (res.2.2.2.1))), (h5, .inl (cZ, 2, .inl (res.2.2.2.2.1))), (h6, .inl (cI, 2, .inl (res.2.2.2.2.2)))]) ([.ref h0, .int p1] : List Value).toArray s 0 0 A) (F0 m 0 ls []) from hgo _ _ hP hD hS
  intro H locs hP hD hS
  refine lv_aload_n hx hb dX12_begin_0 rfl (lv_at hl 0 rfl) ?_
  refine lv_iload_n hx hb dX12_begin_1 rfl (lv_at hl 1 rfl) ?_
  obtain ⟨f1_1, hm_2, hM⟩ := bd1_u hM
  refine cVv (As := [.int p1]) (rest := []) ⟨hx, hb, hml, hown, hu⟩ (c_X12_plain l dC dI cI cZ cO tL H.size h0 h1 g0_sheet g0_words g0_size g0_saved h2 h3 h4 g0_px g0_py g0_begins h5 h6 g0_lastX g0_lastY g0_startX g0_startY g0_startPoint g0_both g0_cut v0_wide v0_tall v0_good v0_faultPlace v0_made v0_fills v0_painted v0_other f1 p1 f1_1 hm_2) (cwV 1 hu (gV kw_274 kw_275 kw_276 kw_253 kw_277) rfl rfl rfl (by decide +kernel) ⟨Nat.le_of_ble_eq_true rfl, Nat.le_of_ble_eq_true rfl⟩) hP hD hS hA hK hG [0, 1] (by decide) rfl [some 0, some 1, none, none, none, none, none] 2 rfl (by decide +kernel) rfl 11 0 rfl rfl rfl rfl hl.1 rfl (Nat.le_of_ble_eq_true rfl) dX12_begin_2 (Nat.zero_le _) (Nat.zero_le _) (fun H locs hP hD hS => ?_)
  have hP : va_P (dC, dI) vwCl [(h0, .inr (11, [.int v0_wide, .int v0_tall, .ref g0_sheet, .ref g0_words, .ref g0_size, .int v0_good, .int v0_faultPlace, .int v0_made, .int v0_fills, .int v0_painted, .ref h1, .ref g0_saved, .ref h2, .ref h3, .ref h4, .ref g0_px, .ref g0_py, .ref g0_begins, .ref h5, .ref h6, .ref g0_lastX, .ref g0_lastY, .ref g0_startX, .ref g0_startY, .ref g0_startPoint, .ref g0_both, .ref g0_cut, .int v0_other])), (h1, .inl (cI, 24, .inl f1_1)), (h2, .inl (cI, 2, .inl f2)), (h3, .inl (cI, 2, .inl f3)), (h4, .inl (cI, 2, .inl f4)), (h5, .inl (cZ, 2, .inl f5)), (h6, .inl (cI, 2, .inl f6))] H := hP
  have hD : va_D A [(h0, .inr (11, [.int v0_wide, .int v0_tall, .ref g0_sheet, .ref g0_words, .ref g0_size, .int v0_good, .int v0_faultPlace, .int v0_made, .int v0_fills, .int v0_painted, .ref h1, .ref g0_saved, .ref h2, .ref h3, .ref h4, .ref g0_px, .ref g0_py, .ref g0_begins, .ref h5, .ref h6, .ref g0_lastX, .ref g0_lastY, .ref g0_startX, .ref g0_startY, .ref g0_startPoint, .ref g0_both, .ref g0_cut, .int v0_other])), (h1, .inl (cI, 24, .inl f1_1)), (h2, .inl (cI, 2, .inl f2)), (h3, .inl (cI, 2, .inl f3)), (h4, .inl (cI, 2, .inl f4)), (h5, .inl (cZ, 2, .inl f5)), (h6, .inl (cI, 2, .inl f6))] := hD
  refine lv_aload_n hx hb dX12_begin_5 rfl (lv_at hl 0 rfl) ?_
  refine va_get (D := (dC, dI)) (ci := 11) (v := .ref h1) (C := RX12) (T := TX12) (N := 28) hx hb hu inX12 hown hK hP 0 rfl rfl 10 (by decide) (hu _ kw_269) (fun _ h9 => h9) rfl dX12_begin_6 ?_
  refine lv_bipush (v := 12) hx hb dX12_begin_9 (by decide) ?_
  refine lv_iload_n hx hb dX12_begin_11 rfl (lv_at hl 1 rfl) ?_
  refine lv_imul hx hb dX12_begin_12 ?_
  refine lv_bipush (v := 6) hx hb dX12_begin_13 (by decide) ?_
  refine lv_iadd hx hb dX12_begin_15 ?_
  refine lv_iconst (v := 0) hx hb dX12_begin_16 (by decide) ?_
  obtain ⟨g_3, hM⟩ := gd_u hM
  refine va_iast hx hb hK hP hD hS 1 0 rfl rfl (inb_v g_3) dX12_begin_17 (fun H locs hP hD hS => ?_)
  obtain ⟨f1_4, ef1_4⟩ : ∃ g : Nat → Int32, g = upd f1_1 (((12 * p1) + 6) : Int32).toNatClampNeg 0 := ⟨_, rfl⟩
  have hM := nm_u ef1_4 hM
  have hP : va_P (dC, dI) vwCl [(h0, .inr (11, [.int v0_wide, .int v0_tall, .ref g0_sheet, .ref g0_words, .ref g0_size, .int v0_good, .int v0_faultPlace, .int v0_made, .int v0_fills, .int v0_painted, .ref h1, .ref g0_saved, .ref h2, .ref h3, .ref h4, .ref g0_px, .ref g0_py, .ref g0_begins, .ref h5, .ref h6, .ref g0_lastX, .ref g0_lastY, .ref g0_startX, .ref g0_startY, .ref g0_startPoint, .ref g0_both, .ref g0_cut, .int v0_other])), (h1, .inl (cI, 24, .inl f1_4)), (h2, .inl (cI, 2, .inl f2)), (h3, .inl (cI, 2, .inl f3)), (h4, .inl (cI, 2, .inl f4)), (h5, .inl (cZ, 2, .inl f5)), (h6, .inl (cI, 2, .inl f6))] H := by rw [ef1_4]; exact hP
  have hD : va_D A [(h0, .inr (11, [.int v0_wide, .int v0_tall, .ref g0_sheet, .ref g0_words, .ref g0_size, .int v0_good, .int v0_faultPlace, .int v0_made, .int v0_fills, .int v0_painted, .ref h1, .ref g0_saved, .ref h2, .ref h3, .ref h4, .ref g0_px, .ref g0_py, .ref g0_begins, .ref h5, .ref h6, .ref g0_lastX, .ref g0_lastY, .ref g0_startX, .ref g0_startY, .ref g0_startPoint, .ref g0_both, .ref g0_cut, .int v0_other])), (h1, .inl (cI, 24, .inl f1_4)), (h2, .inl (cI, 2, .inl f2)), (h3, .inl (cI, 2, .inl f3)), (h4, .inl (cI, 2, .inl f4)), (h5, .inl (cZ, 2, .inl f5)), (h6, .inl (cI, 2, .inl f6))] := by rw [ef1_4]; exact hD
  refine lv_aload_n hx hb dX12_begin_18 rfl (lv_at hl 0 rfl) ?_
  refine va_get (D := (dC, dI)) (ci := 11) (v := .ref h1) (C := RX12) (T := TX12) (N := 28) hx hb hu inX12 hown hK hP 0 rfl rfl 10 (by decide) (hu _ kw_269) (fun _ h9 => h9) rfl dX12_begin_19 ?_
  refine lv_bipush (v := 12) hx hb dX12_begin_22 (by decide) ?_
  refine lv_iload_n hx hb dX12_begin_24 rfl (lv_at hl 1 rfl) ?_
  refine lv_imul hx hb dX12_begin_25 ?_
  refine lv_bipush (v := 7) hx hb dX12_begin_26 (by decide) ?_
  refine lv_iadd hx hb dX12_begin_28 ?_
  refine lv_iconst (v := 0) hx hb dX12_begin_29 (by decide) ?_
  obtain ⟨g_5, hM⟩ := gd_u hM
  refine va_iast hx hb hK hP hD hS 1 0 rfl rfl (inb_v g_5) dX12_begin_30 (fun H locs hP hD hS => ?_)
  obtain ⟨f1_6, ef1_6⟩ : ∃ g : Nat → Int32, g = upd f1_4 (((12 * p1) + 7) : Int32).toNatClampNeg 0 := ⟨_, rfl⟩
  have hM := nm_u ef1_6 hM
  have hP : va_P (dC, dI) vwCl [(h0, .inr (11, [.int v0_wide, .int v0_tall, .ref g0_sheet, .ref g0_words, .ref g0_size, .int v0_good, .int v0_faultPlace, .int v0_made, .int v0_fills, .int v0_painted, .ref h1, .ref g0_saved, .ref h2, .ref h3, .ref h4, .ref g0_px, .ref g0_py, .ref g0_begins, .ref h5, .ref h6, .ref g0_lastX, .ref g0_lastY, .ref g0_startX, .ref g0_startY, .ref g0_startPoint, .ref g0_both, .ref g0_cut, .int v0_other])), (h1, .inl (cI, 24, .inl f1_6)), (h2, .inl (cI, 2, .inl f2)), (h3, .inl (cI, 2, .inl f3)), (h4, .inl (cI, 2, .inl f4)), (h5, .inl (cZ, 2, .inl f5)), (h6, .inl (cI, 2, .inl f6))] H := by rw [ef1_6]; exact hP
  have hD : va_D A [(h0, .inr (11, [.int v0_wide, .int v0_tall, .ref g0_sheet, .ref g0_words, .ref g0_size, .int v0_good, .int v0_faultPlace, .int v0_made, .int v0_fills, .int v0_painted, .ref h1, .ref g0_saved, .ref h2, .ref h3, .ref h4, .ref g0_px, .ref g0_py, .ref g0_begins, .ref h5, .ref h6, .ref g0_lastX, .ref g0_lastY, .ref g0_startX, .ref g0_startY, .ref g0_startPoint, .ref g0_both, .ref g0_cut, .int v0_other])), (h1, .inl (cI, 24, .inl f1_6)), (h2, .inl (cI, 2, .inl f2)), (h3, .inl (cI, 2, .inl f3)), (h4, .inl (cI, 2, .inl f4)), (h5, .inl (cZ, 2, .inl f5)), (h6, .inl (cI, 2, .inl f6))] := by rw [ef1_6]; exact hD
  refine lv_aload_n hx hb dX12_begin_31 rfl (lv_at hl 0 rfl) ?_
  refine va_get (D := (dC, dI)) (ci := 11) (v := .ref h1) (C := RX12) (T := TX12) (N := 28) hx hb hu inX12 hown hK hP 0 rfl rfl 10 (by decide) (hu _ kw_269) (fun _ h9 => h9) rfl dX12_begin_32 ?_
  refine lv_bipush (v := 12) hx hb dX12_begin_35 (by decide) ?_
  refine lv_iload_n hx hb dX12_begin_37 rfl (lv_at hl 1 rfl) ?_
  refine lv_imul hx hb dX12_begin_38 ?_
  refine lv_bipush (v := 8) hx hb dX12_begin_39 (by decide) ?_
  refine lv_iadd hx hb dX12_begin_41 ?_
  refine lv_aload_n hx hb dX12_begin_42 rfl (lv_at hl 0 rfl) ?_
  refine va_get (D := (dC, dI)) (ci := 11) (v := .int v0_wide) (C := RX12) (T := TX12) (N := 28) hx hb hu inX12 hown hK hP 0 rfl rfl 0 (by decide) (hu _ kw_278) (fun _ h9 => h9) rfl dX12_begin_43 ?_
  obtain ⟨g_7, hM⟩ := gd_u hM
  refine va_iast hx hb hK hP hD hS 1 0 rfl rfl (inb_v g_7) dX12_begin_46 (fun H locs hP hD hS => ?_)
  obtain ⟨f1_8, ef1_8⟩ : ∃ g : Nat → Int32, g = upd f1_6 (((12 * p1) + 8) : Int32).toNatClampNeg v0_wide := ⟨_, rfl⟩
  have hM := nm_u ef1_8 hM
  have hP : va_P (dC, dI) vwCl [(h0, .inr (11, [.int v0_wide, .int v0_tall, .ref g0_sheet, .ref g0_words, .ref g0_size, .int v0_good, .int v0_faultPlace, .int v0_made, .int v0_fills, .int v0_painted, .ref h1, .ref g0_saved, .ref h2, .ref h3, .ref h4, .ref g0_px, .ref g0_py, .ref g0_begins, .ref h5, .ref h6, .ref g0_lastX, .ref g0_lastY, .ref g0_startX, .ref g0_startY, .ref g0_startPoint, .ref g0_both, .ref g0_cut, .int v0_other])), (h1, .inl (cI, 24, .inl f1_8)), (h2, .inl (cI, 2, .inl f2)), (h3, .inl (cI, 2, .inl f3)), (h4, .inl (cI, 2, .inl f4)), (h5, .inl (cZ, 2, .inl f5)), (h6, .inl (cI, 2, .inl f6))] H := by rw [ef1_8]; exact hP
  have hD : va_D A [(h0, .inr (11, [.int v0_wide, .int v0_tall, .ref g0_sheet, .ref g0_words, .ref g0_size, .int v0_good, .int v0_faultPlace, .int v0_made, .int v0_fills, .int v0_painted, .ref h1, .ref g0_saved, .ref h2, .ref h3, .ref h4, .ref g0_px, .ref g0_py, .ref g0_begins, .ref h5, .ref h6, .ref g0_lastX, .ref g0_lastY, .ref g0_startX, .ref g0_startY, .ref g0_startPoint, .ref g0_both, .ref g0_cut, .int v0_other])), (h1, .inl (cI, 24, .inl f1_8)), (h2, .inl (cI, 2, .inl f2)), (h3, .inl (cI, 2, .inl f3)), (h4, .inl (cI, 2, .inl f4)), (h5, .inl (cZ, 2, .inl f5)), (h6, .inl (cI, 2, .inl f6))] := by rw [ef1_8]; exact hD
  refine lv_aload_n hx hb dX12_begin_47 rfl (lv_at hl 0 rfl) ?_
  refine va_get (D := (dC, dI)) (ci := 11) (v := .ref h1) (C := RX12) (T := TX12) (N := 28) hx hb hu inX12 hown hK hP 0 rfl rfl 10 (by decide) (hu _ kw_269) (fun _ h9 => h9) rfl dX12_begin_48 ?_
  refine lv_bipush (v := 12) hx hb dX12_begin_51 (by decide) ?_
  refine lv_iload_n hx hb dX12_begin_53 rfl (lv_at hl 1 rfl) ?_
  refine lv_imul hx hb dX12_begin_54 ?_
  refine lv_bipush (v := 9) hx hb dX12_begin_55 (by decide) ?_
  refine lv_iadd hx hb dX12_begin_57 ?_
  refine lv_aload_n hx hb dX12_begin_58 rfl (lv_at hl 0 rfl) ?_
  refine va_get (D := (dC, dI)) (ci := 11) (v := .int v0_tall) (C := RX12) (T := TX12) (N := 28) hx hb hu inX12 hown hK hP 0 rfl rfl 1 (by decide) (hu _ kw_279) (fun _ h9 => h9) rfl dX12_begin_59 ?_
  obtain ⟨g_9, hM⟩ := gd_u hM
  refine va_iast hx hb hK hP hD hS 1 0 rfl rfl (inb_v g_9) dX12_begin_62 (fun H locs hP hD hS => ?_)
  obtain ⟨f1_10, ef1_10⟩ : ∃ g : Nat → Int32, g = upd f1_8 (((12 * p1) + 9) : Int32).toNatClampNeg v0_tall := ⟨_, rfl⟩
  have hM := nm_u ef1_10 hM
  have hP : va_P (dC, dI) vwCl [(h0, .inr (11, [.int v0_wide, .int v0_tall, .ref g0_sheet, .ref g0_words, .ref g0_size, .int v0_good, .int v0_faultPlace, .int v0_made, .int v0_fills, .int v0_painted, .ref h1, .ref g0_saved, .ref h2, .ref h3, .ref h4, .ref g0_px, .ref g0_py, .ref g0_begins, .ref h5, .ref h6, .ref g0_lastX, .ref g0_lastY, .ref g0_startX, .ref g0_startY, .ref g0_startPoint, .ref g0_both, .ref g0_cut, .int v0_other])), (h1, .inl (cI, 24, .inl f1_10)), (h2, .inl (cI, 2, .inl f2)), (h3, .inl (cI, 2, .inl f3)), (h4, .inl (cI, 2, .inl f4)), (h5, .inl (cZ, 2, .inl f5)), (h6, .inl (cI, 2, .inl f6))] H := by rw [ef1_10]; exact hP
  have hD : va_D A [(h0, .inr (11, [.int v0_wide, .int v0_tall, .ref g0_sheet, .ref g0_words, .ref g0_size, .int v0_good, .int v0_faultPlace, .int v0_made, .int v0_fills, .int v0_painted, .ref h1, .ref g0_saved, .ref h2, .ref h3, .ref h4, .ref g0_px, .ref g0_py, .ref g0_begins, .ref h5, .ref h6, .ref g0_lastX, .ref g0_lastY, .ref g0_startX, .ref g0_startY, .ref g0_startPoint, .ref g0_both, .ref g0_cut, .int v0_other])), (h1, .inl (cI, 24, .inl f1_10)), (h2, .inl (cI, 2, .inl f2)), (h3, .inl (cI, 2, .inl f3)), (h4, .inl (cI, 2, .inl f4)), (h5, .inl (cZ, 2, .inl f5)), (h6, .inl (cI, 2, .inl f6))] := by rw [ef1_10]; exact hD
  refine lv_aload_n hx hb dX12_begin_63 rfl (lv_at hl 0 rfl) ?_
  refine va_get (D := (dC, dI)) (ci := 11) (v := .ref h1) (C := RX12) (T := TX12) (N := 28) hx hb hu inX12 hown hK hP 0 rfl rfl 10 (by decide) (hu _ kw_269) (fun _ h9 => h9) rfl dX12_begin_64 ?_
  refine lv_bipush (v := 12) hx hb dX12_begin_67 (by decide) ?_
  refine lv_iload_n hx hb dX12_begin_69 rfl (lv_at hl 1 rfl) ?_
  refine lv_imul hx hb dX12_begin_70 ?_
  refine lv_bipush (v := 10) hx hb dX12_begin_71 (by decide) ?_
  refine lv_iadd hx hb dX12_begin_73 ?_
  refine lv_ldc (v := (-16777216)) hx hb hown (hu _ kw_280) dX12_begin_74 ?_
  obtain ⟨g_11, hM⟩ := gd_u hM
  refine va_iast hx hb hK hP hD hS 1 0 rfl rfl (inb_v g_11) dX12_begin_76 (fun H locs hP hD hS => ?_)
  obtain ⟨f1_12, ef1_12⟩ : ∃ g : Nat → Int32, g = upd f1_10 (((12 * p1) + 10) : Int32).toNatClampNeg (-16777216) := ⟨_, rfl⟩
  have hM := nm_u ef1_12 hM
  have hP : va_P (dC, dI) vwCl [(h0, .inr (11, [.int v0_wide, .int v0_tall, .ref g0_sheet, .ref g0_words, .ref g0_size, .int v0_good, .int v0_faultPlace, .int v0_made, .int v0_fills, .int v0_painted, .ref h1, .ref g0_saved, .ref h2, .ref h3, .ref h4, .ref g0_px, .ref g0_py, .ref g0_begins, .ref h5, .ref h6, .ref g0_lastX, .ref g0_lastY, .ref g0_startX, .ref g0_startY, .ref g0_startPoint, .ref g0_both, .ref g0_cut, .int v0_other])), (h1, .inl (cI, 24, .inl f1_12)), (h2, .inl (cI, 2, .inl f2)), (h3, .inl (cI, 2, .inl f3)), (h4, .inl (cI, 2, .inl f4)), (h5, .inl (cZ, 2, .inl f5)), (h6, .inl (cI, 2, .inl f6))] H := by rw [ef1_12]; exact hP
  have hD : va_D A [(h0, .inr (11, [.int v0_wide, .int v0_tall, .ref g0_sheet, .ref g0_words, .ref g0_size, .int v0_good, .int v0_faultPlace, .int v0_made, .int v0_fills, .int v0_painted, .ref h1, .ref g0_saved, .ref h2, .ref h3, .ref h4, .ref g0_px, .ref g0_py, .ref g0_begins, .ref h5, .ref h6, .ref g0_lastX, .ref g0_lastY, .ref g0_startX, .ref g0_startY, .ref g0_startPoint, .ref g0_both, .ref g0_cut, .int v0_other])), (h1, .inl (cI, 24, .inl f1_12)), (h2, .inl (cI, 2, .inl f2)), (h3, .inl (cI, 2, .inl f3)), (h4, .inl (cI, 2, .inl f4)), (h5, .inl (cZ, 2, .inl f5)), (h6, .inl (cI, 2, .inl f6))] := by rw [ef1_12]; exact hD
  refine lv_aload_n hx hb dX12_begin_77 rfl (lv_at hl 0 rfl) ?_
  refine va_get (D := (dC, dI)) (ci := 11) (v := .ref h1) (C := RX12) (T := TX12) (N := 28) hx hb hu inX12 hown hK hP 0 rfl rfl 10 (by decide) (hu _ kw_269) (fun _ h9 => h9) rfl dX12_begin_78 ?_
  refine lv_bipush (v := 12) hx hb dX12_begin_81 (by decide) ?_
  refine lv_iload_n hx hb dX12_begin_83 rfl (lv_at hl 1 rfl) ?_
  refine lv_imul hx hb dX12_begin_84 ?_
  refine lv_bipush (v := 11) hx hb dX12_begin_85 (by decide) ?_
  refine lv_iadd hx hb dX12_begin_87 ?_
  refine lv_iconst (v := 0) hx hb dX12_begin_88 (by decide) ?_
  obtain ⟨g_13, hM⟩ := gd_u hM
  refine va_iast hx hb hK hP hD hS 1 0 rfl rfl (inb_v g_13) dX12_begin_89 (fun H locs hP hD hS => ?_)
  obtain ⟨f1_14, ef1_14⟩ : ∃ g : Nat → Int32, g = upd f1_12 (((12 * p1) + 11) : Int32).toNatClampNeg 0 := ⟨_, rfl⟩
  have hM := nm_u ef1_14 hM
  have hP : va_P (dC, dI) vwCl [(h0, .inr (11, [.int v0_wide, .int v0_tall, .ref g0_sheet, .ref g0_words, .ref g0_size, .int v0_good, .int v0_faultPlace, .int v0_made, .int v0_fills, .int v0_painted, .ref h1, .ref g0_saved, .ref h2, .ref h3, .ref h4, .ref g0_px, .ref g0_py, .ref g0_begins, .ref h5, .ref h6, .ref g0_lastX, .ref g0_lastY, .ref g0_startX, .ref g0_startY, .ref g0_startPoint, .ref g0_both, .ref g0_cut, .int v0_other])), (h1, .inl (cI, 24, .inl f1_14)), (h2, .inl (cI, 2, .inl f2)), (h3, .inl (cI, 2, .inl f3)), (h4, .inl (cI, 2, .inl f4)), (h5, .inl (cZ, 2, .inl f5)), (h6, .inl (cI, 2, .inl f6))] H := by rw [ef1_14]; exact hP
  have hD : va_D A [(h0, .inr (11, [.int v0_wide, .int v0_tall, .ref g0_sheet, .ref g0_words, .ref g0_size, .int v0_good, .int v0_faultPlace, .int v0_made, .int v0_fills, .int v0_painted, .ref h1, .ref g0_saved, .ref h2, .ref h3, .ref h4, .ref g0_px, .ref g0_py, .ref g0_begins, .ref h5, .ref h6, .ref g0_lastX, .ref g0_lastY, .ref g0_startX, .ref g0_startY, .ref g0_startPoint, .ref g0_both, .ref g0_cut, .int v0_other])), (h1, .inl (cI, 24, .inl f1_14)), (h2, .inl (cI, 2, .inl f2)), (h3, .inl (cI, 2, .inl f3)), (h4, .inl (cI, 2, .inl f4)), (h5, .inl (cZ, 2, .inl f5)), (h6, .inl (cI, 2, .inl f6))] := by rw [ef1_14]; exact hD
  refine lv_aload_n hx hb dX12_begin_90 rfl (lv_at hl 0 rfl) ?_
  refine va_get (D := (dC, dI)) (ci := 11) (v := .ref h2) (C := RX12) (T := TX12) (N := 28) hx hb hu inX12 hown hK hP 0 rfl rfl 12 (by decide) (hu _ kw_281) (fun _ h9 => h9) rfl dX12_begin_91 ?_
  refine lv_iload_n hx hb dX12_begin_94 rfl (lv_at hl 1 rfl) ?_
  refine lv_iconst (v := 0) hx hb dX12_begin_95 (by decide) ?_
  obtain ⟨g_15, hM⟩ := gd_u hM
  refine va_iast hx hb hK hP hD hS 2 0 rfl rfl (inb_v g_15) dX12_begin_96 (fun H locs hP hD hS => ?_)
  obtain ⟨f2_16, ef2_16⟩ : ∃ g : Nat → Int32, g = upd f2 (p1 : Int32).toNatClampNeg 0 := ⟨_, rfl⟩
  have hM := nm_u ef2_16 hM
  have hP : va_P (dC, dI) vwCl [(h0, .inr (11, [.int v0_wide, .int v0_tall, .ref g0_sheet, .ref g0_words, .ref g0_size, .int v0_good, .int v0_faultPlace, .int v0_made, .int v0_fills, .int v0_painted, .ref h1, .ref g0_saved, .ref h2, .ref h3, .ref h4, .ref g0_px, .ref g0_py, .ref g0_begins, .ref h5, .ref h6, .ref g0_lastX, .ref g0_lastY, .ref g0_startX, .ref g0_startY, .ref g0_startPoint, .ref g0_both, .ref g0_cut, .int v0_other])), (h1, .inl (cI, 24, .inl f1_14)), (h2, .inl (cI, 2, .inl f2_16)), (h3, .inl (cI, 2, .inl f3)), (h4, .inl (cI, 2, .inl f4)), (h5, .inl (cZ, 2, .inl f5)), (h6, .inl (cI, 2, .inl f6))] H := by rw [ef2_16]; exact hP
  have hD : va_D A [(h0, .inr (11, [.int v0_wide, .int v0_tall, .ref g0_sheet, .ref g0_words, .ref g0_size, .int v0_good, .int v0_faultPlace, .int v0_made, .int v0_fills, .int v0_painted, .ref h1, .ref g0_saved, .ref h2, .ref h3, .ref h4, .ref g0_px, .ref g0_py, .ref g0_begins, .ref h5, .ref h6, .ref g0_lastX, .ref g0_lastY, .ref g0_startX, .ref g0_startY, .ref g0_startPoint, .ref g0_both, .ref g0_cut, .int v0_other])), (h1, .inl (cI, 24, .inl f1_14)), (h2, .inl (cI, 2, .inl f2_16)), (h3, .inl (cI, 2, .inl f3)), (h4, .inl (cI, 2, .inl f4)), (h5, .inl (cZ, 2, .inl f5)), (h6, .inl (cI, 2, .inl f6))] := by rw [ef2_16]; exact hD
  refine lv_aload_n hx hb dX12_begin_97 rfl (lv_at hl 0 rfl) ?_
  refine va_get (D := (dC, dI)) (ci := 11) (v := .ref h3) (C := RX12) (T := TX12) (N := 28) hx hb hu inX12 hown hK hP 0 rfl rfl 13 (by decide) (hu _ kw_282) (fun _ h9 => h9) rfl dX12_begin_98 ?_
  refine lv_iload_n hx hb dX12_begin_101 rfl (lv_at hl 1 rfl) ?_
  refine lv_iconst (v := 0) hx hb dX12_begin_102 (by decide) ?_
  obtain ⟨g_17, hM⟩ := gd_u hM
  refine va_iast hx hb hK hP hD hS 3 0 rfl rfl (inb_v g_17) dX12_begin_103 (fun H locs hP hD hS => ?_)
  obtain ⟨f3_18, ef3_18⟩ : ∃ g : Nat → Int32, g = upd f3 (p1 : Int32).toNatClampNeg 0 := ⟨_, rfl⟩
  have hM := nm_u ef3_18 hM
  have hP : va_P (dC, dI) vwCl [(h0, .inr (11, [.int v0_wide, .int v0_tall, .ref g0_sheet, .ref g0_words, .ref g0_size, .int v0_good, .int v0_faultPlace, .int v0_made, .int v0_fills, .int v0_painted, .ref h1, .ref g0_saved, .ref h2, .ref h3, .ref h4, .ref g0_px, .ref g0_py, .ref g0_begins, .ref h5, .ref h6, .ref g0_lastX, .ref g0_lastY, .ref g0_startX, .ref g0_startY, .ref g0_startPoint, .ref g0_both, .ref g0_cut, .int v0_other])), (h1, .inl (cI, 24, .inl f1_14)), (h2, .inl (cI, 2, .inl f2_16)), (h3, .inl (cI, 2, .inl f3_18)), (h4, .inl (cI, 2, .inl f4)), (h5, .inl (cZ, 2, .inl f5)), (h6, .inl (cI, 2, .inl f6))] H := by rw [ef3_18]; exact hP
  have hD : va_D A [(h0, .inr (11, [.int v0_wide, .int v0_tall, .ref g0_sheet, .ref g0_words, .ref g0_size, .int v0_good, .int v0_faultPlace, .int v0_made, .int v0_fills, .int v0_painted, .ref h1, .ref g0_saved, .ref h2, .ref h3, .ref h4, .ref g0_px, .ref g0_py, .ref g0_begins, .ref h5, .ref h6, .ref g0_lastX, .ref g0_lastY, .ref g0_startX, .ref g0_startY, .ref g0_startPoint, .ref g0_both, .ref g0_cut, .int v0_other])), (h1, .inl (cI, 24, .inl f1_14)), (h2, .inl (cI, 2, .inl f2_16)), (h3, .inl (cI, 2, .inl f3_18)), (h4, .inl (cI, 2, .inl f4)), (h5, .inl (cZ, 2, .inl f5)), (h6, .inl (cI, 2, .inl f6))] := by rw [ef3_18]; exact hD
  refine lv_aload_n hx hb dX12_begin_104 rfl (lv_at hl 0 rfl) ?_
  refine lv_iload_n hx hb dX12_begin_105 rfl (lv_at hl 1 rfl) ?_
  obtain ⟨f4_19, f5_20, f6_21, hm_22, hM⟩ := bd3_u hM
  refine cVv (As := [.int p1]) (rest := []) ⟨hx, hb, hml, hown, hu⟩ (c_X12_noPath l dC dI cI cZ cO tL H.size h0 h4 h5 h6 g0_sheet g0_words g0_size h1 g0_saved h2 h3 g0_px g0_py g0_begins g0_lastX g0_lastY g0_startX g0_startY g0_startPoint g0_both g0_cut v0_wide v0_tall v0_good v0_faultPlace v0_made v0_fills v0_painted v0_other f4 f5 f6 p1 (f4_19, f5_20, f6_21) hm_22) (cwV 1 hu (gV kw_283 kw_284 kw_285 kw_253 kw_286) rfl rfl rfl (by decide +kernel) ⟨Nat.le_of_ble_eq_true rfl, Nat.le_of_ble_eq_true rfl⟩) hP hD hS hA hK hG [0, 4, 5, 6] (by decide) rfl [some 0, none, none, none, some 1, some 2, some 3] 4 rfl (by decide +kernel) rfl 11 0 rfl rfl rfl rfl hl.1 rfl (Nat.le_of_ble_eq_true rfl) dX12_begin_106 (Nat.zero_le _) (Nat.zero_le _) (fun H locs hP hD hS => ?_)
  have hP : va_P (dC, dI) vwCl [(h0, .inr (11, [.int v0_wide, .int v0_tall, .ref g0_sheet, .ref g0_words, .ref g0_size, .int v0_good, .int v0_faultPlace, .int v0_made, .int v0_fills, .int v0_painted, .ref h1, .ref g0_saved, .ref h2, .ref h3, .ref h4, .ref g0_px, .ref g0_py, .ref g0_begins, .ref h5, .ref h6, .ref g0_lastX, .ref g0_lastY, .ref g0_startX, .ref g0_startY, .ref g0_startPoint, .ref g0_both, .ref g0_cut, .int v0_other])), (h1, .inl (cI, 24, .inl f1_14)), (h2, .inl (cI, 2, .inl f2_16)), (h3, .inl (cI, 2, .inl f3_18)), (h4, .inl (cI, 2, .inl f4_19)), (h5, .inl (cZ, 2, .inl f5_20)), (h6, .inl (cI, 2, .inl f6_21))] H := hP
  have hD : va_D A [(h0, .inr (11, [.int v0_wide, .int v0_tall, .ref g0_sheet, .ref g0_words, .ref g0_size, .int v0_good, .int v0_faultPlace, .int v0_made, .int v0_fills, .int v0_painted, .ref h1, .ref g0_saved, .ref h2, .ref h3, .ref h4, .ref g0_px, .ref g0_py, .ref g0_begins, .ref h5, .ref h6, .ref g0_lastX, .ref g0_lastY, .ref g0_startX, .ref g0_startY, .ref g0_startPoint, .ref g0_both, .ref g0_cut, .int v0_other])), (h1, .inl (cI, 24, .inl f1_14)), (h2, .inl (cI, 2, .inl f2_16)), (h3, .inl (cI, 2, .inl f3_18)), (h4, .inl (cI, 2, .inl f4_19)), (h5, .inl (cZ, 2, .inl f5_20)), (h6, .inl (cI, 2, .inl f6_21))] := hD
  have h9 := Option.some.inj hM
  subst h9
  exact W.vret hx hb hr (fun t ht hW => QMv_mk (by rw [ht]; exact hP) (va_K.moved hW.alike hK) hD (hS.F ht)) hS.2.2 dX12_begin_109
theorem dX12_rounded_0 : decode cX12_rounded 0 = .ok (.lload_n 0, 1) := by decide +kernel
theorem dX12_rounded_1 : decode cX12_rounded 1 = .ok (.ldc2_w 131, 3) := by decide +kernel
theorem dX12_rounded_4 : decode cX12_rounded 4 = .ok (.ladd, 1) := by decide +kernel
theorem dX12_rounded_5 : decode cX12_rounded 5 = .ok (.bipush 16, 2) := by decide +kernel
theorem dX12_rounded_7 : decode cX12_rounded 7 = .ok (.lshr, 1) := by decide +kernel
theorem dX12_rounded_8 : decode cX12_rounded 8 = .ok (.lreturn, 1) := by decide +kernel
abbrev rm_X12_rounded : Room := { frames := 0, cells := 0, slots := 0, locals := 0 }
def w_X12_rounded : List Cond := Cond.code yX12_rounded cX12_rounded 2 (some .long) :: uw
set_option maxHeartbeats 4000000 in
set_option maxRecDepth 100000 in
theorem c_X12_rounded (l : Launch) (dC : Nat → ClassId) (dI : Nat → Nat → Nat) (cI cZ cO : ClassId) (tL sz : Nat) (p0 : Int64) (res : Int64) (hM : m_X12_rounded p0 = some res) : Met l yX12_rounded w_X12_rounded rm_X12_rounded (PCx [.long p0] (dC, dI) [(cI, .int), (cZ, .boolean), (cO, .object "ListPainter$Settings")] sz tL []) (QMl res (dC, dI) [(cI, .int), (cZ, .boolean), (cO, .object "ListPainter$Settings")] (va_A [] sz) []) 0 0 (va_A [] sz) := by
  refine Met.ofW (cc := cX12_rounded) (maxL := 2) (ret := (some .long)) (by decide) rfl ?_
  intro p e s m args below meth c s₁ B hml hv
  obtain ⟨rfl, hsz, hP, hK, hD0, hG⟩ := hv
  have hx := B.exec
  have hb := B.bytes
  have hr := B.returns
  have hu : ∀ w ∈ uw, w.before ([.long p0] : List Value).toArray s = true := fun w h => atoms_spec (ws := w_X12_rounded) B.pre w (List.mem_cons_of_mem _ h)
  have hown : s.vm.findClass RX12 = some m.cls := findClass_of_methodNamed B.named
  have hlocks := B.notSynchronized
  subst hsz
  have hD := hD0.self (sz := s.heap.size)
  generalize hAe : va_A [] s.heap.size = A at hD hG ⊢
  have hA : ∀ q : Nat, s.heap.size ≤ q → A q := fun q h => by rw [← hAe]; exact Or.inr h
  have hS : va_S A s.heap s.heap [] := va_S.rf
  have hP : va_P (dC, dI) vwCl [] s.heap := hP
  have hl := lv_entry ([.long p0]) (n := 2) (Nat.le_of_ble_eq_true rfl)
  rw [lg_entry_eq]
  generalize (lg_sl ([.long p0]) ++ List.replicate (2 - (lg_sl ([.long p0])).length) Slot.unset).toArray = ls at hl ⊢
  have hl : lv_has ls 2 [(0, .long p0)] := hl
  rw [m_X12_rounded] at hM
  suffices hgo : ∀ (H : Heap) (locs : List Loc), va_P (dC, dI) vwCl [] H → va_D A [] → va_S A s.heap H locs → W p l e (headSpec w_X12_rounded rm_X12_rounded).room s m ([.long p0] : List Value).toArray below meth c H locs 0 0 (MQ below (QMl res (dC, dI) [(cI, .int), (cZ, .boolean), (cO, .object "ListPainter$Settings")] A []) ([.long p0] : List Value).toArray s 0 0 A) (F0 m 0 ls []) from hgo _ _ hP hD hS
  intro H locs hP hD hS
  refine lv_lload_n hx hb dX12_rounded_0 rfl (lv_at hl 0 rfl) ?_
  refine lv_ldc2 (v := 32768) hx hb hown (hu _ kw_287) dX12_rounded_1 ?_
  refine lv_ladd hx hb dX12_rounded_4 ?_
  refine lv_bipush (v := 16) hx hb dX12_rounded_5 (by decide) ?_
  refine lv_lshr (v := (((p0 + 32768) : Int64) >>> ((16 : Int32).toInt64 &&& 63))) hx hb dX12_rounded_7 rfl ?_
  have h9 := Option.some.inj hM
  subst h9
  exact W.lret (v := (((p0 + 32768) : Int64) >>> ((16 : Int32).toInt64 &&& 63))) hx hb hr (fun t ht hW => QMl_mk (by rw [ht]; exact hP) (va_K.moved hW.alike hK) hD (hS.F ht)) hS.2.2 dX12_rounded_8
theorem dX12_held_0 : decode cX12_held 0 = .ok (.lload_n 0, 1) := by decide +kernel
theorem dX12_held_1 : decode cX12_held 1 = .ok (.ldc2_w 133, 3) := by decide +kernel
theorem dX12_held_4 : decode cX12_held 4 = .ok (.lcmp, 1) := by decide +kernel
theorem dX12_held_5 : decode cX12_held 5 = .ok (.ifCond .ge 8, 3) := by decide +kernel
theorem dX12_held_8 : decode cX12_held 8 = .ok (.ldc 135, 2) := by decide +kernel
theorem dX12_held_10 : decode cX12_held 10 = .ok (.goto 18, 3) := by decide +kernel
theorem dX12_held_13 : decode cX12_held 13 = .ok (.lload_n 0, 1) := by decide +kernel
theorem dX12_held_14 : decode cX12_held 14 = .ok (.ldc2_w 136, 3) := by decide +kernel
theorem dX12_held_17 : decode cX12_held 17 = .ok (.lcmp, 1) := by decide +kernel
theorem dX12_held_18 : decode cX12_held 18 = .ok (.ifCond .le 8, 3) := by decide +kernel
theorem dX12_held_21 : decode cX12_held 21 = .ok (.ldc 138, 2) := by decide +kernel
theorem dX12_held_23 : decode cX12_held 23 = .ok (.goto 5, 3) := by decide +kernel
theorem dX12_held_26 : decode cX12_held 26 = .ok (.lload_n 0, 1) := by decide +kernel
theorem dX12_held_27 : decode cX12_held 27 = .ok (.l2i, 1) := by decide +kernel
theorem dX12_held_28 : decode cX12_held 28 = .ok (.ireturn, 1) := by decide +kernel
abbrev rm_X12_held : Room := { frames := 0, cells := 0, slots := 0, locals := 0 }
def w_X12_held : List Cond := Cond.code yX12_held cX12_held 2 (some .int) :: uw
set_option maxHeartbeats 4000000 in
set_option maxRecDepth 100000 in
theorem c_X12_held (l : Launch) (dC : Nat → ClassId) (dI : Nat → Nat → Nat) (cI cZ cO : ClassId) (tL sz : Nat) (p0 : Int64) (res : Int32) (hM : m_X12_held p0 = some res) : Met l yX12_held w_X12_held rm_X12_held (PCx [.long p0] (dC, dI) [(cI, .int), (cZ, .boolean), (cO, .object "ListPainter$Settings")] sz tL []) (QMi res (dC, dI) [(cI, .int), (cZ, .boolean), (cO, .object "ListPainter$Settings")] (va_A [] sz) []) 0 0 (va_A [] sz) := by
  refine Met.ofW (cc := cX12_held) (maxL := 2) (ret := (some .int)) (by decide) rfl ?_
  intro p e s m args below meth c s₁ B hml hv
  obtain ⟨rfl, hsz, hP, hK, hD0, hG⟩ := hv
  have hx := B.exec
  have hb := B.bytes
  have hr := B.returns
  have hu : ∀ w ∈ uw, w.before ([.long p0] : List Value).toArray s = true := fun w h => atoms_spec (ws := w_X12_held) B.pre w (List.mem_cons_of_mem _ h)
  have hown : s.vm.findClass RX12 = some m.cls := findClass_of_methodNamed B.named
  have hlocks := B.notSynchronized
  subst hsz
  have hD := hD0.self (sz := s.heap.size)
  generalize hAe : va_A [] s.heap.size = A at hD hG ⊢
  have hA : ∀ q : Nat, s.heap.size ≤ q → A q := fun q h => by rw [← hAe]; exact Or.inr h
  have hS : va_S A s.heap s.heap [] := va_S.rf
  have hP : va_P (dC, dI) vwCl [] s.heap := hP
  have hl := lv_entry ([.long p0]) (n := 2) (Nat.le_of_ble_eq_true rfl)
  rw [lg_entry_eq]
  generalize (lg_sl ([.long p0]) ++ List.replicate (2 - (lg_sl ([.long p0])).length) Slot.unset).toArray = ls at hl ⊢
  have hl : lv_has ls 2 [(0, .long p0)] := hl
  rw [m_X12_held] at hM
  suffices hgo : ∀ (H : Heap) (locs : List Loc), va_P (dC, dI) vwCl [] H → va_D A [] → va_S A s.heap H locs → W p l e (headSpec w_X12_held rm_X12_held).room s m ([.long p0] : List Value).toArray below meth c H locs 0 0 (MQ below (QMi res (dC, dI) [(cI, .int), (cZ, .boolean), (cO, .object "ListPainter$Settings")] A []) ([.long p0] : List Value).toArray s 0 0 A) (F0 m 0 ls []) from hgo _ _ hP hD hS
  intro H locs hP hD hS
  refine lv_lload_n hx hb dX12_held_0 rfl (lv_at hl 0 rfl) ?_
  refine lv_ldc2 (v := (-1073741824)) hx hb hown (hu _ kw_288) dX12_held_1 ?_
  refine W.lcmp hx hb dX12_held_4 ?_
  refine lv_if_ge (tgt := 13) hx hb dX12_held_5 (by decide) (fun c_1 => ?_) (fun c_1 => ?_)
  · have hM := if_t c_1 hM
    refine lv_lload_n hx hb dX12_held_13 rfl (lv_at hl 0 rfl) ?_
    refine lv_ldc2 (v := 1073741824) hx hb hown (hu _ kw_289) dX12_held_14 ?_
    refine W.lcmp hx hb dX12_held_17 ?_
    refine lv_if_le (tgt := 26) hx hb dX12_held_18 (by decide) (fun c_2 => ?_) (fun c_2 => ?_)
    · have hM := if_t c_2 hM
      refine lv_lload_n hx hb dX12_held_26 rfl (lv_at hl 0 rfl) ?_
      refine lv_l2i (v := ((p0 : Int64).toInt32)) hx hb dX12_held_27 rfl ?_
      have h9 := Option.some.inj hM
      subst h9
      exact W.iret (v := ((p0 : Int64).toInt32)) hx hb hr (fun t ht hW => QMi_mk (by rw [ht]; exact hP) (va_K.moved hW.alike hK) hD (hS.F ht)) hS.2.2 dX12_held_28
    · have hM := if_f c_2 hM
      refine lv_ldc (v := 1073741824) hx hb hown (hu _ kw_290) dX12_held_21 ?_
      refine lv_goto (tgt := 28) hx hb dX12_held_23 (by decide) ?_
      have h9 := Option.some.inj hM
      subst h9
      exact W.iret (v := 1073741824) hx hb hr (fun t ht hW => QMi_mk (by rw [ht]; exact hP) (va_K.moved hW.alike hK) hD (hS.F ht)) hS.2.2 dX12_held_28
  · have hM := if_f c_1 hM
    refine lv_ldc (v := (-1073741824)) hx hb hown (hu _ kw_291) dX12_held_8 ?_
    refine lv_goto (tgt := 28) hx hb dX12_held_10 (by decide) ?_
    have h9 := Option.some.inj hM
    subst h9
    exact W.iret (v := (-1073741824)) hx hb hr (fun t ht hW => QMi_mk (by rw [ht]; exact hP) (va_K.moved hW.alike hK) hD (hS.F ht)) hS.2.2 dX12_held_28
theorem dX12_point_0 : decode cX12_point 0 = .ok (.bipush 12, 2) := by decide +kernel
theorem dX12_point_2 : decode cX12_point 2 = .ok (.iload_n 1, 1) := by decide +kernel
theorem dX12_point_3 : decode cX12_point 3 = .ok (.imul, 1) := by decide +kernel
theorem dX12_point_4 : decode cX12_point 4 = .ok (.istore 5, 2) := by decide +kernel
theorem dX12_point_6 : decode cX12_point 6 = .ok (.sipush 1000, 3) := by decide +kernel
theorem dX12_point_9 : decode cX12_point 9 = .ok (.iload_n 1, 1) := by decide +kernel
theorem dX12_point_10 : decode cX12_point 10 = .ok (.imul, 1) := by decide +kernel
theorem dX12_point_11 : decode cX12_point 11 = .ok (.aload_n 0, 1) := by decide +kernel
theorem dX12_point_12 : decode cX12_point 12 = .ok (.getfield 35, 3) := by decide +kernel
theorem dX12_point_15 : decode cX12_point 15 = .ok (.iload_n 1, 1) := by decide +kernel
theorem dX12_point_16 : decode cX12_point 16 = .ok (.iaload, 1) := by decide +kernel
theorem dX12_point_17 : decode cX12_point 17 = .ok (.iadd, 1) := by decide +kernel
theorem dX12_point_18 : decode cX12_point 18 = .ok (.istore 6, 2) := by decide +kernel
theorem dX12_point_20 : decode cX12_point 20 = .ok (.aload_n 0, 1) := by decide +kernel
theorem dX12_point_21 : decode cX12_point 21 = .ok (.getfield 38, 3) := by decide +kernel
theorem dX12_point_24 : decode cX12_point 24 = .ok (.iload 6, 2) := by decide +kernel
theorem dX12_point_26 : decode cX12_point 26 = .ok (.aload_n 0, 1) := by decide +kernel
theorem dX12_point_27 : decode cX12_point 27 = .ok (.getfield 23, 3) := by decide +kernel
theorem dX12_point_30 : decode cX12_point 30 = .ok (.iload 5, 2) := by decide +kernel
theorem dX12_point_32 : decode cX12_point 32 = .ok (.iaload, 1) := by decide +kernel
theorem dX12_point_33 : decode cX12_point 33 = .ok (.i2l, 1) := by decide +kernel
theorem dX12_point_34 : decode cX12_point 34 = .ok (.iload_n 2, 1) := by decide +kernel
theorem dX12_point_35 : decode cX12_point 35 = .ok (.i2l, 1) := by decide +kernel
theorem dX12_point_36 : decode cX12_point 36 = .ok (.lmul, 1) := by decide +kernel
theorem dX12_point_37 : decode cX12_point 37 = .ok (.aload_n 0, 1) := by decide +kernel
theorem dX12_point_38 : decode cX12_point 38 = .ok (.getfield 23, 3) := by decide +kernel
theorem dX12_point_41 : decode cX12_point 41 = .ok (.iload 5, 2) := by decide +kernel
theorem dX12_point_43 : decode cX12_point 43 = .ok (.iconst 2, 1) := by decide +kernel
theorem dX12_point_44 : decode cX12_point 44 = .ok (.iadd, 1) := by decide +kernel
theorem dX12_point_45 : decode cX12_point 45 = .ok (.iaload, 1) := by decide +kernel
theorem dX12_point_46 : decode cX12_point 46 = .ok (.i2l, 1) := by decide +kernel
theorem dX12_point_47 : decode cX12_point 47 = .ok (.iload_n 3, 1) := by decide +kernel
theorem dX12_point_48 : decode cX12_point 48 = .ok (.i2l, 1) := by decide +kernel
theorem dX12_point_49 : decode cX12_point 49 = .ok (.lmul, 1) := by decide +kernel
theorem dX12_point_50 : decode cX12_point 50 = .ok (.ladd, 1) := by decide +kernel
theorem dX12_point_51 : decode cX12_point 51 = .ok (.invokestatic 139, 3) := by decide +kernel
theorem dX12_point_54 : decode cX12_point 54 = .ok (.aload_n 0, 1) := by decide +kernel
theorem dX12_point_55 : decode cX12_point 55 = .ok (.getfield 23, 3) := by decide +kernel
theorem dX12_point_58 : decode cX12_point 58 = .ok (.iload 5, 2) := by decide +kernel
theorem dX12_point_60 : decode cX12_point 60 = .ok (.iconst 4, 1) := by decide +kernel
theorem dX12_point_61 : decode cX12_point 61 = .ok (.iadd, 1) := by decide +kernel
theorem dX12_point_62 : decode cX12_point 62 = .ok (.iaload, 1) := by decide +kernel
theorem dX12_point_63 : decode cX12_point 63 = .ok (.i2l, 1) := by decide +kernel
theorem dX12_point_64 : decode cX12_point 64 = .ok (.ladd, 1) := by decide +kernel
theorem dX12_point_65 : decode cX12_point 65 = .ok (.invokestatic 143, 3) := by decide +kernel
theorem dX12_point_68 : decode cX12_point 68 = .ok (.iastore, 1) := by decide +kernel
theorem dX12_point_69 : decode cX12_point 69 = .ok (.aload_n 0, 1) := by decide +kernel
theorem dX12_point_70 : decode cX12_point 70 = .ok (.getfield 41, 3) := by decide +kernel
theorem dX12_point_73 : decode cX12_point 73 = .ok (.iload 6, 2) := by decide +kernel
theorem dX12_point_75 : decode cX12_point 75 = .ok (.aload_n 0, 1) := by decide +kernel
theorem dX12_point_76 : decode cX12_point 76 = .ok (.getfield 23, 3) := by decide +kernel
theorem dX12_point_79 : decode cX12_point 79 = .ok (.iload 5, 2) := by decide +kernel
theorem dX12_point_81 : decode cX12_point 81 = .ok (.iconst 1, 1) := by decide +kernel
theorem dX12_point_82 : decode cX12_point 82 = .ok (.iadd, 1) := by decide +kernel
theorem dX12_point_83 : decode cX12_point 83 = .ok (.iaload, 1) := by decide +kernel
theorem dX12_point_84 : decode cX12_point 84 = .ok (.i2l, 1) := by decide +kernel
theorem dX12_point_85 : decode cX12_point 85 = .ok (.iload_n 2, 1) := by decide +kernel
theorem dX12_point_86 : decode cX12_point 86 = .ok (.i2l, 1) := by decide +kernel
theorem dX12_point_87 : decode cX12_point 87 = .ok (.lmul, 1) := by decide +kernel
theorem dX12_point_88 : decode cX12_point 88 = .ok (.aload_n 0, 1) := by decide +kernel
theorem dX12_point_89 : decode cX12_point 89 = .ok (.getfield 23, 3) := by decide +kernel
theorem dX12_point_92 : decode cX12_point 92 = .ok (.iload 5, 2) := by decide +kernel
theorem dX12_point_94 : decode cX12_point 94 = .ok (.iconst 3, 1) := by decide +kernel
theorem dX12_point_95 : decode cX12_point 95 = .ok (.iadd, 1) := by decide +kernel
theorem dX12_point_96 : decode cX12_point 96 = .ok (.iaload, 1) := by decide +kernel
theorem dX12_point_97 : decode cX12_point 97 = .ok (.i2l, 1) := by decide +kernel
theorem dX12_point_98 : decode cX12_point 98 = .ok (.iload_n 3, 1) := by decide +kernel
theorem dX12_point_99 : decode cX12_point 99 = .ok (.i2l, 1) := by decide +kernel
theorem dX12_point_100 : decode cX12_point 100 = .ok (.lmul, 1) := by decide +kernel
theorem dX12_point_101 : decode cX12_point 101 = .ok (.ladd, 1) := by decide +kernel
theorem dX12_point_102 : decode cX12_point 102 = .ok (.invokestatic 139, 3) := by decide +kernel
theorem dX12_point_105 : decode cX12_point 105 = .ok (.aload_n 0, 1) := by decide +kernel
theorem dX12_point_106 : decode cX12_point 106 = .ok (.getfield 23, 3) := by decide +kernel
theorem dX12_point_109 : decode cX12_point 109 = .ok (.iload 5, 2) := by decide +kernel
theorem dX12_point_111 : decode cX12_point 111 = .ok (.iconst 5, 1) := by decide +kernel
theorem dX12_point_112 : decode cX12_point 112 = .ok (.iadd, 1) := by decide +kernel
theorem dX12_point_113 : decode cX12_point 113 = .ok (.iaload, 1) := by decide +kernel
theorem dX12_point_114 : decode cX12_point 114 = .ok (.i2l, 1) := by decide +kernel
theorem dX12_point_115 : decode cX12_point 115 = .ok (.ladd, 1) := by decide +kernel
theorem dX12_point_116 : decode cX12_point 116 = .ok (.invokestatic 143, 3) := by decide +kernel
theorem dX12_point_119 : decode cX12_point 119 = .ok (.iastore, 1) := by decide +kernel
theorem dX12_point_120 : decode cX12_point 120 = .ok (.aload_n 0, 1) := by decide +kernel
theorem dX12_point_121 : decode cX12_point 121 = .ok (.getfield 44, 3) := by decide +kernel
theorem dX12_point_124 : decode cX12_point 124 = .ok (.iload 6, 2) := by decide +kernel
theorem dX12_point_126 : decode cX12_point 126 = .ok (.iload 4, 2) := by decide +kernel
theorem dX12_point_128 : decode cX12_point 128 = .ok (.bastore, 1) := by decide +kernel
theorem dX12_point_129 : decode cX12_point 129 = .ok (.iload 4, 2) := by decide +kernel
theorem dX12_point_131 : decode cX12_point 131 = .ok (.ifCond .eq 35, 3) := by decide +kernel
theorem dX12_point_134 : decode cX12_point 134 = .ok (.aload_n 0, 1) := by decide +kernel
theorem dX12_point_135 : decode cX12_point 135 = .ok (.getfield 60, 3) := by decide +kernel
theorem dX12_point_138 : decode cX12_point 138 = .ok (.iload_n 1, 1) := by decide +kernel
theorem dX12_point_139 : decode cX12_point 139 = .ok (.iload_n 2, 1) := by decide +kernel
theorem dX12_point_140 : decode cX12_point 140 = .ok (.iastore, 1) := by decide +kernel
theorem dX12_point_141 : decode cX12_point 141 = .ok (.aload_n 0, 1) := by decide +kernel
theorem dX12_point_142 : decode cX12_point 142 = .ok (.getfield 63, 3) := by decide +kernel
theorem dX12_point_145 : decode cX12_point 145 = .ok (.iload_n 1, 1) := by decide +kernel
theorem dX12_point_146 : decode cX12_point 146 = .ok (.iload_n 3, 1) := by decide +kernel
theorem dX12_point_147 : decode cX12_point 147 = .ok (.iastore, 1) := by decide +kernel
theorem dX12_point_148 : decode cX12_point 148 = .ok (.aload_n 0, 1) := by decide +kernel
theorem dX12_point_149 : decode cX12_point 149 = .ok (.getfield 66, 3) := by decide +kernel
theorem dX12_point_152 : decode cX12_point 152 = .ok (.iload_n 1, 1) := by decide +kernel
theorem dX12_point_153 : decode cX12_point 153 = .ok (.iload 6, 2) := by decide +kernel
theorem dX12_point_155 : decode cX12_point 155 = .ok (.iastore, 1) := by decide +kernel
theorem dX12_point_156 : decode cX12_point 156 = .ok (.aload_n 0, 1) := by decide +kernel
theorem dX12_point_157 : decode cX12_point 157 = .ok (.getfield 48, 3) := by decide +kernel
theorem dX12_point_160 : decode cX12_point 160 = .ok (.iload_n 1, 1) := by decide +kernel
theorem dX12_point_161 : decode cX12_point 161 = .ok (.iconst 1, 1) := by decide +kernel
theorem dX12_point_162 : decode cX12_point 162 = .ok (.bastore, 1) := by decide +kernel
theorem dX12_point_163 : decode cX12_point 163 = .ok (.goto 13, 3) := by decide +kernel
theorem dX12_point_166 : decode cX12_point 166 = .ok (.aload_n 0, 1) := by decide +kernel
theorem dX12_point_167 : decode cX12_point 167 = .ok (.getfield 51, 3) := by decide +kernel
theorem dX12_point_170 : decode cX12_point 170 = .ok (.iload_n 1, 1) := by decide +kernel
theorem dX12_point_171 : decode cX12_point 171 = .ok (.dup2, 1) := by decide +kernel
theorem dX12_point_172 : decode cX12_point 172 = .ok (.iaload, 1) := by decide +kernel
theorem dX12_point_173 : decode cX12_point 173 = .ok (.iconst 1, 1) := by decide +kernel
theorem dX12_point_174 : decode cX12_point 174 = .ok (.iadd, 1) := by decide +kernel
theorem dX12_point_175 : decode cX12_point 175 = .ok (.iastore, 1) := by decide +kernel
theorem dX12_point_176 : decode cX12_point 176 = .ok (.aload_n 0, 1) := by decide +kernel
theorem dX12_point_177 : decode cX12_point 177 = .ok (.getfield 35, 3) := by decide +kernel
theorem dX12_point_180 : decode cX12_point 180 = .ok (.iload_n 1, 1) := by decide +kernel
theorem dX12_point_181 : decode cX12_point 181 = .ok (.dup2, 1) := by decide +kernel
theorem dX12_point_182 : decode cX12_point 182 = .ok (.iaload, 1) := by decide +kernel
theorem dX12_point_183 : decode cX12_point 183 = .ok (.iconst 1, 1) := by decide +kernel
theorem dX12_point_184 : decode cX12_point 184 = .ok (.iadd, 1) := by decide +kernel
theorem dX12_point_185 : decode cX12_point 185 = .ok (.iastore, 1) := by decide +kernel
theorem dX12_point_186 : decode cX12_point 186 = .ok (.aload_n 0, 1) := by decide +kernel
theorem dX12_point_187 : decode cX12_point 187 = .ok (.getfield 54, 3) := by decide +kernel
theorem dX12_point_190 : decode cX12_point 190 = .ok (.iload_n 1, 1) := by decide +kernel
theorem dX12_point_191 : decode cX12_point 191 = .ok (.iload_n 2, 1) := by decide +kernel
theorem dX12_point_192 : decode cX12_point 192 = .ok (.iastore, 1) := by decide +kernel
theorem dX12_point_193 : decode cX12_point 193 = .ok (.aload_n 0, 1) := by decide +kernel
theorem dX12_point_194 : decode cX12_point 194 = .ok (.getfield 57, 3) := by decide +kernel
theorem dX12_point_197 : decode cX12_point 197 = .ok (.iload_n 1, 1) := by decide +kernel
theorem dX12_point_198 : decode cX12_point 198 = .ok (.iload_n 3, 1) := by decide +kernel
theorem dX12_point_199 : decode cX12_point 199 = .ok (.iastore, 1) := by decide +kernel
theorem dX12_point_200 : decode cX12_point 200 = .ok (.return_, 1) := by decide +kernel
abbrev rm_X12_point : Room := { frames := 1, cells := 0, slots := 0, locals := 21 }
def w_X12_point : List Cond := Cond.code yX12_point cX12_point 7 none :: uw
set_option maxHeartbeats 4000000 in
set_option maxRecDepth 100000 in
theorem c_X12_point (l : Launch) (dC : Nat → ClassId) (dI : Nat → Nat → Nat) (cI cZ cO : ClassId) (tL sz : Nat) (h0 : Nat) (h1 : Nat) (h2 : Nat) (h3 : Nat) (h4 : Nat) (h5 : Nat) (h6 : Nat) (h7 : Nat) (h8 : Nat) (h9 : Nat) (h10 : Nat) (h11 : Nat) (h12 : Nat) (g0_sheet : Nat) (g0_words : Nat) (g0_size : Nat) (g0_saved : Nat) (g0_saves : Nat) (g0_at : Nat) (g0_both : Nat) (g0_cut : Nat) (v0_wide : Int32) (v0_tall : Int32) (v0_good : Int32) (v0_faultPlace : Int32) (v0_made : Int32) (v0_fills : Int32) (v0_painted : Int32) (v0_other : Int32) (f1 : Nat → Int32) (f2 : Nat → Int32) (f3 : Nat → Int32) (f4 : Nat → Int32) (f5 : Nat → Int32) (f6 : Nat → Int32) (f7 : Nat → Int32) (f8 : Nat → Int32) (f9 : Nat → Int32) (f10 : Nat → Int32) (f11 : Nat → Int32) (f12 : Nat → Int32) (p1 : Int32) (p2 : Int32) (p3 : Int32) (p4 : Int32) (res : (Nat → Int32) × (Nat → Int32) × (Nat → Int32) × (Nat → Int32) × (Nat → Int32) × (Nat → Int32) × (Nat → Int32) × (Nat → Int32) × (Nat → Int32) × (Nat → Int32) × (Nat → Int32)) (hM : m_X12_point f1 f2 f3 f4 f5 f6 f7 f8 f9 f10 f11 f12 p1 p2 p3 p4 = some res) : Met l yX12_point w_X12_point rm_X12_point (PCx [.ref h0, .int p1, .int p2, .int p3, .int p4] (dC, dI) [(cI, .int), (cZ, .boolean), (cO, .object "ListPainter$Settings")] sz tL [(h0, .inr (11, [.int v0_wide, .int v0_tall, .ref g0_sheet, .ref g0_words, .ref g0_size, .int v0_good, .int v0_faultPlace, .int v0_made, .int v0_fills, .int v0_painted, .ref h2, .ref g0_saved, .ref g0_saves, .ref g0_at, .ref h1, .ref h3, .ref h4, .ref h5, .ref h9, .ref h10, .ref h11, .ref h12, .ref h6, .ref h7, .ref h8, .ref g0_both, .ref g0_cut, .int v0_other])), (h1, .inl (cI, 2, .inl f1)), (h2, .inl (cI, 24, .inl f2)), (h3, .inl (cI, 2000, .inl f3)), (h4, .inl (cI, 2000, .inl f4)), (h5, .inl (cZ, 2000, .inl f5)), (h6, .inl (cI, 2, .inl f6)), (h7, .inl (cI, 2, .inl f7)), (h8, .inl (cI, 2, .inl f8)), (h9, .inl (cZ, 2, .inl f9)), (h10, .inl (cI, 2, .inl f10)), (h11, .inl (cI, 2, .inl f11)), (h12, .inl (cI, 2, .inl f12))]) (QMv (dC, dI) [(cI, .int), (cZ, .boolean), (cO, .object "ListPainter$Settings")] (va_A [(h0, .inr (11, [.int v0_wide, .int v0_tall, .ref g0_sheet, .ref g0_words, .ref g0_size, .int v0_good, .int v0_faultPlace, .int v0_made, .int v0_fills, .int v0_painted, .ref h2, .ref g0_saved, .ref g0_saves, .ref g0_at, .ref h1, .ref h3, .ref h4, .ref h5, .ref h9, .ref h10, .ref h11, .ref h12, .ref h6, .ref h7, .ref h8, .ref g0_both, .ref g0_cut, .int v0_other])), (h1, .inl (cI, 2, .inl f1)), (h2, .inl (cI, 24, .inl f2)), (h3, .inl (cI, 2000, .inl f3)), (h4, .inl (cI, 2000, .inl f4)), (h5, .inl (cZ, 2000, .inl f5)), (h6, .inl (cI, 2, .inl f6)), (h7, .inl (cI, 2, .inl f7)), (h8, .inl (cI, 2, .inl f8)), (h9, .inl (cZ, 2, .inl f9)), (h10, .inl (cI, 2, .inl f10)), (h11, .inl (cI, 2, .inl f11)), (h12, .inl (cI, 2, .inl f12))] sz) [(h0, .inr (11, [.int v0_wide, .int v0_tall, .ref g0_sheet, .ref g0_words, .ref g0_size, .int v0_good, .int v0_faultPlace, .int v0_made, .int v0_fills, .int v0_painted, .ref h2, .ref g0_saved, .ref g0_saves, .ref g0_at, .ref h1, .ref h3, .ref h4, .ref h5, .ref h9, .ref h10, .ref h11, .ref h12, .ref h6, .ref h7, .ref h8, .ref g0_both, .ref g0_cut, .int v0_other])), (h1, .inl (cI, 2, .inl (res.1))), (h2, .inl (cI, 24, .inl f2)), (h3, .inl (cI, 2000, .inl (res.2.1))), (h4, .inl (cI, 2000, .inl (res.2.2.1))), (h5, .inl (cZ, 2000, .inl (res.2.2.2.1))), (h6, .inl (cI, 2, .inl (res.2.2.2.2.1))), (h7, .inl (cI, 2, .inl (res.2.2.2.2.2.1))), (h8, .inl (cI, 2, .inl (res.2.2.2.2.2.2.1))), (h9, .inl (cZ, 2, .inl (res.2.2.2.2.2.2.2.1))), (h10, .inl (cI, 2, .inl (res.2.2.2.2.2.2.2.2.1))), (h11, .inl (cI, 2, .inl (res.2.2.2.2.2.2.2.2.2.1))), (h12, .inl (cI, 2, .inl (res.2.2.2.2.2.2.2.2.2.2)))]) 0 0 (va_A [(h0, .inr (11, [.int v0_wide, .int v0_tall, .ref g0_sheet, .ref g0_words, .ref g0_size, .int v0_good, .int v0_faultPlace, .int v0_made, .int v0_fills, .int v0_painted, .ref h2, .ref g0_saved, .ref g0_saves, .ref g0_at, .ref h1, .ref h3, .ref h4, .ref h5, .ref h9, .ref h10, .ref h11, .ref h12, .ref h6, .ref h7, .ref h8, .ref g0_both, .ref g0_cut, .int v0_other])), (h1, .inl (cI, 2, .inl f1)), (h2, .inl (cI, 24, .inl f2)), (h3, .inl (cI, 2000, .inl f3)), (h4, .inl (cI, 2000, .inl f4)), (h5, .inl (cZ, 2000, .inl f5)), (h6, .inl (cI, 2, .inl f6)), (h7, .inl (cI, 2, .inl f7)), (h8, .inl (cI, 2, .inl f8)), (h9, .inl (cZ, 2, .inl f9)), (h10, .inl (cI, 2, .inl f10)), (h11, .inl (cI, 2, .inl f11)), (h12, .inl (cI, 2, .inl f12))] sz) := by
  refine Met.ofW (cc := cX12_point) (maxL := 7) (ret := none) (by decide) rfl ?_
  intro p e s m args below meth c s₁ B hml hv
  obtain ⟨rfl, hsz, hP, hK, hD0, hG⟩ := hv
  have hx := B.exec
  have hb := B.bytes
  have hr := B.returns
  have hu : ∀ w ∈ uw, w.before ([.ref h0, .int p1, .int p2, .int p3, .int p4] : List Value).toArray s = true := fun w h => atoms_spec (ws := w_X12_point) B.pre w (List.mem_cons_of_mem _ h)
  have hown : s.vm.findClass RX12 = some m.cls := findClass_of_methodNamed B.named
  have hlocks := B.notSynchronized
  subst hsz
  have hD := hD0.self (sz := s.heap.size)
  generalize hAe : va_A [(h0, .inr (11, [.int v0_wide, .int v0_tall, .ref g0_sheet, .ref g0_words, .ref g0_size, .int v0_good, .int v0_faultPlace, .int v0_made, .int v0_fills, .int v0_painted, .ref h2, .ref g0_saved, .ref g0_saves, .ref g0_at, .ref h1, .ref h3, .ref h4, .ref h5, .ref h9, .ref h10, .ref h11, .ref h12, .ref h6, .ref h7, .ref h8, .ref g0_both, .ref g0_cut, .int v0_other])), (h1, .inl (cI, 2, .inl f1)), (h2, .inl (cI, 24, .inl f2)), (h3, .inl (cI, 2000, .inl f3)), (h4, .inl (cI, 2000, .inl f4)), (h5, .inl (cZ, 2000, .inl f5)), (h6, .inl (cI, 2, .inl f6)), (h7, .inl (cI, 2, .inl f7)), (h8, .inl (cI, 2, .inl f8)), (h9, .inl (cZ, 2, .inl f9)), (h10, .inl (cI, 2, .inl f10)), (h11, .inl (cI, 2, .inl f11)), (h12, .inl (cI, 2, .inl f12))] s.heap.size = A at hD hG ⊢
  have hA : ∀ q : Nat, s.heap.size ≤ q → A q := fun q h => by rw [← hAe]; exact Or.inr h
  have hS : va_S A s.heap s.heap [] := va_S.rf
  have hP : va_P (dC, dI) vwCl [(h0, .inr (11, [.int v0_wide, .int v0_tall, .ref g0_sheet, .ref g0_words, .ref g0_size, .int v0_good, .int v0_faultPlace, .int v0_made, .int v0_fills, .int v0_painted, .ref h2, .ref g0_saved, .ref g0_saves, .ref g0_at, .ref h1, .ref h3, .ref h4, .ref h5, .ref h9, .ref h10, .ref h11, .ref h12, .ref h6, .ref h7, .ref h8, .ref g0_both, .ref g0_cut, .int v0_other])), (h1, .inl (cI, 2, .inl f1)), (h2, .inl (cI, 24, .inl f2)), (h3, .inl (cI, 2000, .inl f3)), (h4, .inl (cI, 2000, .inl f4)), (h5, .inl (cZ, 2000, .inl f5)), (h6, .inl (cI, 2, .inl f6)), (h7, .inl (cI, 2, .inl f7)), (h8, .inl (cI, 2, .inl f8)), (h9, .inl (cZ, 2, .inl f9)), (h10, .inl (cI, 2, .inl f10)), (h11, .inl (cI, 2, .inl f11)), (h12, .inl (cI, 2, .inl f12))] s.heap := hP
  have hl := lv_entry ([.ref h0, .int p1, .int p2, .int p3, .int p4]) (n := 7) (Nat.le_of_ble_eq_true rfl)
  rw [lg_entry_eq]
  generalize (lg_sl ([.ref h0, .int p1, .int p2, .int p3, .int p4]) ++ List.replicate (7 - (lg_sl ([.ref h0, .int p1, .int p2, .int p3, .int p4])).length) Slot.unset).toArray = ls at hl ⊢
  have hl : lv_has ls 7 [(0, .ref h0), (1, .int p1), (2, .int p2), (3, .int p3), (4, .int p4)] := hl
  rw [m_X12_point] at hM
  suffices hgo : ∀ (H : Heap) (locs : List Loc), va_P (dC, dI) vwCl [(h0, .inr (11, [.int v0_wide, .int v0_tall, .ref g0_sheet, .ref g0_words, .ref g0_size, .int v0_good, .int v0_faultPlace, .int v0_made, .int v0_fills, .int v0_painted, .ref h2, .ref g0_saved, .ref g0_saves, .ref g0_at, .ref h1, .ref h3, .ref h4, .ref h5, .ref h9, .ref h10, .ref h11, .ref h12, .ref h6, .ref h7, .ref h8, .ref g0_both, .ref g0_cut, .int v0_other])), (h1, .inl (cI, 2, .inl f1)), (h2, .inl (cI, 24, .inl f2)), (h3, .inl (cI, 2000, .inl f3)), (h4, .inl (cI, 2000, .inl f4)), (h5, .inl (cZ, 2000, .inl f5)), (h6, .inl (cI, 2, .inl f6)), (h7, .inl (cI, 2, .inl f7)), (h8, .inl (cI, 2, .inl f8)), (h9, .inl (cZ, 2, .inl f9)), (h10, .inl (cI, 2, .inl f10)), (h11, .inl (cI, 2, .inl f11)), (h12, .inl (cI, 2, .inl f12))] H → va_D A [(h0, .inr (11, [.int v0_wide, .int v0_tall, .ref g0_sheet, .ref g0_words, .ref g0_size, .int v0_good, .int v0_faultPlace, .int v0_made, .int v0_fills, .int v0_painted, .ref h2, .ref g0_saved, .ref g0_saves, .ref g0_at, .ref h1, .ref h3, .ref h4, .ref h5, .ref h9, .ref h10, .ref h11, .ref h12, .ref h6, .ref h7, .ref h8, .ref g0_both, .ref g0_cut, .int v0_other])), (h1, .inl (cI, 2, .inl f1)), (h2, .inl (cI, 24, .inl f2)), (h3, .inl (cI, 2000, .inl f3)), (h4, .inl (cI, 2000, .inl f4)), (h5, .inl (cZ, 2000, .inl f5)), (h6, .inl (cI, 2, .inl f6)), (h7, .inl (cI, 2, .inl f7)), (h8, .inl (cI, 2, .inl f8)), (h9, .inl (cZ, 2, .inl f9)), (h10, .inl (cI, 2, .inl f10)), (h11, .inl (cI, 2, .inl f11)), (h12, .inl (cI, 2, .inl f12))] → va_S A s.heap H locs → W p l e (headSpec w_X12_point rm_X12_point).room s m ([.ref h0, .int p1, .int p2, .int p3, .int p4] : List Value).toArray below meth c H locs 0 0 (MQ below (QMv (dC, dI) [(cI, .int), (cZ, .boolean), (cO, .object "ListPainter$Settings")] A [(h0, .inr (11, [.int v0_wide, .int v0_tall, .ref g0_sheet, .ref g0_words, .ref g0_size, .int v0_good, .int v0_faultPlace, .int v0_made, .int v0_fills, .int v0_painted, .ref h2, .ref g0_saved, .ref g0_saves, .ref g0_at, .ref h1, .ref h3, .ref h4, .ref h5, .ref h9, .ref h10, .ref h11, .ref h12, .ref h6, .ref h7, .ref h8, .ref g0_both, .ref g0_cut, .int v0_other])), (h1, .inl (cI, 2, .inl (res.1))), (h2, .inl (cI, 24, .inl f2)), (h3, .inl (cI, 2000, .inl (res.2.1))), (h4, .inl (cI, 2000, .inl (res.2.2.1))), (h5, .inl (cZ, 2000, .inl (res.2.2.2.1))), (h6, .inl (cI, 2, .inl (res.2.2.2.2.1))), (h7, .inl (cI, 2, .inl (res.2.2.2.2.2.1))), (h8, .inl (cI, 2, .inl (res.2.2.2.2.2.2.1))), (h9, .inl (cZ, 2, .inl (res.2.2.2.2.2.2.2.1))), (h10, .inl (cI, 2, .inl (res.2.2.2.2.2.2.2.2.1))), (h11, .inl (cI, 2, .inl (res.2.2.2.2.2.2.2.2.2.1))), (h12, .inl (cI, 2, .inl (res.2.2.2.2.2.2.2.2.2.2)))]) ([.ref h0, .int p1, .int p2, .int p3, .int p4] : List Value).toArray s 0 0 A) (F0 m 0 ls []) from hgo _ _ hP hD hS
  intro H locs hP hD hS
  refine lv_bipush (v := 12) hx hb dX12_point_0 (by decide) ?_
  refine lv_iload_n hx hb dX12_point_2 rfl (lv_at hl 1 rfl) ?_
  refine lv_imul hx hb dX12_point_3 ?_
  refine lv_topi (fun x_1 ex_1 => ?_)
  have hM := nm_u ex_1 hM
  refine lv_istore (lv' := [(5, .int x_1), (0, .ref h0), (1, .int p1), (2, .int p2), (3, .int p3), (4, .int p4)]) hx hb dX12_point_4 hl (by decide) rfl (fun ls hl => ?_)
  refine lv_sipush (v := 1000) hx hb dX12_point_6 (by decide) ?_
  refine lv_iload_n hx hb dX12_point_9 rfl (lv_at hl 2 rfl) ?_
  refine lv_imul hx hb dX12_point_10 ?_
  refine lv_aload_n hx hb dX12_point_11 rfl (lv_at hl 1 rfl) ?_
  refine va_get (D := (dC, dI)) (ci := 11) (v := .ref h1) (C := RX12) (T := TX12) (N := 28) hx hb hu inX12 hown hK hP 0 rfl rfl 14 (by decide) (hu _ kw_271) (fun _ h9 => h9) rfl dX12_point_12 ?_
  refine lv_iload_n hx hb dX12_point_15 rfl (lv_at hl 2 rfl) ?_
  obtain ⟨g_2, hM⟩ := gd_u hM
  refine va_iald hx hb hK hP 1 0 rfl rfl (inb_v g_2) dX12_point_16 ?_
  refine lv_topi (fun a_3 ea_3 => ?_)
  have hM := nm_u ea_3 hM
  refine lv_iadd hx hb dX12_point_17 ?_
  refine lv_topi (fun x_4 ex_4 => ?_)
  have hM := nm_u ex_4 hM
  refine lv_istore (lv' := [(6, .int x_4), (5, .int x_1), (0, .ref h0), (1, .int p1), (2, .int p2), (3, .int p3), (4, .int p4)]) hx hb dX12_point_18 hl (by decide) rfl (fun ls hl => ?_)
  refine lv_aload_n hx hb dX12_point_20 rfl (lv_at hl 2 rfl) ?_
  refine va_get (D := (dC, dI)) (ci := 11) (v := .ref h3) (C := RX12) (T := TX12) (N := 28) hx hb hu inX12 hown hK hP 0 rfl rfl 15 (by decide) (hu _ kw_292) (fun _ h9 => h9) rfl dX12_point_21 ?_
  refine lv_iload hx hb dX12_point_24 (lv_at hl 0 rfl) ?_
  refine lv_aload_n hx hb dX12_point_26 rfl (lv_at hl 2 rfl) ?_
  refine va_get (D := (dC, dI)) (ci := 11) (v := .ref h2) (C := RX12) (T := TX12) (N := 28) hx hb hu inX12 hown hK hP 0 rfl rfl 10 (by decide) (hu _ kw_269) (fun _ h9 => h9) rfl dX12_point_27 ?_
  refine lv_iload hx hb dX12_point_30 (lv_at hl 1 rfl) ?_
  obtain ⟨g_5, hM⟩ := gd_u hM
  refine va_iald hx hb hK hP 2 0 rfl rfl (inb_v g_5) dX12_point_32 ?_
  refine lv_topi (fun a_6 ea_6 => ?_)
  have hM := nm_u ea_6 hM
  refine lv_i2l (v := ((a_6 : Int32).toInt64)) hx hb dX12_point_33 rfl ?_
  refine lv_iload_n hx hb dX12_point_34 rfl (lv_at hl 4 rfl) ?_
  refine lv_i2l (v := ((p2 : Int32).toInt64)) hx hb dX12_point_35 rfl ?_
  refine lv_lmul hx hb dX12_point_36 ?_
  refine lv_aload_n hx hb dX12_point_37 rfl (lv_at hl 2 rfl) ?_
  refine va_get (D := (dC, dI)) (ci := 11) (v := .ref h2) (C := RX12) (T := TX12) (N := 28) hx hb hu inX12 hown hK hP 0 rfl rfl 10 (by decide) (hu _ kw_269) (fun _ h9 => h9) rfl dX12_point_38 ?_
  refine lv_iload hx hb dX12_point_41 (lv_at hl 1 rfl) ?_
  refine lv_iconst (v := 2) hx hb dX12_point_43 (by decide) ?_
  refine lv_iadd hx hb dX12_point_44 ?_
  obtain ⟨g_7, hM⟩ := gd_u hM
  refine va_iald hx hb hK hP 2 0 rfl rfl (inb_v g_7) dX12_point_45 ?_
  refine lv_topi (fun a_8 ea_8 => ?_)
  have hM := nm_u ea_8 hM
  refine lv_i2l (v := ((a_8 : Int32).toInt64)) hx hb dX12_point_46 rfl ?_
  refine lv_iload_n hx hb dX12_point_47 rfl (lv_at hl 5 rfl) ?_
  refine lv_i2l (v := ((p3 : Int32).toInt64)) hx hb dX12_point_48 rfl ?_
  refine lv_lmul hx hb dX12_point_49 ?_
  refine lv_ladd hx hb dX12_point_50 ?_
  obtain ⟨r_9, hm_10, hM⟩ := bd1_u hM
  refine cSl (r := r_9) (As := [.long ((((a_6 : Int32).toInt64) * ((p2 : Int32).toInt64)) + (((a_8 : Int32).toInt64) * ((p3 : Int32).toInt64)))]) (rest := [.int x_4, .ref h3]) ⟨hx, hb, hml, hown, hu⟩ (c_X12_rounded l dC dI cI cZ cO tL H.size ((((a_6 : Int32).toInt64) * ((p2 : Int32).toInt64)) + (((a_8 : Int32).toInt64) * ((p3 : Int32).toInt64))) r_9 hm_10) (va_cwS 1 hu (gS kw_293 kw_294 kw_253 kw_295) rfl rfl rfl (by decide +kernel) ⟨Nat.le_of_ble_eq_true rfl, Nat.le_of_ble_eq_true rfl⟩) hP hD hS hA hK hG [] (by decide) rfl [none, none, none, none, none, none, none, none, none, none, none, none, none] 0 rfl (by decide +kernel) rfl rfl hl.1 rfl (Nat.le_of_ble_eq_true rfl) dX12_point_51 (Nat.zero_le _) (Nat.zero_le _) (fun H locs hP hD hS => ?_)
  have hP : va_P (dC, dI) vwCl [(h0, .inr (11, [.int v0_wide, .int v0_tall, .ref g0_sheet, .ref g0_words, .ref g0_size, .int v0_good, .int v0_faultPlace, .int v0_made, .int v0_fills, .int v0_painted, .ref h2, .ref g0_saved, .ref g0_saves, .ref g0_at, .ref h1, .ref h3, .ref h4, .ref h5, .ref h9, .ref h10, .ref h11, .ref h12, .ref h6, .ref h7, .ref h8, .ref g0_both, .ref g0_cut, .int v0_other])), (h1, .inl (cI, 2, .inl f1)), (h2, .inl (cI, 24, .inl f2)), (h3, .inl (cI, 2000, .inl f3)), (h4, .inl (cI, 2000, .inl f4)), (h5, .inl (cZ, 2000, .inl f5)), (h6, .inl (cI, 2, .inl f6)), (h7, .inl (cI, 2, .inl f7)), (h8, .inl (cI, 2, .inl f8)), (h9, .inl (cZ, 2, .inl f9)), (h10, .inl (cI, 2, .inl f10)), (h11, .inl (cI, 2, .inl f11)), (h12, .inl (cI, 2, .inl f12))] H := hP
  have hD : va_D A [(h0, .inr (11, [.int v0_wide, .int v0_tall, .ref g0_sheet, .ref g0_words, .ref g0_size, .int v0_good, .int v0_faultPlace, .int v0_made, .int v0_fills, .int v0_painted, .ref h2, .ref g0_saved, .ref g0_saves, .ref g0_at, .ref h1, .ref h3, .ref h4, .ref h5, .ref h9, .ref h10, .ref h11, .ref h12, .ref h6, .ref h7, .ref h8, .ref g0_both, .ref g0_cut, .int v0_other])), (h1, .inl (cI, 2, .inl f1)), (h2, .inl (cI, 24, .inl f2)), (h3, .inl (cI, 2000, .inl f3)), (h4, .inl (cI, 2000, .inl f4)), (h5, .inl (cZ, 2000, .inl f5)), (h6, .inl (cI, 2, .inl f6)), (h7, .inl (cI, 2, .inl f7)), (h8, .inl (cI, 2, .inl f8)), (h9, .inl (cZ, 2, .inl f9)), (h10, .inl (cI, 2, .inl f10)), (h11, .inl (cI, 2, .inl f11)), (h12, .inl (cI, 2, .inl f12))] := hD
  refine lv_aload_n hx hb dX12_point_54 rfl (lv_at hl 2 rfl) ?_
  refine va_get (D := (dC, dI)) (ci := 11) (v := .ref h2) (C := RX12) (T := TX12) (N := 28) hx hb hu inX12 hown hK hP 0 rfl rfl 10 (by decide) (hu _ kw_269) (fun _ h9 => h9) rfl dX12_point_55 ?_
  refine lv_iload hx hb dX12_point_58 (lv_at hl 1 rfl) ?_
  refine lv_iconst (v := 4) hx hb dX12_point_60 (by decide) ?_
  refine lv_iadd hx hb dX12_point_61 ?_
  obtain ⟨g_11, hM⟩ := gd_u hM
  refine va_iald hx hb hK hP 2 0 rfl rfl (inb_v g_11) dX12_point_62 ?_
  refine lv_topi (fun a_12 ea_12 => ?_)
  have hM := nm_u ea_12 hM
  refine lv_i2l (v := ((a_12 : Int32).toInt64)) hx hb dX12_point_63 rfl ?_
  refine lv_ladd hx hb dX12_point_64 ?_
  obtain ⟨r_13, hm_14, hM⟩ := bd1_u hM
  refine cSi (r := r_13) (As := [.long (r_9 + ((a_12 : Int32).toInt64))]) (rest := [.int x_4, .ref h3]) ⟨hx, hb, hml, hown, hu⟩ (c_X12_held l dC dI cI cZ cO tL H.size (r_9 + ((a_12 : Int32).toInt64)) r_13 hm_14) (va_cwS 1 hu (gS kw_296 kw_297 kw_253 kw_298) rfl rfl rfl (by decide +kernel) ⟨Nat.le_of_ble_eq_true rfl, Nat.le_of_ble_eq_true rfl⟩) hP hD hS hA hK hG [] (by decide) rfl [none, none, none, none, none, none, none, none, none, none, none, none, none] 0 rfl (by decide +kernel) rfl rfl hl.1 rfl (Nat.le_of_ble_eq_true rfl) dX12_point_65 (Nat.zero_le _) (Nat.zero_le _) (fun H locs hP hD hS => ?_)
  have hP : va_P (dC, dI) vwCl [(h0, .inr (11, [.int v0_wide, .int v0_tall, .ref g0_sheet, .ref g0_words, .ref g0_size, .int v0_good, .int v0_faultPlace, .int v0_made, .int v0_fills, .int v0_painted, .ref h2, .ref g0_saved, .ref g0_saves, .ref g0_at, .ref h1, .ref h3, .ref h4, .ref h5, .ref h9, .ref h10, .ref h11, .ref h12, .ref h6, .ref h7, .ref h8, .ref g0_both, .ref g0_cut, .int v0_other])), (h1, .inl (cI, 2, .inl f1)), (h2, .inl (cI, 24, .inl f2)), (h3, .inl (cI, 2000, .inl f3)), (h4, .inl (cI, 2000, .inl f4)), (h5, .inl (cZ, 2000, .inl f5)), (h6, .inl (cI, 2, .inl f6)), (h7, .inl (cI, 2, .inl f7)), (h8, .inl (cI, 2, .inl f8)), (h9, .inl (cZ, 2, .inl f9)), (h10, .inl (cI, 2, .inl f10)), (h11, .inl (cI, 2, .inl f11)), (h12, .inl (cI, 2, .inl f12))] H := hP
  have hD : va_D A [(h0, .inr (11, [.int v0_wide, .int v0_tall, .ref g0_sheet, .ref g0_words, .ref g0_size, .int v0_good, .int v0_faultPlace, .int v0_made, .int v0_fills, .int v0_painted, .ref h2, .ref g0_saved, .ref g0_saves, .ref g0_at, .ref h1, .ref h3, .ref h4, .ref h5, .ref h9, .ref h10, .ref h11, .ref h12, .ref h6, .ref h7, .ref h8, .ref g0_both, .ref g0_cut, .int v0_other])), (h1, .inl (cI, 2, .inl f1)), (h2, .inl (cI, 24, .inl f2)), (h3, .inl (cI, 2000, .inl f3)), (h4, .inl (cI, 2000, .inl f4)), (h5, .inl (cZ, 2000, .inl f5)), (h6, .inl (cI, 2, .inl f6)), (h7, .inl (cI, 2, .inl f7)), (h8, .inl (cI, 2, .inl f8)), (h9, .inl (cZ, 2, .inl f9)), (h10, .inl (cI, 2, .inl f10)), (h11, .inl (cI, 2, .inl f11)), (h12, .inl (cI, 2, .inl f12))] := hD
  obtain ⟨g_15, hM⟩ := gd_u hM
  refine va_iast hx hb hK hP hD hS 3 0 rfl rfl (inb_v g_15) dX12_point_68 (fun H locs hP hD hS => ?_)
  obtain ⟨f3_16, ef3_16⟩ : ∃ g : Nat → Int32, g = upd f3 (x_4 : Int32).toNatClampNeg r_13 := ⟨_, rfl⟩
  have hM := nm_u ef3_16 hM
  have hP : va_P (dC, dI) vwCl [(h0, .inr (11, [.int v0_wide, .int v0_tall, .ref g0_sheet, .ref g0_words, .ref g0_size, .int v0_good, .int v0_faultPlace, .int v0_made, .int v0_fills, .int v0_painted, .ref h2, .ref g0_saved, .ref g0_saves, .ref g0_at, .ref h1, .ref h3, .ref h4, .ref h5, .ref h9, .ref h10, .ref h11, .ref h12, .ref h6, .ref h7, .ref h8, .ref g0_both, .ref g0_cut, .int v0_other])), (h1, .inl (cI, 2, .inl f1)), (h2, .inl (cI, 24, .inl f2)), (h3, .inl (cI, 2000, .inl f3_16)), (h4, .inl (cI, 2000, .inl f4)), (h5, .inl (cZ, 2000, .inl f5)), (h6, .inl (cI, 2, .inl f6)), (h7, .inl (cI, 2, .inl f7)), (h8, .inl (cI, 2, .inl f8)), (h9, .inl (cZ, 2, .inl f9)), (h10, .inl (cI, 2, .inl f10)), (h11, .inl (cI, 2, .inl f11)), (h12, .inl (cI, 2, .inl f12))] H := by rw [ef3_16]; exact hP
  have hD : va_D A [(h0, .inr (11, [.int v0_wide, .int v0_tall, .ref g0_sheet, .ref g0_words, .ref g0_size, .int v0_good, .int v0_faultPlace, .int v0_made, .int v0_fills, .int v0_painted, .ref h2, .ref g0_saved, .ref g0_saves, .ref g0_at, .ref h1, .ref h3, .ref h4, .ref h5, .ref h9, .ref h10, .ref h11, .ref h12, .ref h6, .ref h7, .ref h8, .ref g0_both, .ref g0_cut, .int v0_other])), (h1, .inl (cI, 2, .inl f1)), (h2, .inl (cI, 24, .inl f2)), (h3, .inl (cI, 2000, .inl f3_16)), (h4, .inl (cI, 2000, .inl f4)), (h5, .inl (cZ, 2000, .inl f5)), (h6, .inl (cI, 2, .inl f6)), (h7, .inl (cI, 2, .inl f7)), (h8, .inl (cI, 2, .inl f8)), (h9, .inl (cZ, 2, .inl f9)), (h10, .inl (cI, 2, .inl f10)), (h11, .inl (cI, 2, .inl f11)), (h12, .inl (cI, 2, .inl f12))] := by rw [ef3_16]; exact hD
  refine lv_aload_n hx hb dX12_point_69 rfl (lv_at hl 2 rfl) ?_
  refine va_get (D := (dC, dI)) (ci := 11) (v := .ref h4) (C := RX12) (T := TX12) (N := 28) hx hb hu inX12 hown hK hP 0 rfl rfl 16 (by decide) (hu _ kw_299) (fun _ h9 => h9) rfl dX12_point_70 ?_
  refine lv_iload hx hb dX12_point_73 (lv_at hl 0 rfl) ?_
  refine lv_aload_n hx hb dX12_point_75 rfl (lv_at hl 2 rfl) ?_
  refine va_get (D := (dC, dI)) (ci := 11) (v := .ref h2) (C := RX12) (T := TX12) (N := 28) hx hb hu inX12 hown hK hP 0 rfl rfl 10 (by decide) (hu _ kw_269) (fun _ h9 => h9) rfl dX12_point_76 ?_
  refine lv_iload hx hb dX12_point_79 (lv_at hl 1 rfl) ?_
  refine lv_iconst (v := 1) hx hb dX12_point_81 (by decide) ?_
  refine lv_iadd hx hb dX12_point_82 ?_
  obtain ⟨g_17, hM⟩ := gd_u hM
  refine va_iald hx hb hK hP 2 0 rfl rfl (inb_v g_17) dX12_point_83 ?_
  refine lv_topi (fun a_18 ea_18 => ?_)
  have hM := nm_u ea_18 hM
  refine lv_i2l (v := ((a_18 : Int32).toInt64)) hx hb dX12_point_84 rfl ?_
  refine lv_iload_n hx hb dX12_point_85 rfl (lv_at hl 4 rfl) ?_
  refine lv_i2l (v := ((p2 : Int32).toInt64)) hx hb dX12_point_86 rfl ?_
  refine lv_lmul hx hb dX12_point_87 ?_
  refine lv_aload_n hx hb dX12_point_88 rfl (lv_at hl 2 rfl) ?_
  refine va_get (D := (dC, dI)) (ci := 11) (v := .ref h2) (C := RX12) (T := TX12) (N := 28) hx hb hu inX12 hown hK hP 0 rfl rfl 10 (by decide) (hu _ kw_269) (fun _ h9 => h9) rfl dX12_point_89 ?_
  refine lv_iload hx hb dX12_point_92 (lv_at hl 1 rfl) ?_
  refine lv_iconst (v := 3) hx hb dX12_point_94 (by decide) ?_
  refine lv_iadd hx hb dX12_point_95 ?_
  obtain ⟨g_19, hM⟩ := gd_u hM
  refine va_iald hx hb hK hP 2 0 rfl rfl (inb_v g_19) dX12_point_96 ?_
  refine lv_topi (fun a_20 ea_20 => ?_)
  have hM := nm_u ea_20 hM
  refine lv_i2l (v := ((a_20 : Int32).toInt64)) hx hb dX12_point_97 rfl ?_
  refine lv_iload_n hx hb dX12_point_98 rfl (lv_at hl 5 rfl) ?_
  refine lv_i2l (v := ((p3 : Int32).toInt64)) hx hb dX12_point_99 rfl ?_
  refine lv_lmul hx hb dX12_point_100 ?_
  refine lv_ladd hx hb dX12_point_101 ?_
  obtain ⟨r_21, hm_22, hM⟩ := bd1_u hM
  refine cSl (r := r_21) (As := [.long ((((a_18 : Int32).toInt64) * ((p2 : Int32).toInt64)) + (((a_20 : Int32).toInt64) * ((p3 : Int32).toInt64)))]) (rest := [.int x_4, .ref h4]) ⟨hx, hb, hml, hown, hu⟩ (c_X12_rounded l dC dI cI cZ cO tL H.size ((((a_18 : Int32).toInt64) * ((p2 : Int32).toInt64)) + (((a_20 : Int32).toInt64) * ((p3 : Int32).toInt64))) r_21 hm_22) (va_cwS 1 hu (gS kw_293 kw_294 kw_253 kw_295) rfl rfl rfl (by decide +kernel) ⟨Nat.le_of_ble_eq_true rfl, Nat.le_of_ble_eq_true rfl⟩) hP hD hS hA hK hG [] (by decide) rfl [none, none, none, none, none, none, none, none, none, none, none, none, none] 0 rfl (by decide +kernel) rfl rfl hl.1 rfl (Nat.le_of_ble_eq_true rfl) dX12_point_102 (Nat.zero_le _) (Nat.zero_le _) (fun H locs hP hD hS => ?_)
  have hP : va_P (dC, dI) vwCl [(h0, .inr (11, [.int v0_wide, .int v0_tall, .ref g0_sheet, .ref g0_words, .ref g0_size, .int v0_good, .int v0_faultPlace, .int v0_made, .int v0_fills, .int v0_painted, .ref h2, .ref g0_saved, .ref g0_saves, .ref g0_at, .ref h1, .ref h3, .ref h4, .ref h5, .ref h9, .ref h10, .ref h11, .ref h12, .ref h6, .ref h7, .ref h8, .ref g0_both, .ref g0_cut, .int v0_other])), (h1, .inl (cI, 2, .inl f1)), (h2, .inl (cI, 24, .inl f2)), (h3, .inl (cI, 2000, .inl f3_16)), (h4, .inl (cI, 2000, .inl f4)), (h5, .inl (cZ, 2000, .inl f5)), (h6, .inl (cI, 2, .inl f6)), (h7, .inl (cI, 2, .inl f7)), (h8, .inl (cI, 2, .inl f8)), (h9, .inl (cZ, 2, .inl f9)), (h10, .inl (cI, 2, .inl f10)), (h11, .inl (cI, 2, .inl f11)), (h12, .inl (cI, 2, .inl f12))] H := hP
  have hD : va_D A [(h0, .inr (11, [.int v0_wide, .int v0_tall, .ref g0_sheet, .ref g0_words, .ref g0_size, .int v0_good, .int v0_faultPlace, .int v0_made, .int v0_fills, .int v0_painted, .ref h2, .ref g0_saved, .ref g0_saves, .ref g0_at, .ref h1, .ref h3, .ref h4, .ref h5, .ref h9, .ref h10, .ref h11, .ref h12, .ref h6, .ref h7, .ref h8, .ref g0_both, .ref g0_cut, .int v0_other])), (h1, .inl (cI, 2, .inl f1)), (h2, .inl (cI, 24, .inl f2)), (h3, .inl (cI, 2000, .inl f3_16)), (h4, .inl (cI, 2000, .inl f4)), (h5, .inl (cZ, 2000, .inl f5)), (h6, .inl (cI, 2, .inl f6)), (h7, .inl (cI, 2, .inl f7)), (h8, .inl (cI, 2, .inl f8)), (h9, .inl (cZ, 2, .inl f9)), (h10, .inl (cI, 2, .inl f10)), (h11, .inl (cI, 2, .inl f11)), (h12, .inl (cI, 2, .inl f12))] := hD
  refine lv_aload_n hx hb dX12_point_105 rfl (lv_at hl 2 rfl) ?_
  refine va_get (D := (dC, dI)) (ci := 11) (v := .ref h2) (C := RX12) (T := TX12) (N := 28) hx hb hu inX12 hown hK hP 0 rfl rfl 10 (by decide) (hu _ kw_269) (fun _ h9 => h9) rfl dX12_point_106 ?_
  refine lv_iload hx hb dX12_point_109 (lv_at hl 1 rfl) ?_
  refine lv_iconst (v := 5) hx hb dX12_point_111 (by decide) ?_
  refine lv_iadd hx hb dX12_point_112 ?_
  obtain ⟨g_23, hM⟩ := gd_u hM
  refine va_iald hx hb hK hP 2 0 rfl rfl (inb_v g_23) dX12_point_113 ?_
  refine lv_topi (fun a_24 ea_24 => ?_)
  have hM := nm_u ea_24 hM
  refine lv_i2l (v := ((a_24 : Int32).toInt64)) hx hb dX12_point_114 rfl ?_
  refine lv_ladd hx hb dX12_point_115 ?_
  obtain ⟨r_25, hm_26, hM⟩ := bd1_u hM
  refine cSi (r := r_25) (As := [.long (r_21 + ((a_24 : Int32).toInt64))]) (rest := [.int x_4, .ref h4]) ⟨hx, hb, hml, hown, hu⟩ (c_X12_held l dC dI cI cZ cO tL H.size (r_21 + ((a_24 : Int32).toInt64)) r_25 hm_26) (va_cwS 1 hu (gS kw_296 kw_297 kw_253 kw_298) rfl rfl rfl (by decide +kernel) ⟨Nat.le_of_ble_eq_true rfl, Nat.le_of_ble_eq_true rfl⟩) hP hD hS hA hK hG [] (by decide) rfl [none, none, none, none, none, none, none, none, none, none, none, none, none] 0 rfl (by decide +kernel) rfl rfl hl.1 rfl (Nat.le_of_ble_eq_true rfl) dX12_point_116 (Nat.zero_le _) (Nat.zero_le _) (fun H locs hP hD hS => ?_)
  have hP : va_P (dC, dI) vwCl [(h0, .inr (11, [.int v0_wide, .int v0_tall, .ref g0_sheet, .ref g0_words, .ref g0_size, .int v0_good, .int v0_faultPlace, .int v0_made, .int v0_fills, .int v0_painted, .ref h2, .ref g0_saved, .ref g0_saves, .ref g0_at, .ref h1, .ref h3, .ref h4, .ref h5, .ref h9, .ref h10, .ref h11, .ref h12, .ref h6, .ref h7, .ref h8, .ref g0_both, .ref g0_cut, .int v0_other])), (h1, .inl (cI, 2, .inl f1)), (h2, .inl (cI, 24, .inl f2)), (h3, .inl (cI, 2000, .inl f3_16)), (h4, .inl (cI, 2000, .inl f4)), (h5, .inl (cZ, 2000, .inl f5)), (h6, .inl (cI, 2, .inl f6)), (h7, .inl (cI, 2, .inl f7)), (h8, .inl (cI, 2, .inl f8)), (h9, .inl (cZ, 2, .inl f9)), (h10, .inl (cI, 2, .inl f10)), (h11, .inl (cI, 2, .inl f11)), (h12, .inl (cI, 2, .inl f12))] H := hP
  have hD : va_D A [(h0, .inr (11, [.int v0_wide, .int v0_tall, .ref g0_sheet, .ref g0_words, .ref g0_size, .int v0_good, .int v0_faultPlace, .int v0_made, .int v0_fills, .int v0_painted, .ref h2, .ref g0_saved, .ref g0_saves, .ref g0_at, .ref h1, .ref h3, .ref h4, .ref h5, .ref h9, .ref h10, .ref h11, .ref h12, .ref h6, .ref h7, .ref h8, .ref g0_both, .ref g0_cut, .int v0_other])), (h1, .inl (cI, 2, .inl f1)), (h2, .inl (cI, 24, .inl f2)), (h3, .inl (cI, 2000, .inl f3_16)), (h4, .inl (cI, 2000, .inl f4)), (h5, .inl (cZ, 2000, .inl f5)), (h6, .inl (cI, 2, .inl f6)), (h7, .inl (cI, 2, .inl f7)), (h8, .inl (cI, 2, .inl f8)), (h9, .inl (cZ, 2, .inl f9)), (h10, .inl (cI, 2, .inl f10)), (h11, .inl (cI, 2, .inl f11)), (h12, .inl (cI, 2, .inl f12))] := hD
  obtain ⟨g_27, hM⟩ := gd_u hM
  refine va_iast hx hb hK hP hD hS 4 0 rfl rfl (inb_v g_27) dX12_point_119 (fun H locs hP hD hS => ?_)
  obtain ⟨f4_28, ef4_28⟩ : ∃ g : Nat → Int32, g = upd f4 (x_4 : Int32).toNatClampNeg r_25 := ⟨_, rfl⟩
  have hM := nm_u ef4_28 hM
  have hP : va_P (dC, dI) vwCl [(h0, .inr (11, [.int v0_wide, .int v0_tall, .ref g0_sheet, .ref g0_words, .ref g0_size, .int v0_good, .int v0_faultPlace, .int v0_made, .int v0_fills, .int v0_painted, .ref h2, .ref g0_saved, .ref g0_saves, .ref g0_at, .ref h1, .ref h3, .ref h4, .ref h5, .ref h9, .ref h10, .ref h11, .ref h12, .ref h6, .ref h7, .ref h8, .ref g0_both, .ref g0_cut, .int v0_other])), (h1, .inl (cI, 2, .inl f1)), (h2, .inl (cI, 24, .inl f2)), (h3, .inl (cI, 2000, .inl f3_16)), (h4, .inl (cI, 2000, .inl f4_28)), (h5, .inl (cZ, 2000, .inl f5)), (h6, .inl (cI, 2, .inl f6)), (h7, .inl (cI, 2, .inl f7)), (h8, .inl (cI, 2, .inl f8)), (h9, .inl (cZ, 2, .inl f9)), (h10, .inl (cI, 2, .inl f10)), (h11, .inl (cI, 2, .inl f11)), (h12, .inl (cI, 2, .inl f12))] H := by rw [ef4_28]; exact hP
  have hD : va_D A [(h0, .inr (11, [.int v0_wide, .int v0_tall, .ref g0_sheet, .ref g0_words, .ref g0_size, .int v0_good, .int v0_faultPlace, .int v0_made, .int v0_fills, .int v0_painted, .ref h2, .ref g0_saved, .ref g0_saves, .ref g0_at, .ref h1, .ref h3, .ref h4, .ref h5, .ref h9, .ref h10, .ref h11, .ref h12, .ref h6, .ref h7, .ref h8, .ref g0_both, .ref g0_cut, .int v0_other])), (h1, .inl (cI, 2, .inl f1)), (h2, .inl (cI, 24, .inl f2)), (h3, .inl (cI, 2000, .inl f3_16)), (h4, .inl (cI, 2000, .inl f4_28)), (h5, .inl (cZ, 2000, .inl f5)), (h6, .inl (cI, 2, .inl f6)), (h7, .inl (cI, 2, .inl f7)), (h8, .inl (cI, 2, .inl f8)), (h9, .inl (cZ, 2, .inl f9)), (h10, .inl (cI, 2, .inl f10)), (h11, .inl (cI, 2, .inl f11)), (h12, .inl (cI, 2, .inl f12))] := by rw [ef4_28]; exact hD
  refine lv_aload_n hx hb dX12_point_120 rfl (lv_at hl 2 rfl) ?_
  refine va_get (D := (dC, dI)) (ci := 11) (v := .ref h5) (C := RX12) (T := TX12) (N := 28) hx hb hu inX12 hown hK hP 0 rfl rfl 17 (by decide) (hu _ kw_300) (fun _ h9 => h9) rfl dX12_point_121 ?_
  refine lv_iload hx hb dX12_point_124 (lv_at hl 0 rfl) ?_
  refine lv_iload hx hb dX12_point_126 (lv_at hl 6 rfl) ?_
  obtain ⟨g_29, hM⟩ := gd_u hM
  refine va_zast hx hb hK hP hD hS 5 1 rfl rfl (inb_v g_29) dX12_point_128 (fun H locs hP hD hS => ?_)
  obtain ⟨f5_30, ef5_30⟩ : ∃ g : Nat → Int32, g = upd f5 (x_4 : Int32).toNatClampNeg (vp_nar .boolean p4) := ⟨_, rfl⟩
  have hM := nm_u ef5_30 hM
  have hP : va_P (dC, dI) vwCl [(h0, .inr (11, [.int v0_wide, .int v0_tall, .ref g0_sheet, .ref g0_words, .ref g0_size, .int v0_good, .int v0_faultPlace, .int v0_made, .int v0_fills, .int v0_painted, .ref h2, .ref g0_saved, .ref g0_saves, .ref g0_at, .ref h1, .ref h3, .ref h4, .ref h5, .ref h9, .ref h10, .ref h11, .ref h12, .ref h6, .ref h7, .ref h8, .ref g0_both, .ref g0_cut, .int v0_other])), (h1, .inl (cI, 2, .inl f1)), (h2, .inl (cI, 24, .inl f2)), (h3, .inl (cI, 2000, .inl f3_16)), (h4, .inl (cI, 2000, .inl f4_28)), (h5, .inl (cZ, 2000, .inl f5_30)), (h6, .inl (cI, 2, .inl f6)), (h7, .inl (cI, 2, .inl f7)), (h8, .inl (cI, 2, .inl f8)), (h9, .inl (cZ, 2, .inl f9)), (h10, .inl (cI, 2, .inl f10)), (h11, .inl (cI, 2, .inl f11)), (h12, .inl (cI, 2, .inl f12))] H := by rw [ef5_30]; exact hP
  have hD : va_D A [(h0, .inr (11, [.int v0_wide, .int v0_tall, .ref g0_sheet, .ref g0_words, .ref g0_size, .int v0_good, .int v0_faultPlace, .int v0_made, .int v0_fills, .int v0_painted, .ref h2, .ref g0_saved, .ref g0_saves, .ref g0_at, .ref h1, .ref h3, .ref h4, .ref h5, .ref h9, .ref h10, .ref h11, .ref h12, .ref h6, .ref h7, .ref h8, .ref g0_both, .ref g0_cut, .int v0_other])), (h1, .inl (cI, 2, .inl f1)), (h2, .inl (cI, 24, .inl f2)), (h3, .inl (cI, 2000, .inl f3_16)), (h4, .inl (cI, 2000, .inl f4_28)), (h5, .inl (cZ, 2000, .inl f5_30)), (h6, .inl (cI, 2, .inl f6)), (h7, .inl (cI, 2, .inl f7)), (h8, .inl (cI, 2, .inl f8)), (h9, .inl (cZ, 2, .inl f9)), (h10, .inl (cI, 2, .inl f10)), (h11, .inl (cI, 2, .inl f11)), (h12, .inl (cI, 2, .inl f12))] := by rw [ef5_30]; exact hD
  refine lv_iload hx hb dX12_point_129 (lv_at hl 6 rfl) ?_
  obtain ⟨K176_36, eK176_36, hM⟩ := jn_u hM
  have hJ176_36 : ∀ (f6_31 : Nat → Int32) (f7_32 : Nat → Int32) (f8_33 : Nat → Int32) (f9_34 : Nat → Int32) (f10_35 : Nat → Int32) , ∀ (H : Heap) (locs : List Loc) (ls : Array Slot), va_P (dC, dI) vwCl [(h0, .inr (11, [.int v0_wide, .int v0_tall, .ref g0_sheet, .ref g0_words, .ref g0_size, .int v0_good, .int v0_faultPlace, .int v0_made, .int v0_fills, .int v0_painted, .ref h2, .ref g0_saved, .ref g0_saves, .ref g0_at, .ref h1, .ref h3, .ref h4, .ref h5, .ref h9, .ref h10, .ref h11, .ref h12, .ref h6, .ref h7, .ref h8, .ref g0_both, .ref g0_cut, .int v0_other])), (h1, .inl (cI, 2, .inl f1)), (h2, .inl (cI, 24, .inl f2)), (h3, .inl (cI, 2000, .inl f3_16)), (h4, .inl (cI, 2000, .inl f4_28)), (h5, .inl (cZ, 2000, .inl f5_30)), (h6, .inl (cI, 2, .inl f6_31)), (h7, .inl (cI, 2, .inl f7_32)), (h8, .inl (cI, 2, .inl f8_33)), (h9, .inl (cZ, 2, .inl f9_34)), (h10, .inl (cI, 2, .inl f10_35)), (h11, .inl (cI, 2, .inl f11)), (h12, .inl (cI, 2, .inl f12))] H → va_D A [(h0, .inr (11, [.int v0_wide, .int v0_tall, .ref g0_sheet, .ref g0_words, .ref g0_size, .int v0_good, .int v0_faultPlace, .int v0_made, .int v0_fills, .int v0_painted, .ref h2, .ref g0_saved, .ref g0_saves, .ref g0_at, .ref h1, .ref h3, .ref h4, .ref h5, .ref h9, .ref h10, .ref h11, .ref h12, .ref h6, .ref h7, .ref h8, .ref g0_both, .ref g0_cut, .int v0_other])), (h1, .inl (cI, 2, .inl f1)), (h2, .inl (cI, 24, .inl f2)), (h3, .inl (cI, 2000, .inl f3_16)), (h4, .inl (cI, 2000, .inl f4_28)), (h5, .inl (cZ, 2000, .inl f5_30)), (h6, .inl (cI, 2, .inl f6_31)), (h7, .inl (cI, 2, .inl f7_32)), (h8, .inl (cI, 2, .inl f8_33)), (h9, .inl (cZ, 2, .inl f9_34)), (h10, .inl (cI, 2, .inl f10_35)), (h11, .inl (cI, 2, .inl f11)), (h12, .inl (cI, 2, .inl f12))] → va_S A s.heap H locs → lv_has ls 7 [(0, .ref h0), (1, .int p1), (2, .int p2), (3, .int p3)] → K176_36 f6_31 f7_32 f8_33 f9_34 f10_35 = some res → W p l e (headSpec w_X12_point rm_X12_point).room s m ([.ref h0, .int p1, .int p2, .int p3, .int p4] : List Value).toArray below meth c H locs 0 0 (MQ below (QMv (dC, dI) [(cI, .int), (cZ, .boolean), (cO, .object "ListPainter$Settings")] A [(h0, .inr (11, [.int v0_wide, .int v0_tall, .ref g0_sheet, .ref g0_words, .ref g0_size, .int v0_good, .int v0_faultPlace, .int v0_made, .int v0_fills, .int v0_painted, .ref h2, .ref g0_saved, .ref g0_saves, .ref g0_at, .ref h1, .ref h3, .ref h4, .ref h5, .ref h9, .ref h10, .ref h11, .ref h12, .ref h6, .ref h7, .ref h8, .ref g0_both, .ref g0_cut, .int v0_other])), (h1, .inl (cI, 2, .inl (res.1))), (h2, .inl (cI, 24, .inl f2)), (h3, .inl (cI, 2000, .inl (res.2.1))), (h4, .inl (cI, 2000, .inl (res.2.2.1))), (h5, .inl (cZ, 2000, .inl (res.2.2.2.1))), (h6, .inl (cI, 2, .inl (res.2.2.2.2.1))), (h7, .inl (cI, 2, .inl (res.2.2.2.2.2.1))), (h8, .inl (cI, 2, .inl (res.2.2.2.2.2.2.1))), (h9, .inl (cZ, 2, .inl (res.2.2.2.2.2.2.2.1))), (h10, .inl (cI, 2, .inl (res.2.2.2.2.2.2.2.2.1))), (h11, .inl (cI, 2, .inl (res.2.2.2.2.2.2.2.2.2.1))), (h12, .inl (cI, 2, .inl (res.2.2.2.2.2.2.2.2.2.2)))]) ([.ref h0, .int p1, .int p2, .int p3, .int p4] : List Value).toArray s 0 0 A) (F0 m 176 ls []) := by
    intro f6_31 f7_32 f8_33 f9_34 f10_35 H locs ls hP hD hS hl hM
    have hM := ja5 eK176_36 hM
    refine lv_aload_n hx hb dX12_point_176 rfl (lv_at hl 0 rfl) ?_
    refine va_get (D := (dC, dI)) (ci := 11) (v := .ref h1) (C := RX12) (T := TX12) (N := 28) hx hb hu inX12 hown hK hP 0 rfl rfl 14 (by decide) (hu _ kw_271) (fun _ h9 => h9) rfl dX12_point_177 ?_
    refine lv_iload_n hx hb dX12_point_180 rfl (lv_at hl 1 rfl) ?_
    refine lv_dup2_11 hx hb dX12_point_181 rfl rfl ?_
    obtain ⟨g_37, hM⟩ := gd_u hM
    refine va_iald hx hb hK hP 1 0 rfl rfl (inb_v g_37) dX12_point_182 ?_
    refine lv_topi (fun a_38 ea_38 => ?_)
    have hM := nm_u ea_38 hM
    refine lv_iconst (v := 1) hx hb dX12_point_183 (by decide) ?_
    refine lv_iadd hx hb dX12_point_184 ?_
    refine lv_topi (fun y_39 ey_39 => ?_)
    have hM := nm_u ey_39 hM
    obtain ⟨g_40, hM⟩ := gd_u hM
    refine va_iast hx hb hK hP hD hS 1 0 rfl rfl (inb_v g_40) dX12_point_185 (fun H locs hP hD hS => ?_)
    obtain ⟨f1_41, ef1_41⟩ : ∃ g : Nat → Int32, g = upd f1 (p1 : Int32).toNatClampNeg y_39 := ⟨_, rfl⟩
    have hM := nm_u ef1_41 hM
    have hP : va_P (dC, dI) vwCl [(h0, .inr (11, [.int v0_wide, .int v0_tall, .ref g0_sheet, .ref g0_words, .ref g0_size, .int v0_good, .int v0_faultPlace, .int v0_made, .int v0_fills, .int v0_painted, .ref h2, .ref g0_saved, .ref g0_saves, .ref g0_at, .ref h1, .ref h3, .ref h4, .ref h5, .ref h9, .ref h10, .ref h11, .ref h12, .ref h6, .ref h7, .ref h8, .ref g0_both, .ref g0_cut, .int v0_other])), (h1, .inl (cI, 2, .inl f1_41)), (h2, .inl (cI, 24, .inl f2)), (h3, .inl (cI, 2000, .inl f3_16)), (h4, .inl (cI, 2000, .inl f4_28)), (h5, .inl (cZ, 2000, .inl f5_30)), (h6, .inl (cI, 2, .inl f6_31)), (h7, .inl (cI, 2, .inl f7_32)), (h8, .inl (cI, 2, .inl f8_33)), (h9, .inl (cZ, 2, .inl f9_34)), (h10, .inl (cI, 2, .inl f10_35)), (h11, .inl (cI, 2, .inl f11)), (h12, .inl (cI, 2, .inl f12))] H := by rw [ef1_41]; exact hP
    have hD : va_D A [(h0, .inr (11, [.int v0_wide, .int v0_tall, .ref g0_sheet, .ref g0_words, .ref g0_size, .int v0_good, .int v0_faultPlace, .int v0_made, .int v0_fills, .int v0_painted, .ref h2, .ref g0_saved, .ref g0_saves, .ref g0_at, .ref h1, .ref h3, .ref h4, .ref h5, .ref h9, .ref h10, .ref h11, .ref h12, .ref h6, .ref h7, .ref h8, .ref g0_both, .ref g0_cut, .int v0_other])), (h1, .inl (cI, 2, .inl f1_41)), (h2, .inl (cI, 24, .inl f2)), (h3, .inl (cI, 2000, .inl f3_16)), (h4, .inl (cI, 2000, .inl f4_28)), (h5, .inl (cZ, 2000, .inl f5_30)), (h6, .inl (cI, 2, .inl f6_31)), (h7, .inl (cI, 2, .inl f7_32)), (h8, .inl (cI, 2, .inl f8_33)), (h9, .inl (cZ, 2, .inl f9_34)), (h10, .inl (cI, 2, .inl f10_35)), (h11, .inl (cI, 2, .inl f11)), (h12, .inl (cI, 2, .inl f12))] := by rw [ef1_41]; exact hD
    refine lv_aload_n hx hb dX12_point_186 rfl (lv_at hl 0 rfl) ?_
    refine va_get (D := (dC, dI)) (ci := 11) (v := .ref h11) (C := RX12) (T := TX12) (N := 28) hx hb hu inX12 hown hK hP 0 rfl rfl 20 (by decide) (hu _ kw_301) (fun _ h9 => h9) rfl dX12_point_187 ?_
    refine lv_iload_n hx hb dX12_point_190 rfl (lv_at hl 1 rfl) ?_
    refine lv_iload_n hx hb dX12_point_191 rfl (lv_at hl 2 rfl) ?_
    obtain ⟨g_42, hM⟩ := gd_u hM
    refine va_iast hx hb hK hP hD hS 11 0 rfl rfl (inb_v g_42) dX12_point_192 (fun H locs hP hD hS => ?_)
    obtain ⟨f11_43, ef11_43⟩ : ∃ g : Nat → Int32, g = upd f11 (p1 : Int32).toNatClampNeg p2 := ⟨_, rfl⟩
    have hM := nm_u ef11_43 hM
    have hP : va_P (dC, dI) vwCl [(h0, .inr (11, [.int v0_wide, .int v0_tall, .ref g0_sheet, .ref g0_words, .ref g0_size, .int v0_good, .int v0_faultPlace, .int v0_made, .int v0_fills, .int v0_painted, .ref h2, .ref g0_saved, .ref g0_saves, .ref g0_at, .ref h1, .ref h3, .ref h4, .ref h5, .ref h9, .ref h10, .ref h11, .ref h12, .ref h6, .ref h7, .ref h8, .ref g0_both, .ref g0_cut, .int v0_other])), (h1, .inl (cI, 2, .inl f1_41)), (h2, .inl (cI, 24, .inl f2)), (h3, .inl (cI, 2000, .inl f3_16)), (h4, .inl (cI, 2000, .inl f4_28)), (h5, .inl (cZ, 2000, .inl f5_30)), (h6, .inl (cI, 2, .inl f6_31)), (h7, .inl (cI, 2, .inl f7_32)), (h8, .inl (cI, 2, .inl f8_33)), (h9, .inl (cZ, 2, .inl f9_34)), (h10, .inl (cI, 2, .inl f10_35)), (h11, .inl (cI, 2, .inl f11_43)), (h12, .inl (cI, 2, .inl f12))] H := by rw [ef11_43]; exact hP
    have hD : va_D A [(h0, .inr (11, [.int v0_wide, .int v0_tall, .ref g0_sheet, .ref g0_words, .ref g0_size, .int v0_good, .int v0_faultPlace, .int v0_made, .int v0_fills, .int v0_painted, .ref h2, .ref g0_saved, .ref g0_saves, .ref g0_at, .ref h1, .ref h3, .ref h4, .ref h5, .ref h9, .ref h10, .ref h11, .ref h12, .ref h6, .ref h7, .ref h8, .ref g0_both, .ref g0_cut, .int v0_other])), (h1, .inl (cI, 2, .inl f1_41)), (h2, .inl (cI, 24, .inl f2)), (h3, .inl (cI, 2000, .inl f3_16)), (h4, .inl (cI, 2000, .inl f4_28)), (h5, .inl (cZ, 2000, .inl f5_30)), (h6, .inl (cI, 2, .inl f6_31)), (h7, .inl (cI, 2, .inl f7_32)), (h8, .inl (cI, 2, .inl f8_33)), (h9, .inl (cZ, 2, .inl f9_34)), (h10, .inl (cI, 2, .inl f10_35)), (h11, .inl (cI, 2, .inl f11_43)), (h12, .inl (cI, 2, .inl f12))] := by rw [ef11_43]; exact hD
    refine lv_aload_n hx hb dX12_point_193 rfl (lv_at hl 0 rfl) ?_
    refine va_get (D := (dC, dI)) (ci := 11) (v := .ref h12) (C := RX12) (T := TX12) (N := 28) hx hb hu inX12 hown hK hP 0 rfl rfl 21 (by decide) (hu _ kw_302) (fun _ h9 => h9) rfl dX12_point_194 ?_
    refine lv_iload_n hx hb dX12_point_197 rfl (lv_at hl 1 rfl) ?_
    refine lv_iload_n hx hb dX12_point_198 rfl (lv_at hl 3 rfl) ?_
    obtain ⟨g_44, hM⟩ := gd_u hM
    refine va_iast hx hb hK hP hD hS 12 0 rfl rfl (inb_v g_44) dX12_point_199 (fun H locs hP hD hS => ?_)
    obtain ⟨f12_45, ef12_45⟩ : ∃ g : Nat → Int32, g = upd f12 (p1 : Int32).toNatClampNeg p3 := ⟨_, rfl⟩
    have hM := nm_u ef12_45 hM
    have hP : va_P (dC, dI) vwCl [(h0, .inr (11, [.int v0_wide, .int v0_tall, .ref g0_sheet, .ref g0_words, .ref g0_size, .int v0_good, .int v0_faultPlace, .int v0_made, .int v0_fills, .int v0_painted, .ref h2, .ref g0_saved, .ref g0_saves, .ref g0_at, .ref h1, .ref h3, .ref h4, .ref h5, .ref h9, .ref h10, .ref h11, .ref h12, .ref h6, .ref h7, .ref h8, .ref g0_both, .ref g0_cut, .int v0_other])), (h1, .inl (cI, 2, .inl f1_41)), (h2, .inl (cI, 24, .inl f2)), (h3, .inl (cI, 2000, .inl f3_16)), (h4, .inl (cI, 2000, .inl f4_28)), (h5, .inl (cZ, 2000, .inl f5_30)), (h6, .inl (cI, 2, .inl f6_31)), (h7, .inl (cI, 2, .inl f7_32)), (h8, .inl (cI, 2, .inl f8_33)), (h9, .inl (cZ, 2, .inl f9_34)), (h10, .inl (cI, 2, .inl f10_35)), (h11, .inl (cI, 2, .inl f11_43)), (h12, .inl (cI, 2, .inl f12_45))] H := by rw [ef12_45]; exact hP
    have hD : va_D A [(h0, .inr (11, [.int v0_wide, .int v0_tall, .ref g0_sheet, .ref g0_words, .ref g0_size, .int v0_good, .int v0_faultPlace, .int v0_made, .int v0_fills, .int v0_painted, .ref h2, .ref g0_saved, .ref g0_saves, .ref g0_at, .ref h1, .ref h3, .ref h4, .ref h5, .ref h9, .ref h10, .ref h11, .ref h12, .ref h6, .ref h7, .ref h8, .ref g0_both, .ref g0_cut, .int v0_other])), (h1, .inl (cI, 2, .inl f1_41)), (h2, .inl (cI, 24, .inl f2)), (h3, .inl (cI, 2000, .inl f3_16)), (h4, .inl (cI, 2000, .inl f4_28)), (h5, .inl (cZ, 2000, .inl f5_30)), (h6, .inl (cI, 2, .inl f6_31)), (h7, .inl (cI, 2, .inl f7_32)), (h8, .inl (cI, 2, .inl f8_33)), (h9, .inl (cZ, 2, .inl f9_34)), (h10, .inl (cI, 2, .inl f10_35)), (h11, .inl (cI, 2, .inl f11_43)), (h12, .inl (cI, 2, .inl f12_45))] := by rw [ef12_45]; exact hD
    have h9 := Option.some.inj hM
    subst h9
    exact W.vret hx hb hr (fun t ht hW => QMv_mk (by rw [ht]; exact hP) (va_K.moved hW.alike hK) hD (hS.F ht)) hS.2.2 dX12_point_200
  refine lv_if_eq (tgt := 166) hx hb dX12_point_131 (by decide) (fun c_46 => ?_) (fun c_46 => ?_)
  · have hM := if_t c_46 hM
    refine lv_aload_n hx hb dX12_point_166 rfl (lv_at hl 2 rfl) ?_
    refine va_get (D := (dC, dI)) (ci := 11) (v := .ref h10) (C := RX12) (T := TX12) (N := 28) hx hb hu inX12 hown hK hP 0 rfl rfl 19 (by decide) (hu _ kw_273) (fun _ h9 => h9) rfl dX12_point_167 ?_
    refine lv_iload_n hx hb dX12_point_170 rfl (lv_at hl 3 rfl) ?_
    refine lv_dup2_11 hx hb dX12_point_171 rfl rfl ?_
    obtain ⟨g_47, hM⟩ := gd_u hM
    refine va_iald hx hb hK hP 10 0 rfl rfl (inb_v g_47) dX12_point_172 ?_
    refine lv_topi (fun a_48 ea_48 => ?_)
    have hM := nm_u ea_48 hM
    refine lv_iconst (v := 1) hx hb dX12_point_173 (by decide) ?_
    refine lv_iadd hx hb dX12_point_174 ?_
    refine lv_topi (fun y_49 ey_49 => ?_)
    have hM := nm_u ey_49 hM
    obtain ⟨g_50, hM⟩ := gd_u hM
    refine va_iast hx hb hK hP hD hS 10 0 rfl rfl (inb_v g_50) dX12_point_175 (fun H locs hP hD hS => ?_)
    obtain ⟨f10_51, ef10_51⟩ : ∃ g : Nat → Int32, g = upd f10 (p1 : Int32).toNatClampNeg y_49 := ⟨_, rfl⟩
    have hM := nm_u ef10_51 hM
    have hP : va_P (dC, dI) vwCl [(h0, .inr (11, [.int v0_wide, .int v0_tall, .ref g0_sheet, .ref g0_words, .ref g0_size, .int v0_good, .int v0_faultPlace, .int v0_made, .int v0_fills, .int v0_painted, .ref h2, .ref g0_saved, .ref g0_saves, .ref g0_at, .ref h1, .ref h3, .ref h4, .ref h5, .ref h9, .ref h10, .ref h11, .ref h12, .ref h6, .ref h7, .ref h8, .ref g0_both, .ref g0_cut, .int v0_other])), (h1, .inl (cI, 2, .inl f1)), (h2, .inl (cI, 24, .inl f2)), (h3, .inl (cI, 2000, .inl f3_16)), (h4, .inl (cI, 2000, .inl f4_28)), (h5, .inl (cZ, 2000, .inl f5_30)), (h6, .inl (cI, 2, .inl f6)), (h7, .inl (cI, 2, .inl f7)), (h8, .inl (cI, 2, .inl f8)), (h9, .inl (cZ, 2, .inl f9)), (h10, .inl (cI, 2, .inl f10_51)), (h11, .inl (cI, 2, .inl f11)), (h12, .inl (cI, 2, .inl f12))] H := by rw [ef10_51]; exact hP
    have hD : va_D A [(h0, .inr (11, [.int v0_wide, .int v0_tall, .ref g0_sheet, .ref g0_words, .ref g0_size, .int v0_good, .int v0_faultPlace, .int v0_made, .int v0_fills, .int v0_painted, .ref h2, .ref g0_saved, .ref g0_saves, .ref g0_at, .ref h1, .ref h3, .ref h4, .ref h5, .ref h9, .ref h10, .ref h11, .ref h12, .ref h6, .ref h7, .ref h8, .ref g0_both, .ref g0_cut, .int v0_other])), (h1, .inl (cI, 2, .inl f1)), (h2, .inl (cI, 24, .inl f2)), (h3, .inl (cI, 2000, .inl f3_16)), (h4, .inl (cI, 2000, .inl f4_28)), (h5, .inl (cZ, 2000, .inl f5_30)), (h6, .inl (cI, 2, .inl f6)), (h7, .inl (cI, 2, .inl f7)), (h8, .inl (cI, 2, .inl f8)), (h9, .inl (cZ, 2, .inl f9)), (h10, .inl (cI, 2, .inl f10_51)), (h11, .inl (cI, 2, .inl f11)), (h12, .inl (cI, 2, .inl f12))] := by rw [ef10_51]; exact hD
    exact hJ176_36 f6 f7 f8 f9 f10_51 H locs ls hP hD hS (lv_sub hl [2, 3, 4, 5] rfl) hM
  · have hM := if_f c_46 hM
    refine lv_aload_n hx hb dX12_point_134 rfl (lv_at hl 2 rfl) ?_
    refine va_get (D := (dC, dI)) (ci := 11) (v := .ref h6) (C := RX12) (T := TX12) (N := 28) hx hb hu inX12 hown hK hP 0 rfl rfl 22 (by decide) (hu _ kw_303) (fun _ h9 => h9) rfl dX12_point_135 ?_
    refine lv_iload_n hx hb dX12_point_138 rfl (lv_at hl 3 rfl) ?_
    refine lv_iload_n hx hb dX12_point_139 rfl (lv_at hl 4 rfl) ?_
    obtain ⟨g_52, hM⟩ := gd_u hM
    refine va_iast hx hb hK hP hD hS 6 0 rfl rfl (inb_v g_52) dX12_point_140 (fun H locs hP hD hS => ?_)
    obtain ⟨f6_53, ef6_53⟩ : ∃ g : Nat → Int32, g = upd f6 (p1 : Int32).toNatClampNeg p2 := ⟨_, rfl⟩
    have hM := nm_u ef6_53 hM
    have hP : va_P (dC, dI) vwCl [(h0, .inr (11, [.int v0_wide, .int v0_tall, .ref g0_sheet, .ref g0_words, .ref g0_size, .int v0_good, .int v0_faultPlace, .int v0_made, .int v0_fills, .int v0_painted, .ref h2, .ref g0_saved, .ref g0_saves, .ref g0_at, .ref h1, .ref h3, .ref h4, .ref h5, .ref h9, .ref h10, .ref h11, .ref h12, .ref h6, .ref h7, .ref h8, .ref g0_both, .ref g0_cut, .int v0_other])), (h1, .inl (cI, 2, .inl f1)), (h2, .inl (cI, 24, .inl f2)), (h3, .inl (cI, 2000, .inl f3_16)), (h4, .inl (cI, 2000, .inl f4_28)), (h5, .inl (cZ, 2000, .inl f5_30)), (h6, .inl (cI, 2, .inl f6_53)), (h7, .inl (cI, 2, .inl f7)), (h8, .inl (cI, 2, .inl f8)), (h9, .inl (cZ, 2, .inl f9)), (h10, .inl (cI, 2, .inl f10)), (h11, .inl (cI, 2, .inl f11)), (h12, .inl (cI, 2, .inl f12))] H := by rw [ef6_53]; exact hP
    have hD : va_D A [(h0, .inr (11, [.int v0_wide, .int v0_tall, .ref g0_sheet, .ref g0_words, .ref g0_size, .int v0_good, .int v0_faultPlace, .int v0_made, .int v0_fills, .int v0_painted, .ref h2, .ref g0_saved, .ref g0_saves, .ref g0_at, .ref h1, .ref h3, .ref h4, .ref h5, .ref h9, .ref h10, .ref h11, .ref h12, .ref h6, .ref h7, .ref h8, .ref g0_both, .ref g0_cut, .int v0_other])), (h1, .inl (cI, 2, .inl f1)), (h2, .inl (cI, 24, .inl f2)), (h3, .inl (cI, 2000, .inl f3_16)), (h4, .inl (cI, 2000, .inl f4_28)), (h5, .inl (cZ, 2000, .inl f5_30)), (h6, .inl (cI, 2, .inl f6_53)), (h7, .inl (cI, 2, .inl f7)), (h8, .inl (cI, 2, .inl f8)), (h9, .inl (cZ, 2, .inl f9)), (h10, .inl (cI, 2, .inl f10)), (h11, .inl (cI, 2, .inl f11)), (h12, .inl (cI, 2, .inl f12))] := by rw [ef6_53]; exact hD
    refine lv_aload_n hx hb dX12_point_141 rfl (lv_at hl 2 rfl) ?_
    refine va_get (D := (dC, dI)) (ci := 11) (v := .ref h7) (C := RX12) (T := TX12) (N := 28) hx hb hu inX12 hown hK hP 0 rfl rfl 23 (by decide) (hu _ kw_304) (fun _ h9 => h9) rfl dX12_point_142 ?_
    refine lv_iload_n hx hb dX12_point_145 rfl (lv_at hl 3 rfl) ?_
    refine lv_iload_n hx hb dX12_point_146 rfl (lv_at hl 5 rfl) ?_
    obtain ⟨g_54, hM⟩ := gd_u hM
    refine va_iast hx hb hK hP hD hS 7 0 rfl rfl (inb_v g_54) dX12_point_147 (fun H locs hP hD hS => ?_)
    obtain ⟨f7_55, ef7_55⟩ : ∃ g : Nat → Int32, g = upd f7 (p1 : Int32).toNatClampNeg p3 := ⟨_, rfl⟩
    have hM := nm_u ef7_55 hM
    have hP : va_P (dC, dI) vwCl [(h0, .inr (11, [.int v0_wide, .int v0_tall, .ref g0_sheet, .ref g0_words, .ref g0_size, .int v0_good, .int v0_faultPlace, .int v0_made, .int v0_fills, .int v0_painted, .ref h2, .ref g0_saved, .ref g0_saves, .ref g0_at, .ref h1, .ref h3, .ref h4, .ref h5, .ref h9, .ref h10, .ref h11, .ref h12, .ref h6, .ref h7, .ref h8, .ref g0_both, .ref g0_cut, .int v0_other])), (h1, .inl (cI, 2, .inl f1)), (h2, .inl (cI, 24, .inl f2)), (h3, .inl (cI, 2000, .inl f3_16)), (h4, .inl (cI, 2000, .inl f4_28)), (h5, .inl (cZ, 2000, .inl f5_30)), (h6, .inl (cI, 2, .inl f6_53)), (h7, .inl (cI, 2, .inl f7_55)), (h8, .inl (cI, 2, .inl f8)), (h9, .inl (cZ, 2, .inl f9)), (h10, .inl (cI, 2, .inl f10)), (h11, .inl (cI, 2, .inl f11)), (h12, .inl (cI, 2, .inl f12))] H := by rw [ef7_55]; exact hP
    have hD : va_D A [(h0, .inr (11, [.int v0_wide, .int v0_tall, .ref g0_sheet, .ref g0_words, .ref g0_size, .int v0_good, .int v0_faultPlace, .int v0_made, .int v0_fills, .int v0_painted, .ref h2, .ref g0_saved, .ref g0_saves, .ref g0_at, .ref h1, .ref h3, .ref h4, .ref h5, .ref h9, .ref h10, .ref h11, .ref h12, .ref h6, .ref h7, .ref h8, .ref g0_both, .ref g0_cut, .int v0_other])), (h1, .inl (cI, 2, .inl f1)), (h2, .inl (cI, 24, .inl f2)), (h3, .inl (cI, 2000, .inl f3_16)), (h4, .inl (cI, 2000, .inl f4_28)), (h5, .inl (cZ, 2000, .inl f5_30)), (h6, .inl (cI, 2, .inl f6_53)), (h7, .inl (cI, 2, .inl f7_55)), (h8, .inl (cI, 2, .inl f8)), (h9, .inl (cZ, 2, .inl f9)), (h10, .inl (cI, 2, .inl f10)), (h11, .inl (cI, 2, .inl f11)), (h12, .inl (cI, 2, .inl f12))] := by rw [ef7_55]; exact hD
    refine lv_aload_n hx hb dX12_point_148 rfl (lv_at hl 2 rfl) ?_
    refine va_get (D := (dC, dI)) (ci := 11) (v := .ref h8) (C := RX12) (T := TX12) (N := 28) hx hb hu inX12 hown hK hP 0 rfl rfl 24 (by decide) (hu _ kw_305) (fun _ h9 => h9) rfl dX12_point_149 ?_
    refine lv_iload_n hx hb dX12_point_152 rfl (lv_at hl 3 rfl) ?_
    refine lv_iload hx hb dX12_point_153 (lv_at hl 0 rfl) ?_
    obtain ⟨g_56, hM⟩ := gd_u hM
    refine va_iast hx hb hK hP hD hS 8 0 rfl rfl (inb_v g_56) dX12_point_155 (fun H locs hP hD hS => ?_)
    obtain ⟨f8_57, ef8_57⟩ : ∃ g : Nat → Int32, g = upd f8 (p1 : Int32).toNatClampNeg x_4 := ⟨_, rfl⟩
    have hM := nm_u ef8_57 hM
    have hP : va_P (dC, dI) vwCl [(h0, .inr (11, [.int v0_wide, .int v0_tall, .ref g0_sheet, .ref g0_words, .ref g0_size, .int v0_good, .int v0_faultPlace, .int v0_made, .int v0_fills, .int v0_painted, .ref h2, .ref g0_saved, .ref g0_saves, .ref g0_at, .ref h1, .ref h3, .ref h4, .ref h5, .ref h9, .ref h10, .ref h11, .ref h12, .ref h6, .ref h7, .ref h8, .ref g0_both, .ref g0_cut, .int v0_other])), (h1, .inl (cI, 2, .inl f1)), (h2, .inl (cI, 24, .inl f2)), (h3, .inl (cI, 2000, .inl f3_16)), (h4, .inl (cI, 2000, .inl f4_28)), (h5, .inl (cZ, 2000, .inl f5_30)), (h6, .inl (cI, 2, .inl f6_53)), (h7, .inl (cI, 2, .inl f7_55)), (h8, .inl (cI, 2, .inl f8_57)), (h9, .inl (cZ, 2, .inl f9)), (h10, .inl (cI, 2, .inl f10)), (h11, .inl (cI, 2, .inl f11)), (h12, .inl (cI, 2, .inl f12))] H := by rw [ef8_57]; exact hP
    have hD : va_D A [(h0, .inr (11, [.int v0_wide, .int v0_tall, .ref g0_sheet, .ref g0_words, .ref g0_size, .int v0_good, .int v0_faultPlace, .int v0_made, .int v0_fills, .int v0_painted, .ref h2, .ref g0_saved, .ref g0_saves, .ref g0_at, .ref h1, .ref h3, .ref h4, .ref h5, .ref h9, .ref h10, .ref h11, .ref h12, .ref h6, .ref h7, .ref h8, .ref g0_both, .ref g0_cut, .int v0_other])), (h1, .inl (cI, 2, .inl f1)), (h2, .inl (cI, 24, .inl f2)), (h3, .inl (cI, 2000, .inl f3_16)), (h4, .inl (cI, 2000, .inl f4_28)), (h5, .inl (cZ, 2000, .inl f5_30)), (h6, .inl (cI, 2, .inl f6_53)), (h7, .inl (cI, 2, .inl f7_55)), (h8, .inl (cI, 2, .inl f8_57)), (h9, .inl (cZ, 2, .inl f9)), (h10, .inl (cI, 2, .inl f10)), (h11, .inl (cI, 2, .inl f11)), (h12, .inl (cI, 2, .inl f12))] := by rw [ef8_57]; exact hD
    refine lv_aload_n hx hb dX12_point_156 rfl (lv_at hl 2 rfl) ?_
    refine va_get (D := (dC, dI)) (ci := 11) (v := .ref h9) (C := RX12) (T := TX12) (N := 28) hx hb hu inX12 hown hK hP 0 rfl rfl 18 (by decide) (hu _ kw_272) (fun _ h9 => h9) rfl dX12_point_157 ?_
    refine lv_iload_n hx hb dX12_point_160 rfl (lv_at hl 3 rfl) ?_
    refine lv_iconst (v := 1) hx hb dX12_point_161 (by decide) ?_
    obtain ⟨g_58, hM⟩ := gd_u hM
    refine va_zast hx hb hK hP hD hS 9 1 rfl rfl (inb_v g_58) dX12_point_162 (fun H locs hP hD hS => ?_)
    obtain ⟨f9_59, ef9_59⟩ : ∃ g : Nat → Int32, g = upd f9 (p1 : Int32).toNatClampNeg (vp_nar .boolean 1) := ⟨_, rfl⟩
    have hM := nm_u ef9_59 hM
    have hP : va_P (dC, dI) vwCl [(h0, .inr (11, [.int v0_wide, .int v0_tall, .ref g0_sheet, .ref g0_words, .ref g0_size, .int v0_good, .int v0_faultPlace, .int v0_made, .int v0_fills, .int v0_painted, .ref h2, .ref g0_saved, .ref g0_saves, .ref g0_at, .ref h1, .ref h3, .ref h4, .ref h5, .ref h9, .ref h10, .ref h11, .ref h12, .ref h6, .ref h7, .ref h8, .ref g0_both, .ref g0_cut, .int v0_other])), (h1, .inl (cI, 2, .inl f1)), (h2, .inl (cI, 24, .inl f2)), (h3, .inl (cI, 2000, .inl f3_16)), (h4, .inl (cI, 2000, .inl f4_28)), (h5, .inl (cZ, 2000, .inl f5_30)), (h6, .inl (cI, 2, .inl f6_53)), (h7, .inl (cI, 2, .inl f7_55)), (h8, .inl (cI, 2, .inl f8_57)), (h9, .inl (cZ, 2, .inl f9_59)), (h10, .inl (cI, 2, .inl f10)), (h11, .inl (cI, 2, .inl f11)), (h12, .inl (cI, 2, .inl f12))] H := by rw [ef9_59]; exact hP
    have hD : va_D A [(h0, .inr (11, [.int v0_wide, .int v0_tall, .ref g0_sheet, .ref g0_words, .ref g0_size, .int v0_good, .int v0_faultPlace, .int v0_made, .int v0_fills, .int v0_painted, .ref h2, .ref g0_saved, .ref g0_saves, .ref g0_at, .ref h1, .ref h3, .ref h4, .ref h5, .ref h9, .ref h10, .ref h11, .ref h12, .ref h6, .ref h7, .ref h8, .ref g0_both, .ref g0_cut, .int v0_other])), (h1, .inl (cI, 2, .inl f1)), (h2, .inl (cI, 24, .inl f2)), (h3, .inl (cI, 2000, .inl f3_16)), (h4, .inl (cI, 2000, .inl f4_28)), (h5, .inl (cZ, 2000, .inl f5_30)), (h6, .inl (cI, 2, .inl f6_53)), (h7, .inl (cI, 2, .inl f7_55)), (h8, .inl (cI, 2, .inl f8_57)), (h9, .inl (cZ, 2, .inl f9_59)), (h10, .inl (cI, 2, .inl f10)), (h11, .inl (cI, 2, .inl f11)), (h12, .inl (cI, 2, .inl f12))] := by rw [ef9_59]; exact hD
    refine lv_goto (tgt := 176) hx hb dX12_point_163 (by decide) ?_
    exact hJ176_36 f6_53 f7_55 f8_57 f9_59 f10 H locs ls hP hD hS (lv_sub hl [2, 3, 4, 5] rfl) hM
theorem dX12_close_0 : decode cX12_close 0 = .ok (.sipush 1000, 3) := by decide +kernel
theorem dX12_close_3 : decode cX12_close 3 = .ok (.iload_n 1, 1) := by decide +kernel
theorem dX12_close_4 : decode cX12_close 4 = .ok (.imul, 1) := by decide +kernel
theorem dX12_close_5 : decode cX12_close 5 = .ok (.aload_n 0, 1) := by decide +kernel
theorem dX12_close_6 : decode cX12_close 6 = .ok (.getfield 35, 3) := by decide +kernel
theorem dX12_close_9 : decode cX12_close 9 = .ok (.iload_n 1, 1) := by decide +kernel
theorem dX12_close_10 : decode cX12_close 10 = .ok (.iaload, 1) := by decide +kernel
theorem dX12_close_11 : decode cX12_close 11 = .ok (.iadd, 1) := by decide +kernel
theorem dX12_close_12 : decode cX12_close 12 = .ok (.istore_n 2, 1) := by decide +kernel
theorem dX12_close_13 : decode cX12_close 13 = .ok (.aload_n 0, 1) := by decide +kernel
theorem dX12_close_14 : decode cX12_close 14 = .ok (.getfield 38, 3) := by decide +kernel
theorem dX12_close_17 : decode cX12_close 17 = .ok (.iload_n 2, 1) := by decide +kernel
theorem dX12_close_18 : decode cX12_close 18 = .ok (.aload_n 0, 1) := by decide +kernel
theorem dX12_close_19 : decode cX12_close 19 = .ok (.getfield 38, 3) := by decide +kernel
theorem dX12_close_22 : decode cX12_close 22 = .ok (.aload_n 0, 1) := by decide +kernel
theorem dX12_close_23 : decode cX12_close 23 = .ok (.getfield 66, 3) := by decide +kernel
theorem dX12_close_26 : decode cX12_close 26 = .ok (.iload_n 1, 1) := by decide +kernel
theorem dX12_close_27 : decode cX12_close 27 = .ok (.iaload, 1) := by decide +kernel
theorem dX12_close_28 : decode cX12_close 28 = .ok (.iaload, 1) := by decide +kernel
theorem dX12_close_29 : decode cX12_close 29 = .ok (.iastore, 1) := by decide +kernel
theorem dX12_close_30 : decode cX12_close 30 = .ok (.aload_n 0, 1) := by decide +kernel
theorem dX12_close_31 : decode cX12_close 31 = .ok (.getfield 41, 3) := by decide +kernel
theorem dX12_close_34 : decode cX12_close 34 = .ok (.iload_n 2, 1) := by decide +kernel
theorem dX12_close_35 : decode cX12_close 35 = .ok (.aload_n 0, 1) := by decide +kernel
theorem dX12_close_36 : decode cX12_close 36 = .ok (.getfield 41, 3) := by decide +kernel
theorem dX12_close_39 : decode cX12_close 39 = .ok (.aload_n 0, 1) := by decide +kernel
theorem dX12_close_40 : decode cX12_close 40 = .ok (.getfield 66, 3) := by decide +kernel
theorem dX12_close_43 : decode cX12_close 43 = .ok (.iload_n 1, 1) := by decide +kernel
theorem dX12_close_44 : decode cX12_close 44 = .ok (.iaload, 1) := by decide +kernel
theorem dX12_close_45 : decode cX12_close 45 = .ok (.iaload, 1) := by decide +kernel
theorem dX12_close_46 : decode cX12_close 46 = .ok (.iastore, 1) := by decide +kernel
theorem dX12_close_47 : decode cX12_close 47 = .ok (.aload_n 0, 1) := by decide +kernel
theorem dX12_close_48 : decode cX12_close 48 = .ok (.getfield 44, 3) := by decide +kernel
theorem dX12_close_51 : decode cX12_close 51 = .ok (.iload_n 2, 1) := by decide +kernel
theorem dX12_close_52 : decode cX12_close 52 = .ok (.iconst 0, 1) := by decide +kernel
theorem dX12_close_53 : decode cX12_close 53 = .ok (.bastore, 1) := by decide +kernel
theorem dX12_close_54 : decode cX12_close 54 = .ok (.aload_n 0, 1) := by decide +kernel
theorem dX12_close_55 : decode cX12_close 55 = .ok (.getfield 35, 3) := by decide +kernel
theorem dX12_close_58 : decode cX12_close 58 = .ok (.iload_n 1, 1) := by decide +kernel
theorem dX12_close_59 : decode cX12_close 59 = .ok (.dup2, 1) := by decide +kernel
theorem dX12_close_60 : decode cX12_close 60 = .ok (.iaload, 1) := by decide +kernel
theorem dX12_close_61 : decode cX12_close 61 = .ok (.iconst 1, 1) := by decide +kernel
theorem dX12_close_62 : decode cX12_close 62 = .ok (.iadd, 1) := by decide +kernel
theorem dX12_close_63 : decode cX12_close 63 = .ok (.iastore, 1) := by decide +kernel
theorem dX12_close_64 : decode cX12_close 64 = .ok (.aload_n 0, 1) := by decide +kernel
theorem dX12_close_65 : decode cX12_close 65 = .ok (.getfield 51, 3) := by decide +kernel
theorem dX12_close_68 : decode cX12_close 68 = .ok (.iload_n 1, 1) := by decide +kernel
theorem dX12_close_69 : decode cX12_close 69 = .ok (.dup2, 1) := by decide +kernel
theorem dX12_close_70 : decode cX12_close 70 = .ok (.iaload, 1) := by decide +kernel
theorem dX12_close_71 : decode cX12_close 71 = .ok (.iconst 1, 1) := by decide +kernel
theorem dX12_close_72 : decode cX12_close 72 = .ok (.iadd, 1) := by decide +kernel
theorem dX12_close_73 : decode cX12_close 73 = .ok (.iastore, 1) := by decide +kernel
theorem dX12_close_74 : decode cX12_close 74 = .ok (.aload_n 0, 1) := by decide +kernel
theorem dX12_close_75 : decode cX12_close 75 = .ok (.getfield 54, 3) := by decide +kernel
theorem dX12_close_78 : decode cX12_close 78 = .ok (.iload_n 1, 1) := by decide +kernel
theorem dX12_close_79 : decode cX12_close 79 = .ok (.aload_n 0, 1) := by decide +kernel
theorem dX12_close_80 : decode cX12_close 80 = .ok (.getfield 60, 3) := by decide +kernel
theorem dX12_close_83 : decode cX12_close 83 = .ok (.iload_n 1, 1) := by decide +kernel
theorem dX12_close_84 : decode cX12_close 84 = .ok (.iaload, 1) := by decide +kernel
theorem dX12_close_85 : decode cX12_close 85 = .ok (.iastore, 1) := by decide +kernel
theorem dX12_close_86 : decode cX12_close 86 = .ok (.aload_n 0, 1) := by decide +kernel
theorem dX12_close_87 : decode cX12_close 87 = .ok (.getfield 57, 3) := by decide +kernel
theorem dX12_close_90 : decode cX12_close 90 = .ok (.iload_n 1, 1) := by decide +kernel
theorem dX12_close_91 : decode cX12_close 91 = .ok (.aload_n 0, 1) := by decide +kernel
theorem dX12_close_92 : decode cX12_close 92 = .ok (.getfield 63, 3) := by decide +kernel
theorem dX12_close_95 : decode cX12_close 95 = .ok (.iload_n 1, 1) := by decide +kernel
theorem dX12_close_96 : decode cX12_close 96 = .ok (.iaload, 1) := by decide +kernel
theorem dX12_close_97 : decode cX12_close 97 = .ok (.iastore, 1) := by decide +kernel
theorem dX12_close_98 : decode cX12_close 98 = .ok (.return_, 1) := by decide +kernel
abbrev rm_X12_close : Room := { frames := 0, cells := 0, slots := 0, locals := 0 }
def w_X12_close : List Cond := Cond.code yX12_close cX12_close 3 none :: uw
set_option maxHeartbeats 4000000 in
set_option maxRecDepth 100000 in
theorem c_X12_close (l : Launch) (dC : Nat → ClassId) (dI : Nat → Nat → Nat) (cI cZ cO : ClassId) (tL sz : Nat) (h0 : Nat) (h1 : Nat) (h2 : Nat) (h3 : Nat) (h4 : Nat) (h5 : Nat) (h6 : Nat) (h7 : Nat) (h8 : Nat) (h9 : Nat) (h10 : Nat) (g0_sheet : Nat) (g0_words : Nat) (g0_size : Nat) (g0_told : Nat) (g0_saved : Nat) (g0_saves : Nat) (g0_at : Nat) (g0_begun : Nat) (g0_both : Nat) (g0_cut : Nat) (v0_wide : Int32) (v0_tall : Int32) (v0_good : Int32) (v0_faultPlace : Int32) (v0_made : Int32) (v0_fills : Int32) (v0_painted : Int32) (v0_other : Int32) (f1 : Nat → Int32) (f2 : Nat → Int32) (f3 : Nat → Int32) (f4 : Nat → Int32) (f5 : Nat → Int32) (f6 : Nat → Int32) (f7 : Nat → Int32) (f8 : Nat → Int32) (f9 : Nat → Int32) (f10 : Nat → Int32) (p1 : Int32) (res : (Nat → Int32) × (Nat → Int32) × (Nat → Int32) × (Nat → Int32) × (Nat → Int32) × (Nat → Int32) × (Nat → Int32)) (hM : m_X12_close f1 f2 f3 f4 f5 f6 f7 f8 f9 f10 p1 = some res) : Met l yX12_close w_X12_close rm_X12_close (PCx [.ref h0, .int p1] (dC, dI) [(cI, .int), (cZ, .boolean), (cO, .object "ListPainter$Settings")] sz tL [(h0, .inr (11, [.int v0_wide, .int v0_tall, .ref g0_sheet, .ref g0_words, .ref g0_size, .int v0_good, .int v0_faultPlace, .int v0_made, .int v0_fills, .int v0_painted, .ref g0_told, .ref g0_saved, .ref g0_saves, .ref g0_at, .ref h1, .ref h3, .ref h4, .ref h5, .ref g0_begun, .ref h6, .ref h8, .ref h10, .ref h7, .ref h9, .ref h2, .ref g0_both, .ref g0_cut, .int v0_other])), (h1, .inl (cI, 2, .inl f1)), (h2, .inl (cI, 2, .inl f2)), (h3, .inl (cI, 2000, .inl f3)), (h4, .inl (cI, 2000, .inl f4)), (h5, .inl (cZ, 2000, .inl f5)), (h6, .inl (cI, 2, .inl f6)), (h7, .inl (cI, 2, .inl f7)), (h8, .inl (cI, 2, .inl f8)), (h9, .inl (cI, 2, .inl f9)), (h10, .inl (cI, 2, .inl f10))]) (QMv (dC, dI) [(cI, .int), (cZ, .boolean), (cO, .object "ListPainter$Settings")] (va_A [(h0, .inr (11, [.int v0_wide, .int v0_tall, .ref g0_sheet, .ref g0_words, .ref g0_size, .int v0_good, .int v0_faultPlace, .int v0_made, .int v0_fills, .int v0_painted, .ref g0_told, .ref g0_saved, .ref g0_saves, .ref g0_at, .ref h1, .ref h3, .ref h4, .ref h5, .ref g0_begun, .ref h6, .ref h8, .ref h10, .ref h7, .ref h9, .ref h2, .ref g0_both, .ref g0_cut, .int v0_other])), (h1, .inl (cI, 2, .inl f1)), (h2, .inl (cI, 2, .inl f2)), (h3, .inl (cI, 2000, .inl f3)), (h4, .inl (cI, 2000, .inl f4)), (h5, .inl (cZ, 2000, .inl f5)), (h6, .inl (cI, 2, .inl f6)), (h7, .inl (cI, 2, .inl f7)), (h8, .inl (cI, 2, .inl f8)), (h9, .inl (cI, 2, .inl f9)), (h10, .inl (cI, 2, .inl f10))] sz) [(h0, .inr (11, [.int v0_wide, .int v0_tall, .ref g0_sheet, .ref g0_words, .ref g0_size, .int v0_good, .int v0_faultPlace, .int v0_made, .int v0_fills, .int v0_painted, .ref g0_told, .ref g0_saved, .ref g0_saves, .ref g0_at, .ref h1, .ref h3, .ref h4, .ref h5, .ref g0_begun, .ref h6, .ref h8, .ref h10, .ref h7, .ref h9, .ref h2, .ref g0_both, .ref g0_cut, .int v0_other])), (h1, .inl (cI, 2, .inl (res.1))), (h2, .inl (cI, 2, .inl f2)), (h3, .inl (cI, 2000, .inl (res.2.1))), (h4, .inl (cI, 2000, .inl (res.2.2.1))), (h5, .inl (cZ, 2000, .inl (res.2.2.2.1))), (h6, .inl (cI, 2, .inl (res.2.2.2.2.1))), (h7, .inl (cI, 2, .inl f7)), (h8, .inl (cI, 2, .inl (res.2.2.2.2.2.1))), (h9, .inl (cI, 2, .inl f9)), (h10, .inl (cI, 2, .inl (res.2.2.2.2.2.2)))]) 0 0 (va_A [(h0, .inr (11, [.int v0_wide, .int v0_tall, .ref g0_sheet, .ref g0_words, .ref g0_size, .int v0_good, .int v0_faultPlace, .int v0_made, .int v0_fills, .int v0_painted, .ref g0_told, .ref g0_saved, .ref g0_saves, .ref g0_at, .ref h1, .ref h3, .ref h4, .ref h5, .ref g0_begun, .ref h6, .ref h8, .ref h10, .ref h7, .ref h9, .ref h2, .ref g0_both, .ref g0_cut, .int v0_other])), (h1, .inl (cI, 2, .inl f1)), (h2, .inl (cI, 2, .inl f2)), (h3, .inl (cI, 2000, .inl f3)), (h4, .inl (cI, 2000, .inl f4)), (h5, .inl (cZ, 2000, .inl f5)), (h6, .inl (cI, 2, .inl f6)), (h7, .inl (cI, 2, .inl f7)), (h8, .inl (cI, 2, .inl f8)), (h9, .inl (cI, 2, .inl f9)), (h10, .inl (cI, 2, .inl f10))] sz) := by
  refine Met.ofW (cc := cX12_close) (maxL := 3) (ret := none) (by decide) rfl ?_
  intro p e s m args below meth c s₁ B hml hv
  obtain ⟨rfl, hsz, hP, hK, hD0, hG⟩ := hv
  have hx := B.exec
  have hb := B.bytes
  have hr := B.returns
  have hu : ∀ w ∈ uw, w.before ([.ref h0, .int p1] : List Value).toArray s = true := fun w h => atoms_spec (ws := w_X12_close) B.pre w (List.mem_cons_of_mem _ h)
  have hown : s.vm.findClass RX12 = some m.cls := findClass_of_methodNamed B.named
  have hlocks := B.notSynchronized
  subst hsz
  have hD := hD0.self (sz := s.heap.size)
  generalize hAe : va_A [(h0, .inr (11, [.int v0_wide, .int v0_tall, .ref g0_sheet, .ref g0_words, .ref g0_size, .int v0_good, .int v0_faultPlace, .int v0_made, .int v0_fills, .int v0_painted, .ref g0_told, .ref g0_saved, .ref g0_saves, .ref g0_at, .ref h1, .ref h3, .ref h4, .ref h5, .ref g0_begun, .ref h6, .ref h8, .ref h10, .ref h7, .ref h9, .ref h2, .ref g0_both, .ref g0_cut, .int v0_other])), (h1, .inl (cI, 2, .inl f1)), (h2, .inl (cI, 2, .inl f2)), (h3, .inl (cI, 2000, .inl f3)), (h4, .inl (cI, 2000, .inl f4)), (h5, .inl (cZ, 2000, .inl f5)), (h6, .inl (cI, 2, .inl f6)), (h7, .inl (cI, 2, .inl f7)), (h8, .inl (cI, 2, .inl f8)), (h9, .inl (cI, 2, .inl f9)), (h10, .inl (cI, 2, .inl f10))] s.heap.size = A at hD hG ⊢
  have hA : ∀ q : Nat, s.heap.size ≤ q → A q := fun q h => by rw [← hAe]; exact Or.inr h
  have hS : va_S A s.heap s.heap [] := va_S.rf
  have hP : va_P (dC, dI) vwCl [(h0, .inr (11, [.int v0_wide, .int v0_tall, .ref g0_sheet, .ref g0_words, .ref g0_size, .int v0_good, .int v0_faultPlace, .int v0_made, .int v0_fills, .int v0_painted, .ref g0_told, .ref g0_saved, .ref g0_saves, .ref g0_at, .ref h1, .ref h3, .ref h4, .ref h5, .ref g0_begun, .ref h6, .ref h8, .ref h10, .ref h7, .ref h9, .ref h2, .ref g0_both, .ref g0_cut, .int v0_other])), (h1, .inl (cI, 2, .inl f1)), (h2, .inl (cI, 2, .inl f2)), (h3, .inl (cI, 2000, .inl f3)), (h4, .inl (cI, 2000, .inl f4)), (h5, .inl (cZ, 2000, .inl f5)), (h6, .inl (cI, 2, .inl f6)), (h7, .inl (cI, 2, .inl f7)), (h8, .inl (cI, 2, .inl f8)), (h9, .inl (cI, 2, .inl f9)), (h10, .inl (cI, 2, .inl f10))] s.heap := hP
  have hl := lv_entry ([.ref h0, .int p1]) (n := 3) (Nat.le_of_ble_eq_true rfl)
  rw [lg_entry_eq]
  generalize (lg_sl ([.ref h0, .int p1]) ++ List.replicate (3 - (lg_sl ([.ref h0, .int p1])).length) Slot.unset).toArray = ls at hl ⊢
  have hl : lv_has ls 3 [(0, .ref h0), (1, .int p1)] := hl
  rw [m_X12_close] at hM
  suffices hgo : ∀ (H : Heap) (locs : List Loc), va_P (dC, dI) vwCl [(h0, .inr (11, [.int v0_wide, .int v0_tall, .ref g0_sheet, .ref g0_words, .ref g0_size, .int v0_good, .int v0_faultPlace, .int v0_made, .int v0_fills, .int v0_painted, .ref g0_told, .ref g0_saved, .ref g0_saves, .ref g0_at, .ref h1, .ref h3, .ref h4, .ref h5, .ref g0_begun, .ref h6, .ref h8, .ref h10, .ref h7, .ref h9, .ref h2, .ref g0_both, .ref g0_cut, .int v0_other])), (h1, .inl (cI, 2, .inl f1)), (h2, .inl (cI, 2, .inl f2)), (h3, .inl (cI, 2000, .inl f3)), (h4, .inl (cI, 2000, .inl f4)), (h5, .inl (cZ, 2000, .inl f5)), (h6, .inl (cI, 2, .inl f6)), (h7, .inl (cI, 2, .inl f7)), (h8, .inl (cI, 2, .inl f8)), (h9, .inl (cI, 2, .inl f9)), (h10, .inl (cI, 2, .inl f10))] H → va_D A [(h0, .inr (11, [.int v0_wide, .int v0_tall, .ref g0_sheet, .ref g0_words, .ref g0_size, .int v0_good, .int v0_faultPlace, .int v0_made, .int v0_fills, .int v0_painted, .ref g0_told, .ref g0_saved, .ref g0_saves, .ref g0_at, .ref h1, .ref h3, .ref h4, .ref h5, .ref g0_begun, .ref h6, .ref h8, .ref h10, .ref h7, .ref h9, .ref h2, .ref g0_both, .ref g0_cut, .int v0_other])), (h1, .inl (cI, 2, .inl f1)), (h2, .inl (cI, 2, .inl f2)), (h3, .inl (cI, 2000, .inl f3)), (h4, .inl (cI, 2000, .inl f4)), (h5, .inl (cZ, 2000, .inl f5)), (h6, .inl (cI, 2, .inl f6)), (h7, .inl (cI, 2, .inl f7)), (h8, .inl (cI, 2, .inl f8)), (h9, .inl (cI, 2, .inl f9)), (h10, .inl (cI, 2, .inl f10))] → va_S A s.heap H locs → W p l e (headSpec w_X12_close rm_X12_close).room s m ([.ref h0, .int p1] : List Value).toArray below meth c H locs 0 0 (MQ below (QMv (dC, dI) [(cI, .int), (cZ, .boolean), (cO, .object "ListPainter$Settings")] A [(h0, .inr (11, [.int v0_wide, .int v0_tall, .ref g0_sheet, .ref g0_words, .ref g0_size, .int v0_good, .int v0_faultPlace, .int v0_made, .int v0_fills, .int v0_painted, .ref g0_told, .ref g0_saved, .ref g0_saves, .ref g0_at, .ref h1, .ref h3, .ref h4, .ref h5, .ref g0_begun, .ref h6, .ref h8, .ref h10, .ref h7, .ref h9, .ref h2, .ref g0_both, .ref g0_cut, .int v0_other])), (h1, .inl (cI, 2, .inl (res.1))), (h2, .inl (cI, 2, .inl f2)), (h3, .inl (cI, 2000, .inl (res.2.1))), (h4, .inl (cI, 2000, .inl (res.2.2.1))), (h5, .inl (cZ, 2000, .inl (res.2.2.2.1))), (h6, .inl (cI, 2, .inl (res.2.2.2.2.1))), (h7, .inl (cI, 2, .inl f7)), (h8, .inl (cI, 2, .inl (res.2.2.2.2.2.1))), (h9, .inl (cI, 2, .inl f9)), (h10, .inl (cI, 2, .inl (res.2.2.2.2.2.2)))]) ([.ref h0, .int p1] : List Value).toArray s 0 0 A) (F0 m 0 ls []) from hgo _ _ hP hD hS
  intro H locs hP hD hS
  refine lv_sipush (v := 1000) hx hb dX12_close_0 (by decide) ?_
  refine lv_iload_n hx hb dX12_close_3 rfl (lv_at hl 1 rfl) ?_
  refine lv_imul hx hb dX12_close_4 ?_
  refine lv_aload_n hx hb dX12_close_5 rfl (lv_at hl 0 rfl) ?_
  refine va_get (D := (dC, dI)) (ci := 11) (v := .ref h1) (C := RX12) (T := TX12) (N := 28) hx hb hu inX12 hown hK hP 0 rfl rfl 14 (by decide) (hu _ kw_271) (fun _ h9 => h9) rfl dX12_close_6 ?_
  refine lv_iload_n hx hb dX12_close_9 rfl (lv_at hl 1 rfl) ?_
  obtain ⟨g_1, hM⟩ := gd_u hM
  refine va_iald hx hb hK hP 1 0 rfl rfl (inb_v g_1) dX12_close_10 ?_
  refine lv_topi (fun a_2 ea_2 => ?_)
  have hM := nm_u ea_2 hM
  refine lv_iadd hx hb dX12_close_11 ?_
  refine lv_topi (fun x_3 ex_3 => ?_)
  have hM := nm_u ex_3 hM
  refine lv_istore_n (lv' := [(2, .int x_3), (0, .ref h0), (1, .int p1)]) hx hb dX12_close_12 rfl hl (by decide) rfl (fun ls hl => ?_)
  refine lv_aload_n hx hb dX12_close_13 rfl (lv_at hl 1 rfl) ?_
  refine va_get (D := (dC, dI)) (ci := 11) (v := .ref h3) (C := RX12) (T := TX12) (N := 28) hx hb hu inX12 hown hK hP 0 rfl rfl 15 (by decide) (hu _ kw_292) (fun _ h9 => h9) rfl dX12_close_14 ?_
  refine lv_iload_n hx hb dX12_close_17 rfl (lv_at hl 0 rfl) ?_
  refine lv_aload_n hx hb dX12_close_18 rfl (lv_at hl 1 rfl) ?_
  refine va_get (D := (dC, dI)) (ci := 11) (v := .ref h3) (C := RX12) (T := TX12) (N := 28) hx hb hu inX12 hown hK hP 0 rfl rfl 15 (by decide) (hu _ kw_292) (fun _ h9 => h9) rfl dX12_close_19 ?_
  refine lv_aload_n hx hb dX12_close_22 rfl (lv_at hl 1 rfl) ?_
  refine va_get (D := (dC, dI)) (ci := 11) (v := .ref h2) (C := RX12) (T := TX12) (N := 28) hx hb hu inX12 hown hK hP 0 rfl rfl 24 (by decide) (hu _ kw_305) (fun _ h9 => h9) rfl dX12_close_23 ?_
  refine lv_iload_n hx hb dX12_close_26 rfl (lv_at hl 2 rfl) ?_
  obtain ⟨g_4, hM⟩ := gd_u hM
  refine va_iald hx hb hK hP 2 0 rfl rfl (inb_v g_4) dX12_close_27 ?_
  refine lv_topi (fun a_5 ea_5 => ?_)
  have hM := nm_u ea_5 hM
  obtain ⟨g_6, hM⟩ := gd_u hM
  refine va_iald hx hb hK hP 3 0 rfl rfl (inb_v g_6) dX12_close_28 ?_
  refine lv_topi (fun a_7 ea_7 => ?_)
  have hM := nm_u ea_7 hM
  obtain ⟨g_8, hM⟩ := gd_u hM
  refine va_iast hx hb hK hP hD hS 3 0 rfl rfl (inb_v g_8) dX12_close_29 (fun H locs hP hD hS => ?_)
  obtain ⟨f3_9, ef3_9⟩ : ∃ g : Nat → Int32, g = upd f3 (x_3 : Int32).toNatClampNeg a_7 := ⟨_, rfl⟩
  have hM := nm_u ef3_9 hM
  have hP : va_P (dC, dI) vwCl [(h0, .inr (11, [.int v0_wide, .int v0_tall, .ref g0_sheet, .ref g0_words, .ref g0_size, .int v0_good, .int v0_faultPlace, .int v0_made, .int v0_fills, .int v0_painted, .ref g0_told, .ref g0_saved, .ref g0_saves, .ref g0_at, .ref h1, .ref h3, .ref h4, .ref h5, .ref g0_begun, .ref h6, .ref h8, .ref h10, .ref h7, .ref h9, .ref h2, .ref g0_both, .ref g0_cut, .int v0_other])), (h1, .inl (cI, 2, .inl f1)), (h2, .inl (cI, 2, .inl f2)), (h3, .inl (cI, 2000, .inl f3_9)), (h4, .inl (cI, 2000, .inl f4)), (h5, .inl (cZ, 2000, .inl f5)), (h6, .inl (cI, 2, .inl f6)), (h7, .inl (cI, 2, .inl f7)), (h8, .inl (cI, 2, .inl f8)), (h9, .inl (cI, 2, .inl f9)), (h10, .inl (cI, 2, .inl f10))] H := by rw [ef3_9]; exact hP
  have hD : va_D A [(h0, .inr (11, [.int v0_wide, .int v0_tall, .ref g0_sheet, .ref g0_words, .ref g0_size, .int v0_good, .int v0_faultPlace, .int v0_made, .int v0_fills, .int v0_painted, .ref g0_told, .ref g0_saved, .ref g0_saves, .ref g0_at, .ref h1, .ref h3, .ref h4, .ref h5, .ref g0_begun, .ref h6, .ref h8, .ref h10, .ref h7, .ref h9, .ref h2, .ref g0_both, .ref g0_cut, .int v0_other])), (h1, .inl (cI, 2, .inl f1)), (h2, .inl (cI, 2, .inl f2)), (h3, .inl (cI, 2000, .inl f3_9)), (h4, .inl (cI, 2000, .inl f4)), (h5, .inl (cZ, 2000, .inl f5)), (h6, .inl (cI, 2, .inl f6)), (h7, .inl (cI, 2, .inl f7)), (h8, .inl (cI, 2, .inl f8)), (h9, .inl (cI, 2, .inl f9)), (h10, .inl (cI, 2, .inl f10))] := by rw [ef3_9]; exact hD
  refine lv_aload_n hx hb dX12_close_30 rfl (lv_at hl 1 rfl) ?_
  refine va_get (D := (dC, dI)) (ci := 11) (v := .ref h4) (C := RX12) (T := TX12) (N := 28) hx hb hu inX12 hown hK hP 0 rfl rfl 16 (by decide) (hu _ kw_299) (fun _ h9 => h9) rfl dX12_close_31 ?_
  refine lv_iload_n hx hb dX12_close_34 rfl (lv_at hl 0 rfl) ?_
  refine lv_aload_n hx hb dX12_close_35 rfl (lv_at hl 1 rfl) ?_
  refine va_get (D := (dC, dI)) (ci := 11) (v := .ref h4) (C := RX12) (T := TX12) (N := 28) hx hb hu inX12 hown hK hP 0 rfl rfl 16 (by decide) (hu _ kw_299) (fun _ h9 => h9) rfl dX12_close_36 ?_
  refine lv_aload_n hx hb dX12_close_39 rfl (lv_at hl 1 rfl) ?_
  refine va_get (D := (dC, dI)) (ci := 11) (v := .ref h2) (C := RX12) (T := TX12) (N := 28) hx hb hu inX12 hown hK hP 0 rfl rfl 24 (by decide) (hu _ kw_305) (fun _ h9 => h9) rfl dX12_close_40 ?_
  refine lv_iload_n hx hb dX12_close_43 rfl (lv_at hl 2 rfl) ?_
  obtain ⟨g_10, hM⟩ := gd_u hM
  refine va_iald hx hb hK hP 2 0 rfl rfl (inb_v g_10) dX12_close_44 ?_
  refine lv_topi (fun a_11 ea_11 => ?_)
  have hM := nm_u ea_11 hM
  obtain ⟨g_12, hM⟩ := gd_u hM
  refine va_iald hx hb hK hP 4 0 rfl rfl (inb_v g_12) dX12_close_45 ?_
  refine lv_topi (fun a_13 ea_13 => ?_)
  have hM := nm_u ea_13 hM
  obtain ⟨g_14, hM⟩ := gd_u hM
  refine va_iast hx hb hK hP hD hS 4 0 rfl rfl (inb_v g_14) dX12_close_46 (fun H locs hP hD hS => ?_)
  obtain ⟨f4_15, ef4_15⟩ : ∃ g : Nat → Int32, g = upd f4 (x_3 : Int32).toNatClampNeg a_13 := ⟨_, rfl⟩
  have hM := nm_u ef4_15 hM
  have hP : va_P (dC, dI) vwCl [(h0, .inr (11, [.int v0_wide, .int v0_tall, .ref g0_sheet, .ref g0_words, .ref g0_size, .int v0_good, .int v0_faultPlace, .int v0_made, .int v0_fills, .int v0_painted, .ref g0_told, .ref g0_saved, .ref g0_saves, .ref g0_at, .ref h1, .ref h3, .ref h4, .ref h5, .ref g0_begun, .ref h6, .ref h8, .ref h10, .ref h7, .ref h9, .ref h2, .ref g0_both, .ref g0_cut, .int v0_other])), (h1, .inl (cI, 2, .inl f1)), (h2, .inl (cI, 2, .inl f2)), (h3, .inl (cI, 2000, .inl f3_9)), (h4, .inl (cI, 2000, .inl f4_15)), (h5, .inl (cZ, 2000, .inl f5)), (h6, .inl (cI, 2, .inl f6)), (h7, .inl (cI, 2, .inl f7)), (h8, .inl (cI, 2, .inl f8)), (h9, .inl (cI, 2, .inl f9)), (h10, .inl (cI, 2, .inl f10))] H := by rw [ef4_15]; exact hP
  have hD : va_D A [(h0, .inr (11, [.int v0_wide, .int v0_tall, .ref g0_sheet, .ref g0_words, .ref g0_size, .int v0_good, .int v0_faultPlace, .int v0_made, .int v0_fills, .int v0_painted, .ref g0_told, .ref g0_saved, .ref g0_saves, .ref g0_at, .ref h1, .ref h3, .ref h4, .ref h5, .ref g0_begun, .ref h6, .ref h8, .ref h10, .ref h7, .ref h9, .ref h2, .ref g0_both, .ref g0_cut, .int v0_other])), (h1, .inl (cI, 2, .inl f1)), (h2, .inl (cI, 2, .inl f2)), (h3, .inl (cI, 2000, .inl f3_9)), (h4, .inl (cI, 2000, .inl f4_15)), (h5, .inl (cZ, 2000, .inl f5)), (h6, .inl (cI, 2, .inl f6)), (h7, .inl (cI, 2, .inl f7)), (h8, .inl (cI, 2, .inl f8)), (h9, .inl (cI, 2, .inl f9)), (h10, .inl (cI, 2, .inl f10))] := by rw [ef4_15]; exact hD
  refine lv_aload_n hx hb dX12_close_47 rfl (lv_at hl 1 rfl) ?_
  refine va_get (D := (dC, dI)) (ci := 11) (v := .ref h5) (C := RX12) (T := TX12) (N := 28) hx hb hu inX12 hown hK hP 0 rfl rfl 17 (by decide) (hu _ kw_300) (fun _ h9 => h9) rfl dX12_close_48 ?_
  refine lv_iload_n hx hb dX12_close_51 rfl (lv_at hl 0 rfl) ?_
  refine lv_iconst (v := 0) hx hb dX12_close_52 (by decide) ?_
  obtain ⟨g_16, hM⟩ := gd_u hM
  refine va_zast hx hb hK hP hD hS 5 1 rfl rfl (inb_v g_16) dX12_close_53 (fun H locs hP hD hS => ?_)
  obtain ⟨f5_17, ef5_17⟩ : ∃ g : Nat → Int32, g = upd f5 (x_3 : Int32).toNatClampNeg (vp_nar .boolean 0) := ⟨_, rfl⟩
  have hM := nm_u ef5_17 hM
  have hP : va_P (dC, dI) vwCl [(h0, .inr (11, [.int v0_wide, .int v0_tall, .ref g0_sheet, .ref g0_words, .ref g0_size, .int v0_good, .int v0_faultPlace, .int v0_made, .int v0_fills, .int v0_painted, .ref g0_told, .ref g0_saved, .ref g0_saves, .ref g0_at, .ref h1, .ref h3, .ref h4, .ref h5, .ref g0_begun, .ref h6, .ref h8, .ref h10, .ref h7, .ref h9, .ref h2, .ref g0_both, .ref g0_cut, .int v0_other])), (h1, .inl (cI, 2, .inl f1)), (h2, .inl (cI, 2, .inl f2)), (h3, .inl (cI, 2000, .inl f3_9)), (h4, .inl (cI, 2000, .inl f4_15)), (h5, .inl (cZ, 2000, .inl f5_17)), (h6, .inl (cI, 2, .inl f6)), (h7, .inl (cI, 2, .inl f7)), (h8, .inl (cI, 2, .inl f8)), (h9, .inl (cI, 2, .inl f9)), (h10, .inl (cI, 2, .inl f10))] H := by rw [ef5_17]; exact hP
  have hD : va_D A [(h0, .inr (11, [.int v0_wide, .int v0_tall, .ref g0_sheet, .ref g0_words, .ref g0_size, .int v0_good, .int v0_faultPlace, .int v0_made, .int v0_fills, .int v0_painted, .ref g0_told, .ref g0_saved, .ref g0_saves, .ref g0_at, .ref h1, .ref h3, .ref h4, .ref h5, .ref g0_begun, .ref h6, .ref h8, .ref h10, .ref h7, .ref h9, .ref h2, .ref g0_both, .ref g0_cut, .int v0_other])), (h1, .inl (cI, 2, .inl f1)), (h2, .inl (cI, 2, .inl f2)), (h3, .inl (cI, 2000, .inl f3_9)), (h4, .inl (cI, 2000, .inl f4_15)), (h5, .inl (cZ, 2000, .inl f5_17)), (h6, .inl (cI, 2, .inl f6)), (h7, .inl (cI, 2, .inl f7)), (h8, .inl (cI, 2, .inl f8)), (h9, .inl (cI, 2, .inl f9)), (h10, .inl (cI, 2, .inl f10))] := by rw [ef5_17]; exact hD
  refine lv_aload_n hx hb dX12_close_54 rfl (lv_at hl 1 rfl) ?_
  refine va_get (D := (dC, dI)) (ci := 11) (v := .ref h1) (C := RX12) (T := TX12) (N := 28) hx hb hu inX12 hown hK hP 0 rfl rfl 14 (by decide) (hu _ kw_271) (fun _ h9 => h9) rfl dX12_close_55 ?_
  refine lv_iload_n hx hb dX12_close_58 rfl (lv_at hl 2 rfl) ?_
  refine lv_dup2_11 hx hb dX12_close_59 rfl rfl ?_
  obtain ⟨g_18, hM⟩ := gd_u hM
  refine va_iald hx hb hK hP 1 0 rfl rfl (inb_v g_18) dX12_close_60 ?_
  refine lv_topi (fun a_19 ea_19 => ?_)
  have hM := nm_u ea_19 hM
  refine lv_iconst (v := 1) hx hb dX12_close_61 (by decide) ?_
  refine lv_iadd hx hb dX12_close_62 ?_
  refine lv_topi (fun y_20 ey_20 => ?_)
  have hM := nm_u ey_20 hM
  obtain ⟨g_21, hM⟩ := gd_u hM
  refine va_iast hx hb hK hP hD hS 1 0 rfl rfl (inb_v g_21) dX12_close_63 (fun H locs hP hD hS => ?_)
  obtain ⟨f1_22, ef1_22⟩ : ∃ g : Nat → Int32, g = upd f1 (p1 : Int32).toNatClampNeg y_20 := ⟨_, rfl⟩
  have hM := nm_u ef1_22 hM
  have hP : va_P (dC, dI) vwCl [(h0, .inr (11, [.int v0_wide, .int v0_tall, .ref g0_sheet, .ref g0_words, .ref g0_size, .int v0_good, .int v0_faultPlace, .int v0_made, .int v0_fills, .int v0_painted, .ref g0_told, .ref g0_saved, .ref g0_saves, .ref g0_at, .ref h1, .ref h3, .ref h4, .ref h5, .ref g0_begun, .ref h6, .ref h8, .ref h10, .ref h7, .ref h9, .ref h2, .ref g0_both, .ref g0_cut, .int v0_other])), (h1, .inl (cI, 2, .inl f1_22)), (h2, .inl (cI, 2, .inl f2)), (h3, .inl (cI, 2000, .inl f3_9)), (h4, .inl (cI, 2000, .inl f4_15)), (h5, .inl (cZ, 2000, .inl f5_17)), (h6, .inl (cI, 2, .inl f6)), (h7, .inl (cI, 2, .inl f7)), (h8, .inl (cI, 2, .inl f8)), (h9, .inl (cI, 2, .inl f9)), (h10, .inl (cI, 2, .inl f10))] H := by rw [ef1_22]; exact hP
  have hD : va_D A [(h0, .inr (11, [.int v0_wide, .int v0_tall, .ref g0_sheet, .ref g0_words, .ref g0_size, .int v0_good, .int v0_faultPlace, .int v0_made, .int v0_fills, .int v0_painted, .ref g0_told, .ref g0_saved, .ref g0_saves, .ref g0_at, .ref h1, .ref h3, .ref h4, .ref h5, .ref g0_begun, .ref h6, .ref h8, .ref h10, .ref h7, .ref h9, .ref h2, .ref g0_both, .ref g0_cut, .int v0_other])), (h1, .inl (cI, 2, .inl f1_22)), (h2, .inl (cI, 2, .inl f2)), (h3, .inl (cI, 2000, .inl f3_9)), (h4, .inl (cI, 2000, .inl f4_15)), (h5, .inl (cZ, 2000, .inl f5_17)), (h6, .inl (cI, 2, .inl f6)), (h7, .inl (cI, 2, .inl f7)), (h8, .inl (cI, 2, .inl f8)), (h9, .inl (cI, 2, .inl f9)), (h10, .inl (cI, 2, .inl f10))] := by rw [ef1_22]; exact hD
  refine lv_aload_n hx hb dX12_close_64 rfl (lv_at hl 1 rfl) ?_
  refine va_get (D := (dC, dI)) (ci := 11) (v := .ref h6) (C := RX12) (T := TX12) (N := 28) hx hb hu inX12 hown hK hP 0 rfl rfl 19 (by decide) (hu _ kw_273) (fun _ h9 => h9) rfl dX12_close_65 ?_
  refine lv_iload_n hx hb dX12_close_68 rfl (lv_at hl 2 rfl) ?_
  refine lv_dup2_11 hx hb dX12_close_69 rfl rfl ?_
  obtain ⟨g_23, hM⟩ := gd_u hM
  refine va_iald hx hb hK hP 6 0 rfl rfl (inb_v g_23) dX12_close_70 ?_
  refine lv_topi (fun a_24 ea_24 => ?_)
  have hM := nm_u ea_24 hM
  refine lv_iconst (v := 1) hx hb dX12_close_71 (by decide) ?_
  refine lv_iadd hx hb dX12_close_72 ?_
  refine lv_topi (fun y_25 ey_25 => ?_)
  have hM := nm_u ey_25 hM
  obtain ⟨g_26, hM⟩ := gd_u hM
  refine va_iast hx hb hK hP hD hS 6 0 rfl rfl (inb_v g_26) dX12_close_73 (fun H locs hP hD hS => ?_)
  obtain ⟨f6_27, ef6_27⟩ : ∃ g : Nat → Int32, g = upd f6 (p1 : Int32).toNatClampNeg y_25 := ⟨_, rfl⟩
  have hM := nm_u ef6_27 hM
  have hP : va_P (dC, dI) vwCl [(h0, .inr (11, [.int v0_wide, .int v0_tall, .ref g0_sheet, .ref g0_words, .ref g0_size, .int v0_good, .int v0_faultPlace, .int v0_made, .int v0_fills, .int v0_painted, .ref g0_told, .ref g0_saved, .ref g0_saves, .ref g0_at, .ref h1, .ref h3, .ref h4, .ref h5, .ref g0_begun, .ref h6, .ref h8, .ref h10, .ref h7, .ref h9, .ref h2, .ref g0_both, .ref g0_cut, .int v0_other])), (h1, .inl (cI, 2, .inl f1_22)), (h2, .inl (cI, 2, .inl f2)), (h3, .inl (cI, 2000, .inl f3_9)), (h4, .inl (cI, 2000, .inl f4_15)), (h5, .inl (cZ, 2000, .inl f5_17)), (h6, .inl (cI, 2, .inl f6_27)), (h7, .inl (cI, 2, .inl f7)), (h8, .inl (cI, 2, .inl f8)), (h9, .inl (cI, 2, .inl f9)), (h10, .inl (cI, 2, .inl f10))] H := by rw [ef6_27]; exact hP
  have hD : va_D A [(h0, .inr (11, [.int v0_wide, .int v0_tall, .ref g0_sheet, .ref g0_words, .ref g0_size, .int v0_good, .int v0_faultPlace, .int v0_made, .int v0_fills, .int v0_painted, .ref g0_told, .ref g0_saved, .ref g0_saves, .ref g0_at, .ref h1, .ref h3, .ref h4, .ref h5, .ref g0_begun, .ref h6, .ref h8, .ref h10, .ref h7, .ref h9, .ref h2, .ref g0_both, .ref g0_cut, .int v0_other])), (h1, .inl (cI, 2, .inl f1_22)), (h2, .inl (cI, 2, .inl f2)), (h3, .inl (cI, 2000, .inl f3_9)), (h4, .inl (cI, 2000, .inl f4_15)), (h5, .inl (cZ, 2000, .inl f5_17)), (h6, .inl (cI, 2, .inl f6_27)), (h7, .inl (cI, 2, .inl f7)), (h8, .inl (cI, 2, .inl f8)), (h9, .inl (cI, 2, .inl f9)), (h10, .inl (cI, 2, .inl f10))] := by rw [ef6_27]; exact hD
  refine lv_aload_n hx hb dX12_close_74 rfl (lv_at hl 1 rfl) ?_
  refine va_get (D := (dC, dI)) (ci := 11) (v := .ref h8) (C := RX12) (T := TX12) (N := 28) hx hb hu inX12 hown hK hP 0 rfl rfl 20 (by decide) (hu _ kw_301) (fun _ h9 => h9) rfl dX12_close_75 ?_
  refine lv_iload_n hx hb dX12_close_78 rfl (lv_at hl 2 rfl) ?_
  refine lv_aload_n hx hb dX12_close_79 rfl (lv_at hl 1 rfl) ?_
  refine va_get (D := (dC, dI)) (ci := 11) (v := .ref h7) (C := RX12) (T := TX12) (N := 28) hx hb hu inX12 hown hK hP 0 rfl rfl 22 (by decide) (hu _ kw_303) (fun _ h9 => h9) rfl dX12_close_80 ?_
  refine lv_iload_n hx hb dX12_close_83 rfl (lv_at hl 2 rfl) ?_
  obtain ⟨g_28, hM⟩ := gd_u hM
  refine va_iald hx hb hK hP 7 0 rfl rfl (inb_v g_28) dX12_close_84 ?_
  refine lv_topi (fun a_29 ea_29 => ?_)
  have hM := nm_u ea_29 hM
  obtain ⟨g_30, hM⟩ := gd_u hM
  refine va_iast hx hb hK hP hD hS 8 0 rfl rfl (inb_v g_30) dX12_close_85 (fun H locs hP hD hS => ?_)
  obtain ⟨f8_31, ef8_31⟩ : ∃ g : Nat → Int32, g = upd f8 (p1 : Int32).toNatClampNeg a_29 := ⟨_, rfl⟩
  have hM := nm_u ef8_31 hM
  have hP : va_P (dC, dI) vwCl [(h0, .inr (11, [.int v0_wide, .int v0_tall, .ref g0_sheet, .ref g0_words, .ref g0_size, .int v0_good, .int v0_faultPlace, .int v0_made, .int v0_fills, .int v0_painted, .ref g0_told, .ref g0_saved, .ref g0_saves, .ref g0_at, .ref h1, .ref h3, .ref h4, .ref h5, .ref g0_begun, .ref h6, .ref h8, .ref h10, .ref h7, .ref h9, .ref h2, .ref g0_both, .ref g0_cut, .int v0_other])), (h1, .inl (cI, 2, .inl f1_22)), (h2, .inl (cI, 2, .inl f2)), (h3, .inl (cI, 2000, .inl f3_9)), (h4, .inl (cI, 2000, .inl f4_15)), (h5, .inl (cZ, 2000, .inl f5_17)), (h6, .inl (cI, 2, .inl f6_27)), (h7, .inl (cI, 2, .inl f7)), (h8, .inl (cI, 2, .inl f8_31)), (h9, .inl (cI, 2, .inl f9)), (h10, .inl (cI, 2, .inl f10))] H := by rw [ef8_31]; exact hP
  have hD : va_D A [(h0, .inr (11, [.int v0_wide, .int v0_tall, .ref g0_sheet, .ref g0_words, .ref g0_size, .int v0_good, .int v0_faultPlace, .int v0_made, .int v0_fills, .int v0_painted, .ref g0_told, .ref g0_saved, .ref g0_saves, .ref g0_at, .ref h1, .ref h3, .ref h4, .ref h5, .ref g0_begun, .ref h6, .ref h8, .ref h10, .ref h7, .ref h9, .ref h2, .ref g0_both, .ref g0_cut, .int v0_other])), (h1, .inl (cI, 2, .inl f1_22)), (h2, .inl (cI, 2, .inl f2)), (h3, .inl (cI, 2000, .inl f3_9)), (h4, .inl (cI, 2000, .inl f4_15)), (h5, .inl (cZ, 2000, .inl f5_17)), (h6, .inl (cI, 2, .inl f6_27)), (h7, .inl (cI, 2, .inl f7)), (h8, .inl (cI, 2, .inl f8_31)), (h9, .inl (cI, 2, .inl f9)), (h10, .inl (cI, 2, .inl f10))] := by rw [ef8_31]; exact hD
  refine lv_aload_n hx hb dX12_close_86 rfl (lv_at hl 1 rfl) ?_
  refine va_get (D := (dC, dI)) (ci := 11) (v := .ref h10) (C := RX12) (T := TX12) (N := 28) hx hb hu inX12 hown hK hP 0 rfl rfl 21 (by decide) (hu _ kw_302) (fun _ h9 => h9) rfl dX12_close_87 ?_
  refine lv_iload_n hx hb dX12_close_90 rfl (lv_at hl 2 rfl) ?_
  refine lv_aload_n hx hb dX12_close_91 rfl (lv_at hl 1 rfl) ?_
  refine va_get (D := (dC, dI)) (ci := 11) (v := .ref h9) (C := RX12) (T := TX12) (N := 28) hx hb hu inX12 hown hK hP 0 rfl rfl 23 (by decide) (hu _ kw_304) (fun _ h9 => h9) rfl dX12_close_92 ?_
  refine lv_iload_n hx hb dX12_close_95 rfl (lv_at hl 2 rfl) ?_
  obtain ⟨g_32, hM⟩ := gd_u hM
  refine va_iald hx hb hK hP 9 0 rfl rfl (inb_v g_32) dX12_close_96 ?_
  refine lv_topi (fun a_33 ea_33 => ?_)
  have hM := nm_u ea_33 hM
  obtain ⟨g_34, hM⟩ := gd_u hM
  refine va_iast hx hb hK hP hD hS 10 0 rfl rfl (inb_v g_34) dX12_close_97 (fun H locs hP hD hS => ?_)
  obtain ⟨f10_35, ef10_35⟩ : ∃ g : Nat → Int32, g = upd f10 (p1 : Int32).toNatClampNeg a_33 := ⟨_, rfl⟩
  have hM := nm_u ef10_35 hM
  have hP : va_P (dC, dI) vwCl [(h0, .inr (11, [.int v0_wide, .int v0_tall, .ref g0_sheet, .ref g0_words, .ref g0_size, .int v0_good, .int v0_faultPlace, .int v0_made, .int v0_fills, .int v0_painted, .ref g0_told, .ref g0_saved, .ref g0_saves, .ref g0_at, .ref h1, .ref h3, .ref h4, .ref h5, .ref g0_begun, .ref h6, .ref h8, .ref h10, .ref h7, .ref h9, .ref h2, .ref g0_both, .ref g0_cut, .int v0_other])), (h1, .inl (cI, 2, .inl f1_22)), (h2, .inl (cI, 2, .inl f2)), (h3, .inl (cI, 2000, .inl f3_9)), (h4, .inl (cI, 2000, .inl f4_15)), (h5, .inl (cZ, 2000, .inl f5_17)), (h6, .inl (cI, 2, .inl f6_27)), (h7, .inl (cI, 2, .inl f7)), (h8, .inl (cI, 2, .inl f8_31)), (h9, .inl (cI, 2, .inl f9)), (h10, .inl (cI, 2, .inl f10_35))] H := by rw [ef10_35]; exact hP
  have hD : va_D A [(h0, .inr (11, [.int v0_wide, .int v0_tall, .ref g0_sheet, .ref g0_words, .ref g0_size, .int v0_good, .int v0_faultPlace, .int v0_made, .int v0_fills, .int v0_painted, .ref g0_told, .ref g0_saved, .ref g0_saves, .ref g0_at, .ref h1, .ref h3, .ref h4, .ref h5, .ref g0_begun, .ref h6, .ref h8, .ref h10, .ref h7, .ref h9, .ref h2, .ref g0_both, .ref g0_cut, .int v0_other])), (h1, .inl (cI, 2, .inl f1_22)), (h2, .inl (cI, 2, .inl f2)), (h3, .inl (cI, 2000, .inl f3_9)), (h4, .inl (cI, 2000, .inl f4_15)), (h5, .inl (cZ, 2000, .inl f5_17)), (h6, .inl (cI, 2, .inl f6_27)), (h7, .inl (cI, 2, .inl f7)), (h8, .inl (cI, 2, .inl f8_31)), (h9, .inl (cI, 2, .inl f9)), (h10, .inl (cI, 2, .inl f10_35))] := by rw [ef10_35]; exact hD
  have h9 := Option.some.inj hM
  subst h9
  exact W.vret hx hb hr (fun t ht hW => QMv_mk (by rw [ht]; exact hP) (va_K.moved hW.alike hK) hD (hS.F ht)) hS.2.2 dX12_close_98
theorem dX12_between_0 : decode cX12_between 0 = .ok (.iload_n 0, 1) := by decide +kernel
theorem dX12_between_1 : decode cX12_between 1 = .ok (.i2l, 1) := by decide +kernel
theorem dX12_between_2 : decode cX12_between 2 = .ok (.bipush 8, 2) := by decide +kernel
theorem dX12_between_4 : decode cX12_between 4 = .ok (.iload_n 3, 1) := by decide +kernel
theorem dX12_between_5 : decode cX12_between 5 = .ok (.isub, 1) := by decide +kernel
theorem dX12_between_6 : decode cX12_between 6 = .ok (.i2l, 1) := by decide +kernel
theorem dX12_between_7 : decode cX12_between 7 = .ok (.lmul, 1) := by decide +kernel
theorem dX12_between_8 : decode cX12_between 8 = .ok (.bipush 8, 2) := by decide +kernel
theorem dX12_between_10 : decode cX12_between 10 = .ok (.iload_n 3, 1) := by decide +kernel
theorem dX12_between_11 : decode cX12_between 11 = .ok (.isub, 1) := by decide +kernel
theorem dX12_between_12 : decode cX12_between 12 = .ok (.i2l, 1) := by decide +kernel
theorem dX12_between_13 : decode cX12_between 13 = .ok (.lmul, 1) := by decide +kernel
theorem dX12_between_14 : decode cX12_between 14 = .ok (.iload_n 1, 1) := by decide +kernel
theorem dX12_between_15 : decode cX12_between 15 = .ok (.i2l, 1) := by decide +kernel
theorem dX12_between_16 : decode cX12_between 16 = .ok (.ldc2_w 147, 3) := by decide +kernel
theorem dX12_between_19 : decode cX12_between 19 = .ok (.lmul, 1) := by decide +kernel
theorem dX12_between_20 : decode cX12_between 20 = .ok (.iload_n 3, 1) := by decide +kernel
theorem dX12_between_21 : decode cX12_between 21 = .ok (.i2l, 1) := by decide +kernel
theorem dX12_between_22 : decode cX12_between 22 = .ok (.lmul, 1) := by decide +kernel
theorem dX12_between_23 : decode cX12_between 23 = .ok (.bipush 8, 2) := by decide +kernel
theorem dX12_between_25 : decode cX12_between 25 = .ok (.iload_n 3, 1) := by decide +kernel
theorem dX12_between_26 : decode cX12_between 26 = .ok (.isub, 1) := by decide +kernel
theorem dX12_between_27 : decode cX12_between 27 = .ok (.i2l, 1) := by decide +kernel
theorem dX12_between_28 : decode cX12_between 28 = .ok (.lmul, 1) := by decide +kernel
theorem dX12_between_29 : decode cX12_between 29 = .ok (.ladd, 1) := by decide +kernel
theorem dX12_between_30 : decode cX12_between 30 = .ok (.iload_n 2, 1) := by decide +kernel
theorem dX12_between_31 : decode cX12_between 31 = .ok (.i2l, 1) := by decide +kernel
theorem dX12_between_32 : decode cX12_between 32 = .ok (.iload_n 3, 1) := by decide +kernel
theorem dX12_between_33 : decode cX12_between 33 = .ok (.i2l, 1) := by decide +kernel
theorem dX12_between_34 : decode cX12_between 34 = .ok (.lmul, 1) := by decide +kernel
theorem dX12_between_35 : decode cX12_between 35 = .ok (.iload_n 3, 1) := by decide +kernel
theorem dX12_between_36 : decode cX12_between 36 = .ok (.i2l, 1) := by decide +kernel
theorem dX12_between_37 : decode cX12_between 37 = .ok (.lmul, 1) := by decide +kernel
theorem dX12_between_38 : decode cX12_between 38 = .ok (.ladd, 1) := by decide +kernel
theorem dX12_between_39 : decode cX12_between 39 = .ok (.lstore 4, 2) := by decide +kernel
theorem dX12_between_41 : decode cX12_between 41 = .ok (.lload 4, 2) := by decide +kernel
theorem dX12_between_43 : decode cX12_between 43 = .ok (.ldc2_w 149, 3) := by decide +kernel
theorem dX12_between_46 : decode cX12_between 46 = .ok (.ladd, 1) := by decide +kernel
theorem dX12_between_47 : decode cX12_between 47 = .ok (.bipush 6, 2) := by decide +kernel
theorem dX12_between_49 : decode cX12_between 49 = .ok (.lshr, 1) := by decide +kernel
theorem dX12_between_50 : decode cX12_between 50 = .ok (.l2i, 1) := by decide +kernel
theorem dX12_between_51 : decode cX12_between 51 = .ok (.ireturn, 1) := by decide +kernel
abbrev rm_X12_between : Room := { frames := 0, cells := 0, slots := 0, locals := 0 }
def w_X12_between : List Cond := Cond.code yX12_between cX12_between 6 (some .int) :: uw
set_option maxHeartbeats 4000000 in
set_option maxRecDepth 100000 in
theorem c_X12_between (l : Launch) (dC : Nat → ClassId) (dI : Nat → Nat → Nat) (cI cZ cO : ClassId) (tL sz : Nat) (p0 : Int32) (p1 : Int32) (p2 : Int32) (p3 : Int32) (res : Int32) (hM : m_X12_between p0 p1 p2 p3 = some res) : Met l yX12_between w_X12_between rm_X12_between (PCx [.int p0, .int p1, .int p2, .int p3] (dC, dI) [(cI, .int), (cZ, .boolean), (cO, .object "ListPainter$Settings")] sz tL []) (QMi res (dC, dI) [(cI, .int), (cZ, .boolean), (cO, .object "ListPainter$Settings")] (va_A [] sz) []) 0 0 (va_A [] sz) := by
  refine Met.ofW (cc := cX12_between) (maxL := 6) (ret := (some .int)) (by decide) rfl ?_
  intro p e s m args below meth c s₁ B hml hv
  obtain ⟨rfl, hsz, hP, hK, hD0, hG⟩ := hv
  have hx := B.exec
  have hb := B.bytes
  have hr := B.returns
  have hu : ∀ w ∈ uw, w.before ([.int p0, .int p1, .int p2, .int p3] : List Value).toArray s = true := fun w h => atoms_spec (ws := w_X12_between) B.pre w (List.mem_cons_of_mem _ h)
  have hown : s.vm.findClass RX12 = some m.cls := findClass_of_methodNamed B.named
  have hlocks := B.notSynchronized
  subst hsz
  have hD := hD0.self (sz := s.heap.size)
  generalize hAe : va_A [] s.heap.size = A at hD hG ⊢
  have hA : ∀ q : Nat, s.heap.size ≤ q → A q := fun q h => by rw [← hAe]; exact Or.inr h
  have hS : va_S A s.heap s.heap [] := va_S.rf
  have hP : va_P (dC, dI) vwCl [] s.heap := hP
  have hl := lv_entry ([.int p0, .int p1, .int p2, .int p3]) (n := 6) (Nat.le_of_ble_eq_true rfl)
  rw [lg_entry_eq]
  generalize (lg_sl ([.int p0, .int p1, .int p2, .int p3]) ++ List.replicate (6 - (lg_sl ([.int p0, .int p1, .int p2, .int p3])).length) Slot.unset).toArray = ls at hl ⊢
  have hl : lv_has ls 6 [(0, .int p0), (1, .int p1), (2, .int p2), (3, .int p3)] := hl
  rw [m_X12_between] at hM
  suffices hgo : ∀ (H : Heap) (locs : List Loc), va_P (dC, dI) vwCl [] H → va_D A [] → va_S A s.heap H locs → W p l e (headSpec w_X12_between rm_X12_between).room s m ([.int p0, .int p1, .int p2, .int p3] : List Value).toArray below meth c H locs 0 0 (MQ below (QMi res (dC, dI) [(cI, .int), (cZ, .boolean), (cO, .object "ListPainter$Settings")] A []) ([.int p0, .int p1, .int p2, .int p3] : List Value).toArray s 0 0 A) (F0 m 0 ls []) from hgo _ _ hP hD hS
  intro H locs hP hD hS
  refine lv_iload_n hx hb dX12_between_0 rfl (lv_at hl 0 rfl) ?_
  refine lv_i2l (v := ((p0 : Int32).toInt64)) hx hb dX12_between_1 rfl ?_
  refine lv_bipush (v := 8) hx hb dX12_between_2 (by decide) ?_
  refine lv_iload_n hx hb dX12_between_4 rfl (lv_at hl 3 rfl) ?_
  refine lv_isub hx hb dX12_between_5 ?_
  refine lv_i2l (v := (((8 - p3) : Int32).toInt64)) hx hb dX12_between_6 rfl ?_
  refine lv_lmul hx hb dX12_between_7 ?_
  refine lv_bipush (v := 8) hx hb dX12_between_8 (by decide) ?_
  refine lv_iload_n hx hb dX12_between_10 rfl (lv_at hl 3 rfl) ?_
  refine lv_isub hx hb dX12_between_11 ?_
  refine lv_i2l (v := (((8 - p3) : Int32).toInt64)) hx hb dX12_between_12 rfl ?_
  refine lv_lmul hx hb dX12_between_13 ?_
  refine lv_iload_n hx hb dX12_between_14 rfl (lv_at hl 1 rfl) ?_
  refine lv_i2l (v := ((p1 : Int32).toInt64)) hx hb dX12_between_15 rfl ?_
  refine lv_ldc2 (v := 2) hx hb hown (hu _ kw_306) dX12_between_16 ?_
  refine lv_lmul hx hb dX12_between_19 ?_
  refine lv_iload_n hx hb dX12_between_20 rfl (lv_at hl 3 rfl) ?_
  refine lv_i2l (v := ((p3 : Int32).toInt64)) hx hb dX12_between_21 rfl ?_
  refine lv_lmul hx hb dX12_between_22 ?_
  refine lv_bipush (v := 8) hx hb dX12_between_23 (by decide) ?_
  refine lv_iload_n hx hb dX12_between_25 rfl (lv_at hl 3 rfl) ?_
  refine lv_isub hx hb dX12_between_26 ?_
  refine lv_i2l (v := (((8 - p3) : Int32).toInt64)) hx hb dX12_between_27 rfl ?_
  refine lv_lmul hx hb dX12_between_28 ?_
  refine lv_ladd hx hb dX12_between_29 ?_
  refine lv_iload_n hx hb dX12_between_30 rfl (lv_at hl 2 rfl) ?_
  refine lv_i2l (v := ((p2 : Int32).toInt64)) hx hb dX12_between_31 rfl ?_
  refine lv_iload_n hx hb dX12_between_32 rfl (lv_at hl 3 rfl) ?_
  refine lv_i2l (v := ((p3 : Int32).toInt64)) hx hb dX12_between_33 rfl ?_
  refine lv_lmul hx hb dX12_between_34 ?_
  refine lv_iload_n hx hb dX12_between_35 rfl (lv_at hl 3 rfl) ?_
  refine lv_i2l (v := ((p3 : Int32).toInt64)) hx hb dX12_between_36 rfl ?_
  refine lv_lmul hx hb dX12_between_37 ?_
  refine lv_ladd hx hb dX12_between_38 ?_
  refine lv_topl (fun x_1 ex_1 => ?_)
  have hM := nm_u ex_1 hM
  refine lv_lstore (lv' := [(4, .long x_1), (0, .int p0), (1, .int p1), (2, .int p2), (3, .int p3)]) hx hb dX12_between_39 hl (by decide) rfl (fun ls hl => ?_)
  refine lv_lload hx hb dX12_between_41 (lv_at hl 0 rfl) ?_
  refine lv_ldc2 (v := 32) hx hb hown (hu _ kw_307) dX12_between_43 ?_
  refine lv_ladd hx hb dX12_between_46 ?_
  refine lv_bipush (v := 6) hx hb dX12_between_47 (by decide) ?_
  refine lv_lshr (v := (((x_1 + 32) : Int64) >>> ((6 : Int32).toInt64 &&& 63))) hx hb dX12_between_49 rfl ?_
  refine lv_l2i (v := (((((x_1 + 32) : Int64) >>> ((6 : Int32).toInt64 &&& 63)) : Int64).toInt32)) hx hb dX12_between_50 rfl ?_
  have h9 := Option.some.inj hM
  subst h9
  exact W.iret (v := (((((x_1 + 32) : Int64) >>> ((6 : Int32).toInt64 &&& 63)) : Int64).toInt32)) hx hb hr (fun t ht hW => QMi_mk (by rw [ht]; exact hP) (va_K.moved hW.alike hK) hD (hS.F ht)) hS.2.2 dX12_between_51
theorem dX12_curve_0 : decode cX12_curve 0 = .ok (.aload_n 0, 1) := by decide +kernel
theorem dX12_curve_1 : decode cX12_curve 1 = .ok (.getfield 54, 3) := by decide +kernel
theorem dX12_curve_4 : decode cX12_curve 4 = .ok (.iload_n 1, 1) := by decide +kernel
theorem dX12_curve_5 : decode cX12_curve 5 = .ok (.iaload, 1) := by decide +kernel
theorem dX12_curve_6 : decode cX12_curve 6 = .ok (.istore 6, 2) := by decide +kernel
theorem dX12_curve_8 : decode cX12_curve 8 = .ok (.aload_n 0, 1) := by decide +kernel
theorem dX12_curve_9 : decode cX12_curve 9 = .ok (.getfield 57, 3) := by decide +kernel
theorem dX12_curve_12 : decode cX12_curve 12 = .ok (.iload_n 1, 1) := by decide +kernel
theorem dX12_curve_13 : decode cX12_curve 13 = .ok (.iaload, 1) := by decide +kernel
theorem dX12_curve_14 : decode cX12_curve 14 = .ok (.istore 7, 2) := by decide +kernel
theorem dX12_curve_16 : decode cX12_curve 16 = .ok (.iconst 1, 1) := by decide +kernel
theorem dX12_curve_17 : decode cX12_curve 17 = .ok (.istore 8, 2) := by decide +kernel
theorem dX12_curve_19 : decode cX12_curve 19 = .ok (.iload 8, 2) := by decide +kernel
theorem dX12_curve_21 : decode cX12_curve 21 = .ok (.bipush 8, 2) := by decide +kernel
theorem dX12_curve_23 : decode cX12_curve 23 = .ok (.if_icmp .gt 35, 3) := by decide +kernel
theorem dX12_curve_26 : decode cX12_curve 26 = .ok (.aload_n 0, 1) := by decide +kernel
theorem dX12_curve_27 : decode cX12_curve 27 = .ok (.iload_n 1, 1) := by decide +kernel
theorem dX12_curve_28 : decode cX12_curve 28 = .ok (.iload 6, 2) := by decide +kernel
theorem dX12_curve_30 : decode cX12_curve 30 = .ok (.iload_n 2, 1) := by decide +kernel
theorem dX12_curve_31 : decode cX12_curve 31 = .ok (.iload 4, 2) := by decide +kernel
theorem dX12_curve_33 : decode cX12_curve 33 = .ok (.iload 8, 2) := by decide +kernel
theorem dX12_curve_35 : decode cX12_curve 35 = .ok (.invokestatic 151, 3) := by decide +kernel
theorem dX12_curve_38 : decode cX12_curve 38 = .ok (.iload 7, 2) := by decide +kernel
theorem dX12_curve_40 : decode cX12_curve 40 = .ok (.iload_n 3, 1) := by decide +kernel
theorem dX12_curve_41 : decode cX12_curve 41 = .ok (.iload 5, 2) := by decide +kernel
theorem dX12_curve_43 : decode cX12_curve 43 = .ok (.iload 8, 2) := by decide +kernel
theorem dX12_curve_45 : decode cX12_curve 45 = .ok (.invokestatic 151, 3) := by decide +kernel
theorem dX12_curve_48 : decode cX12_curve 48 = .ok (.iconst 0, 1) := by decide +kernel
theorem dX12_curve_49 : decode cX12_curve 49 = .ok (.invokevirtual 155, 3) := by decide +kernel
theorem dX12_curve_52 : decode cX12_curve 52 = .ok (.iinc 8 1, 3) := by decide +kernel
theorem dX12_curve_55 : decode cX12_curve 55 = .ok (.goto (-36), 3) := by decide +kernel
theorem dX12_curve_58 : decode cX12_curve 58 = .ok (.return_, 1) := by decide +kernel
abbrev rm_X12_curve : Room := { frames := 2, cells := 0, slots := 0, locals := 47 }
def w_X12_curve : List Cond := Cond.code yX12_curve cX12_curve 9 none :: uw
set_option maxHeartbeats 4000000 in
set_option maxRecDepth 100000 in
theorem c_X12_curve (l : Launch) (dC : Nat → ClassId) (dI : Nat → Nat → Nat) (cI cZ cO : ClassId) (tL sz : Nat) (h0 : Nat) (h1 : Nat) (h2 : Nat) (h3 : Nat) (h4 : Nat) (h5 : Nat) (h6 : Nat) (h7 : Nat) (h8 : Nat) (h9 : Nat) (h10 : Nat) (h11 : Nat) (h12 : Nat) (g0_sheet : Nat) (g0_words : Nat) (g0_size : Nat) (g0_saved : Nat) (g0_saves : Nat) (g0_at : Nat) (g0_both : Nat) (g0_cut : Nat) (v0_wide : Int32) (v0_tall : Int32) (v0_good : Int32) (v0_faultPlace : Int32) (v0_made : Int32) (v0_fills : Int32) (v0_painted : Int32) (v0_other : Int32) (f1 : Nat → Int32) (f2 : Nat → Int32) (f3 : Nat → Int32) (f4 : Nat → Int32) (f5 : Nat → Int32) (f6 : Nat → Int32) (f7 : Nat → Int32) (f8 : Nat → Int32) (f9 : Nat → Int32) (f10 : Nat → Int32) (f11 : Nat → Int32) (f12 : Nat → Int32) (p1 : Int32) (p2 : Int32) (p3 : Int32) (p4 : Int32) (p5 : Int32) (res : (Nat → Int32) × (Nat → Int32) × (Nat → Int32) × (Nat → Int32) × (Nat → Int32) × (Nat → Int32) × (Nat → Int32) × (Nat → Int32) × (Nat → Int32) × (Nat → Int32) × (Nat → Int32)) (hM : m_X12_curve f1 f2 f3 f4 f5 f6 f7 f8 f9 f10 f11 f12 p1 p2 p3 p4 p5 = some res) : Met l yX12_curve w_X12_curve rm_X12_curve (PCx [.ref h0, .int p1, .int p2, .int p3, .int p4, .int p5] (dC, dI) [(cI, .int), (cZ, .boolean), (cO, .object "ListPainter$Settings")] sz tL [(h0, .inr (11, [.int v0_wide, .int v0_tall, .ref g0_sheet, .ref g0_words, .ref g0_size, .int v0_good, .int v0_faultPlace, .int v0_made, .int v0_fills, .int v0_painted, .ref h4, .ref g0_saved, .ref g0_saves, .ref g0_at, .ref h3, .ref h5, .ref h6, .ref h7, .ref h11, .ref h12, .ref h1, .ref h2, .ref h8, .ref h9, .ref h10, .ref g0_both, .ref g0_cut, .int v0_other])), (h1, .inl (cI, 2, .inl f1)), (h2, .inl (cI, 2, .inl f2)), (h3, .inl (cI, 2, .inl f3)), (h4, .inl (cI, 24, .inl f4)), (h5, .inl (cI, 2000, .inl f5)), (h6, .inl (cI, 2000, .inl f6)), (h7, .inl (cZ, 2000, .inl f7)), (h8, .inl (cI, 2, .inl f8)), (h9, .inl (cI, 2, .inl f9)), (h10, .inl (cI, 2, .inl f10)), (h11, .inl (cZ, 2, .inl f11)), (h12, .inl (cI, 2, .inl f12))]) (QMv (dC, dI) [(cI, .int), (cZ, .boolean), (cO, .object "ListPainter$Settings")] (va_A [(h0, .inr (11, [.int v0_wide, .int v0_tall, .ref g0_sheet, .ref g0_words, .ref g0_size, .int v0_good, .int v0_faultPlace, .int v0_made, .int v0_fills, .int v0_painted, .ref h4, .ref g0_saved, .ref g0_saves, .ref g0_at, .ref h3, .ref h5, .ref h6, .ref h7, .ref h11, .ref h12, .ref h1, .ref h2, .ref h8, .ref h9, .ref h10, .ref g0_both, .ref g0_cut, .int v0_other])), (h1, .inl (cI, 2, .inl f1)), (h2, .inl (cI, 2, .inl f2)), (h3, .inl (cI, 2, .inl f3)), (h4, .inl (cI, 24, .inl f4)), (h5, .inl (cI, 2000, .inl f5)), (h6, .inl (cI, 2000, .inl f6)), (h7, .inl (cZ, 2000, .inl f7)), (h8, .inl (cI, 2, .inl f8)), (h9, .inl (cI, 2, .inl f9)), (h10, .inl (cI, 2, .inl f10)), (h11, .inl (cZ, 2, .inl f11)), (h12, .inl (cI, 2, .inl f12))] sz) [(h0, .inr (11, [.int v0_wide, .int v0_tall, .ref g0_sheet, .ref g0_words, .ref g0_size, .int v0_good, .int v0_faultPlace, .int v0_made, .int v0_fills, .int v0_painted, .ref h4, .ref g0_saved, .ref g0_saves, .ref g0_at, .ref h3, .ref h5, .ref h6, .ref h7, .ref h11, .ref h12, .ref h1, .ref h2, .ref h8, .ref h9, .ref h10, .ref g0_both, .ref g0_cut, .int v0_other])), (h1, .inl (cI, 2, .inl (res.1))), (h2, .inl (cI, 2, .inl (res.2.1))), (h3, .inl (cI, 2, .inl (res.2.2.1))), (h4, .inl (cI, 24, .inl f4)), (h5, .inl (cI, 2000, .inl (res.2.2.2.1))), (h6, .inl (cI, 2000, .inl (res.2.2.2.2.1))), (h7, .inl (cZ, 2000, .inl (res.2.2.2.2.2.1))), (h8, .inl (cI, 2, .inl (res.2.2.2.2.2.2.1))), (h9, .inl (cI, 2, .inl (res.2.2.2.2.2.2.2.1))), (h10, .inl (cI, 2, .inl (res.2.2.2.2.2.2.2.2.1))), (h11, .inl (cZ, 2, .inl (res.2.2.2.2.2.2.2.2.2.1))), (h12, .inl (cI, 2, .inl (res.2.2.2.2.2.2.2.2.2.2)))]) 0 0 (va_A [(h0, .inr (11, [.int v0_wide, .int v0_tall, .ref g0_sheet, .ref g0_words, .ref g0_size, .int v0_good, .int v0_faultPlace, .int v0_made, .int v0_fills, .int v0_painted, .ref h4, .ref g0_saved, .ref g0_saves, .ref g0_at, .ref h3, .ref h5, .ref h6, .ref h7, .ref h11, .ref h12, .ref h1, .ref h2, .ref h8, .ref h9, .ref h10, .ref g0_both, .ref g0_cut, .int v0_other])), (h1, .inl (cI, 2, .inl f1)), (h2, .inl (cI, 2, .inl f2)), (h3, .inl (cI, 2, .inl f3)), (h4, .inl (cI, 24, .inl f4)), (h5, .inl (cI, 2000, .inl f5)), (h6, .inl (cI, 2000, .inl f6)), (h7, .inl (cZ, 2000, .inl f7)), (h8, .inl (cI, 2, .inl f8)), (h9, .inl (cI, 2, .inl f9)), (h10, .inl (cI, 2, .inl f10)), (h11, .inl (cZ, 2, .inl f11)), (h12, .inl (cI, 2, .inl f12))] sz) := by
  refine Met.ofW (cc := cX12_curve) (maxL := 9) (ret := none) (by decide) rfl ?_
  intro p e s m args below meth c s₁ B hml hv
  obtain ⟨rfl, hsz, hP, hK, hD0, hG⟩ := hv
  have hx := B.exec
  have hb := B.bytes
  have hr := B.returns
  have hu : ∀ w ∈ uw, w.before ([.ref h0, .int p1, .int p2, .int p3, .int p4, .int p5] : List Value).toArray s = true := fun w h => atoms_spec (ws := w_X12_curve) B.pre w (List.mem_cons_of_mem _ h)
  have hown : s.vm.findClass RX12 = some m.cls := findClass_of_methodNamed B.named
  have hlocks := B.notSynchronized
  subst hsz
  have hD := hD0.self (sz := s.heap.size)
  generalize hAe : va_A [(h0, .inr (11, [.int v0_wide, .int v0_tall, .ref g0_sheet, .ref g0_words, .ref g0_size, .int v0_good, .int v0_faultPlace, .int v0_made, .int v0_fills, .int v0_painted, .ref h4, .ref g0_saved, .ref g0_saves, .ref g0_at, .ref h3, .ref h5, .ref h6, .ref h7, .ref h11, .ref h12, .ref h1, .ref h2, .ref h8, .ref h9, .ref h10, .ref g0_both, .ref g0_cut, .int v0_other])), (h1, .inl (cI, 2, .inl f1)), (h2, .inl (cI, 2, .inl f2)), (h3, .inl (cI, 2, .inl f3)), (h4, .inl (cI, 24, .inl f4)), (h5, .inl (cI, 2000, .inl f5)), (h6, .inl (cI, 2000, .inl f6)), (h7, .inl (cZ, 2000, .inl f7)), (h8, .inl (cI, 2, .inl f8)), (h9, .inl (cI, 2, .inl f9)), (h10, .inl (cI, 2, .inl f10)), (h11, .inl (cZ, 2, .inl f11)), (h12, .inl (cI, 2, .inl f12))] s.heap.size = A at hD hG ⊢
  have hA : ∀ q : Nat, s.heap.size ≤ q → A q := fun q h => by rw [← hAe]; exact Or.inr h
  have hS : va_S A s.heap s.heap [] := va_S.rf
  have hP : va_P (dC, dI) vwCl [(h0, .inr (11, [.int v0_wide, .int v0_tall, .ref g0_sheet, .ref g0_words, .ref g0_size, .int v0_good, .int v0_faultPlace, .int v0_made, .int v0_fills, .int v0_painted, .ref h4, .ref g0_saved, .ref g0_saves, .ref g0_at, .ref h3, .ref h5, .ref h6, .ref h7, .ref h11, .ref h12, .ref h1, .ref h2, .ref h8, .ref h9, .ref h10, .ref g0_both, .ref g0_cut, .int v0_other])), (h1, .inl (cI, 2, .inl f1)), (h2, .inl (cI, 2, .inl f2)), (h3, .inl (cI, 2, .inl f3)), (h4, .inl (cI, 24, .inl f4)), (h5, .inl (cI, 2000, .inl f5)), (h6, .inl (cI, 2000, .inl f6)), (h7, .inl (cZ, 2000, .inl f7)), (h8, .inl (cI, 2, .inl f8)), (h9, .inl (cI, 2, .inl f9)), (h10, .inl (cI, 2, .inl f10)), (h11, .inl (cZ, 2, .inl f11)), (h12, .inl (cI, 2, .inl f12))] s.heap := hP
  have hl := lv_entry ([.ref h0, .int p1, .int p2, .int p3, .int p4, .int p5]) (n := 9) (Nat.le_of_ble_eq_true rfl)
  rw [lg_entry_eq]
  generalize (lg_sl ([.ref h0, .int p1, .int p2, .int p3, .int p4, .int p5]) ++ List.replicate (9 - (lg_sl ([.ref h0, .int p1, .int p2, .int p3, .int p4, .int p5])).length) Slot.unset).toArray = ls at hl ⊢
  have hl : lv_has ls 9 [(0, .ref h0), (1, .int p1), (2, .int p2), (3, .int p3), (4, .int p4), (5, .int p5)] := hl
  rw [m_X12_curve] at hM
  suffices hgo : ∀ (H : Heap) (locs : List Loc), va_P (dC, dI) vwCl [(h0, .inr (11, [.int v0_wide, .int v0_tall, .ref g0_sheet, .ref g0_words, .ref g0_size, .int v0_good, .int v0_faultPlace, .int v0_made, .int v0_fills, .int v0_painted, .ref h4, .ref g0_saved, .ref g0_saves, .ref g0_at, .ref h3, .ref h5, .ref h6, .ref h7, .ref h11, .ref h12, .ref h1, .ref h2, .ref h8, .ref h9, .ref h10, .ref g0_both, .ref g0_cut, .int v0_other])), (h1, .inl (cI, 2, .inl f1)), (h2, .inl (cI, 2, .inl f2)), (h3, .inl (cI, 2, .inl f3)), (h4, .inl (cI, 24, .inl f4)), (h5, .inl (cI, 2000, .inl f5)), (h6, .inl (cI, 2000, .inl f6)), (h7, .inl (cZ, 2000, .inl f7)), (h8, .inl (cI, 2, .inl f8)), (h9, .inl (cI, 2, .inl f9)), (h10, .inl (cI, 2, .inl f10)), (h11, .inl (cZ, 2, .inl f11)), (h12, .inl (cI, 2, .inl f12))] H → va_D A [(h0, .inr (11, [.int v0_wide, .int v0_tall, .ref g0_sheet, .ref g0_words, .ref g0_size, .int v0_good, .int v0_faultPlace, .int v0_made, .int v0_fills, .int v0_painted, .ref h4, .ref g0_saved, .ref g0_saves, .ref g0_at, .ref h3, .ref h5, .ref h6, .ref h7, .ref h11, .ref h12, .ref h1, .ref h2, .ref h8, .ref h9, .ref h10, .ref g0_both, .ref g0_cut, .int v0_other])), (h1, .inl (cI, 2, .inl f1)), (h2, .inl (cI, 2, .inl f2)), (h3, .inl (cI, 2, .inl f3)), (h4, .inl (cI, 24, .inl f4)), (h5, .inl (cI, 2000, .inl f5)), (h6, .inl (cI, 2000, .inl f6)), (h7, .inl (cZ, 2000, .inl f7)), (h8, .inl (cI, 2, .inl f8)), (h9, .inl (cI, 2, .inl f9)), (h10, .inl (cI, 2, .inl f10)), (h11, .inl (cZ, 2, .inl f11)), (h12, .inl (cI, 2, .inl f12))] → va_S A s.heap H locs → W p l e (headSpec w_X12_curve rm_X12_curve).room s m ([.ref h0, .int p1, .int p2, .int p3, .int p4, .int p5] : List Value).toArray below meth c H locs 0 0 (MQ below (QMv (dC, dI) [(cI, .int), (cZ, .boolean), (cO, .object "ListPainter$Settings")] A [(h0, .inr (11, [.int v0_wide, .int v0_tall, .ref g0_sheet, .ref g0_words, .ref g0_size, .int v0_good, .int v0_faultPlace, .int v0_made, .int v0_fills, .int v0_painted, .ref h4, .ref g0_saved, .ref g0_saves, .ref g0_at, .ref h3, .ref h5, .ref h6, .ref h7, .ref h11, .ref h12, .ref h1, .ref h2, .ref h8, .ref h9, .ref h10, .ref g0_both, .ref g0_cut, .int v0_other])), (h1, .inl (cI, 2, .inl (res.1))), (h2, .inl (cI, 2, .inl (res.2.1))), (h3, .inl (cI, 2, .inl (res.2.2.1))), (h4, .inl (cI, 24, .inl f4)), (h5, .inl (cI, 2000, .inl (res.2.2.2.1))), (h6, .inl (cI, 2000, .inl (res.2.2.2.2.1))), (h7, .inl (cZ, 2000, .inl (res.2.2.2.2.2.1))), (h8, .inl (cI, 2, .inl (res.2.2.2.2.2.2.1))), (h9, .inl (cI, 2, .inl (res.2.2.2.2.2.2.2.1))), (h10, .inl (cI, 2, .inl (res.2.2.2.2.2.2.2.2.1))), (h11, .inl (cZ, 2, .inl (res.2.2.2.2.2.2.2.2.2.1))), (h12, .inl (cI, 2, .inl (res.2.2.2.2.2.2.2.2.2.2)))]) ([.ref h0, .int p1, .int p2, .int p3, .int p4, .int p5] : List Value).toArray s 0 0 A) (F0 m 0 ls []) from hgo _ _ hP hD hS
  intro H locs hP hD hS
  refine lv_aload_n hx hb dX12_curve_0 rfl (lv_at hl 0 rfl) ?_
  refine va_get (D := (dC, dI)) (ci := 11) (v := .ref h1) (C := RX12) (T := TX12) (N := 28) hx hb hu inX12 hown hK hP 0 rfl rfl 20 (by decide) (hu _ kw_301) (fun _ h9 => h9) rfl dX12_curve_1 ?_
  refine lv_iload_n hx hb dX12_curve_4 rfl (lv_at hl 1 rfl) ?_
  obtain ⟨g_1, hM⟩ := gd_u hM
  refine va_iald hx hb hK hP 1 0 rfl rfl (inb_v g_1) dX12_curve_5 ?_
  refine lv_topi (fun a_2 ea_2 => ?_)
  have hM := nm_u ea_2 hM
  refine lv_istore (lv' := [(6, .int a_2), (0, .ref h0), (1, .int p1), (2, .int p2), (3, .int p3), (4, .int p4), (5, .int p5)]) hx hb dX12_curve_6 hl (by decide) rfl (fun ls hl => ?_)
  refine lv_aload_n hx hb dX12_curve_8 rfl (lv_at hl 1 rfl) ?_
  refine va_get (D := (dC, dI)) (ci := 11) (v := .ref h2) (C := RX12) (T := TX12) (N := 28) hx hb hu inX12 hown hK hP 0 rfl rfl 21 (by decide) (hu _ kw_302) (fun _ h9 => h9) rfl dX12_curve_9 ?_
  refine lv_iload_n hx hb dX12_curve_12 rfl (lv_at hl 2 rfl) ?_
  obtain ⟨g_3, hM⟩ := gd_u hM
  refine va_iald hx hb hK hP 2 0 rfl rfl (inb_v g_3) dX12_curve_13 ?_
  refine lv_topi (fun a_4 ea_4 => ?_)
  have hM := nm_u ea_4 hM
  refine lv_istore (lv' := [(7, .int a_4), (6, .int a_2), (0, .ref h0), (1, .int p1), (2, .int p2), (3, .int p3), (4, .int p4), (5, .int p5)]) hx hb dX12_curve_14 hl (by decide) rfl (fun ls hl => ?_)
  refine lv_iconst (v := 1) hx hb dX12_curve_16 (by decide) ?_
  refine lv_istore (lv' := [(8, .int 1), (7, .int a_4), (6, .int a_2), (0, .ref h0), (1, .int p1), (2, .int p2), (3, .int p3), (4, .int p4), (5, .int p5)]) hx hb dX12_curve_17 hl (by decide) rfl (fun ls hl => ?_)
  have hL19_17 : ∀ (n : Nat) (l8_5 : Int32) (f1_6 : Nat → Int32) (f2_7 : Nat → Int32) (f3_8 : Nat → Int32) (f5_9 : Nat → Int32) (f6_10 : Nat → Int32) (f7_11 : Nat → Int32) (f8_12 : Nat → Int32) (f9_13 : Nat → Int32) (f10_14 : Nat → Int32) (f11_15 : Nat → Int32) (f12_16 : Nat → Int32) , ∀ (H : Heap) (locs : List Loc) (ls : Array Slot), va_P (dC, dI) vwCl [(h0, .inr (11, [.int v0_wide, .int v0_tall, .ref g0_sheet, .ref g0_words, .ref g0_size, .int v0_good, .int v0_faultPlace, .int v0_made, .int v0_fills, .int v0_painted, .ref h4, .ref g0_saved, .ref g0_saves, .ref g0_at, .ref h3, .ref h5, .ref h6, .ref h7, .ref h11, .ref h12, .ref h1, .ref h2, .ref h8, .ref h9, .ref h10, .ref g0_both, .ref g0_cut, .int v0_other])), (h1, .inl (cI, 2, .inl f1_6)), (h2, .inl (cI, 2, .inl f2_7)), (h3, .inl (cI, 2, .inl f3_8)), (h4, .inl (cI, 24, .inl f4)), (h5, .inl (cI, 2000, .inl f5_9)), (h6, .inl (cI, 2000, .inl f6_10)), (h7, .inl (cZ, 2000, .inl f7_11)), (h8, .inl (cI, 2, .inl f8_12)), (h9, .inl (cI, 2, .inl f9_13)), (h10, .inl (cI, 2, .inl f10_14)), (h11, .inl (cZ, 2, .inl f11_15)), (h12, .inl (cI, 2, .inl f12_16))] H → va_D A [(h0, .inr (11, [.int v0_wide, .int v0_tall, .ref g0_sheet, .ref g0_words, .ref g0_size, .int v0_good, .int v0_faultPlace, .int v0_made, .int v0_fills, .int v0_painted, .ref h4, .ref g0_saved, .ref g0_saves, .ref g0_at, .ref h3, .ref h5, .ref h6, .ref h7, .ref h11, .ref h12, .ref h1, .ref h2, .ref h8, .ref h9, .ref h10, .ref g0_both, .ref g0_cut, .int v0_other])), (h1, .inl (cI, 2, .inl f1_6)), (h2, .inl (cI, 2, .inl f2_7)), (h3, .inl (cI, 2, .inl f3_8)), (h4, .inl (cI, 24, .inl f4)), (h5, .inl (cI, 2000, .inl f5_9)), (h6, .inl (cI, 2000, .inl f6_10)), (h7, .inl (cZ, 2000, .inl f7_11)), (h8, .inl (cI, 2, .inl f8_12)), (h9, .inl (cI, 2, .inl f9_13)), (h10, .inl (cI, 2, .inl f10_14)), (h11, .inl (cZ, 2, .inl f11_15)), (h12, .inl (cI, 2, .inl f12_16))] → va_S A s.heap H locs → lv_has ls 9 [(0, .ref h0), (1, .int p1), (2, .int p2), (3, .int p3), (4, .int p4), (5, .int p5), (6, .int a_2), (7, .int a_4), (8, .int l8_5)] → lp_X12_curve_19 a_2 p2 p4 a_4 p3 p5 f4 p1 n l8_5 f1_6 f2_7 f3_8 f5_9 f6_10 f7_11 f8_12 f9_13 f10_14 f11_15 f12_16 = some res → W p l e (headSpec w_X12_curve rm_X12_curve).room s m ([.ref h0, .int p1, .int p2, .int p3, .int p4, .int p5] : List Value).toArray below meth c H locs 0 0 (MQ below (QMv (dC, dI) [(cI, .int), (cZ, .boolean), (cO, .object "ListPainter$Settings")] A [(h0, .inr (11, [.int v0_wide, .int v0_tall, .ref g0_sheet, .ref g0_words, .ref g0_size, .int v0_good, .int v0_faultPlace, .int v0_made, .int v0_fills, .int v0_painted, .ref h4, .ref g0_saved, .ref g0_saves, .ref g0_at, .ref h3, .ref h5, .ref h6, .ref h7, .ref h11, .ref h12, .ref h1, .ref h2, .ref h8, .ref h9, .ref h10, .ref g0_both, .ref g0_cut, .int v0_other])), (h1, .inl (cI, 2, .inl (res.1))), (h2, .inl (cI, 2, .inl (res.2.1))), (h3, .inl (cI, 2, .inl (res.2.2.1))), (h4, .inl (cI, 24, .inl f4)), (h5, .inl (cI, 2000, .inl (res.2.2.2.1))), (h6, .inl (cI, 2000, .inl (res.2.2.2.2.1))), (h7, .inl (cZ, 2000, .inl (res.2.2.2.2.2.1))), (h8, .inl (cI, 2, .inl (res.2.2.2.2.2.2.1))), (h9, .inl (cI, 2, .inl (res.2.2.2.2.2.2.2.1))), (h10, .inl (cI, 2, .inl (res.2.2.2.2.2.2.2.2.1))), (h11, .inl (cZ, 2, .inl (res.2.2.2.2.2.2.2.2.2.1))), (h12, .inl (cI, 2, .inl (res.2.2.2.2.2.2.2.2.2.2)))]) ([.ref h0, .int p1, .int p2, .int p3, .int p4, .int p5] : List Value).toArray s 0 0 A) (F0 m 19 ls []) := by
    intro n
    induction n with
    | zero =>
      intro l8_5 f1_6 f2_7 f3_8 f5_9 f6_10 f7_11 f8_12 f9_13 f10_14 f11_15 f12_16 H locs ls hP hD hS hl hM
      rw [lp_X12_curve_19] at hM
      exact lp0 hM
    | succ n19_17 ih19_17 =>
      intro l8_5 f1_6 f2_7 f3_8 f5_9 f6_10 f7_11 f8_12 f9_13 f10_14 f11_15 f12_16 H locs ls hP hD hS hl hM
      rw [lp_X12_curve_19] at hM
      refine lv_iload hx hb dX12_curve_19 (lv_at hl 8 rfl) ?_
      refine lv_bipush (v := 8) hx hb dX12_curve_21 (by decide) ?_
      refine lv_icmp_gt (tgt := 58) hx hb dX12_curve_23 (by decide) (fun c_18 => ?_) (fun c_18 => ?_)
      · have hM := if_t c_18 hM
        have h9 := Option.some.inj hM
        subst h9
        exact W.vret hx hb hr (fun t ht hW => QMv_mk (by rw [ht]; exact hP) (va_K.moved hW.alike hK) hD (hS.F ht)) hS.2.2 dX12_curve_58
      · have hM := if_f c_18 hM
        refine lv_aload_n hx hb dX12_curve_26 rfl (lv_at hl 0 rfl) ?_
        refine lv_iload_n hx hb dX12_curve_27 rfl (lv_at hl 1 rfl) ?_
        refine lv_iload hx hb dX12_curve_28 (lv_at hl 6 rfl) ?_
        refine lv_iload_n hx hb dX12_curve_30 rfl (lv_at hl 2 rfl) ?_
        refine lv_iload hx hb dX12_curve_31 (lv_at hl 4 rfl) ?_
        refine lv_iload hx hb dX12_curve_33 (lv_at hl 8 rfl) ?_
        obtain ⟨r_19, hm_20, hM⟩ := bd1_u hM
        refine cSi (r := r_19) (As := [.int a_2, .int p2, .int p4, .int l8_5]) (rest := [.int p1, .ref h0]) ⟨hx, hb, hml, hown, hu⟩ (c_X12_between l dC dI cI cZ cO tL H.size a_2 p2 p4 l8_5 r_19 hm_20) (va_cwS 4 hu (gS kw_308 kw_309 kw_253 kw_310) rfl rfl rfl (by decide +kernel) ⟨Nat.le_of_ble_eq_true rfl, Nat.le_of_ble_eq_true rfl⟩) hP hD hS hA hK hG [] (by decide) rfl [none, none, none, none, none, none, none, none, none, none, none, none, none] 0 rfl (by decide +kernel) rfl rfl hl.1 rfl (Nat.le_of_ble_eq_true rfl) dX12_curve_35 (Nat.zero_le _) (Nat.zero_le _) (fun H locs hP hD hS => ?_)
        have hP : va_P (dC, dI) vwCl [(h0, .inr (11, [.int v0_wide, .int v0_tall, .ref g0_sheet, .ref g0_words, .ref g0_size, .int v0_good, .int v0_faultPlace, .int v0_made, .int v0_fills, .int v0_painted, .ref h4, .ref g0_saved, .ref g0_saves, .ref g0_at, .ref h3, .ref h5, .ref h6, .ref h7, .ref h11, .ref h12, .ref h1, .ref h2, .ref h8, .ref h9, .ref h10, .ref g0_both, .ref g0_cut, .int v0_other])), (h1, .inl (cI, 2, .inl f1_6)), (h2, .inl (cI, 2, .inl f2_7)), (h3, .inl (cI, 2, .inl f3_8)), (h4, .inl (cI, 24, .inl f4)), (h5, .inl (cI, 2000, .inl f5_9)), (h6, .inl (cI, 2000, .inl f6_10)), (h7, .inl (cZ, 2000, .inl f7_11)), (h8, .inl (cI, 2, .inl f8_12)), (h9, .inl (cI, 2, .inl f9_13)), (h10, .inl (cI, 2, .inl f10_14)), (h11, .inl (cZ, 2, .inl f11_15)), (h12, .inl (cI, 2, .inl f12_16))] H := hP
        have hD : va_D A [(h0, .inr (11, [.int v0_wide, .int v0_tall, .ref g0_sheet, .ref g0_words, .ref g0_size, .int v0_good, .int v0_faultPlace, .int v0_made, .int v0_fills, .int v0_painted, .ref h4, .ref g0_saved, .ref g0_saves, .ref g0_at, .ref h3, .ref h5, .ref h6, .ref h7, .ref h11, .ref h12, .ref h1, .ref h2, .ref h8, .ref h9, .ref h10, .ref g0_both, .ref g0_cut, .int v0_other])), (h1, .inl (cI, 2, .inl f1_6)), (h2, .inl (cI, 2, .inl f2_7)), (h3, .inl (cI, 2, .inl f3_8)), (h4, .inl (cI, 24, .inl f4)), (h5, .inl (cI, 2000, .inl f5_9)), (h6, .inl (cI, 2000, .inl f6_10)), (h7, .inl (cZ, 2000, .inl f7_11)), (h8, .inl (cI, 2, .inl f8_12)), (h9, .inl (cI, 2, .inl f9_13)), (h10, .inl (cI, 2, .inl f10_14)), (h11, .inl (cZ, 2, .inl f11_15)), (h12, .inl (cI, 2, .inl f12_16))] := hD
        refine lv_iload hx hb dX12_curve_38 (lv_at hl 7 rfl) ?_
        refine lv_iload_n hx hb dX12_curve_40 rfl (lv_at hl 3 rfl) ?_
        refine lv_iload hx hb dX12_curve_41 (lv_at hl 5 rfl) ?_
        refine lv_iload hx hb dX12_curve_43 (lv_at hl 8 rfl) ?_
        obtain ⟨r_21, hm_22, hM⟩ := bd1_u hM
        refine cSi (r := r_21) (As := [.int a_4, .int p3, .int p5, .int l8_5]) (rest := [.int r_19, .int p1, .ref h0]) ⟨hx, hb, hml, hown, hu⟩ (c_X12_between l dC dI cI cZ cO tL H.size a_4 p3 p5 l8_5 r_21 hm_22) (va_cwS 4 hu (gS kw_308 kw_309 kw_253 kw_310) rfl rfl rfl (by decide +kernel) ⟨Nat.le_of_ble_eq_true rfl, Nat.le_of_ble_eq_true rfl⟩) hP hD hS hA hK hG [] (by decide) rfl [none, none, none, none, none, none, none, none, none, none, none, none, none] 0 rfl (by decide +kernel) rfl rfl hl.1 rfl (Nat.le_of_ble_eq_true rfl) dX12_curve_45 (Nat.zero_le _) (Nat.zero_le _) (fun H locs hP hD hS => ?_)
        have hP : va_P (dC, dI) vwCl [(h0, .inr (11, [.int v0_wide, .int v0_tall, .ref g0_sheet, .ref g0_words, .ref g0_size, .int v0_good, .int v0_faultPlace, .int v0_made, .int v0_fills, .int v0_painted, .ref h4, .ref g0_saved, .ref g0_saves, .ref g0_at, .ref h3, .ref h5, .ref h6, .ref h7, .ref h11, .ref h12, .ref h1, .ref h2, .ref h8, .ref h9, .ref h10, .ref g0_both, .ref g0_cut, .int v0_other])), (h1, .inl (cI, 2, .inl f1_6)), (h2, .inl (cI, 2, .inl f2_7)), (h3, .inl (cI, 2, .inl f3_8)), (h4, .inl (cI, 24, .inl f4)), (h5, .inl (cI, 2000, .inl f5_9)), (h6, .inl (cI, 2000, .inl f6_10)), (h7, .inl (cZ, 2000, .inl f7_11)), (h8, .inl (cI, 2, .inl f8_12)), (h9, .inl (cI, 2, .inl f9_13)), (h10, .inl (cI, 2, .inl f10_14)), (h11, .inl (cZ, 2, .inl f11_15)), (h12, .inl (cI, 2, .inl f12_16))] H := hP
        have hD : va_D A [(h0, .inr (11, [.int v0_wide, .int v0_tall, .ref g0_sheet, .ref g0_words, .ref g0_size, .int v0_good, .int v0_faultPlace, .int v0_made, .int v0_fills, .int v0_painted, .ref h4, .ref g0_saved, .ref g0_saves, .ref g0_at, .ref h3, .ref h5, .ref h6, .ref h7, .ref h11, .ref h12, .ref h1, .ref h2, .ref h8, .ref h9, .ref h10, .ref g0_both, .ref g0_cut, .int v0_other])), (h1, .inl (cI, 2, .inl f1_6)), (h2, .inl (cI, 2, .inl f2_7)), (h3, .inl (cI, 2, .inl f3_8)), (h4, .inl (cI, 24, .inl f4)), (h5, .inl (cI, 2000, .inl f5_9)), (h6, .inl (cI, 2000, .inl f6_10)), (h7, .inl (cZ, 2000, .inl f7_11)), (h8, .inl (cI, 2, .inl f8_12)), (h9, .inl (cI, 2, .inl f9_13)), (h10, .inl (cI, 2, .inl f10_14)), (h11, .inl (cZ, 2, .inl f11_15)), (h12, .inl (cI, 2, .inl f12_16))] := hD
        refine lv_iconst (v := 0) hx hb dX12_curve_48 (by decide) ?_
        obtain ⟨f3_23, f5_24, f6_25, f7_26, f8_27, f9_28, f10_29, f11_30, f12_31, f1_32, f2_33, hm_34, hM⟩ := bd11_u hM
        refine cVv (As := [.int p1, .int r_19, .int r_21, .int 0]) (rest := []) ⟨hx, hb, hml, hown, hu⟩ (c_X12_point l dC dI cI cZ cO tL H.size h0 h3 h4 h5 h6 h7 h8 h9 h10 h11 h12 h1 h2 g0_sheet g0_words g0_size g0_saved g0_saves g0_at g0_both g0_cut v0_wide v0_tall v0_good v0_faultPlace v0_made v0_fills v0_painted v0_other f3_8 f4 f5_9 f6_10 f7_11 f8_12 f9_13 f10_14 f11_15 f12_16 f1_6 f2_7 p1 r_19 r_21 0 (f3_23, f5_24, f6_25, f7_26, f8_27, f9_28, f10_29, f11_30, f12_31, f1_32, f2_33) hm_34) (cwV 4 hu (gV kw_311 kw_312 kw_313 kw_253 kw_314) rfl rfl rfl (by decide +kernel) ⟨Nat.le_of_ble_eq_true rfl, Nat.le_of_ble_eq_true rfl⟩) hP hD hS hA hK hG [0, 3, 4, 5, 6, 7, 8, 9, 10, 11, 12, 1, 2] (by decide) rfl [some 0, some 11, some 12, some 1, some 2, some 3, some 4, some 5, some 6, some 7, some 8, some 9, some 10] 13 rfl (by decide +kernel) rfl 11 0 rfl rfl rfl rfl hl.1 rfl (Nat.le_of_ble_eq_true rfl) dX12_curve_49 (Nat.zero_le _) (Nat.zero_le _) (fun H locs hP hD hS => ?_)
        have hP : va_P (dC, dI) vwCl [(h0, .inr (11, [.int v0_wide, .int v0_tall, .ref g0_sheet, .ref g0_words, .ref g0_size, .int v0_good, .int v0_faultPlace, .int v0_made, .int v0_fills, .int v0_painted, .ref h4, .ref g0_saved, .ref g0_saves, .ref g0_at, .ref h3, .ref h5, .ref h6, .ref h7, .ref h11, .ref h12, .ref h1, .ref h2, .ref h8, .ref h9, .ref h10, .ref g0_both, .ref g0_cut, .int v0_other])), (h1, .inl (cI, 2, .inl f1_32)), (h2, .inl (cI, 2, .inl f2_33)), (h3, .inl (cI, 2, .inl f3_23)), (h4, .inl (cI, 24, .inl f4)), (h5, .inl (cI, 2000, .inl f5_24)), (h6, .inl (cI, 2000, .inl f6_25)), (h7, .inl (cZ, 2000, .inl f7_26)), (h8, .inl (cI, 2, .inl f8_27)), (h9, .inl (cI, 2, .inl f9_28)), (h10, .inl (cI, 2, .inl f10_29)), (h11, .inl (cZ, 2, .inl f11_30)), (h12, .inl (cI, 2, .inl f12_31))] H := hP
        have hD : va_D A [(h0, .inr (11, [.int v0_wide, .int v0_tall, .ref g0_sheet, .ref g0_words, .ref g0_size, .int v0_good, .int v0_faultPlace, .int v0_made, .int v0_fills, .int v0_painted, .ref h4, .ref g0_saved, .ref g0_saves, .ref g0_at, .ref h3, .ref h5, .ref h6, .ref h7, .ref h11, .ref h12, .ref h1, .ref h2, .ref h8, .ref h9, .ref h10, .ref g0_both, .ref g0_cut, .int v0_other])), (h1, .inl (cI, 2, .inl f1_32)), (h2, .inl (cI, 2, .inl f2_33)), (h3, .inl (cI, 2, .inl f3_23)), (h4, .inl (cI, 24, .inl f4)), (h5, .inl (cI, 2000, .inl f5_24)), (h6, .inl (cI, 2000, .inl f6_25)), (h7, .inl (cZ, 2000, .inl f7_26)), (h8, .inl (cI, 2, .inl f8_27)), (h9, .inl (cI, 2, .inl f9_28)), (h10, .inl (cI, 2, .inl f10_29)), (h11, .inl (cZ, 2, .inl f11_30)), (h12, .inl (cI, 2, .inl f12_31))] := hD
        obtain ⟨x_35, ex_35⟩ : ∃ y : Int32, y = l8_5 + 1 := ⟨_, rfl⟩
        have hM := nm_u ex_35 hM
        refine lv_iinc (v := x_35) (lv' := [(8, .int x_35), (0, .ref h0), (1, .int p1), (2, .int p2), (3, .int p3), (4, .int p4), (5, .int p5), (6, .int a_2), (7, .int a_4)]) hx hb dX12_curve_52 hl (k := 8) rfl (by rw [ex_35]; rfl) (by decide) rfl (fun ls hl => ?_)
        refine lv_goto (tgt := 19) hx hb dX12_curve_55 (by decide) ?_
        exact ih19_17 x_35 f1_32 f2_33 f3_23 f5_24 f6_25 f7_26 f8_27 f9_28 f10_29 f11_30 f12_31 H locs ls hP hD hS (lv_sub hl [1, 2, 3, 4, 5, 6, 7, 8, 0] rfl) hM
  exact hL19_17 FU 1 f1 f2 f3 f5 f6 f7 f8 f9 f10 f11 f12 H locs ls hP hD hS (lv_sub hl [3, 4, 5, 6, 7, 8, 2, 1, 0] rfl) hM
theorem dX12_box_0 : decode cX12_box 0 = .ok (.aload_n 0, 1) := by decide +kernel
theorem dX12_box_1 : decode cX12_box 1 = .ok (.iload_n 1, 1) := by decide +kernel
theorem dX12_box_2 : decode cX12_box 2 = .ok (.iload_n 2, 1) := by decide +kernel
theorem dX12_box_3 : decode cX12_box 3 = .ok (.iload_n 3, 1) := by decide +kernel
theorem dX12_box_4 : decode cX12_box 4 = .ok (.iconst 1, 1) := by decide +kernel
theorem dX12_box_5 : decode cX12_box 5 = .ok (.invokevirtual 155, 3) := by decide +kernel
theorem dX12_box_8 : decode cX12_box 8 = .ok (.aload_n 0, 1) := by decide +kernel
theorem dX12_box_9 : decode cX12_box 9 = .ok (.iload_n 1, 1) := by decide +kernel
theorem dX12_box_10 : decode cX12_box 10 = .ok (.iload_n 2, 1) := by decide +kernel
theorem dX12_box_11 : decode cX12_box 11 = .ok (.iload 4, 2) := by decide +kernel
theorem dX12_box_13 : decode cX12_box 13 = .ok (.iadd, 1) := by decide +kernel
theorem dX12_box_14 : decode cX12_box 14 = .ok (.iload_n 3, 1) := by decide +kernel
theorem dX12_box_15 : decode cX12_box 15 = .ok (.iconst 0, 1) := by decide +kernel
theorem dX12_box_16 : decode cX12_box 16 = .ok (.invokevirtual 155, 3) := by decide +kernel
theorem dX12_box_19 : decode cX12_box 19 = .ok (.aload_n 0, 1) := by decide +kernel
theorem dX12_box_20 : decode cX12_box 20 = .ok (.iload_n 1, 1) := by decide +kernel
theorem dX12_box_21 : decode cX12_box 21 = .ok (.iload_n 2, 1) := by decide +kernel
theorem dX12_box_22 : decode cX12_box 22 = .ok (.iload 4, 2) := by decide +kernel
theorem dX12_box_24 : decode cX12_box 24 = .ok (.iadd, 1) := by decide +kernel
theorem dX12_box_25 : decode cX12_box 25 = .ok (.iload_n 3, 1) := by decide +kernel
theorem dX12_box_26 : decode cX12_box 26 = .ok (.iload 5, 2) := by decide +kernel
theorem dX12_box_28 : decode cX12_box 28 = .ok (.iadd, 1) := by decide +kernel
theorem dX12_box_29 : decode cX12_box 29 = .ok (.iconst 0, 1) := by decide +kernel
theorem dX12_box_30 : decode cX12_box 30 = .ok (.invokevirtual 155, 3) := by decide +kernel
theorem dX12_box_33 : decode cX12_box 33 = .ok (.aload_n 0, 1) := by decide +kernel
theorem dX12_box_34 : decode cX12_box 34 = .ok (.iload_n 1, 1) := by decide +kernel
theorem dX12_box_35 : decode cX12_box 35 = .ok (.iload_n 2, 1) := by decide +kernel
theorem dX12_box_36 : decode cX12_box 36 = .ok (.iload_n 3, 1) := by decide +kernel
theorem dX12_box_37 : decode cX12_box 37 = .ok (.iload 5, 2) := by decide +kernel
theorem dX12_box_39 : decode cX12_box 39 = .ok (.iadd, 1) := by decide +kernel
theorem dX12_box_40 : decode cX12_box 40 = .ok (.iconst 0, 1) := by decide +kernel
theorem dX12_box_41 : decode cX12_box 41 = .ok (.invokevirtual 155, 3) := by decide +kernel
theorem dX12_box_44 : decode cX12_box 44 = .ok (.aload_n 0, 1) := by decide +kernel
theorem dX12_box_45 : decode cX12_box 45 = .ok (.iload_n 1, 1) := by decide +kernel
theorem dX12_box_46 : decode cX12_box 46 = .ok (.invokevirtual 159, 3) := by decide +kernel
theorem dX12_box_49 : decode cX12_box 49 = .ok (.return_, 1) := by decide +kernel
abbrev rm_X12_box : Room := { frames := 2, cells := 0, slots := 0, locals := 47 }
def w_X12_box : List Cond := Cond.code yX12_box cX12_box 6 none :: uw
set_option maxHeartbeats 4000000 in
set_option maxRecDepth 100000 in
theorem c_X12_box (l : Launch) (dC : Nat → ClassId) (dI : Nat → Nat → Nat) (cI cZ cO : ClassId) (tL sz : Nat) (h0 : Nat) (h1 : Nat) (h2 : Nat) (h3 : Nat) (h4 : Nat) (h5 : Nat) (h6 : Nat) (h7 : Nat) (h8 : Nat) (h9 : Nat) (h10 : Nat) (h11 : Nat) (h12 : Nat) (g0_sheet : Nat) (g0_words : Nat) (g0_size : Nat) (g0_saved : Nat) (g0_saves : Nat) (g0_at : Nat) (g0_both : Nat) (g0_cut : Nat) (v0_wide : Int32) (v0_tall : Int32) (v0_good : Int32) (v0_faultPlace : Int32) (v0_made : Int32) (v0_fills : Int32) (v0_painted : Int32) (v0_other : Int32) (f1 : Nat → Int32) (f2 : Nat → Int32) (f3 : Nat → Int32) (f4 : Nat → Int32) (f5 : Nat → Int32) (f6 : Nat → Int32) (f7 : Nat → Int32) (f8 : Nat → Int32) (f9 : Nat → Int32) (f10 : Nat → Int32) (f11 : Nat → Int32) (f12 : Nat → Int32) (p1 : Int32) (p2 : Int32) (p3 : Int32) (p4 : Int32) (p5 : Int32) (res : (Nat → Int32) × (Nat → Int32) × (Nat → Int32) × (Nat → Int32) × (Nat → Int32) × (Nat → Int32) × (Nat → Int32) × (Nat → Int32) × (Nat → Int32) × (Nat → Int32) × (Nat → Int32)) (hM : m_X12_box f1 f2 f3 f4 f5 f6 f7 f8 f9 f10 f11 f12 p1 p2 p3 p4 p5 = some res) : Met l yX12_box w_X12_box rm_X12_box (PCx [.ref h0, .int p1, .int p2, .int p3, .int p4, .int p5] (dC, dI) [(cI, .int), (cZ, .boolean), (cO, .object "ListPainter$Settings")] sz tL [(h0, .inr (11, [.int v0_wide, .int v0_tall, .ref g0_sheet, .ref g0_words, .ref g0_size, .int v0_good, .int v0_faultPlace, .int v0_made, .int v0_fills, .int v0_painted, .ref h2, .ref g0_saved, .ref g0_saves, .ref g0_at, .ref h1, .ref h3, .ref h4, .ref h5, .ref h9, .ref h10, .ref h11, .ref h12, .ref h6, .ref h7, .ref h8, .ref g0_both, .ref g0_cut, .int v0_other])), (h1, .inl (cI, 2, .inl f1)), (h2, .inl (cI, 24, .inl f2)), (h3, .inl (cI, 2000, .inl f3)), (h4, .inl (cI, 2000, .inl f4)), (h5, .inl (cZ, 2000, .inl f5)), (h6, .inl (cI, 2, .inl f6)), (h7, .inl (cI, 2, .inl f7)), (h8, .inl (cI, 2, .inl f8)), (h9, .inl (cZ, 2, .inl f9)), (h10, .inl (cI, 2, .inl f10)), (h11, .inl (cI, 2, .inl f11)), (h12, .inl (cI, 2, .inl f12))]) (QMv (dC, dI) [(cI, .int), (cZ, .boolean), (cO, .object "ListPainter$Settings")] (va_A [(h0, .inr (11, [.int v0_wide, .int v0_tall, .ref g0_sheet, .ref g0_words, .ref g0_size, .int v0_good, .int v0_faultPlace, .int v0_made, .int v0_fills, .int v0_painted, .ref h2, .ref g0_saved, .ref g0_saves, .ref g0_at, .ref h1, .ref h3, .ref h4, .ref h5, .ref h9, .ref h10, .ref h11, .ref h12, .ref h6, .ref h7, .ref h8, .ref g0_both, .ref g0_cut, .int v0_other])), (h1, .inl (cI, 2, .inl f1)), (h2, .inl (cI, 24, .inl f2)), (h3, .inl (cI, 2000, .inl f3)), (h4, .inl (cI, 2000, .inl f4)), (h5, .inl (cZ, 2000, .inl f5)), (h6, .inl (cI, 2, .inl f6)), (h7, .inl (cI, 2, .inl f7)), (h8, .inl (cI, 2, .inl f8)), (h9, .inl (cZ, 2, .inl f9)), (h10, .inl (cI, 2, .inl f10)), (h11, .inl (cI, 2, .inl f11)), (h12, .inl (cI, 2, .inl f12))] sz) [(h0, .inr (11, [.int v0_wide, .int v0_tall, .ref g0_sheet, .ref g0_words, .ref g0_size, .int v0_good, .int v0_faultPlace, .int v0_made, .int v0_fills, .int v0_painted, .ref h2, .ref g0_saved, .ref g0_saves, .ref g0_at, .ref h1, .ref h3, .ref h4, .ref h5, .ref h9, .ref h10, .ref h11, .ref h12, .ref h6, .ref h7, .ref h8, .ref g0_both, .ref g0_cut, .int v0_other])), (h1, .inl (cI, 2, .inl (res.1))), (h2, .inl (cI, 24, .inl f2)), (h3, .inl (cI, 2000, .inl (res.2.1))), (h4, .inl (cI, 2000, .inl (res.2.2.1))), (h5, .inl (cZ, 2000, .inl (res.2.2.2.1))), (h6, .inl (cI, 2, .inl (res.2.2.2.2.1))), (h7, .inl (cI, 2, .inl (res.2.2.2.2.2.1))), (h8, .inl (cI, 2, .inl (res.2.2.2.2.2.2.1))), (h9, .inl (cZ, 2, .inl (res.2.2.2.2.2.2.2.1))), (h10, .inl (cI, 2, .inl (res.2.2.2.2.2.2.2.2.1))), (h11, .inl (cI, 2, .inl (res.2.2.2.2.2.2.2.2.2.1))), (h12, .inl (cI, 2, .inl (res.2.2.2.2.2.2.2.2.2.2)))]) 0 0 (va_A [(h0, .inr (11, [.int v0_wide, .int v0_tall, .ref g0_sheet, .ref g0_words, .ref g0_size, .int v0_good, .int v0_faultPlace, .int v0_made, .int v0_fills, .int v0_painted, .ref h2, .ref g0_saved, .ref g0_saves, .ref g0_at, .ref h1, .ref h3, .ref h4, .ref h5, .ref h9, .ref h10, .ref h11, .ref h12, .ref h6, .ref h7, .ref h8, .ref g0_both, .ref g0_cut, .int v0_other])), (h1, .inl (cI, 2, .inl f1)), (h2, .inl (cI, 24, .inl f2)), (h3, .inl (cI, 2000, .inl f3)), (h4, .inl (cI, 2000, .inl f4)), (h5, .inl (cZ, 2000, .inl f5)), (h6, .inl (cI, 2, .inl f6)), (h7, .inl (cI, 2, .inl f7)), (h8, .inl (cI, 2, .inl f8)), (h9, .inl (cZ, 2, .inl f9)), (h10, .inl (cI, 2, .inl f10)), (h11, .inl (cI, 2, .inl f11)), (h12, .inl (cI, 2, .inl f12))] sz) := by
  refine Met.ofW (cc := cX12_box) (maxL := 6) (ret := none) (by decide) rfl ?_
  intro p e s m args below meth c s₁ B hml hv
  obtain ⟨rfl, hsz, hP, hK, hD0, hG⟩ := hv
  have hx := B.exec
  have hb := B.bytes
  have hr := B.returns
  have hu : ∀ w ∈ uw, w.before ([.ref h0, .int p1, .int p2, .int p3, .int p4, .int p5] : List Value).toArray s = true := fun w h => atoms_spec (ws := w_X12_box) B.pre w (List.mem_cons_of_mem _ h)
  have hown : s.vm.findClass RX12 = some m.cls := findClass_of_methodNamed B.named
  have hlocks := B.notSynchronized
  subst hsz
  have hD := hD0.self (sz := s.heap.size)
  generalize hAe : va_A [(h0, .inr (11, [.int v0_wide, .int v0_tall, .ref g0_sheet, .ref g0_words, .ref g0_size, .int v0_good, .int v0_faultPlace, .int v0_made, .int v0_fills, .int v0_painted, .ref h2, .ref g0_saved, .ref g0_saves, .ref g0_at, .ref h1, .ref h3, .ref h4, .ref h5, .ref h9, .ref h10, .ref h11, .ref h12, .ref h6, .ref h7, .ref h8, .ref g0_both, .ref g0_cut, .int v0_other])), (h1, .inl (cI, 2, .inl f1)), (h2, .inl (cI, 24, .inl f2)), (h3, .inl (cI, 2000, .inl f3)), (h4, .inl (cI, 2000, .inl f4)), (h5, .inl (cZ, 2000, .inl f5)), (h6, .inl (cI, 2, .inl f6)), (h7, .inl (cI, 2, .inl f7)), (h8, .inl (cI, 2, .inl f8)), (h9, .inl (cZ, 2, .inl f9)), (h10, .inl (cI, 2, .inl f10)), (h11, .inl (cI, 2, .inl f11)), (h12, .inl (cI, 2, .inl f12))] s.heap.size = A at hD hG ⊢
  have hA : ∀ q : Nat, s.heap.size ≤ q → A q := fun q h => by rw [← hAe]; exact Or.inr h
  have hS : va_S A s.heap s.heap [] := va_S.rf
  have hP : va_P (dC, dI) vwCl [(h0, .inr (11, [.int v0_wide, .int v0_tall, .ref g0_sheet, .ref g0_words, .ref g0_size, .int v0_good, .int v0_faultPlace, .int v0_made, .int v0_fills, .int v0_painted, .ref h2, .ref g0_saved, .ref g0_saves, .ref g0_at, .ref h1, .ref h3, .ref h4, .ref h5, .ref h9, .ref h10, .ref h11, .ref h12, .ref h6, .ref h7, .ref h8, .ref g0_both, .ref g0_cut, .int v0_other])), (h1, .inl (cI, 2, .inl f1)), (h2, .inl (cI, 24, .inl f2)), (h3, .inl (cI, 2000, .inl f3)), (h4, .inl (cI, 2000, .inl f4)), (h5, .inl (cZ, 2000, .inl f5)), (h6, .inl (cI, 2, .inl f6)), (h7, .inl (cI, 2, .inl f7)), (h8, .inl (cI, 2, .inl f8)), (h9, .inl (cZ, 2, .inl f9)), (h10, .inl (cI, 2, .inl f10)), (h11, .inl (cI, 2, .inl f11)), (h12, .inl (cI, 2, .inl f12))] s.heap := hP
  have hl := lv_entry ([.ref h0, .int p1, .int p2, .int p3, .int p4, .int p5]) (n := 6) (Nat.le_of_ble_eq_true rfl)
  rw [lg_entry_eq]
  generalize (lg_sl ([.ref h0, .int p1, .int p2, .int p3, .int p4, .int p5]) ++ List.replicate (6 - (lg_sl ([.ref h0, .int p1, .int p2, .int p3, .int p4, .int p5])).length) Slot.unset).toArray = ls at hl ⊢
  have hl : lv_has ls 6 [(0, .ref h0), (1, .int p1), (2, .int p2), (3, .int p3), (4, .int p4), (5, .int p5)] := hl
  rw [m_X12_box] at hM
  suffices hgo : ∀ (H : Heap) (locs : List Loc), va_P (dC, dI) vwCl [(h0, .inr (11, [.int v0_wide, .int v0_tall, .ref g0_sheet, .ref g0_words, .ref g0_size, .int v0_good, .int v0_faultPlace, .int v0_made, .int v0_fills, .int v0_painted, .ref h2, .ref g0_saved, .ref g0_saves, .ref g0_at, .ref h1, .ref h3, .ref h4, .ref h5, .ref h9, .ref h10, .ref h11, .ref h12, .ref h6, .ref h7, .ref h8, .ref g0_both, .ref g0_cut, .int v0_other])), (h1, .inl (cI, 2, .inl f1)), (h2, .inl (cI, 24, .inl f2)), (h3, .inl (cI, 2000, .inl f3)), (h4, .inl (cI, 2000, .inl f4)), (h5, .inl (cZ, 2000, .inl f5)), (h6, .inl (cI, 2, .inl f6)), (h7, .inl (cI, 2, .inl f7)), (h8, .inl (cI, 2, .inl f8)), (h9, .inl (cZ, 2, .inl f9)), (h10, .inl (cI, 2, .inl f10)), (h11, .inl (cI, 2, .inl f11)), (h12, .inl (cI, 2, .inl f12))] H → va_D A [(h0, .inr (11, [.int v0_wide, .int v0_tall, .ref g0_sheet, .ref g0_words, .ref g0_size, .int v0_good, .int v0_faultPlace, .int v0_made, .int v0_fills, .int v0_painted, .ref h2, .ref g0_saved, .ref g0_saves, .ref g0_at, .ref h1, .ref h3, .ref h4, .ref h5, .ref h9, .ref h10, .ref h11, .ref h12, .ref h6, .ref h7, .ref h8, .ref g0_both, .ref g0_cut, .int v0_other])), (h1, .inl (cI, 2, .inl f1)), (h2, .inl (cI, 24, .inl f2)), (h3, .inl (cI, 2000, .inl f3)), (h4, .inl (cI, 2000, .inl f4)), (h5, .inl (cZ, 2000, .inl f5)), (h6, .inl (cI, 2, .inl f6)), (h7, .inl (cI, 2, .inl f7)), (h8, .inl (cI, 2, .inl f8)), (h9, .inl (cZ, 2, .inl f9)), (h10, .inl (cI, 2, .inl f10)), (h11, .inl (cI, 2, .inl f11)), (h12, .inl (cI, 2, .inl f12))] → va_S A s.heap H locs → W p l e (headSpec w_X12_box rm_X12_box).room s m ([.ref h0, .int p1, .int p2, .int p3, .int p4, .int p5] : List Value).toArray below meth c H locs 0 0 (MQ below (QMv (dC, dI) [(cI, .int), (cZ, .boolean), (cO, .object "ListPainter$Settings")] A [(h0, .inr (11, [.int v0_wide, .int v0_tall, .ref g0_sheet, .ref g0_words, .ref g0_size, .int v0_good, .int v0_faultPlace, .int v0_made, .int v0_fills, .int v0_painted, .ref h2, .ref g0_saved, .ref g0_saves, .ref g0_at, .ref h1, .ref h3, .ref h4, .ref h5, .ref h9, .ref h10, .ref h11, .ref h12, .ref h6, .ref h7, .ref h8, .ref g0_both, .ref g0_cut, .int v0_other])), (h1, .inl (cI, 2, .inl (res.1))), (h2, .inl (cI, 24, .inl f2)), (h3, .inl (cI, 2000, .inl (res.2.1))), (h4, .inl (cI, 2000, .inl (res.2.2.1))), (h5, .inl (cZ, 2000, .inl (res.2.2.2.1))), (h6, .inl (cI, 2, .inl (res.2.2.2.2.1))), (h7, .inl (cI, 2, .inl (res.2.2.2.2.2.1))), (h8, .inl (cI, 2, .inl (res.2.2.2.2.2.2.1))), (h9, .inl (cZ, 2, .inl (res.2.2.2.2.2.2.2.1))), (h10, .inl (cI, 2, .inl (res.2.2.2.2.2.2.2.2.1))), (h11, .inl (cI, 2, .inl (res.2.2.2.2.2.2.2.2.2.1))), (h12, .inl (cI, 2, .inl (res.2.2.2.2.2.2.2.2.2.2)))]) ([.ref h0, .int p1, .int p2, .int p3, .int p4, .int p5] : List Value).toArray s 0 0 A) (F0 m 0 ls []) from hgo _ _ hP hD hS
  intro H locs hP hD hS
  refine lv_aload_n hx hb dX12_box_0 rfl (lv_at hl 0 rfl) ?_
  refine lv_iload_n hx hb dX12_box_1 rfl (lv_at hl 1 rfl) ?_
  refine lv_iload_n hx hb dX12_box_2 rfl (lv_at hl 2 rfl) ?_
  refine lv_iload_n hx hb dX12_box_3 rfl (lv_at hl 3 rfl) ?_
  refine lv_iconst (v := 1) hx hb dX12_box_4 (by decide) ?_
  obtain ⟨f1_1, f3_2, f4_3, f5_4, f6_5, f7_6, f8_7, f9_8, f10_9, f11_10, f12_11, hm_12, hM⟩ := bd11_u hM
  refine cVv (As := [.int p1, .int p2, .int p3, .int 1]) (rest := []) ⟨hx, hb, hml, hown, hu⟩ (c_X12_point l dC dI cI cZ cO tL H.size h0 h1 h2 h3 h4 h5 h6 h7 h8 h9 h10 h11 h12 g0_sheet g0_words g0_size g0_saved g0_saves g0_at g0_both g0_cut v0_wide v0_tall v0_good v0_faultPlace v0_made v0_fills v0_painted v0_other f1 f2 f3 f4 f5 f6 f7 f8 f9 f10 f11 f12 p1 p2 p3 1 (f1_1, f3_2, f4_3, f5_4, f6_5, f7_6, f8_7, f9_8, f10_9, f11_10, f12_11) hm_12) (cwV 4 hu (gV kw_311 kw_312 kw_313 kw_253 kw_314) rfl rfl rfl (by decide +kernel) ⟨Nat.le_of_ble_eq_true rfl, Nat.le_of_ble_eq_true rfl⟩) hP hD hS hA hK hG [0, 1, 2, 3, 4, 5, 6, 7, 8, 9, 10, 11, 12] (by decide) rfl [some 0, some 1, some 2, some 3, some 4, some 5, some 6, some 7, some 8, some 9, some 10, some 11, some 12] 13 rfl (by decide +kernel) rfl 11 0 rfl rfl rfl rfl hl.1 rfl (Nat.le_of_ble_eq_true rfl) dX12_box_5 (Nat.zero_le _) (Nat.zero_le _) (fun H locs hP hD hS => ?_)
  have hP : va_P (dC, dI) vwCl [(h0, .inr (11, [.int v0_wide, .int v0_tall, .ref g0_sheet, .ref g0_words, .ref g0_size, .int v0_good, .int v0_faultPlace, .int v0_made, .int v0_fills, .int v0_painted, .ref h2, .ref g0_saved, .ref g0_saves, .ref g0_at, .ref h1, .ref h3, .ref h4, .ref h5, .ref h9, .ref h10, .ref h11, .ref h12, .ref h6, .ref h7, .ref h8, .ref g0_both, .ref g0_cut, .int v0_other])), (h1, .inl (cI, 2, .inl f1_1)), (h2, .inl (cI, 24, .inl f2)), (h3, .inl (cI, 2000, .inl f3_2)), (h4, .inl (cI, 2000, .inl f4_3)), (h5, .inl (cZ, 2000, .inl f5_4)), (h6, .inl (cI, 2, .inl f6_5)), (h7, .inl (cI, 2, .inl f7_6)), (h8, .inl (cI, 2, .inl f8_7)), (h9, .inl (cZ, 2, .inl f9_8)), (h10, .inl (cI, 2, .inl f10_9)), (h11, .inl (cI, 2, .inl f11_10)), (h12, .inl (cI, 2, .inl f12_11))] H := hP
  have hD : va_D A [(h0, .inr (11, [.int v0_wide, .int v0_tall, .ref g0_sheet, .ref g0_words, .ref g0_size, .int v0_good, .int v0_faultPlace, .int v0_made, .int v0_fills, .int v0_painted, .ref h2, .ref g0_saved, .ref g0_saves, .ref g0_at, .ref h1, .ref h3, .ref h4, .ref h5, .ref h9, .ref h10, .ref h11, .ref h12, .ref h6, .ref h7, .ref h8, .ref g0_both, .ref g0_cut, .int v0_other])), (h1, .inl (cI, 2, .inl f1_1)), (h2, .inl (cI, 24, .inl f2)), (h3, .inl (cI, 2000, .inl f3_2)), (h4, .inl (cI, 2000, .inl f4_3)), (h5, .inl (cZ, 2000, .inl f5_4)), (h6, .inl (cI, 2, .inl f6_5)), (h7, .inl (cI, 2, .inl f7_6)), (h8, .inl (cI, 2, .inl f8_7)), (h9, .inl (cZ, 2, .inl f9_8)), (h10, .inl (cI, 2, .inl f10_9)), (h11, .inl (cI, 2, .inl f11_10)), (h12, .inl (cI, 2, .inl f12_11))] := hD
  refine lv_aload_n hx hb dX12_box_8 rfl (lv_at hl 0 rfl) ?_
  refine lv_iload_n hx hb dX12_box_9 rfl (lv_at hl 1 rfl) ?_
  refine lv_iload_n hx hb dX12_box_10 rfl (lv_at hl 2 rfl) ?_
  refine lv_iload hx hb dX12_box_11 (lv_at hl 4 rfl) ?_
  refine lv_iadd hx hb dX12_box_13 ?_
  refine lv_iload_n hx hb dX12_box_14 rfl (lv_at hl 3 rfl) ?_
  refine lv_iconst (v := 0) hx hb dX12_box_15 (by decide) ?_
  obtain ⟨f1_13, f3_14, f4_15, f5_16, f6_17, f7_18, f8_19, f9_20, f10_21, f11_22, f12_23, hm_24, hM⟩ := bd11_u hM
  refine cVv (As := [.int p1, .int (p2 + p4), .int p3, .int 0]) (rest := []) ⟨hx, hb, hml, hown, hu⟩ (c_X12_point l dC dI cI cZ cO tL H.size h0 h1 h2 h3 h4 h5 h6 h7 h8 h9 h10 h11 h12 g0_sheet g0_words g0_size g0_saved g0_saves g0_at g0_both g0_cut v0_wide v0_tall v0_good v0_faultPlace v0_made v0_fills v0_painted v0_other f1_1 f2 f3_2 f4_3 f5_4 f6_5 f7_6 f8_7 f9_8 f10_9 f11_10 f12_11 p1 (p2 + p4) p3 0 (f1_13, f3_14, f4_15, f5_16, f6_17, f7_18, f8_19, f9_20, f10_21, f11_22, f12_23) hm_24) (cwV 4 hu (gV kw_311 kw_312 kw_313 kw_253 kw_314) rfl rfl rfl (by decide +kernel) ⟨Nat.le_of_ble_eq_true rfl, Nat.le_of_ble_eq_true rfl⟩) hP hD hS hA hK hG [0, 1, 2, 3, 4, 5, 6, 7, 8, 9, 10, 11, 12] (by decide) rfl [some 0, some 1, some 2, some 3, some 4, some 5, some 6, some 7, some 8, some 9, some 10, some 11, some 12] 13 rfl (by decide +kernel) rfl 11 0 rfl rfl rfl rfl hl.1 rfl (Nat.le_of_ble_eq_true rfl) dX12_box_16 (Nat.zero_le _) (Nat.zero_le _) (fun H locs hP hD hS => ?_)
  have hP : va_P (dC, dI) vwCl [(h0, .inr (11, [.int v0_wide, .int v0_tall, .ref g0_sheet, .ref g0_words, .ref g0_size, .int v0_good, .int v0_faultPlace, .int v0_made, .int v0_fills, .int v0_painted, .ref h2, .ref g0_saved, .ref g0_saves, .ref g0_at, .ref h1, .ref h3, .ref h4, .ref h5, .ref h9, .ref h10, .ref h11, .ref h12, .ref h6, .ref h7, .ref h8, .ref g0_both, .ref g0_cut, .int v0_other])), (h1, .inl (cI, 2, .inl f1_13)), (h2, .inl (cI, 24, .inl f2)), (h3, .inl (cI, 2000, .inl f3_14)), (h4, .inl (cI, 2000, .inl f4_15)), (h5, .inl (cZ, 2000, .inl f5_16)), (h6, .inl (cI, 2, .inl f6_17)), (h7, .inl (cI, 2, .inl f7_18)), (h8, .inl (cI, 2, .inl f8_19)), (h9, .inl (cZ, 2, .inl f9_20)), (h10, .inl (cI, 2, .inl f10_21)), (h11, .inl (cI, 2, .inl f11_22)), (h12, .inl (cI, 2, .inl f12_23))] H := hP
  have hD : va_D A [(h0, .inr (11, [.int v0_wide, .int v0_tall, .ref g0_sheet, .ref g0_words, .ref g0_size, .int v0_good, .int v0_faultPlace, .int v0_made, .int v0_fills, .int v0_painted, .ref h2, .ref g0_saved, .ref g0_saves, .ref g0_at, .ref h1, .ref h3, .ref h4, .ref h5, .ref h9, .ref h10, .ref h11, .ref h12, .ref h6, .ref h7, .ref h8, .ref g0_both, .ref g0_cut, .int v0_other])), (h1, .inl (cI, 2, .inl f1_13)), (h2, .inl (cI, 24, .inl f2)), (h3, .inl (cI, 2000, .inl f3_14)), (h4, .inl (cI, 2000, .inl f4_15)), (h5, .inl (cZ, 2000, .inl f5_16)), (h6, .inl (cI, 2, .inl f6_17)), (h7, .inl (cI, 2, .inl f7_18)), (h8, .inl (cI, 2, .inl f8_19)), (h9, .inl (cZ, 2, .inl f9_20)), (h10, .inl (cI, 2, .inl f10_21)), (h11, .inl (cI, 2, .inl f11_22)), (h12, .inl (cI, 2, .inl f12_23))] := hD
  refine lv_aload_n hx hb dX12_box_19 rfl (lv_at hl 0 rfl) ?_
  refine lv_iload_n hx hb dX12_box_20 rfl (lv_at hl 1 rfl) ?_
  refine lv_iload_n hx hb dX12_box_21 rfl (lv_at hl 2 rfl) ?_
  refine lv_iload hx hb dX12_box_22 (lv_at hl 4 rfl) ?_
  refine lv_iadd hx hb dX12_box_24 ?_
  refine lv_iload_n hx hb dX12_box_25 rfl (lv_at hl 3 rfl) ?_
  refine lv_iload hx hb dX12_box_26 (lv_at hl 5 rfl) ?_
  refine lv_iadd hx hb dX12_box_28 ?_
  refine lv_iconst (v := 0) hx hb dX12_box_29 (by decide) ?_
  obtain ⟨f1_25, f3_26, f4_27, f5_28, f6_29, f7_30, f8_31, f9_32, f10_33, f11_34, f12_35, hm_36, hM⟩ := bd11_u hM
  refine cVv (As := [.int p1, .int (p2 + p4), .int (p3 + p5), .int 0]) (rest := []) ⟨hx, hb, hml, hown, hu⟩ (c_X12_point l dC dI cI cZ cO tL H.size h0 h1 h2 h3 h4 h5 h6 h7 h8 h9 h10 h11 h12 g0_sheet g0_words g0_size g0_saved g0_saves g0_at g0_both g0_cut v0_wide v0_tall v0_good v0_faultPlace v0_made v0_fills v0_painted v0_other f1_13 f2 f3_14 f4_15 f5_16 f6_17 f7_18 f8_19 f9_20 f10_21 f11_22 f12_23 p1 (p2 + p4) (p3 + p5) 0 (f1_25, f3_26, f4_27, f5_28, f6_29, f7_30, f8_31, f9_32, f10_33, f11_34, f12_35) hm_36) (cwV 4 hu (gV kw_311 kw_312 kw_313 kw_253 kw_314) rfl rfl rfl (by decide +kernel) ⟨Nat.le_of_ble_eq_true rfl, Nat.le_of_ble_eq_true rfl⟩) hP hD hS hA hK hG [0, 1, 2, 3, 4, 5, 6, 7, 8, 9, 10, 11, 12] (by decide) rfl [some 0, some 1, some 2, some 3, some 4, some 5, some 6, some 7, some 8, some 9, some 10, some 11, some 12] 13 rfl (by decide +kernel) rfl 11 0 rfl rfl rfl rfl hl.1 rfl (Nat.le_of_ble_eq_true rfl) dX12_box_30 (Nat.zero_le _) (Nat.zero_le _) (fun H locs hP hD hS => ?_)
  have hP : va_P (dC, dI) vwCl [(h0, .inr (11, [.int v0_wide, .int v0_tall, .ref g0_sheet, .ref g0_words, .ref g0_size, .int v0_good, .int v0_faultPlace, .int v0_made, .int v0_fills, .int v0_painted, .ref h2, .ref g0_saved, .ref g0_saves, .ref g0_at, .ref h1, .ref h3, .ref h4, .ref h5, .ref h9, .ref h10, .ref h11, .ref h12, .ref h6, .ref h7, .ref h8, .ref g0_both, .ref g0_cut, .int v0_other])), (h1, .inl (cI, 2, .inl f1_25)), (h2, .inl (cI, 24, .inl f2)), (h3, .inl (cI, 2000, .inl f3_26)), (h4, .inl (cI, 2000, .inl f4_27)), (h5, .inl (cZ, 2000, .inl f5_28)), (h6, .inl (cI, 2, .inl f6_29)), (h7, .inl (cI, 2, .inl f7_30)), (h8, .inl (cI, 2, .inl f8_31)), (h9, .inl (cZ, 2, .inl f9_32)), (h10, .inl (cI, 2, .inl f10_33)), (h11, .inl (cI, 2, .inl f11_34)), (h12, .inl (cI, 2, .inl f12_35))] H := hP
  have hD : va_D A [(h0, .inr (11, [.int v0_wide, .int v0_tall, .ref g0_sheet, .ref g0_words, .ref g0_size, .int v0_good, .int v0_faultPlace, .int v0_made, .int v0_fills, .int v0_painted, .ref h2, .ref g0_saved, .ref g0_saves, .ref g0_at, .ref h1, .ref h3, .ref h4, .ref h5, .ref h9, .ref h10, .ref h11, .ref h12, .ref h6, .ref h7, .ref h8, .ref g0_both, .ref g0_cut, .int v0_other])), (h1, .inl (cI, 2, .inl f1_25)), (h2, .inl (cI, 24, .inl f2)), (h3, .inl (cI, 2000, .inl f3_26)), (h4, .inl (cI, 2000, .inl f4_27)), (h5, .inl (cZ, 2000, .inl f5_28)), (h6, .inl (cI, 2, .inl f6_29)), (h7, .inl (cI, 2, .inl f7_30)), (h8, .inl (cI, 2, .inl f8_31)), (h9, .inl (cZ, 2, .inl f9_32)), (h10, .inl (cI, 2, .inl f10_33)), (h11, .inl (cI, 2, .inl f11_34)), (h12, .inl (cI, 2, .inl f12_35))] := hD
  refine lv_aload_n hx hb dX12_box_33 rfl (lv_at hl 0 rfl) ?_
  refine lv_iload_n hx hb dX12_box_34 rfl (lv_at hl 1 rfl) ?_
  refine lv_iload_n hx hb dX12_box_35 rfl (lv_at hl 2 rfl) ?_
  refine lv_iload_n hx hb dX12_box_36 rfl (lv_at hl 3 rfl) ?_
  refine lv_iload hx hb dX12_box_37 (lv_at hl 5 rfl) ?_
  refine lv_iadd hx hb dX12_box_39 ?_
  refine lv_iconst (v := 0) hx hb dX12_box_40 (by decide) ?_
  obtain ⟨f1_37, f3_38, f4_39, f5_40, f6_41, f7_42, f8_43, f9_44, f10_45, f11_46, f12_47, hm_48, hM⟩ := bd11_u hM
  refine cVv (As := [.int p1, .int p2, .int (p3 + p5), .int 0]) (rest := []) ⟨hx, hb, hml, hown, hu⟩ (c_X12_point l dC dI cI cZ cO tL H.size h0 h1 h2 h3 h4 h5 h6 h7 h8 h9 h10 h11 h12 g0_sheet g0_words g0_size g0_saved g0_saves g0_at g0_both g0_cut v0_wide v0_tall v0_good v0_faultPlace v0_made v0_fills v0_painted v0_other f1_25 f2 f3_26 f4_27 f5_28 f6_29 f7_30 f8_31 f9_32 f10_33 f11_34 f12_35 p1 p2 (p3 + p5) 0 (f1_37, f3_38, f4_39, f5_40, f6_41, f7_42, f8_43, f9_44, f10_45, f11_46, f12_47) hm_48) (cwV 4 hu (gV kw_311 kw_312 kw_313 kw_253 kw_314) rfl rfl rfl (by decide +kernel) ⟨Nat.le_of_ble_eq_true rfl, Nat.le_of_ble_eq_true rfl⟩) hP hD hS hA hK hG [0, 1, 2, 3, 4, 5, 6, 7, 8, 9, 10, 11, 12] (by decide) rfl [some 0, some 1, some 2, some 3, some 4, some 5, some 6, some 7, some 8, some 9, some 10, some 11, some 12] 13 rfl (by decide +kernel) rfl 11 0 rfl rfl rfl rfl hl.1 rfl (Nat.le_of_ble_eq_true rfl) dX12_box_41 (Nat.zero_le _) (Nat.zero_le _) (fun H locs hP hD hS => ?_)
  have hP : va_P (dC, dI) vwCl [(h0, .inr (11, [.int v0_wide, .int v0_tall, .ref g0_sheet, .ref g0_words, .ref g0_size, .int v0_good, .int v0_faultPlace, .int v0_made, .int v0_fills, .int v0_painted, .ref h2, .ref g0_saved, .ref g0_saves, .ref g0_at, .ref h1, .ref h3, .ref h4, .ref h5, .ref h9, .ref h10, .ref h11, .ref h12, .ref h6, .ref h7, .ref h8, .ref g0_both, .ref g0_cut, .int v0_other])), (h1, .inl (cI, 2, .inl f1_37)), (h2, .inl (cI, 24, .inl f2)), (h3, .inl (cI, 2000, .inl f3_38)), (h4, .inl (cI, 2000, .inl f4_39)), (h5, .inl (cZ, 2000, .inl f5_40)), (h6, .inl (cI, 2, .inl f6_41)), (h7, .inl (cI, 2, .inl f7_42)), (h8, .inl (cI, 2, .inl f8_43)), (h9, .inl (cZ, 2, .inl f9_44)), (h10, .inl (cI, 2, .inl f10_45)), (h11, .inl (cI, 2, .inl f11_46)), (h12, .inl (cI, 2, .inl f12_47))] H := hP
  have hD : va_D A [(h0, .inr (11, [.int v0_wide, .int v0_tall, .ref g0_sheet, .ref g0_words, .ref g0_size, .int v0_good, .int v0_faultPlace, .int v0_made, .int v0_fills, .int v0_painted, .ref h2, .ref g0_saved, .ref g0_saves, .ref g0_at, .ref h1, .ref h3, .ref h4, .ref h5, .ref h9, .ref h10, .ref h11, .ref h12, .ref h6, .ref h7, .ref h8, .ref g0_both, .ref g0_cut, .int v0_other])), (h1, .inl (cI, 2, .inl f1_37)), (h2, .inl (cI, 24, .inl f2)), (h3, .inl (cI, 2000, .inl f3_38)), (h4, .inl (cI, 2000, .inl f4_39)), (h5, .inl (cZ, 2000, .inl f5_40)), (h6, .inl (cI, 2, .inl f6_41)), (h7, .inl (cI, 2, .inl f7_42)), (h8, .inl (cI, 2, .inl f8_43)), (h9, .inl (cZ, 2, .inl f9_44)), (h10, .inl (cI, 2, .inl f10_45)), (h11, .inl (cI, 2, .inl f11_46)), (h12, .inl (cI, 2, .inl f12_47))] := hD
  refine lv_aload_n hx hb dX12_box_44 rfl (lv_at hl 0 rfl) ?_
  refine lv_iload_n hx hb dX12_box_45 rfl (lv_at hl 1 rfl) ?_
  obtain ⟨f1_49, f3_50, f4_51, f5_52, f10_53, f11_54, f12_55, hm_56, hM⟩ := bd7_u hM
  refine cVv (As := [.int p1]) (rest := []) ⟨hx, hb, hml, hown, hu⟩ (c_X12_close l dC dI cI cZ cO tL H.size h0 h1 h8 h3 h4 h5 h10 h6 h11 h7 h12 g0_sheet g0_words g0_size h2 g0_saved g0_saves g0_at h9 g0_both g0_cut v0_wide v0_tall v0_good v0_faultPlace v0_made v0_fills v0_painted v0_other f1_37 f8_43 f3_38 f4_39 f5_40 f10_45 f6_41 f11_46 f7_42 f12_47 p1 (f1_49, f3_50, f4_51, f5_52, f10_53, f11_54, f12_55) hm_56) (cwV 1 hu (gV kw_315 kw_316 kw_317 kw_253 kw_318) rfl rfl rfl (by decide +kernel) ⟨Nat.le_of_ble_eq_true rfl, Nat.le_of_ble_eq_true rfl⟩) hP hD hS hA hK hG [0, 1, 8, 3, 4, 5, 10, 6, 11, 7, 12] (by decide) rfl [some 0, some 1, none, some 3, some 4, some 5, some 7, some 9, some 2, none, some 6, some 8, some 10] 11 rfl (by decide +kernel) rfl 11 0 rfl rfl rfl rfl hl.1 rfl (Nat.le_of_ble_eq_true rfl) dX12_box_46 (Nat.zero_le _) (Nat.zero_le _) (fun H locs hP hD hS => ?_)
  have hP : va_P (dC, dI) vwCl [(h0, .inr (11, [.int v0_wide, .int v0_tall, .ref g0_sheet, .ref g0_words, .ref g0_size, .int v0_good, .int v0_faultPlace, .int v0_made, .int v0_fills, .int v0_painted, .ref h2, .ref g0_saved, .ref g0_saves, .ref g0_at, .ref h1, .ref h3, .ref h4, .ref h5, .ref h9, .ref h10, .ref h11, .ref h12, .ref h6, .ref h7, .ref h8, .ref g0_both, .ref g0_cut, .int v0_other])), (h1, .inl (cI, 2, .inl f1_49)), (h2, .inl (cI, 24, .inl f2)), (h3, .inl (cI, 2000, .inl f3_50)), (h4, .inl (cI, 2000, .inl f4_51)), (h5, .inl (cZ, 2000, .inl f5_52)), (h6, .inl (cI, 2, .inl f6_41)), (h7, .inl (cI, 2, .inl f7_42)), (h8, .inl (cI, 2, .inl f8_43)), (h9, .inl (cZ, 2, .inl f9_44)), (h10, .inl (cI, 2, .inl f10_53)), (h11, .inl (cI, 2, .inl f11_54)), (h12, .inl (cI, 2, .inl f12_55))] H := hP
  have hD : va_D A [(h0, .inr (11, [.int v0_wide, .int v0_tall, .ref g0_sheet, .ref g0_words, .ref g0_size, .int v0_good, .int v0_faultPlace, .int v0_made, .int v0_fills, .int v0_painted, .ref h2, .ref g0_saved, .ref g0_saves, .ref g0_at, .ref h1, .ref h3, .ref h4, .ref h5, .ref h9, .ref h10, .ref h11, .ref h12, .ref h6, .ref h7, .ref h8, .ref g0_both, .ref g0_cut, .int v0_other])), (h1, .inl (cI, 2, .inl f1_49)), (h2, .inl (cI, 24, .inl f2)), (h3, .inl (cI, 2000, .inl f3_50)), (h4, .inl (cI, 2000, .inl f4_51)), (h5, .inl (cZ, 2000, .inl f5_52)), (h6, .inl (cI, 2, .inl f6_41)), (h7, .inl (cI, 2, .inl f7_42)), (h8, .inl (cI, 2, .inl f8_43)), (h9, .inl (cZ, 2, .inl f9_44)), (h10, .inl (cI, 2, .inl f10_53)), (h11, .inl (cI, 2, .inl f11_54)), (h12, .inl (cI, 2, .inl f12_55))] := hD
  have h9 := Option.some.inj hM
  subst h9
  exact W.vret hx hb hr (fun t ht hW => QMv_mk (by rw [ht]; exact hP) (va_K.moved hW.alike hK) hD (hS.F ht)) hS.2.2 dX12_box_49
