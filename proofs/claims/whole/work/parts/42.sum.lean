theorem dX12_clear_0 : decode cX12_clear 0 = .ok (.iconst 0, 1) := by decide +kernel
theorem dX12_clear_1 : decode cX12_clear 1 = .ok (.istore_n 2, 1) := by decide +kernel
theorem dX12_clear_2 : decode cX12_clear 2 = .ok (.iload_n 2, 1) := by decide +kernel
theorem dX12_clear_3 : decode cX12_clear 3 = .ok (.sipush 1024, 3) := by decide +kernel
theorem dX12_clear_6 : decode cX12_clear 6 = .ok (.if_icmp .ge 16, 3) := by decide +kernel
theorem dX12_clear_9 : decode cX12_clear 9 = .ok (.aload_n 0, 1) := by decide +kernel
theorem dX12_clear_10 : decode cX12_clear 10 = .ok (.getfield 7, 3) := by decide +kernel
theorem dX12_clear_13 : decode cX12_clear 13 = .ok (.iload_n 2, 1) := by decide +kernel
theorem dX12_clear_14 : decode cX12_clear 14 = .ok (.iload_n 1, 1) := by decide +kernel
theorem dX12_clear_15 : decode cX12_clear 15 = .ok (.iastore, 1) := by decide +kernel
theorem dX12_clear_16 : decode cX12_clear 16 = .ok (.iinc 2 1, 3) := by decide +kernel
theorem dX12_clear_19 : decode cX12_clear 19 = .ok (.goto (-17), 3) := by decide +kernel
theorem dX12_clear_22 : decode cX12_clear 22 = .ok (.return_, 1) := by decide +kernel
abbrev rm_X12_clear : Room := { frames := 0, cells := 0, slots := 0, locals := 0 }
def w_X12_clear : List Cond := Cond.code yX12_clear cX12_clear 3 none :: uw
set_option maxHeartbeats 4000000 in
set_option maxRecDepth 100000 in
theorem c_X12_clear (l : Launch) (dC : Nat → ClassId) (dI : Nat → Nat → Nat) (cI cZ cO : ClassId) (tL sz : Nat) (h0 : Nat) (h1 : Nat) (g0_words : Nat) (g0_size : Nat) (g0_told : Nat) (g0_saved : Nat) (g0_saves : Nat) (g0_at : Nat) (g0_points : Nat) (g0_px : Nat) (g0_py : Nat) (g0_begins : Nat) (g0_begun : Nat) (g0_lines : Nat) (g0_lastX : Nat) (g0_lastY : Nat) (g0_startX : Nat) (g0_startY : Nat) (g0_startPoint : Nat) (g0_both : Nat) (g0_cut : Nat) (v0_wide : Int32) (v0_tall : Int32) (v0_good : Int32) (v0_faultPlace : Int32) (v0_made : Int32) (v0_fills : Int32) (v0_painted : Int32) (v0_other : Int32) (f1 : Nat → Int32) (p1 : Int32) (res : (Nat → Int32)) (hM : m_X12_clear f1 p1 = some res) : Met l yX12_clear w_X12_clear rm_X12_clear (PCx [.ref h0, .int p1] (dC, dI) [(cI, .int), (cZ, .boolean), (cO, .object "ListPainter$Settings")] sz tL [(h0, .inr (11, [.int v0_wide, .int v0_tall, .ref h1, .ref g0_words, .ref g0_size, .int v0_good, .int v0_faultPlace, .int v0_made, .int v0_fills, .int v0_painted, .ref g0_told, .ref g0_saved, .ref g0_saves, .ref g0_at, .ref g0_points, .ref g0_px, .ref g0_py, .ref g0_begins, .ref g0_begun, .ref g0_lines, .ref g0_lastX, .ref g0_lastY, .ref g0_startX, .ref g0_startY, .ref g0_startPoint, .ref g0_both, .ref g0_cut, .int v0_other])), (h1, .inl (cI, 1024, .inl f1))]) (QMv (dC, dI) [(cI, .int), (cZ, .boolean), (cO, .object "ListPainter$Settings")] (va_A [(h0, .inr (11, [.int v0_wide, .int v0_tall, .ref h1, .ref g0_words, .ref g0_size, .int v0_good, .int v0_faultPlace, .int v0_made, .int v0_fills, .int v0_painted, .ref g0_told, .ref g0_saved, .ref g0_saves, .ref g0_at, .ref g0_points, .ref g0_px, .ref g0_py, .ref g0_begins, .ref g0_begun, .ref g0_lines, .ref g0_lastX, .ref g0_lastY, .ref g0_startX, .ref g0_startY, .ref g0_startPoint, .ref g0_both, .ref g0_cut, .int v0_other])), (h1, .inl (cI, 1024, .inl f1))] sz) [(h0, .inr (11, [.int v0_wide, .int v0_tall, .ref h1, .ref g0_words, .ref g0_size, .int v0_good, .int v0_faultPlace, .int v0_made, .int v0_fills, .int v0_painted, .ref g0_told, .ref g0_saved, .ref g0_saves, .ref g0_at, .ref g0_points, .ref g0_px, .ref g0_py, .ref g0_begins, .ref g0_begun, .ref g0_lines, .ref g0_lastX, .ref g0_lastY, .ref g0_startX, .ref g0_startY, .ref g0_startPoint, .ref g0_both, .ref g0_cut, .int v0_other])), (h1, .inl (cI, 1024, .inl res))]) 0 0 (va_A [(h0, .inr (11, [.int v0_wide, .int v0_tall, .ref h1, .ref g0_words, .ref g0_size, .int v0_good, .int v0_faultPlace, .int v0_made, .int v0_fills, .int v0_painted, .ref g0_told, .ref g0_saved, .ref g0_saves, .ref g0_at, .ref g0_points, .ref g0_px, .ref g0_py, .ref g0_begins, .ref g0_begun, .ref g0_lines, .ref g0_lastX, .ref g0_lastY, .ref g0_startX, .ref g0_startY, .ref g0_startPoint, .ref g0_both, .ref g0_cut, .int v0_other])), (h1, .inl (cI, 1024, .inl f1))] sz) := by
  refine Met.ofW (cc := cX12_clear) (maxL := 3) (ret := none) (by decide) rfl ?_
  intro p e s m args below meth c s₁ B hml hv
  obtain ⟨rfl, hsz, hP, hK, hD0, hG⟩ := hv
  have hx := B.exec
  have hb := B.bytes
  have hr := B.returns
  have hu : ∀ w ∈ uw, w.before ([.ref h0, .int p1] : List Value).toArray s = true := fun w h => atoms_spec (ws := w_X12_clear) B.pre w (List.mem_cons_of_mem _ h)
  have hown : s.vm.findClass RX12 = some m.cls := findClass_of_methodNamed B.named
  have hlocks := B.notSynchronized
  subst hsz
  have hD := hD0.self (sz := s.heap.size)
  generalize hAe : va_A [(h0, .inr (11, [.int v0_wide, .int v0_tall, .ref h1, .ref g0_words, .ref g0_size, .int v0_good, .int v0_faultPlace, .int v0_made, .int v0_fills, .int v0_painted, .ref g0_told, .ref g0_saved, .ref g0_saves, .ref g0_at, .ref g0_points, .ref g0_px, .ref g0_py, .ref g0_begins, .ref g0_begun, .ref g0_lines, .ref g0_lastX, .ref g0_lastY, .ref g0_startX, .ref g0_startY, .ref g0_startPoint, .ref g0_both, .ref g0_cut, .int v0_other])), (h1, .inl (cI, 1024, .inl f1))] s.heap.size = A at hD hG ⊢
  have hA : ∀ q : Nat, s.heap.size ≤ q → A q := fun q h => by rw [← hAe]; exact Or.inr h
  have hS : va_S A s.heap s.heap [] := va_S.rf
  have hP : va_P (dC, dI) vwCl [(h0, .inr (11, [.int v0_wide, .int v0_tall, .ref h1, .ref g0_words, .ref g0_size, .int v0_good, .int v0_faultPlace, .int v0_made, .int v0_fills, .int v0_painted, .ref g0_told, .ref g0_saved, .ref g0_saves, .ref g0_at, .ref g0_points, .ref g0_px, .ref g0_py, .ref g0_begins, .ref g0_begun, .ref g0_lines, .ref g0_lastX, .ref g0_lastY, .ref g0_startX, .ref g0_startY, .ref g0_startPoint, .ref g0_both, .ref g0_cut, .int v0_other])), (h1, .inl (cI, 1024, .inl f1))] s.heap := hP
  have hl := lv_entry ([.ref h0, .int p1]) (n := 3) (Nat.le_of_ble_eq_true rfl)
  rw [lg_entry_eq]
  generalize (lg_sl ([.ref h0, .int p1]) ++ List.replicate (3 - (lg_sl ([.ref h0, .int p1])).length) Slot.unset).toArray = ls at hl ⊢
  have hl : lv_has ls 3 [(0, .ref h0), (1, .int p1)] := hl
  rw [m_X12_clear] at hM
  suffices hgo : ∀ (H : Heap) (locs : List Loc), va_P (dC, dI) vwCl [(h0, .inr (11, [.int v0_wide, .int v0_tall, .ref h1, .ref g0_words, .ref g0_size, .int v0_good, .int v0_faultPlace, .int v0_made, .int v0_fills, .int v0_painted, .ref g0_told, .ref g0_saved, .ref g0_saves, .ref g0_at, .ref g0_points, .ref g0_px, .ref g0_py, .ref g0_begins, .ref g0_begun, .ref g0_lines, .ref g0_lastX, .ref g0_lastY, .ref g0_startX, .ref g0_startY, .ref g0_startPoint, .ref g0_both, .ref g0_cut, .int v0_other])), (h1, .inl (cI, 1024, .inl f1))] H → va_D A [(h0, .inr (11, [.int v0_wide, .int v0_tall, .ref h1, .ref g0_words, .ref g0_size, .int v0_good, .int v0_faultPlace, .int v0_made, .int v0_fills, .int v0_painted, .ref g0_told, .ref g0_saved, .ref g0_saves, .ref g0_at, .ref g0_points, .ref g0_px, .ref g0_py, .ref g0_begins, .ref g0_begun, .ref g0_lines, .ref g0_lastX, .ref g0_lastY, .ref g0_startX, .ref g0_startY, .ref g0_startPoint, .ref g0_both, .ref g0_cut, .int v0_other])), (h1, .inl (cI, 1024, .inl f1))] → va_S A s.heap H locs → W p l e (headSpec w_X12_clear rm_X12_clear).room s m ([.ref h0, .int p1] : List Value).toArray below meth c H locs 0 0 (MQ below (QMv (dC, dI) [(cI, .int), (cZ, .boolean), (cO, .object "ListPainter$Settings")] A [(h0, .inr (11, [.int v0_wide, .int v0_tall, .ref h1, .ref g0_words, .ref g0_size, .int v0_good, .int v0_faultPlace, .int v0_made, .int v0_fills, .int v0_painted, .ref g0_told, .ref g0_saved, .ref g0_saves, .ref g0_at, .ref g0_points, .ref g0_px, .ref g0_py, .ref g0_begins, .ref g0_begun, .ref g0_lines, .ref g0_lastX, .ref g0_lastY, .ref g0_startX, .ref g0_startY, .ref g0_startPoint, .ref g0_both, .ref g0_cut, .int v0_other])), (h1, .inl (cI, 1024, .inl res))]) ([.ref h0, .int p1] : List Value).toArray s 0 0 A) (F0 m 0 ls []) from hgo _ _ hP hD hS
  intro H locs hP hD hS
  refine lv_iconst (v := 0) hx hb dX12_clear_0 (by decide) ?_
  refine lv_istore_n (lv' := [(2, .int 0), (0, .ref h0), (1, .int p1)]) hx hb dX12_clear_1 rfl hl (by decide) rfl (fun ls hl => ?_)
  have hL2_3 : ∀ (n : Nat) (l2_1 : Int32) (f1_2 : Nat → Int32) , ∀ (H : Heap) (locs : List Loc) (ls : Array Slot), va_P (dC, dI) vwCl [(h0, .inr (11, [.int v0_wide, .int v0_tall, .ref h1, .ref g0_words, .ref g0_size, .int v0_good, .int v0_faultPlace, .int v0_made, .int v0_fills, .int v0_painted, .ref g0_told, .ref g0_saved, .ref g0_saves, .ref g0_at, .ref g0_points, .ref g0_px, .ref g0_py, .ref g0_begins, .ref g0_begun, .ref g0_lines, .ref g0_lastX, .ref g0_lastY, .ref g0_startX, .ref g0_startY, .ref g0_startPoint, .ref g0_both, .ref g0_cut, .int v0_other])), (h1, .inl (cI, 1024, .inl f1_2))] H → va_D A [(h0, .inr (11, [.int v0_wide, .int v0_tall, .ref h1, .ref g0_words, .ref g0_size, .int v0_good, .int v0_faultPlace, .int v0_made, .int v0_fills, .int v0_painted, .ref g0_told, .ref g0_saved, .ref g0_saves, .ref g0_at, .ref g0_points, .ref g0_px, .ref g0_py, .ref g0_begins, .ref g0_begun, .ref g0_lines, .ref g0_lastX, .ref g0_lastY, .ref g0_startX, .ref g0_startY, .ref g0_startPoint, .ref g0_both, .ref g0_cut, .int v0_other])), (h1, .inl (cI, 1024, .inl f1_2))] → va_S A s.heap H locs → lv_has ls 3 [(0, .ref h0), (1, .int p1), (2, .int l2_1)] → lp_X12_clear_2 p1 n l2_1 f1_2 = some res → W p l e (headSpec w_X12_clear rm_X12_clear).room s m ([.ref h0, .int p1] : List Value).toArray below meth c H locs 0 0 (MQ below (QMv (dC, dI) [(cI, .int), (cZ, .boolean), (cO, .object "ListPainter$Settings")] A [(h0, .inr (11, [.int v0_wide, .int v0_tall, .ref h1, .ref g0_words, .ref g0_size, .int v0_good, .int v0_faultPlace, .int v0_made, .int v0_fills, .int v0_painted, .ref g0_told, .ref g0_saved, .ref g0_saves, .ref g0_at, .ref g0_points, .ref g0_px, .ref g0_py, .ref g0_begins, .ref g0_begun, .ref g0_lines, .ref g0_lastX, .ref g0_lastY, .ref g0_startX, .ref g0_startY, .ref g0_startPoint, .ref g0_both, .ref g0_cut, .int v0_other])), (h1, .inl (cI, 1024, .inl res))]) ([.ref h0, .int p1] : List Value).toArray s 0 0 A) (F0 m 2 ls []) := by
    intro n
    induction n with
    | zero =>
      intro l2_1 f1_2 H locs ls hP hD hS hl hM
      rw [lp_X12_clear_2] at hM
      exact lp0 hM
    | succ n2_3 ih2_3 =>
      intro l2_1 f1_2 H locs ls hP hD hS hl hM
      rw [lp_X12_clear_2] at hM
      refine lv_iload_n hx hb dX12_clear_2 rfl (lv_at hl 2 rfl) ?_
      refine lv_sipush (v := 1024) hx hb dX12_clear_3 (by decide) ?_
      refine lv_icmp_ge (tgt := 22) hx hb dX12_clear_6 (by decide) (fun c_4 => ?_) (fun c_4 => ?_)
      · have hM := if_t c_4 hM
        have h9 := Option.some.inj hM
        subst h9
        exact W.vret hx hb hr (fun t ht hW => QMv_mk (by rw [ht]; exact hP) (va_K.moved hW.alike hK) hD (hS.F ht)) hS.2.2 dX12_clear_22
      · have hM := if_f c_4 hM
        refine lv_aload_n hx hb dX12_clear_9 rfl (lv_at hl 0 rfl) ?_
        refine va_get (D := (dC, dI)) (ci := 11) (v := .ref h1) (C := RX12) (T := TX12) (N := 28) hx hb hu inX12 hown hK hP 0 rfl rfl 2 (by decide) (hu _ kw_372) (fun _ h9 => h9) rfl dX12_clear_10 ?_
        refine lv_iload_n hx hb dX12_clear_13 rfl (lv_at hl 2 rfl) ?_
        refine lv_iload_n hx hb dX12_clear_14 rfl (lv_at hl 1 rfl) ?_
        obtain ⟨g_5, hM⟩ := gd_u hM
        refine va_iast hx hb hK hP hD hS 1 0 rfl rfl (inb_v g_5) dX12_clear_15 (fun H locs hP hD hS => ?_)
        obtain ⟨f1_6, ef1_6⟩ : ∃ g : Nat → Int32, g = upd f1_2 (l2_1 : Int32).toNatClampNeg p1 := ⟨_, rfl⟩
        have hM := nm_u ef1_6 hM
        have hP : va_P (dC, dI) vwCl [(h0, .inr (11, [.int v0_wide, .int v0_tall, .ref h1, .ref g0_words, .ref g0_size, .int v0_good, .int v0_faultPlace, .int v0_made, .int v0_fills, .int v0_painted, .ref g0_told, .ref g0_saved, .ref g0_saves, .ref g0_at, .ref g0_points, .ref g0_px, .ref g0_py, .ref g0_begins, .ref g0_begun, .ref g0_lines, .ref g0_lastX, .ref g0_lastY, .ref g0_startX, .ref g0_startY, .ref g0_startPoint, .ref g0_both, .ref g0_cut, .int v0_other])), (h1, .inl (cI, 1024, .inl f1_6))] H := by rw [ef1_6]; exact hP
        have hD : va_D A [(h0, .inr (11, [.int v0_wide, .int v0_tall, .ref h1, .ref g0_words, .ref g0_size, .int v0_good, .int v0_faultPlace, .int v0_made, .int v0_fills, .int v0_painted, .ref g0_told, .ref g0_saved, .ref g0_saves, .ref g0_at, .ref g0_points, .ref g0_px, .ref g0_py, .ref g0_begins, .ref g0_begun, .ref g0_lines, .ref g0_lastX, .ref g0_lastY, .ref g0_startX, .ref g0_startY, .ref g0_startPoint, .ref g0_both, .ref g0_cut, .int v0_other])), (h1, .inl (cI, 1024, .inl f1_6))] := by rw [ef1_6]; exact hD
        obtain ⟨x_7, ex_7⟩ : ∃ y : Int32, y = l2_1 + 1 := ⟨_, rfl⟩
        have hM := nm_u ex_7 hM
        refine lv_iinc (v := x_7) (lv' := [(2, .int x_7), (0, .ref h0), (1, .int p1)]) hx hb dX12_clear_16 hl (k := 2) rfl (by rw [ex_7]; rfl) (by decide) rfl (fun ls hl => ?_)
        refine lv_goto (tgt := 2) hx hb dX12_clear_19 (by decide) ?_
        exact ih2_3 x_7 f1_6 H locs ls hP hD hS (lv_sub hl [1, 2, 0] rfl) hM
  exact hL2_3 FU 0 f1 H locs ls hP hD hS (lv_sub hl [1, 2, 0] rfl) hM
theorem dX12_sum_0 : decode cX12_sum 0 = .ok (.iconst 1, 1) := by decide +kernel
theorem dX12_sum_1 : decode cX12_sum 1 = .ok (.istore_n 1, 1) := by decide +kernel
theorem dX12_sum_2 : decode cX12_sum 2 = .ok (.iconst 0, 1) := by decide +kernel
theorem dX12_sum_3 : decode cX12_sum 3 = .ok (.istore_n 2, 1) := by decide +kernel
theorem dX12_sum_4 : decode cX12_sum 4 = .ok (.iload_n 2, 1) := by decide +kernel
theorem dX12_sum_5 : decode cX12_sum 5 = .ok (.aload_n 0, 1) := by decide +kernel
theorem dX12_sum_6 : decode cX12_sum 6 = .ok (.getfield 78, 3) := by decide +kernel
theorem dX12_sum_9 : decode cX12_sum 9 = .ok (.if_icmp .ge 42, 3) := by decide +kernel
theorem dX12_sum_12 : decode cX12_sum 12 = .ok (.iconst 0, 1) := by decide +kernel
theorem dX12_sum_13 : decode cX12_sum 13 = .ok (.istore_n 3, 1) := by decide +kernel
theorem dX12_sum_14 : decode cX12_sum 14 = .ok (.iload_n 3, 1) := by decide +kernel
theorem dX12_sum_15 : decode cX12_sum 15 = .ok (.aload_n 0, 1) := by decide +kernel
theorem dX12_sum_16 : decode cX12_sum 16 = .ok (.getfield 75, 3) := by decide +kernel
theorem dX12_sum_19 : decode cX12_sum 19 = .ok (.if_icmp .ge 26, 3) := by decide +kernel
theorem dX12_sum_22 : decode cX12_sum 22 = .ok (.bipush 31, 2) := by decide +kernel
theorem dX12_sum_24 : decode cX12_sum 24 = .ok (.iload_n 1, 1) := by decide +kernel
theorem dX12_sum_25 : decode cX12_sum 25 = .ok (.imul, 1) := by decide +kernel
theorem dX12_sum_26 : decode cX12_sum 26 = .ok (.aload_n 0, 1) := by decide +kernel
theorem dX12_sum_27 : decode cX12_sum 27 = .ok (.getfield 7, 3) := by decide +kernel
theorem dX12_sum_30 : decode cX12_sum 30 = .ok (.bipush 32, 2) := by decide +kernel
theorem dX12_sum_32 : decode cX12_sum 32 = .ok (.iload_n 2, 1) := by decide +kernel
theorem dX12_sum_33 : decode cX12_sum 33 = .ok (.imul, 1) := by decide +kernel
theorem dX12_sum_34 : decode cX12_sum 34 = .ok (.iload_n 3, 1) := by decide +kernel
theorem dX12_sum_35 : decode cX12_sum 35 = .ok (.iadd, 1) := by decide +kernel
theorem dX12_sum_36 : decode cX12_sum 36 = .ok (.iaload, 1) := by decide +kernel
theorem dX12_sum_37 : decode cX12_sum 37 = .ok (.iadd, 1) := by decide +kernel
theorem dX12_sum_38 : decode cX12_sum 38 = .ok (.istore_n 1, 1) := by decide +kernel
theorem dX12_sum_39 : decode cX12_sum 39 = .ok (.iinc 3 1, 3) := by decide +kernel
theorem dX12_sum_42 : decode cX12_sum 42 = .ok (.goto (-28), 3) := by decide +kernel
theorem dX12_sum_45 : decode cX12_sum 45 = .ok (.iinc 2 1, 3) := by decide +kernel
theorem dX12_sum_48 : decode cX12_sum 48 = .ok (.goto (-44), 3) := by decide +kernel
theorem dX12_sum_51 : decode cX12_sum 51 = .ok (.iload_n 1, 1) := by decide +kernel
theorem dX12_sum_52 : decode cX12_sum 52 = .ok (.ireturn, 1) := by decide +kernel
abbrev rm_X12_sum : Room := { frames := 0, cells := 0, slots := 0, locals := 0 }
def w_X12_sum : List Cond := Cond.code yX12_sum cX12_sum 4 (some .int) :: uw
set_option maxHeartbeats 4000000 in
set_option maxRecDepth 100000 in
theorem c_X12_sum (l : Launch) (dC : Nat → ClassId) (dI : Nat → Nat → Nat) (cI cZ cO : ClassId) (tL sz : Nat) (h0 : Nat) (h1 : Nat) (g0_words : Nat) (g0_size : Nat) (g0_told : Nat) (g0_saved : Nat) (g0_saves : Nat) (g0_at : Nat) (g0_points : Nat) (g0_px : Nat) (g0_py : Nat) (g0_begins : Nat) (g0_begun : Nat) (g0_lines : Nat) (g0_lastX : Nat) (g0_lastY : Nat) (g0_startX : Nat) (g0_startY : Nat) (g0_startPoint : Nat) (g0_both : Nat) (g0_cut : Nat) (v0_wide : Int32) (v0_tall : Int32) (v0_good : Int32) (v0_faultPlace : Int32) (v0_made : Int32) (v0_fills : Int32) (v0_painted : Int32) (v0_other : Int32) (f1 : Nat → Int32) (res : Int32) (hM : m_X12_sum v0_wide v0_tall f1 = some res) : Met l yX12_sum w_X12_sum rm_X12_sum (PCx [.ref h0] (dC, dI) [(cI, .int), (cZ, .boolean), (cO, .object "ListPainter$Settings")] sz tL [(h0, .inr (11, [.int v0_wide, .int v0_tall, .ref h1, .ref g0_words, .ref g0_size, .int v0_good, .int v0_faultPlace, .int v0_made, .int v0_fills, .int v0_painted, .ref g0_told, .ref g0_saved, .ref g0_saves, .ref g0_at, .ref g0_points, .ref g0_px, .ref g0_py, .ref g0_begins, .ref g0_begun, .ref g0_lines, .ref g0_lastX, .ref g0_lastY, .ref g0_startX, .ref g0_startY, .ref g0_startPoint, .ref g0_both, .ref g0_cut, .int v0_other])), (h1, .inl (cI, 1024, .inl f1))]) (QMi res (dC, dI) [(cI, .int), (cZ, .boolean), (cO, .object "ListPainter$Settings")] (va_A [(h0, .inr (11, [.int v0_wide, .int v0_tall, .ref h1, .ref g0_words, .ref g0_size, .int v0_good, .int v0_faultPlace, .int v0_made, .int v0_fills, .int v0_painted, .ref g0_told, .ref g0_saved, .ref g0_saves, .ref g0_at, .ref g0_points, .ref g0_px, .ref g0_py, .ref g0_begins, .ref g0_begun, .ref g0_lines, .ref g0_lastX, .ref g0_lastY, .ref g0_startX, .ref g0_startY, .ref g0_startPoint, .ref g0_both, .ref g0_cut, .int v0_other])), (h1, .inl (cI, 1024, .inl f1))] sz) [(h0, .inr (11, [.int v0_wide, .int v0_tall, .ref h1, .ref g0_words, .ref g0_size, .int v0_good, .int v0_faultPlace, .int v0_made, .int v0_fills, .int v0_painted, .ref g0_told, .ref g0_saved, .ref g0_saves, .ref g0_at, .ref g0_points, .ref g0_px, .ref g0_py, .ref g0_begins, .ref g0_begun, .ref g0_lines, .ref g0_lastX, .ref g0_lastY, .ref g0_startX, .ref g0_startY, .ref g0_startPoint, .ref g0_both, .ref g0_cut, .int v0_other])), (h1, .inl (cI, 1024, .inl f1))]) 0 0 (va_A [(h0, .inr (11, [.int v0_wide, .int v0_tall, .ref h1, .ref g0_words, .ref g0_size, .int v0_good, .int v0_faultPlace, .int v0_made, .int v0_fills, .int v0_painted, .ref g0_told, .ref g0_saved, .ref g0_saves, .ref g0_at, .ref g0_points, .ref g0_px, .ref g0_py, .ref g0_begins, .ref g0_begun, .ref g0_lines, .ref g0_lastX, .ref g0_lastY, .ref g0_startX, .ref g0_startY, .ref g0_startPoint, .ref g0_both, .ref g0_cut, .int v0_other])), (h1, .inl (cI, 1024, .inl f1))] sz) := by
  refine Met.ofW (cc := cX12_sum) (maxL := 4) (ret := (some .int)) (by decide) rfl ?_
  intro p e s m args below meth c s₁ B hml hv
  obtain ⟨rfl, hsz, hP, hK, hD0, hG⟩ := hv
  have hx := B.exec
  have hb := B.bytes
  have hr := B.returns
  have hu : ∀ w ∈ uw, w.before ([.ref h0] : List Value).toArray s = true := fun w h => atoms_spec (ws := w_X12_sum) B.pre w (List.mem_cons_of_mem _ h)
  have hown : s.vm.findClass RX12 = some m.cls := findClass_of_methodNamed B.named
  have hlocks := B.notSynchronized
  subst hsz
  have hD := hD0.self (sz := s.heap.size)
  generalize hAe : va_A [(h0, .inr (11, [.int v0_wide, .int v0_tall, .ref h1, .ref g0_words, .ref g0_size, .int v0_good, .int v0_faultPlace, .int v0_made, .int v0_fills, .int v0_painted, .ref g0_told, .ref g0_saved, .ref g0_saves, .ref g0_at, .ref g0_points, .ref g0_px, .ref g0_py, .ref g0_begins, .ref g0_begun, .ref g0_lines, .ref g0_lastX, .ref g0_lastY, .ref g0_startX, .ref g0_startY, .ref g0_startPoint, .ref g0_both, .ref g0_cut, .int v0_other])), (h1, .inl (cI, 1024, .inl f1))] s.heap.size = A at hD hG ⊢
  have hA : ∀ q : Nat, s.heap.size ≤ q → A q := fun q h => by rw [← hAe]; exact Or.inr h
  have hS : va_S A s.heap s.heap [] := va_S.rf
  have hP : va_P (dC, dI) vwCl [(h0, .inr (11, [.int v0_wide, .int v0_tall, .ref h1, .ref g0_words, .ref g0_size, .int v0_good, .int v0_faultPlace, .int v0_made, .int v0_fills, .int v0_painted, .ref g0_told, .ref g0_saved, .ref g0_saves, .ref g0_at, .ref g0_points, .ref g0_px, .ref g0_py, .ref g0_begins, .ref g0_begun, .ref g0_lines, .ref g0_lastX, .ref g0_lastY, .ref g0_startX, .ref g0_startY, .ref g0_startPoint, .ref g0_both, .ref g0_cut, .int v0_other])), (h1, .inl (cI, 1024, .inl f1))] s.heap := hP
  have hl := lv_entry ([.ref h0]) (n := 4) (Nat.le_of_ble_eq_true rfl)
  rw [lg_entry_eq]
  generalize (lg_sl ([.ref h0]) ++ List.replicate (4 - (lg_sl ([.ref h0])).length) Slot.unset).toArray = ls at hl ⊢
  have hl : lv_has ls 4 [(0, .ref h0)] := hl
  rw [m_X12_sum] at hM
  suffices hgo : ∀ (H : Heap) (locs : List Loc), va_P (dC, dI) vwCl [(h0, .inr (11, [.int v0_wide, .int v0_tall, .ref h1, .ref g0_words, .ref g0_size, .int v0_good, .int v0_faultPlace, .int v0_made, .int v0_fills, .int v0_painted, .ref g0_told, .ref g0_saved, .ref g0_saves, .ref g0_at, .ref g0_points, .ref g0_px, .ref g0_py, .ref g0_begins, .ref g0_begun, .ref g0_lines, .ref g0_lastX, .ref g0_lastY, .ref g0_startX, .ref g0_startY, .ref g0_startPoint, .ref g0_both, .ref g0_cut, .int v0_other])), (h1, .inl (cI, 1024, .inl f1))] H → va_D A [(h0, .inr (11, [.int v0_wide, .int v0_tall, .ref h1, .ref g0_words, .ref g0_size, .int v0_good, .int v0_faultPlace, .int v0_made, .int v0_fills, .int v0_painted, .ref g0_told, .ref g0_saved, .ref g0_saves, .ref g0_at, .ref g0_points, .ref g0_px, .ref g0_py, .ref g0_begins, .ref g0_begun, .ref g0_lines, .ref g0_lastX, .ref g0_lastY, .ref g0_startX, .ref g0_startY, .ref g0_startPoint, .ref g0_both, .ref g0_cut, .int v0_other])), (h1, .inl (cI, 1024, .inl f1))] → va_S A s.heap H locs → W p l e (headSpec w_X12_sum rm_X12_sum).room s m ([.ref h0] : List Value).toArray below meth c H locs 0 0 (MQ below (QMi res (dC, dI) [(cI, .int), (cZ, .boolean), (cO, .object "ListPainter$Settings")] A [(h0, .inr (11, [.int v0_wide, .int v0_tall, .ref h1, .ref g0_words, .ref g0_size, .int v0_good, .int v0_faultPlace, .int v0_made, .int v0_fills, .int v0_painted, .ref g0_told, .ref g0_saved, .ref g0_saves, .ref g0_at, .ref g0_points, .ref g0_px, .ref g0_py, .ref g0_begins, .ref g0_begun, .ref g0_lines, .ref g0_lastX, .ref g0_lastY, .ref g0_startX, .ref g0_startY, .ref g0_startPoint, .ref g0_both, .ref g0_cut, .int v0_other])), (h1, .inl (cI, 1024, .inl f1))]) ([.ref h0] : List Value).toArray s 0 0 A) (F0 m 0 ls []) from hgo _ _ hP hD hS
  intro H locs hP hD hS
  refine lv_iconst (v := 1) hx hb dX12_sum_0 (by decide) ?_
  refine lv_istore_n (lv' := [(1, .int 1), (0, .ref h0)]) hx hb dX12_sum_1 rfl hl (by decide) rfl (fun ls hl => ?_)
  refine lv_iconst (v := 0) hx hb dX12_sum_2 (by decide) ?_
  refine lv_istore_n (lv' := [(2, .int 0), (1, .int 1), (0, .ref h0)]) hx hb dX12_sum_3 rfl hl (by decide) rfl (fun ls hl => ?_)
  have hL4_3 : ∀ (n : Nat) (l1_1 : Int32) (l2_2 : Int32) , ∀ (H : Heap) (locs : List Loc) (ls : Array Slot), va_P (dC, dI) vwCl [(h0, .inr (11, [.int v0_wide, .int v0_tall, .ref h1, .ref g0_words, .ref g0_size, .int v0_good, .int v0_faultPlace, .int v0_made, .int v0_fills, .int v0_painted, .ref g0_told, .ref g0_saved, .ref g0_saves, .ref g0_at, .ref g0_points, .ref g0_px, .ref g0_py, .ref g0_begins, .ref g0_begun, .ref g0_lines, .ref g0_lastX, .ref g0_lastY, .ref g0_startX, .ref g0_startY, .ref g0_startPoint, .ref g0_both, .ref g0_cut, .int v0_other])), (h1, .inl (cI, 1024, .inl f1))] H → va_D A [(h0, .inr (11, [.int v0_wide, .int v0_tall, .ref h1, .ref g0_words, .ref g0_size, .int v0_good, .int v0_faultPlace, .int v0_made, .int v0_fills, .int v0_painted, .ref g0_told, .ref g0_saved, .ref g0_saves, .ref g0_at, .ref g0_points, .ref g0_px, .ref g0_py, .ref g0_begins, .ref g0_begun, .ref g0_lines, .ref g0_lastX, .ref g0_lastY, .ref g0_startX, .ref g0_startY, .ref g0_startPoint, .ref g0_both, .ref g0_cut, .int v0_other])), (h1, .inl (cI, 1024, .inl f1))] → va_S A s.heap H locs → lv_has ls 4 [(0, .ref h0), (1, .int l1_1), (2, .int l2_2)] → lp_X12_sum_4 v0_tall v0_wide f1 n l1_1 l2_2 = some res → W p l e (headSpec w_X12_sum rm_X12_sum).room s m ([.ref h0] : List Value).toArray below meth c H locs 0 0 (MQ below (QMi res (dC, dI) [(cI, .int), (cZ, .boolean), (cO, .object "ListPainter$Settings")] A [(h0, .inr (11, [.int v0_wide, .int v0_tall, .ref h1, .ref g0_words, .ref g0_size, .int v0_good, .int v0_faultPlace, .int v0_made, .int v0_fills, .int v0_painted, .ref g0_told, .ref g0_saved, .ref g0_saves, .ref g0_at, .ref g0_points, .ref g0_px, .ref g0_py, .ref g0_begins, .ref g0_begun, .ref g0_lines, .ref g0_lastX, .ref g0_lastY, .ref g0_startX, .ref g0_startY, .ref g0_startPoint, .ref g0_both, .ref g0_cut, .int v0_other])), (h1, .inl (cI, 1024, .inl f1))]) ([.ref h0] : List Value).toArray s 0 0 A) (F0 m 4 ls []) := by
    intro n
    induction n with
    | zero =>
      intro l1_1 l2_2 H locs ls hP hD hS hl hM
      rw [lp_X12_sum_4] at hM
      exact lp0 hM
    | succ n4_3 ih4_3 =>
      intro l1_1 l2_2 H locs ls hP hD hS hl hM
      rw [lp_X12_sum_4] at hM
      refine lv_iload_n hx hb dX12_sum_4 rfl (lv_at hl 2 rfl) ?_
      refine lv_aload_n hx hb dX12_sum_5 rfl (lv_at hl 0 rfl) ?_
      refine va_get (D := (dC, dI)) (ci := 11) (v := .int v0_tall) (C := RX12) (T := TX12) (N := 28) hx hb hu inX12 hown hK hP 0 rfl rfl 1 (by decide) (hu _ kw_279) (fun _ h9 => h9) rfl dX12_sum_6 ?_
      refine lv_icmp_ge (tgt := 51) hx hb dX12_sum_9 (by decide) (fun c_4 => ?_) (fun c_4 => ?_)
      · have hM := if_t c_4 hM
        refine lv_iload_n hx hb dX12_sum_51 rfl (lv_at hl 1 rfl) ?_
        have h9 := Option.some.inj hM
        subst h9
        exact W.iret (v := l1_1) hx hb hr (fun t ht hW => QMi_mk (by rw [ht]; exact hP) (va_K.moved hW.alike hK) hD (hS.F ht)) hS.2.2 dX12_sum_52
      · have hM := if_f c_4 hM
        refine lv_iconst (v := 0) hx hb dX12_sum_12 (by decide) ?_
        refine lv_istore_n (lv' := [(3, .int 0), (0, .ref h0), (1, .int l1_1), (2, .int l2_2)]) hx hb dX12_sum_13 rfl hl (by decide) rfl (fun ls hl => ?_)
        obtain ⟨K45_6, eK45_6, hM⟩ := jn_u hM
        have hJ45_6 : ∀ (l1_5 : Int32) , ∀ (H : Heap) (locs : List Loc) (ls : Array Slot), va_P (dC, dI) vwCl [(h0, .inr (11, [.int v0_wide, .int v0_tall, .ref h1, .ref g0_words, .ref g0_size, .int v0_good, .int v0_faultPlace, .int v0_made, .int v0_fills, .int v0_painted, .ref g0_told, .ref g0_saved, .ref g0_saves, .ref g0_at, .ref g0_points, .ref g0_px, .ref g0_py, .ref g0_begins, .ref g0_begun, .ref g0_lines, .ref g0_lastX, .ref g0_lastY, .ref g0_startX, .ref g0_startY, .ref g0_startPoint, .ref g0_both, .ref g0_cut, .int v0_other])), (h1, .inl (cI, 1024, .inl f1))] H → va_D A [(h0, .inr (11, [.int v0_wide, .int v0_tall, .ref h1, .ref g0_words, .ref g0_size, .int v0_good, .int v0_faultPlace, .int v0_made, .int v0_fills, .int v0_painted, .ref g0_told, .ref g0_saved, .ref g0_saves, .ref g0_at, .ref g0_points, .ref g0_px, .ref g0_py, .ref g0_begins, .ref g0_begun, .ref g0_lines, .ref g0_lastX, .ref g0_lastY, .ref g0_startX, .ref g0_startY, .ref g0_startPoint, .ref g0_both, .ref g0_cut, .int v0_other])), (h1, .inl (cI, 1024, .inl f1))] → va_S A s.heap H locs → lv_has ls 4 [(0, .ref h0), (1, .int l1_5), (2, .int l2_2)] → K45_6 l1_5 = some res → W p l e (headSpec w_X12_sum rm_X12_sum).room s m ([.ref h0] : List Value).toArray below meth c H locs 0 0 (MQ below (QMi res (dC, dI) [(cI, .int), (cZ, .boolean), (cO, .object "ListPainter$Settings")] A [(h0, .inr (11, [.int v0_wide, .int v0_tall, .ref h1, .ref g0_words, .ref g0_size, .int v0_good, .int v0_faultPlace, .int v0_made, .int v0_fills, .int v0_painted, .ref g0_told, .ref g0_saved, .ref g0_saves, .ref g0_at, .ref g0_points, .ref g0_px, .ref g0_py, .ref g0_begins, .ref g0_begun, .ref g0_lines, .ref g0_lastX, .ref g0_lastY, .ref g0_startX, .ref g0_startY, .ref g0_startPoint, .ref g0_both, .ref g0_cut, .int v0_other])), (h1, .inl (cI, 1024, .inl f1))]) ([.ref h0] : List Value).toArray s 0 0 A) (F0 m 45 ls []) := by
          intro l1_5 H locs ls hP hD hS hl hM
          have hM := ja1 eK45_6 hM
          obtain ⟨x_7, ex_7⟩ : ∃ y : Int32, y = l2_2 + 1 := ⟨_, rfl⟩
          have hM := nm_u ex_7 hM
          refine lv_iinc (v := x_7) (lv' := [(2, .int x_7), (0, .ref h0), (1, .int l1_5)]) hx hb dX12_sum_45 hl (k := 2) rfl (by rw [ex_7]; rfl) (by decide) rfl (fun ls hl => ?_)
          refine lv_goto (tgt := 4) hx hb dX12_sum_48 (by decide) ?_
          exact ih4_3 l1_5 x_7 H locs ls hP hD hS (lv_sub hl [1, 2, 0] rfl) hM
        have hL14_10 : ∀ (n : Nat) (l1_8 : Int32) (l3_9 : Int32) , ∀ (H : Heap) (locs : List Loc) (ls : Array Slot), va_P (dC, dI) vwCl [(h0, .inr (11, [.int v0_wide, .int v0_tall, .ref h1, .ref g0_words, .ref g0_size, .int v0_good, .int v0_faultPlace, .int v0_made, .int v0_fills, .int v0_painted, .ref g0_told, .ref g0_saved, .ref g0_saves, .ref g0_at, .ref g0_points, .ref g0_px, .ref g0_py, .ref g0_begins, .ref g0_begun, .ref g0_lines, .ref g0_lastX, .ref g0_lastY, .ref g0_startX, .ref g0_startY, .ref g0_startPoint, .ref g0_both, .ref g0_cut, .int v0_other])), (h1, .inl (cI, 1024, .inl f1))] H → va_D A [(h0, .inr (11, [.int v0_wide, .int v0_tall, .ref h1, .ref g0_words, .ref g0_size, .int v0_good, .int v0_faultPlace, .int v0_made, .int v0_fills, .int v0_painted, .ref g0_told, .ref g0_saved, .ref g0_saves, .ref g0_at, .ref g0_points, .ref g0_px, .ref g0_py, .ref g0_begins, .ref g0_begun, .ref g0_lines, .ref g0_lastX, .ref g0_lastY, .ref g0_startX, .ref g0_startY, .ref g0_startPoint, .ref g0_both, .ref g0_cut, .int v0_other])), (h1, .inl (cI, 1024, .inl f1))] → va_S A s.heap H locs → lv_has ls 4 [(0, .ref h0), (1, .int l1_8), (2, .int l2_2), (3, .int l3_9)] → lp_X12_sum_14 v0_wide K45_6 l2_2 f1 n l1_8 l3_9 = some res → W p l e (headSpec w_X12_sum rm_X12_sum).room s m ([.ref h0] : List Value).toArray below meth c H locs 0 0 (MQ below (QMi res (dC, dI) [(cI, .int), (cZ, .boolean), (cO, .object "ListPainter$Settings")] A [(h0, .inr (11, [.int v0_wide, .int v0_tall, .ref h1, .ref g0_words, .ref g0_size, .int v0_good, .int v0_faultPlace, .int v0_made, .int v0_fills, .int v0_painted, .ref g0_told, .ref g0_saved, .ref g0_saves, .ref g0_at, .ref g0_points, .ref g0_px, .ref g0_py, .ref g0_begins, .ref g0_begun, .ref g0_lines, .ref g0_lastX, .ref g0_lastY, .ref g0_startX, .ref g0_startY, .ref g0_startPoint, .ref g0_both, .ref g0_cut, .int v0_other])), (h1, .inl (cI, 1024, .inl f1))]) ([.ref h0] : List Value).toArray s 0 0 A) (F0 m 14 ls []) := by
          intro n
          induction n with
          | zero =>
            intro l1_8 l3_9 H locs ls hP hD hS hl hM
            rw [lp_X12_sum_14] at hM
            exact lp0 hM
          | succ n14_10 ih14_10 =>
            intro l1_8 l3_9 H locs ls hP hD hS hl hM
            rw [lp_X12_sum_14] at hM
            refine lv_iload_n hx hb dX12_sum_14 rfl (lv_at hl 3 rfl) ?_
            refine lv_aload_n hx hb dX12_sum_15 rfl (lv_at hl 0 rfl) ?_
            refine va_get (D := (dC, dI)) (ci := 11) (v := .int v0_wide) (C := RX12) (T := TX12) (N := 28) hx hb hu inX12 hown hK hP 0 rfl rfl 0 (by decide) (hu _ kw_278) (fun _ h9 => h9) rfl dX12_sum_16 ?_
            refine lv_icmp_ge (tgt := 45) hx hb dX12_sum_19 (by decide) (fun c_11 => ?_) (fun c_11 => ?_)
            · have hM := if_t c_11 hM
              exact hJ45_6 l1_8 H locs ls hP hD hS (lv_sub hl [0, 1, 2] rfl) hM
            · have hM := if_f c_11 hM
              refine lv_bipush (v := 31) hx hb dX12_sum_22 (by decide) ?_
              refine lv_iload_n hx hb dX12_sum_24 rfl (lv_at hl 1 rfl) ?_
              refine lv_imul hx hb dX12_sum_25 ?_
              refine lv_aload_n hx hb dX12_sum_26 rfl (lv_at hl 0 rfl) ?_
              refine va_get (D := (dC, dI)) (ci := 11) (v := .ref h1) (C := RX12) (T := TX12) (N := 28) hx hb hu inX12 hown hK hP 0 rfl rfl 2 (by decide) (hu _ kw_372) (fun _ h9 => h9) rfl dX12_sum_27 ?_
              refine lv_bipush (v := 32) hx hb dX12_sum_30 (by decide) ?_
              refine lv_iload_n hx hb dX12_sum_32 rfl (lv_at hl 2 rfl) ?_
              refine lv_imul hx hb dX12_sum_33 ?_
              refine lv_iload_n hx hb dX12_sum_34 rfl (lv_at hl 3 rfl) ?_
              refine lv_iadd hx hb dX12_sum_35 ?_
              obtain ⟨g_12, hM⟩ := gd_u hM
              refine va_iald hx hb hK hP 1 0 rfl rfl (inb_v g_12) dX12_sum_36 ?_
              refine lv_topi (fun a_13 ea_13 => ?_)
              have hM := nm_u ea_13 hM
              refine lv_iadd hx hb dX12_sum_37 ?_
              refine lv_topi (fun x_14 ex_14 => ?_)
              have hM := nm_u ex_14 hM
              refine lv_istore_n (lv' := [(1, .int x_14), (0, .ref h0), (2, .int l2_2), (3, .int l3_9)]) hx hb dX12_sum_38 rfl hl (by decide) rfl (fun ls hl => ?_)
              obtain ⟨x_15, ex_15⟩ : ∃ y : Int32, y = l3_9 + 1 := ⟨_, rfl⟩
              have hM := nm_u ex_15 hM
              refine lv_iinc (v := x_15) (lv' := [(3, .int x_15), (1, .int x_14), (0, .ref h0), (2, .int l2_2)]) hx hb dX12_sum_39 hl (k := 3) rfl (by rw [ex_15]; rfl) (by decide) rfl (fun ls hl => ?_)
              refine lv_goto (tgt := 14) hx hb dX12_sum_42 (by decide) ?_
              exact ih14_10 x_14 x_15 H locs ls hP hD hS (lv_sub hl [2, 1, 3, 0] rfl) hM
        exact hL14_10 FU l1_1 0 H locs ls hP hD hS (lv_sub hl [1, 2, 3, 0] rfl) hM
  exact hL4_3 FU 1 0 H locs ls hP hD hS (lv_sub hl [2, 1, 0] rfl) hM
