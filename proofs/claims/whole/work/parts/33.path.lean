theorem dX5_becomeEmpty_0 : decode cX5_becomeEmpty 0 = .ok (.aload_n 0, 1) := by decide +kernel
theorem dX5_becomeEmpty_1 : decode cX5_becomeEmpty 1 = .ok (.iconst 0, 1) := by decide +kernel
theorem dX5_becomeEmpty_2 : decode cX5_becomeEmpty 2 = .ok (.putfield 22, 3) := by decide +kernel
theorem dX5_becomeEmpty_5 : decode cX5_becomeEmpty 5 = .ok (.aload_n 0, 1) := by decide +kernel
theorem dX5_becomeEmpty_6 : decode cX5_becomeEmpty 6 = .ok (.iconst 0, 1) := by decide +kernel
theorem dX5_becomeEmpty_7 : decode cX5_becomeEmpty 7 = .ok (.putfield 26, 3) := by decide +kernel
theorem dX5_becomeEmpty_10 : decode cX5_becomeEmpty 10 = .ok (.aload_n 0, 1) := by decide +kernel
theorem dX5_becomeEmpty_11 : decode cX5_becomeEmpty 11 = .ok (.iconst 0, 1) := by decide +kernel
theorem dX5_becomeEmpty_12 : decode cX5_becomeEmpty 12 = .ok (.putfield 29, 3) := by decide +kernel
theorem dX5_becomeEmpty_15 : decode cX5_becomeEmpty 15 = .ok (.return_, 1) := by decide +kernel
abbrev rm_X5_becomeEmpty : Room := { frames := 0, cells := 0, slots := 0, locals := 0 }
def w_X5_becomeEmpty : List Cond := Cond.code yX5_becomeEmpty cX5_becomeEmpty 1 none :: uw
set_option maxHeartbeats 4000000 in
set_option maxRecDepth 100000 in
theorem c_X5_becomeEmpty (l : Launch) (dC : Nat → ClassId) (dI : Nat → Nat → Nat) (cI cZ cO : ClassId) (tL sz : Nat) (h0 : Nat) (g0_xs : Nat) (g0_ys : Nat) (g0_begins : Nat) (v0_points : Int32) (v0_lines : Int32) (v0_first : Int32) (v0_firstToldX : Int32) (v0_firstToldY : Int32) (v0_lastToldX : Int32) (v0_lastToldY : Int32) (v0_leastX : Int32) (v0_leastY : Int32) (v0_greatestY : Int32) (res : Int32 × Int32 × Int32) (hM : m_X5_becomeEmpty v0_points v0_lines v0_first = some res) : Met l yX5_becomeEmpty w_X5_becomeEmpty rm_X5_becomeEmpty (PCx [.ref h0] (dC, dI) [(cI, .int), (cZ, .boolean), (cO, .object "ListPainter$Settings")] sz tL [(h0, .inr (4, [.ref g0_xs, .ref g0_ys, .ref g0_begins, .int v0_points, .int v0_lines, .int v0_first, .int v0_firstToldX, .int v0_firstToldY, .int v0_lastToldX, .int v0_lastToldY, .int v0_leastX, .int v0_leastY, .int v0_greatestY]))]) (QMv (dC, dI) [(cI, .int), (cZ, .boolean), (cO, .object "ListPainter$Settings")] (va_A [(h0, .inr (4, [.ref g0_xs, .ref g0_ys, .ref g0_begins, .int v0_points, .int v0_lines, .int v0_first, .int v0_firstToldX, .int v0_firstToldY, .int v0_lastToldX, .int v0_lastToldY, .int v0_leastX, .int v0_leastY, .int v0_greatestY]))] sz) [(h0, .inr (4, [.ref g0_xs, .ref g0_ys, .ref g0_begins, .int (res.1), .int (res.2.1), .int (res.2.2), .int v0_firstToldX, .int v0_firstToldY, .int v0_lastToldX, .int v0_lastToldY, .int v0_leastX, .int v0_leastY, .int v0_greatestY]))]) 0 0 (va_A [(h0, .inr (4, [.ref g0_xs, .ref g0_ys, .ref g0_begins, .int v0_points, .int v0_lines, .int v0_first, .int v0_firstToldX, .int v0_firstToldY, .int v0_lastToldX, .int v0_lastToldY, .int v0_leastX, .int v0_leastY, .int v0_greatestY]))] sz) := by
  refine Met.ofW (cc := cX5_becomeEmpty) (maxL := 1) (ret := none) (by decide) rfl ?_
  intro p e s m args below meth c s₁ B hml hv
  obtain ⟨rfl, hsz, hP, hK, hD0, hG⟩ := hv
  have hx := B.exec
  have hb := B.bytes
  have hr := B.returns
  have hu : ∀ w ∈ uw, w.before ([.ref h0] : List Value).toArray s = true := fun w h => atoms_spec (ws := w_X5_becomeEmpty) B.pre w (List.mem_cons_of_mem _ h)
  have hown : s.vm.findClass RX5 = some m.cls := findClass_of_methodNamed B.named
  have hlocks := B.notSynchronized
  subst hsz
  have hD := hD0.self (sz := s.heap.size)
  generalize hAe : va_A [(h0, .inr (4, [.ref g0_xs, .ref g0_ys, .ref g0_begins, .int v0_points, .int v0_lines, .int v0_first, .int v0_firstToldX, .int v0_firstToldY, .int v0_lastToldX, .int v0_lastToldY, .int v0_leastX, .int v0_leastY, .int v0_greatestY]))] s.heap.size = A at hD hG ⊢
  have hA : ∀ q : Nat, s.heap.size ≤ q → A q := fun q h => by rw [← hAe]; exact Or.inr h
  have hS : va_S A s.heap s.heap [] := va_S.rf
  have hP : va_P (dC, dI) vwCl [(h0, .inr (4, [.ref g0_xs, .ref g0_ys, .ref g0_begins, .int v0_points, .int v0_lines, .int v0_first, .int v0_firstToldX, .int v0_firstToldY, .int v0_lastToldX, .int v0_lastToldY, .int v0_leastX, .int v0_leastY, .int v0_greatestY]))] s.heap := hP
  have hl := lv_entry ([.ref h0]) (n := 1) (Nat.le_of_ble_eq_true rfl)
  rw [lg_entry_eq]
  generalize (lg_sl ([.ref h0]) ++ List.replicate (1 - (lg_sl ([.ref h0])).length) Slot.unset).toArray = ls at hl ⊢
  have hl : lv_has ls 1 [(0, .ref h0)] := hl
  rw [m_X5_becomeEmpty] at hM
  suffices hgo : ∀ (H : Heap) (locs : List Loc), va_P (dC, dI) vwCl [(h0, .inr (4, [.ref g0_xs, .ref g0_ys, .ref g0_begins, .int v0_points, .int v0_lines, .int v0_first, .int v0_firstToldX, .int v0_firstToldY, .int v0_lastToldX, .int v0_lastToldY, .int v0_leastX, .int v0_leastY, .int v0_greatestY]))] H → va_D A [(h0, .inr (4, [.ref g0_xs, .ref g0_ys, .ref g0_begins, .int v0_points, .int v0_lines, .int v0_first, .int v0_firstToldX, .int v0_firstToldY, .int v0_lastToldX, .int v0_lastToldY, .int v0_leastX, .int v0_leastY, .int v0_greatestY]))] → va_S A s.heap H locs → W p l e (headSpec w_X5_becomeEmpty rm_X5_becomeEmpty).room s m ([.ref h0] : List Value).toArray below meth c H locs 0 0 (MQ below (QMv (dC, dI) [(cI, .int), (cZ, .boolean), (cO, .object "ListPainter$Settings")] A [(h0, .inr (4, [.ref g0_xs, .ref g0_ys, .ref g0_begins, .int (res.1), .int (res.2.1), .int (res.2.2), .int v0_firstToldX, .int v0_firstToldY, .int v0_lastToldX, .int v0_lastToldY, .int v0_leastX, .int v0_leastY, .int v0_greatestY]))]) ([.ref h0] : List Value).toArray s 0 0 A) (F0 m 0 ls []) from hgo _ _ hP hD hS
  intro H locs hP hD hS
  refine lv_aload_n hx hb dX5_becomeEmpty_0 rfl (lv_at hl 0 rfl) ?_
  refine lv_iconst (v := 0) hx hb dX5_becomeEmpty_1 (by decide) ?_
  refine va_put (D := (dC, dI)) (ci := 4) (v := .int 0) (ty := .int) (C := RX5) (T := TX5) (N := 13) hx hb hu inX5 tyX5 tyX5_ok nmX5 hown hK hP hD hS 0 rfl rfl 3 (by decide) (hu _ kw_108) (fun _ h9 => h9) rfl (by decide +kernel) rfl rfl (Nat.le_of_ble_eq_true rfl) dX5_becomeEmpty_2 (fun H locs hP hD hS => ?_)
  have hP : va_P (dC, dI) vwCl [(h0, .inr (4, [.ref g0_xs, .ref g0_ys, .ref g0_begins, .int 0, .int v0_lines, .int v0_first, .int v0_firstToldX, .int v0_firstToldY, .int v0_lastToldX, .int v0_lastToldY, .int v0_leastX, .int v0_leastY, .int v0_greatestY]))] H := hP
  have hD : va_D A [(h0, .inr (4, [.ref g0_xs, .ref g0_ys, .ref g0_begins, .int 0, .int v0_lines, .int v0_first, .int v0_firstToldX, .int v0_firstToldY, .int v0_lastToldX, .int v0_lastToldY, .int v0_leastX, .int v0_leastY, .int v0_greatestY]))] := hD
  refine lv_aload_n hx hb dX5_becomeEmpty_5 rfl (lv_at hl 0 rfl) ?_
  refine lv_iconst (v := 0) hx hb dX5_becomeEmpty_6 (by decide) ?_
  refine va_put (D := (dC, dI)) (ci := 4) (v := .int 0) (ty := .int) (C := RX5) (T := TX5) (N := 13) hx hb hu inX5 tyX5 tyX5_ok nmX5 hown hK hP hD hS 0 rfl rfl 4 (by decide) (hu _ kw_109) (fun _ h9 => h9) rfl (by decide +kernel) rfl rfl (Nat.le_of_ble_eq_true rfl) dX5_becomeEmpty_7 (fun H locs hP hD hS => ?_)
  have hP : va_P (dC, dI) vwCl [(h0, .inr (4, [.ref g0_xs, .ref g0_ys, .ref g0_begins, .int 0, .int 0, .int v0_first, .int v0_firstToldX, .int v0_firstToldY, .int v0_lastToldX, .int v0_lastToldY, .int v0_leastX, .int v0_leastY, .int v0_greatestY]))] H := hP
  have hD : va_D A [(h0, .inr (4, [.ref g0_xs, .ref g0_ys, .ref g0_begins, .int 0, .int 0, .int v0_first, .int v0_firstToldX, .int v0_firstToldY, .int v0_lastToldX, .int v0_lastToldY, .int v0_leastX, .int v0_leastY, .int v0_greatestY]))] := hD
  refine lv_aload_n hx hb dX5_becomeEmpty_10 rfl (lv_at hl 0 rfl) ?_
  refine lv_iconst (v := 0) hx hb dX5_becomeEmpty_11 (by decide) ?_
  refine va_put (D := (dC, dI)) (ci := 4) (v := .int 0) (ty := .int) (C := RX5) (T := TX5) (N := 13) hx hb hu inX5 tyX5 tyX5_ok nmX5 hown hK hP hD hS 0 rfl rfl 5 (by decide) (hu _ kw_110) (fun _ h9 => h9) rfl (by decide +kernel) rfl rfl (Nat.le_of_ble_eq_true rfl) dX5_becomeEmpty_12 (fun H locs hP hD hS => ?_)
  have hP : va_P (dC, dI) vwCl [(h0, .inr (4, [.ref g0_xs, .ref g0_ys, .ref g0_begins, .int 0, .int 0, .int 0, .int v0_firstToldX, .int v0_firstToldY, .int v0_lastToldX, .int v0_lastToldY, .int v0_leastX, .int v0_leastY, .int v0_greatestY]))] H := hP
  have hD : va_D A [(h0, .inr (4, [.ref g0_xs, .ref g0_ys, .ref g0_begins, .int 0, .int 0, .int 0, .int v0_firstToldX, .int v0_firstToldY, .int v0_lastToldX, .int v0_lastToldY, .int v0_leastX, .int v0_leastY, .int v0_greatestY]))] := hD
  have h9 := Option.some.inj hM
  subst h9
  exact W.vret hx hb hr (fun t ht hW => QMv_mk (by rw [ht]; exact hP) (va_K.moved hW.alike hK) hD (hS.F ht)) hS.2.2 dX5_becomeEmpty_15
theorem dX5_isBegun_0 : decode cX5_isBegun 0 = .ok (.aload_n 0, 1) := by decide +kernel
theorem dX5_isBegun_1 : decode cX5_isBegun 1 = .ok (.getfield 22, 3) := by decide +kernel
theorem dX5_isBegun_4 : decode cX5_isBegun 4 = .ok (.ifCond .le 7, 3) := by decide +kernel
theorem dX5_isBegun_7 : decode cX5_isBegun 7 = .ok (.iconst 1, 1) := by decide +kernel
theorem dX5_isBegun_8 : decode cX5_isBegun 8 = .ok (.goto 4, 3) := by decide +kernel
theorem dX5_isBegun_11 : decode cX5_isBegun 11 = .ok (.iconst 0, 1) := by decide +kernel
theorem dX5_isBegun_12 : decode cX5_isBegun 12 = .ok (.ireturn, 1) := by decide +kernel
abbrev rm_X5_isBegun : Room := { frames := 0, cells := 0, slots := 0, locals := 0 }
def w_X5_isBegun : List Cond := Cond.code yX5_isBegun cX5_isBegun 1 (some .boolean) :: uw
set_option maxHeartbeats 4000000 in
set_option maxRecDepth 100000 in
theorem c_X5_isBegun (l : Launch) (dC : Nat → ClassId) (dI : Nat → Nat → Nat) (cI cZ cO : ClassId) (tL sz : Nat) (h0 : Nat) (g0_xs : Nat) (g0_ys : Nat) (g0_begins : Nat) (v0_points : Int32) (v0_lines : Int32) (v0_first : Int32) (v0_firstToldX : Int32) (v0_firstToldY : Int32) (v0_lastToldX : Int32) (v0_lastToldY : Int32) (v0_leastX : Int32) (v0_leastY : Int32) (v0_greatestY : Int32) (res : Int32) (hM : m_X5_isBegun v0_points = some res) : Met l yX5_isBegun w_X5_isBegun rm_X5_isBegun (PCx [.ref h0] (dC, dI) [(cI, .int), (cZ, .boolean), (cO, .object "ListPainter$Settings")] sz tL [(h0, .inr (4, [.ref g0_xs, .ref g0_ys, .ref g0_begins, .int v0_points, .int v0_lines, .int v0_first, .int v0_firstToldX, .int v0_firstToldY, .int v0_lastToldX, .int v0_lastToldY, .int v0_leastX, .int v0_leastY, .int v0_greatestY]))]) (QMz res (dC, dI) [(cI, .int), (cZ, .boolean), (cO, .object "ListPainter$Settings")] (va_A [(h0, .inr (4, [.ref g0_xs, .ref g0_ys, .ref g0_begins, .int v0_points, .int v0_lines, .int v0_first, .int v0_firstToldX, .int v0_firstToldY, .int v0_lastToldX, .int v0_lastToldY, .int v0_leastX, .int v0_leastY, .int v0_greatestY]))] sz) [(h0, .inr (4, [.ref g0_xs, .ref g0_ys, .ref g0_begins, .int v0_points, .int v0_lines, .int v0_first, .int v0_firstToldX, .int v0_firstToldY, .int v0_lastToldX, .int v0_lastToldY, .int v0_leastX, .int v0_leastY, .int v0_greatestY]))]) 0 0 (va_A [(h0, .inr (4, [.ref g0_xs, .ref g0_ys, .ref g0_begins, .int v0_points, .int v0_lines, .int v0_first, .int v0_firstToldX, .int v0_firstToldY, .int v0_lastToldX, .int v0_lastToldY, .int v0_leastX, .int v0_leastY, .int v0_greatestY]))] sz) := by
  refine Met.ofW (cc := cX5_isBegun) (maxL := 1) (ret := (some .boolean)) (by decide) rfl ?_
  intro p e s m args below meth c s₁ B hml hv
  obtain ⟨rfl, hsz, hP, hK, hD0, hG⟩ := hv
  have hx := B.exec
  have hb := B.bytes
  have hr := B.returns
  have hu : ∀ w ∈ uw, w.before ([.ref h0] : List Value).toArray s = true := fun w h => atoms_spec (ws := w_X5_isBegun) B.pre w (List.mem_cons_of_mem _ h)
  have hown : s.vm.findClass RX5 = some m.cls := findClass_of_methodNamed B.named
  have hlocks := B.notSynchronized
  subst hsz
  have hD := hD0.self (sz := s.heap.size)
  generalize hAe : va_A [(h0, .inr (4, [.ref g0_xs, .ref g0_ys, .ref g0_begins, .int v0_points, .int v0_lines, .int v0_first, .int v0_firstToldX, .int v0_firstToldY, .int v0_lastToldX, .int v0_lastToldY, .int v0_leastX, .int v0_leastY, .int v0_greatestY]))] s.heap.size = A at hD hG ⊢
  have hA : ∀ q : Nat, s.heap.size ≤ q → A q := fun q h => by rw [← hAe]; exact Or.inr h
  have hS : va_S A s.heap s.heap [] := va_S.rf
  have hP : va_P (dC, dI) vwCl [(h0, .inr (4, [.ref g0_xs, .ref g0_ys, .ref g0_begins, .int v0_points, .int v0_lines, .int v0_first, .int v0_firstToldX, .int v0_firstToldY, .int v0_lastToldX, .int v0_lastToldY, .int v0_leastX, .int v0_leastY, .int v0_greatestY]))] s.heap := hP
  have hl := lv_entry ([.ref h0]) (n := 1) (Nat.le_of_ble_eq_true rfl)
  rw [lg_entry_eq]
  generalize (lg_sl ([.ref h0]) ++ List.replicate (1 - (lg_sl ([.ref h0])).length) Slot.unset).toArray = ls at hl ⊢
  have hl : lv_has ls 1 [(0, .ref h0)] := hl
  rw [m_X5_isBegun] at hM
  suffices hgo : ∀ (H : Heap) (locs : List Loc), va_P (dC, dI) vwCl [(h0, .inr (4, [.ref g0_xs, .ref g0_ys, .ref g0_begins, .int v0_points, .int v0_lines, .int v0_first, .int v0_firstToldX, .int v0_firstToldY, .int v0_lastToldX, .int v0_lastToldY, .int v0_leastX, .int v0_leastY, .int v0_greatestY]))] H → va_D A [(h0, .inr (4, [.ref g0_xs, .ref g0_ys, .ref g0_begins, .int v0_points, .int v0_lines, .int v0_first, .int v0_firstToldX, .int v0_firstToldY, .int v0_lastToldX, .int v0_lastToldY, .int v0_leastX, .int v0_leastY, .int v0_greatestY]))] → va_S A s.heap H locs → W p l e (headSpec w_X5_isBegun rm_X5_isBegun).room s m ([.ref h0] : List Value).toArray below meth c H locs 0 0 (MQ below (QMz res (dC, dI) [(cI, .int), (cZ, .boolean), (cO, .object "ListPainter$Settings")] A [(h0, .inr (4, [.ref g0_xs, .ref g0_ys, .ref g0_begins, .int v0_points, .int v0_lines, .int v0_first, .int v0_firstToldX, .int v0_firstToldY, .int v0_lastToldX, .int v0_lastToldY, .int v0_leastX, .int v0_leastY, .int v0_greatestY]))]) ([.ref h0] : List Value).toArray s 0 0 A) (F0 m 0 ls []) from hgo _ _ hP hD hS
  intro H locs hP hD hS
  refine lv_aload_n hx hb dX5_isBegun_0 rfl (lv_at hl 0 rfl) ?_
  refine va_get (D := (dC, dI)) (ci := 4) (v := .int v0_points) (C := RX5) (T := TX5) (N := 13) hx hb hu inX5 hown hK hP 0 rfl rfl 3 (by decide) (hu _ kw_108) (fun _ h9 => h9) rfl dX5_isBegun_1 ?_
  refine lv_if_le (tgt := 11) hx hb dX5_isBegun_4 (by decide) (fun c_1 => ?_) (fun c_1 => ?_)
  · have hM := if_t c_1 hM
    refine lv_iconst (v := 0) hx hb dX5_isBegun_11 (by decide) ?_
    have h9 := Option.some.inj hM
    subst h9
    exact W.zret (v := 0) hx hb hr (zb_n (Or.inl rfl)) (fun t ht hW => QMz_mk (Or.inl rfl) (by rw [ht]; exact hP) (va_K.moved hW.alike hK) hD (hS.F ht)) hS.2.2 dX5_isBegun_12
  · have hM := if_f c_1 hM
    refine lv_iconst (v := 1) hx hb dX5_isBegun_7 (by decide) ?_
    refine lv_goto (tgt := 12) hx hb dX5_isBegun_8 (by decide) ?_
    have h9 := Option.some.inj hM
    subst h9
    exact W.zret (v := 1) hx hb hr (zb_n (Or.inr rfl)) (fun t ht hW => QMz_mk (Or.inr rfl) (by rw [ht]; exact hP) (va_K.moved hW.alike hK) hD (hS.F ht)) hS.2.2 dX5_isBegun_12
theorem dX5_addPoint_0 : decode cX5_addPoint 0 = .ok (.aload_n 0, 1) := by decide +kernel
theorem dX5_addPoint_1 : decode cX5_addPoint 1 = .ok (.getfield 22, 3) := by decide +kernel
theorem dX5_addPoint_4 : decode cX5_addPoint 4 = .ok (.sipush 800, 3) := by decide +kernel
theorem dX5_addPoint_7 : decode cX5_addPoint 7 = .ok (.if_icmp .lt 4, 3) := by decide +kernel
theorem dX5_addPoint_10 : decode cX5_addPoint 10 = .ok (.return_, 1) := by decide +kernel
theorem dX5_addPoint_11 : decode cX5_addPoint 11 = .ok (.aload_n 0, 1) := by decide +kernel
theorem dX5_addPoint_12 : decode cX5_addPoint 12 = .ok (.aload_n 0, 1) := by decide +kernel
theorem dX5_addPoint_13 : decode cX5_addPoint 13 = .ok (.getfield 22, 3) := by decide +kernel
theorem dX5_addPoint_16 : decode cX5_addPoint 16 = .ok (.ifCond .ne 7, 3) := by decide +kernel
theorem dX5_addPoint_19 : decode cX5_addPoint 19 = .ok (.iload_n 1, 1) := by decide +kernel
theorem dX5_addPoint_20 : decode cX5_addPoint 20 = .ok (.goto 11, 3) := by decide +kernel
theorem dX5_addPoint_23 : decode cX5_addPoint 23 = .ok (.aload_n 0, 1) := by decide +kernel
theorem dX5_addPoint_24 : decode cX5_addPoint 24 = .ok (.getfield 73, 3) := by decide +kernel
theorem dX5_addPoint_27 : decode cX5_addPoint 27 = .ok (.iload_n 1, 1) := by decide +kernel
theorem dX5_addPoint_28 : decode cX5_addPoint 28 = .ok (.invokestatic 76, 3) := by decide +kernel
theorem dX5_addPoint_31 : decode cX5_addPoint 31 = .ok (.putfield 73, 3) := by decide +kernel
theorem dX5_addPoint_34 : decode cX5_addPoint 34 = .ok (.aload_n 0, 1) := by decide +kernel
theorem dX5_addPoint_35 : decode cX5_addPoint 35 = .ok (.aload_n 0, 1) := by decide +kernel
theorem dX5_addPoint_36 : decode cX5_addPoint 36 = .ok (.getfield 22, 3) := by decide +kernel
theorem dX5_addPoint_39 : decode cX5_addPoint 39 = .ok (.ifCond .ne 7, 3) := by decide +kernel
theorem dX5_addPoint_42 : decode cX5_addPoint 42 = .ok (.iload_n 2, 1) := by decide +kernel
theorem dX5_addPoint_43 : decode cX5_addPoint 43 = .ok (.goto 11, 3) := by decide +kernel
theorem dX5_addPoint_46 : decode cX5_addPoint 46 = .ok (.aload_n 0, 1) := by decide +kernel
theorem dX5_addPoint_47 : decode cX5_addPoint 47 = .ok (.getfield 81, 3) := by decide +kernel
theorem dX5_addPoint_50 : decode cX5_addPoint 50 = .ok (.iload_n 2, 1) := by decide +kernel
theorem dX5_addPoint_51 : decode cX5_addPoint 51 = .ok (.invokestatic 76, 3) := by decide +kernel
theorem dX5_addPoint_54 : decode cX5_addPoint 54 = .ok (.putfield 81, 3) := by decide +kernel
theorem dX5_addPoint_57 : decode cX5_addPoint 57 = .ok (.aload_n 0, 1) := by decide +kernel
theorem dX5_addPoint_58 : decode cX5_addPoint 58 = .ok (.aload_n 0, 1) := by decide +kernel
theorem dX5_addPoint_59 : decode cX5_addPoint 59 = .ok (.getfield 22, 3) := by decide +kernel
theorem dX5_addPoint_62 : decode cX5_addPoint 62 = .ok (.ifCond .ne 7, 3) := by decide +kernel
theorem dX5_addPoint_65 : decode cX5_addPoint 65 = .ok (.iload_n 2, 1) := by decide +kernel
theorem dX5_addPoint_66 : decode cX5_addPoint 66 = .ok (.goto 11, 3) := by decide +kernel
theorem dX5_addPoint_69 : decode cX5_addPoint 69 = .ok (.aload_n 0, 1) := by decide +kernel
theorem dX5_addPoint_70 : decode cX5_addPoint 70 = .ok (.getfield 84, 3) := by decide +kernel
theorem dX5_addPoint_73 : decode cX5_addPoint 73 = .ok (.iload_n 2, 1) := by decide +kernel
theorem dX5_addPoint_74 : decode cX5_addPoint 74 = .ok (.invokestatic 87, 3) := by decide +kernel
theorem dX5_addPoint_77 : decode cX5_addPoint 77 = .ok (.putfield 84, 3) := by decide +kernel
theorem dX5_addPoint_80 : decode cX5_addPoint 80 = .ok (.aload_n 0, 1) := by decide +kernel
theorem dX5_addPoint_81 : decode cX5_addPoint 81 = .ok (.getfield 9, 3) := by decide +kernel
theorem dX5_addPoint_84 : decode cX5_addPoint 84 = .ok (.aload_n 0, 1) := by decide +kernel
theorem dX5_addPoint_85 : decode cX5_addPoint 85 = .ok (.getfield 22, 3) := by decide +kernel
theorem dX5_addPoint_88 : decode cX5_addPoint 88 = .ok (.iload_n 1, 1) := by decide +kernel
theorem dX5_addPoint_89 : decode cX5_addPoint 89 = .ok (.iastore, 1) := by decide +kernel
theorem dX5_addPoint_90 : decode cX5_addPoint 90 = .ok (.aload_n 0, 1) := by decide +kernel
theorem dX5_addPoint_91 : decode cX5_addPoint 91 = .ok (.getfield 15, 3) := by decide +kernel
theorem dX5_addPoint_94 : decode cX5_addPoint 94 = .ok (.aload_n 0, 1) := by decide +kernel
theorem dX5_addPoint_95 : decode cX5_addPoint 95 = .ok (.getfield 22, 3) := by decide +kernel
theorem dX5_addPoint_98 : decode cX5_addPoint 98 = .ok (.iload_n 2, 1) := by decide +kernel
theorem dX5_addPoint_99 : decode cX5_addPoint 99 = .ok (.iastore, 1) := by decide +kernel
theorem dX5_addPoint_100 : decode cX5_addPoint 100 = .ok (.aload_n 0, 1) := by decide +kernel
theorem dX5_addPoint_101 : decode cX5_addPoint 101 = .ok (.getfield 18, 3) := by decide +kernel
theorem dX5_addPoint_104 : decode cX5_addPoint 104 = .ok (.aload_n 0, 1) := by decide +kernel
theorem dX5_addPoint_105 : decode cX5_addPoint 105 = .ok (.getfield 22, 3) := by decide +kernel
theorem dX5_addPoint_108 : decode cX5_addPoint 108 = .ok (.iload_n 3, 1) := by decide +kernel
theorem dX5_addPoint_109 : decode cX5_addPoint 109 = .ok (.bastore, 1) := by decide +kernel
theorem dX5_addPoint_110 : decode cX5_addPoint 110 = .ok (.aload_n 0, 1) := by decide +kernel
theorem dX5_addPoint_111 : decode cX5_addPoint 111 = .ok (.dup, 1) := by decide +kernel
theorem dX5_addPoint_112 : decode cX5_addPoint 112 = .ok (.getfield 22, 3) := by decide +kernel
theorem dX5_addPoint_115 : decode cX5_addPoint 115 = .ok (.iconst 1, 1) := by decide +kernel
theorem dX5_addPoint_116 : decode cX5_addPoint 116 = .ok (.iadd, 1) := by decide +kernel
theorem dX5_addPoint_117 : decode cX5_addPoint 117 = .ok (.putfield 22, 3) := by decide +kernel
theorem dX5_addPoint_120 : decode cX5_addPoint 120 = .ok (.return_, 1) := by decide +kernel
abbrev rm_X5_addPoint : Room := { frames := 1, cells := 0, slots := 0, locals := 21 }
def w_X5_addPoint : List Cond := Cond.code yX5_addPoint cX5_addPoint 4 none :: uw
set_option maxHeartbeats 4000000 in
set_option maxRecDepth 100000 in
theorem c_X5_addPoint (l : Launch) (dC : Nat → ClassId) (dI : Nat → Nat → Nat) (cI cZ cO : ClassId) (tL sz : Nat) (h0 : Nat) (h1 : Nat) (h2 : Nat) (h3 : Nat) (v0_points : Int32) (v0_lines : Int32) (v0_first : Int32) (v0_firstToldX : Int32) (v0_firstToldY : Int32) (v0_lastToldX : Int32) (v0_lastToldY : Int32) (v0_leastX : Int32) (v0_leastY : Int32) (v0_greatestY : Int32) (f1 : Nat → Int32) (f2 : Nat → Int32) (f3 : Nat → Int32) (p1 : Int32) (p2 : Int32) (p3 : Int32) (res : Int32 × Int32 × Int32 × Int32 × (Nat → Int32) × (Nat → Int32) × (Nat → Int32)) (hM : m_X5_addPoint v0_points v0_leastX v0_leastY v0_greatestY f1 f2 f3 p1 p2 p3 = some res) : Met l yX5_addPoint w_X5_addPoint rm_X5_addPoint (PCx [.ref h0, .int p1, .int p2, .int p3] (dC, dI) [(cI, .int), (cZ, .boolean), (cO, .object "ListPainter$Settings")] sz tL [(h0, .inr (4, [.ref h1, .ref h2, .ref h3, .int v0_points, .int v0_lines, .int v0_first, .int v0_firstToldX, .int v0_firstToldY, .int v0_lastToldX, .int v0_lastToldY, .int v0_leastX, .int v0_leastY, .int v0_greatestY])), (h1, .inl (cI, 800, .inl f1)), (h2, .inl (cI, 800, .inl f2)), (h3, .inl (cZ, 800, .inl f3))]) (QMv (dC, dI) [(cI, .int), (cZ, .boolean), (cO, .object "ListPainter$Settings")] (va_A [(h0, .inr (4, [.ref h1, .ref h2, .ref h3, .int v0_points, .int v0_lines, .int v0_first, .int v0_firstToldX, .int v0_firstToldY, .int v0_lastToldX, .int v0_lastToldY, .int v0_leastX, .int v0_leastY, .int v0_greatestY])), (h1, .inl (cI, 800, .inl f1)), (h2, .inl (cI, 800, .inl f2)), (h3, .inl (cZ, 800, .inl f3))] sz) [(h0, .inr (4, [.ref h1, .ref h2, .ref h3, .int (res.1), .int v0_lines, .int v0_first, .int v0_firstToldX, .int v0_firstToldY, .int v0_lastToldX, .int v0_lastToldY, .int (res.2.1), .int (res.2.2.1), .int (res.2.2.2.1)])), (h1, .inl (cI, 800, .inl (res.2.2.2.2.1))), (h2, .inl (cI, 800, .inl (res.2.2.2.2.2.1))), (h3, .inl (cZ, 800, .inl (res.2.2.2.2.2.2)))]) 0 0 (va_A [(h0, .inr (4, [.ref h1, .ref h2, .ref h3, .int v0_points, .int v0_lines, .int v0_first, .int v0_firstToldX, .int v0_firstToldY, .int v0_lastToldX, .int v0_lastToldY, .int v0_leastX, .int v0_leastY, .int v0_greatestY])), (h1, .inl (cI, 800, .inl f1)), (h2, .inl (cI, 800, .inl f2)), (h3, .inl (cZ, 800, .inl f3))] sz) := by
  refine Met.ofW (cc := cX5_addPoint) (maxL := 4) (ret := none) (by decide) rfl ?_
  intro p e s m args below meth c s₁ B hml hv
  obtain ⟨rfl, hsz, hP, hK, hD0, hG⟩ := hv
  have hx := B.exec
  have hb := B.bytes
  have hr := B.returns
  have hu : ∀ w ∈ uw, w.before ([.ref h0, .int p1, .int p2, .int p3] : List Value).toArray s = true := fun w h => atoms_spec (ws := w_X5_addPoint) B.pre w (List.mem_cons_of_mem _ h)
  have hown : s.vm.findClass RX5 = some m.cls := findClass_of_methodNamed B.named
  have hlocks := B.notSynchronized
  subst hsz
  have hD := hD0.self (sz := s.heap.size)
  generalize hAe : va_A [(h0, .inr (4, [.ref h1, .ref h2, .ref h3, .int v0_points, .int v0_lines, .int v0_first, .int v0_firstToldX, .int v0_firstToldY, .int v0_lastToldX, .int v0_lastToldY, .int v0_leastX, .int v0_leastY, .int v0_greatestY])), (h1, .inl (cI, 800, .inl f1)), (h2, .inl (cI, 800, .inl f2)), (h3, .inl (cZ, 800, .inl f3))] s.heap.size = A at hD hG ⊢
  have hA : ∀ q : Nat, s.heap.size ≤ q → A q := fun q h => by rw [← hAe]; exact Or.inr h
  have hS : va_S A s.heap s.heap [] := va_S.rf
  have hP : va_P (dC, dI) vwCl [(h0, .inr (4, [.ref h1, .ref h2, .ref h3, .int v0_points, .int v0_lines, .int v0_first, .int v0_firstToldX, .int v0_firstToldY, .int v0_lastToldX, .int v0_lastToldY, .int v0_leastX, .int v0_leastY, .int v0_greatestY])), (h1, .inl (cI, 800, .inl f1)), (h2, .inl (cI, 800, .inl f2)), (h3, .inl (cZ, 800, .inl f3))] s.heap := hP
  have hl := lv_entry ([.ref h0, .int p1, .int p2, .int p3]) (n := 4) (Nat.le_of_ble_eq_true rfl)
  rw [lg_entry_eq]
  generalize (lg_sl ([.ref h0, .int p1, .int p2, .int p3]) ++ List.replicate (4 - (lg_sl ([.ref h0, .int p1, .int p2, .int p3])).length) Slot.unset).toArray = ls at hl ⊢
  have hl : lv_has ls 4 [(0, .ref h0), (1, .int p1), (2, .int p2), (3, .int p3)] := hl
  rw [m_X5_addPoint] at hM
  suffices hgo : ∀ (H : Heap) (locs : List Loc), va_P (dC, dI) vwCl [(h0, .inr (4, [.ref h1, .ref h2, .ref h3, .int v0_points, .int v0_lines, .int v0_first, .int v0_firstToldX, .int v0_firstToldY, .int v0_lastToldX, .int v0_lastToldY, .int v0_leastX, .int v0_leastY, .int v0_greatestY])), (h1, .inl (cI, 800, .inl f1)), (h2, .inl (cI, 800, .inl f2)), (h3, .inl (cZ, 800, .inl f3))] H → va_D A [(h0, .inr (4, [.ref h1, .ref h2, .ref h3, .int v0_points, .int v0_lines, .int v0_first, .int v0_firstToldX, .int v0_firstToldY, .int v0_lastToldX, .int v0_lastToldY, .int v0_leastX, .int v0_leastY, .int v0_greatestY])), (h1, .inl (cI, 800, .inl f1)), (h2, .inl (cI, 800, .inl f2)), (h3, .inl (cZ, 800, .inl f3))] → va_S A s.heap H locs → W p l e (headSpec w_X5_addPoint rm_X5_addPoint).room s m ([.ref h0, .int p1, .int p2, .int p3] : List Value).toArray below meth c H locs 0 0 (MQ below (QMv (dC, dI) [(cI, .int), (cZ, .boolean), (cO, .object "ListPainter$Settings")] A [(h0, .inr (4, [.ref h1, .ref h2, .ref h3, .int (res.1), .int v0_lines, .int v0_first, .int v0_firstToldX, .int v0_firstToldY, .int v0_lastToldX, .int v0_lastToldY, .int (res.2.1), .int (res.2.2.1), .int (res.2.2.2.1)])), (h1, .inl (cI, 800, .inl (res.2.2.2.2.1))), (h2, .inl (cI, 800, .inl (res.2.2.2.2.2.1))), (h3, .inl (cZ, 800, .inl (res.2.2.2.2.2.2)))]) ([.ref h0, .int p1, .int p2, .int p3] : List Value).toArray s 0 0 A) (F0 m 0 ls []) from hgo _ _ hP hD hS
  intro H locs hP hD hS
  refine lv_aload_n hx hb dX5_addPoint_0 rfl (lv_at hl 0 rfl) ?_
  refine va_get (D := (dC, dI)) (ci := 4) (v := .int v0_points) (C := RX5) (T := TX5) (N := 13) hx hb hu inX5 hown hK hP 0 rfl rfl 3 (by decide) (hu _ kw_108) (fun _ h9 => h9) rfl dX5_addPoint_1 ?_
  refine lv_sipush (v := 800) hx hb dX5_addPoint_4 (by decide) ?_
  refine lv_icmp_lt (tgt := 11) hx hb dX5_addPoint_7 (by decide) (fun c_1 => ?_) (fun c_1 => ?_)
  · have hM := if_t c_1 hM
    refine lv_aload_n hx hb dX5_addPoint_11 rfl (lv_at hl 0 rfl) ?_
    refine lv_aload_n hx hb dX5_addPoint_12 rfl (lv_at hl 0 rfl) ?_
    refine va_get (D := (dC, dI)) (ci := 4) (v := .int v0_points) (C := RX5) (T := TX5) (N := 13) hx hb hu inX5 hown hK hP 0 rfl rfl 3 (by decide) (hu _ kw_108) (fun _ h9 => h9) rfl dX5_addPoint_13 ?_
    obtain ⟨K31_3, eK31_3, hM⟩ := jn_u hM
    have hJ31_3 : ∀ (s1_2 : Int32) , ∀ (H : Heap) (locs : List Loc) (ls : Array Slot), va_P (dC, dI) vwCl [(h0, .inr (4, [.ref h1, .ref h2, .ref h3, .int v0_points, .int v0_lines, .int v0_first, .int v0_firstToldX, .int v0_firstToldY, .int v0_lastToldX, .int v0_lastToldY, .int v0_leastX, .int v0_leastY, .int v0_greatestY])), (h1, .inl (cI, 800, .inl f1)), (h2, .inl (cI, 800, .inl f2)), (h3, .inl (cZ, 800, .inl f3))] H → va_D A [(h0, .inr (4, [.ref h1, .ref h2, .ref h3, .int v0_points, .int v0_lines, .int v0_first, .int v0_firstToldX, .int v0_firstToldY, .int v0_lastToldX, .int v0_lastToldY, .int v0_leastX, .int v0_leastY, .int v0_greatestY])), (h1, .inl (cI, 800, .inl f1)), (h2, .inl (cI, 800, .inl f2)), (h3, .inl (cZ, 800, .inl f3))] → va_S A s.heap H locs → lv_has ls 4 [(0, .ref h0), (1, .int p1), (2, .int p2), (3, .int p3)] → K31_3 s1_2 = some res → W p l e (headSpec w_X5_addPoint rm_X5_addPoint).room s m ([.ref h0, .int p1, .int p2, .int p3] : List Value).toArray below meth c H locs 0 0 (MQ below (QMv (dC, dI) [(cI, .int), (cZ, .boolean), (cO, .object "ListPainter$Settings")] A [(h0, .inr (4, [.ref h1, .ref h2, .ref h3, .int (res.1), .int v0_lines, .int v0_first, .int v0_firstToldX, .int v0_firstToldY, .int v0_lastToldX, .int v0_lastToldY, .int (res.2.1), .int (res.2.2.1), .int (res.2.2.2.1)])), (h1, .inl (cI, 800, .inl (res.2.2.2.2.1))), (h2, .inl (cI, 800, .inl (res.2.2.2.2.2.1))), (h3, .inl (cZ, 800, .inl (res.2.2.2.2.2.2)))]) ([.ref h0, .int p1, .int p2, .int p3] : List Value).toArray s 0 0 A) (F0 m 31 ls [.int s1_2, .ref h0]) := by
      intro s1_2 H locs ls hP hD hS hl hM
      have hM := ja1 eK31_3 hM
      refine va_put (D := (dC, dI)) (ci := 4) (v := .int s1_2) (ty := .int) (C := RX5) (T := TX5) (N := 13) hx hb hu inX5 tyX5 tyX5_ok nmX5 hown hK hP hD hS 0 rfl rfl 10 (by decide) (hu _ kw_111) (fun _ h9 => h9) rfl (by decide +kernel) rfl rfl (Nat.le_of_ble_eq_true rfl) dX5_addPoint_31 (fun H locs hP hD hS => ?_)
      have hP : va_P (dC, dI) vwCl [(h0, .inr (4, [.ref h1, .ref h2, .ref h3, .int v0_points, .int v0_lines, .int v0_first, .int v0_firstToldX, .int v0_firstToldY, .int v0_lastToldX, .int v0_lastToldY, .int s1_2, .int v0_leastY, .int v0_greatestY])), (h1, .inl (cI, 800, .inl f1)), (h2, .inl (cI, 800, .inl f2)), (h3, .inl (cZ, 800, .inl f3))] H := hP
      have hD : va_D A [(h0, .inr (4, [.ref h1, .ref h2, .ref h3, .int v0_points, .int v0_lines, .int v0_first, .int v0_firstToldX, .int v0_firstToldY, .int v0_lastToldX, .int v0_lastToldY, .int s1_2, .int v0_leastY, .int v0_greatestY])), (h1, .inl (cI, 800, .inl f1)), (h2, .inl (cI, 800, .inl f2)), (h3, .inl (cZ, 800, .inl f3))] := hD
      refine lv_aload_n hx hb dX5_addPoint_34 rfl (lv_at hl 0 rfl) ?_
      refine lv_aload_n hx hb dX5_addPoint_35 rfl (lv_at hl 0 rfl) ?_
      refine va_get (D := (dC, dI)) (ci := 4) (v := .int v0_points) (C := RX5) (T := TX5) (N := 13) hx hb hu inX5 hown hK hP 0 rfl rfl 3 (by decide) (hu _ kw_108) (fun _ h9 => h9) rfl dX5_addPoint_36 ?_
      obtain ⟨K54_5, eK54_5, hM⟩ := jn_u hM
      have hJ54_5 : ∀ (s1_4 : Int32) , ∀ (H : Heap) (locs : List Loc) (ls : Array Slot), va_P (dC, dI) vwCl [(h0, .inr (4, [.ref h1, .ref h2, .ref h3, .int v0_points, .int v0_lines, .int v0_first, .int v0_firstToldX, .int v0_firstToldY, .int v0_lastToldX, .int v0_lastToldY, .int s1_2, .int v0_leastY, .int v0_greatestY])), (h1, .inl (cI, 800, .inl f1)), (h2, .inl (cI, 800, .inl f2)), (h3, .inl (cZ, 800, .inl f3))] H → va_D A [(h0, .inr (4, [.ref h1, .ref h2, .ref h3, .int v0_points, .int v0_lines, .int v0_first, .int v0_firstToldX, .int v0_firstToldY, .int v0_lastToldX, .int v0_lastToldY, .int s1_2, .int v0_leastY, .int v0_greatestY])), (h1, .inl (cI, 800, .inl f1)), (h2, .inl (cI, 800, .inl f2)), (h3, .inl (cZ, 800, .inl f3))] → va_S A s.heap H locs → lv_has ls 4 [(0, .ref h0), (1, .int p1), (2, .int p2), (3, .int p3)] → K54_5 s1_4 = some res → W p l e (headSpec w_X5_addPoint rm_X5_addPoint).room s m ([.ref h0, .int p1, .int p2, .int p3] : List Value).toArray below meth c H locs 0 0 (MQ below (QMv (dC, dI) [(cI, .int), (cZ, .boolean), (cO, .object "ListPainter$Settings")] A [(h0, .inr (4, [.ref h1, .ref h2, .ref h3, .int (res.1), .int v0_lines, .int v0_first, .int v0_firstToldX, .int v0_firstToldY, .int v0_lastToldX, .int v0_lastToldY, .int (res.2.1), .int (res.2.2.1), .int (res.2.2.2.1)])), (h1, .inl (cI, 800, .inl (res.2.2.2.2.1))), (h2, .inl (cI, 800, .inl (res.2.2.2.2.2.1))), (h3, .inl (cZ, 800, .inl (res.2.2.2.2.2.2)))]) ([.ref h0, .int p1, .int p2, .int p3] : List Value).toArray s 0 0 A) (F0 m 54 ls [.int s1_4, .ref h0]) := by
        intro s1_4 H locs ls hP hD hS hl hM
        have hM := ja1 eK54_5 hM
        refine va_put (D := (dC, dI)) (ci := 4) (v := .int s1_4) (ty := .int) (C := RX5) (T := TX5) (N := 13) hx hb hu inX5 tyX5 tyX5_ok nmX5 hown hK hP hD hS 0 rfl rfl 11 (by decide) (hu _ kw_112) (fun _ h9 => h9) rfl (by decide +kernel) rfl rfl (Nat.le_of_ble_eq_true rfl) dX5_addPoint_54 (fun H locs hP hD hS => ?_)
        have hP : va_P (dC, dI) vwCl [(h0, .inr (4, [.ref h1, .ref h2, .ref h3, .int v0_points, .int v0_lines, .int v0_first, .int v0_firstToldX, .int v0_firstToldY, .int v0_lastToldX, .int v0_lastToldY, .int s1_2, .int s1_4, .int v0_greatestY])), (h1, .inl (cI, 800, .inl f1)), (h2, .inl (cI, 800, .inl f2)), (h3, .inl (cZ, 800, .inl f3))] H := hP
        have hD : va_D A [(h0, .inr (4, [.ref h1, .ref h2, .ref h3, .int v0_points, .int v0_lines, .int v0_first, .int v0_firstToldX, .int v0_firstToldY, .int v0_lastToldX, .int v0_lastToldY, .int s1_2, .int s1_4, .int v0_greatestY])), (h1, .inl (cI, 800, .inl f1)), (h2, .inl (cI, 800, .inl f2)), (h3, .inl (cZ, 800, .inl f3))] := hD
        refine lv_aload_n hx hb dX5_addPoint_57 rfl (lv_at hl 0 rfl) ?_
        refine lv_aload_n hx hb dX5_addPoint_58 rfl (lv_at hl 0 rfl) ?_
        refine va_get (D := (dC, dI)) (ci := 4) (v := .int v0_points) (C := RX5) (T := TX5) (N := 13) hx hb hu inX5 hown hK hP 0 rfl rfl 3 (by decide) (hu _ kw_108) (fun _ h9 => h9) rfl dX5_addPoint_59 ?_
        obtain ⟨K77_7, eK77_7, hM⟩ := jn_u hM
        have hJ77_7 : ∀ (s1_6 : Int32) , ∀ (H : Heap) (locs : List Loc) (ls : Array Slot), va_P (dC, dI) vwCl [(h0, .inr (4, [.ref h1, .ref h2, .ref h3, .int v0_points, .int v0_lines, .int v0_first, .int v0_firstToldX, .int v0_firstToldY, .int v0_lastToldX, .int v0_lastToldY, .int s1_2, .int s1_4, .int v0_greatestY])), (h1, .inl (cI, 800, .inl f1)), (h2, .inl (cI, 800, .inl f2)), (h3, .inl (cZ, 800, .inl f3))] H → va_D A [(h0, .inr (4, [.ref h1, .ref h2, .ref h3, .int v0_points, .int v0_lines, .int v0_first, .int v0_firstToldX, .int v0_firstToldY, .int v0_lastToldX, .int v0_lastToldY, .int s1_2, .int s1_4, .int v0_greatestY])), (h1, .inl (cI, 800, .inl f1)), (h2, .inl (cI, 800, .inl f2)), (h3, .inl (cZ, 800, .inl f3))] → va_S A s.heap H locs → lv_has ls 4 [(0, .ref h0), (1, .int p1), (2, .int p2), (3, .int p3)] → K77_7 s1_6 = some res → W p l e (headSpec w_X5_addPoint rm_X5_addPoint).room s m ([.ref h0, .int p1, .int p2, .int p3] : List Value).toArray below meth c H locs 0 0 (MQ below (QMv (dC, dI) [(cI, .int), (cZ, .boolean), (cO, .object "ListPainter$Settings")] A [(h0, .inr (4, [.ref h1, .ref h2, .ref h3, .int (res.1), .int v0_lines, .int v0_first, .int v0_firstToldX, .int v0_firstToldY, .int v0_lastToldX, .int v0_lastToldY, .int (res.2.1), .int (res.2.2.1), .int (res.2.2.2.1)])), (h1, .inl (cI, 800, .inl (res.2.2.2.2.1))), (h2, .inl (cI, 800, .inl (res.2.2.2.2.2.1))), (h3, .inl (cZ, 800, .inl (res.2.2.2.2.2.2)))]) ([.ref h0, .int p1, .int p2, .int p3] : List Value).toArray s 0 0 A) (F0 m 77 ls [.int s1_6, .ref h0]) := by
          intro s1_6 H locs ls hP hD hS hl hM
          have hM := ja1 eK77_7 hM
          refine va_put (D := (dC, dI)) (ci := 4) (v := .int s1_6) (ty := .int) (C := RX5) (T := TX5) (N := 13) hx hb hu inX5 tyX5 tyX5_ok nmX5 hown hK hP hD hS 0 rfl rfl 12 (by decide) (hu _ kw_113) (fun _ h9 => h9) rfl (by decide +kernel) rfl rfl (Nat.le_of_ble_eq_true rfl) dX5_addPoint_77 (fun H locs hP hD hS => ?_)
          have hP : va_P (dC, dI) vwCl [(h0, .inr (4, [.ref h1, .ref h2, .ref h3, .int v0_points, .int v0_lines, .int v0_first, .int v0_firstToldX, .int v0_firstToldY, .int v0_lastToldX, .int v0_lastToldY, .int s1_2, .int s1_4, .int s1_6])), (h1, .inl (cI, 800, .inl f1)), (h2, .inl (cI, 800, .inl f2)), (h3, .inl (cZ, 800, .inl f3))] H := hP
          have hD : va_D A [(h0, .inr (4, [.ref h1, .ref h2, .ref h3, .int v0_points, .int v0_lines, .int v0_first, .int v0_firstToldX, .int v0_firstToldY, .int v0_lastToldX, .int v0_lastToldY, .int s1_2, .int s1_4, .int s1_6])), (h1, .inl (cI, 800, .inl f1)), (h2, .inl (cI, 800, .inl f2)), (h3, .inl (cZ, 800, .inl f3))] := hD
          refine lv_aload_n hx hb dX5_addPoint_80 rfl (lv_at hl 0 rfl) ?_
          refine va_get (D := (dC, dI)) (ci := 4) (v := .ref h1) (C := RX5) (T := TX5) (N := 13) hx hb hu inX5 hown hK hP 0 rfl rfl 0 (by decide) (hu _ kw_114) (fun _ h9 => h9) rfl dX5_addPoint_81 ?_
          refine lv_aload_n hx hb dX5_addPoint_84 rfl (lv_at hl 0 rfl) ?_
          refine va_get (D := (dC, dI)) (ci := 4) (v := .int v0_points) (C := RX5) (T := TX5) (N := 13) hx hb hu inX5 hown hK hP 0 rfl rfl 3 (by decide) (hu _ kw_108) (fun _ h9 => h9) rfl dX5_addPoint_85 ?_
          refine lv_iload_n hx hb dX5_addPoint_88 rfl (lv_at hl 1 rfl) ?_
          obtain ⟨g_8, hM⟩ := gd_u hM
          refine va_iast hx hb hK hP hD hS 1 0 rfl rfl (inb_v g_8) dX5_addPoint_89 (fun H locs hP hD hS => ?_)
          obtain ⟨f1_9, ef1_9⟩ : ∃ g : Nat → Int32, g = upd f1 (v0_points : Int32).toNatClampNeg p1 := ⟨_, rfl⟩
          have hM := nm_u ef1_9 hM
          have hP : va_P (dC, dI) vwCl [(h0, .inr (4, [.ref h1, .ref h2, .ref h3, .int v0_points, .int v0_lines, .int v0_first, .int v0_firstToldX, .int v0_firstToldY, .int v0_lastToldX, .int v0_lastToldY, .int s1_2, .int s1_4, .int s1_6])), (h1, .inl (cI, 800, .inl f1_9)), (h2, .inl (cI, 800, .inl f2)), (h3, .inl (cZ, 800, .inl f3))] H := by rw [ef1_9]; exact hP
          have hD : va_D A [(h0, .inr (4, [.ref h1, .ref h2, .ref h3, .int v0_points, .int v0_lines, .int v0_first, .int v0_firstToldX, .int v0_firstToldY, .int v0_lastToldX, .int v0_lastToldY, .int s1_2, .int s1_4, .int s1_6])), (h1, .inl (cI, 800, .inl f1_9)), (h2, .inl (cI, 800, .inl f2)), (h3, .inl (cZ, 800, .inl f3))] := by rw [ef1_9]; exact hD
          refine lv_aload_n hx hb dX5_addPoint_90 rfl (lv_at hl 0 rfl) ?_
          refine va_get (D := (dC, dI)) (ci := 4) (v := .ref h2) (C := RX5) (T := TX5) (N := 13) hx hb hu inX5 hown hK hP 0 rfl rfl 1 (by decide) (hu _ kw_115) (fun _ h9 => h9) rfl dX5_addPoint_91 ?_
          refine lv_aload_n hx hb dX5_addPoint_94 rfl (lv_at hl 0 rfl) ?_
          refine va_get (D := (dC, dI)) (ci := 4) (v := .int v0_points) (C := RX5) (T := TX5) (N := 13) hx hb hu inX5 hown hK hP 0 rfl rfl 3 (by decide) (hu _ kw_108) (fun _ h9 => h9) rfl dX5_addPoint_95 ?_
          refine lv_iload_n hx hb dX5_addPoint_98 rfl (lv_at hl 2 rfl) ?_
          obtain ⟨g_10, hM⟩ := gd_u hM
          refine va_iast hx hb hK hP hD hS 2 0 rfl rfl (inb_v g_10) dX5_addPoint_99 (fun H locs hP hD hS => ?_)
          obtain ⟨f2_11, ef2_11⟩ : ∃ g : Nat → Int32, g = upd f2 (v0_points : Int32).toNatClampNeg p2 := ⟨_, rfl⟩
          have hM := nm_u ef2_11 hM
          have hP : va_P (dC, dI) vwCl [(h0, .inr (4, [.ref h1, .ref h2, .ref h3, .int v0_points, .int v0_lines, .int v0_first, .int v0_firstToldX, .int v0_firstToldY, .int v0_lastToldX, .int v0_lastToldY, .int s1_2, .int s1_4, .int s1_6])), (h1, .inl (cI, 800, .inl f1_9)), (h2, .inl (cI, 800, .inl f2_11)), (h3, .inl (cZ, 800, .inl f3))] H := by rw [ef2_11]; exact hP
          have hD : va_D A [(h0, .inr (4, [.ref h1, .ref h2, .ref h3, .int v0_points, .int v0_lines, .int v0_first, .int v0_firstToldX, .int v0_firstToldY, .int v0_lastToldX, .int v0_lastToldY, .int s1_2, .int s1_4, .int s1_6])), (h1, .inl (cI, 800, .inl f1_9)), (h2, .inl (cI, 800, .inl f2_11)), (h3, .inl (cZ, 800, .inl f3))] := by rw [ef2_11]; exact hD
          refine lv_aload_n hx hb dX5_addPoint_100 rfl (lv_at hl 0 rfl) ?_
          refine va_get (D := (dC, dI)) (ci := 4) (v := .ref h3) (C := RX5) (T := TX5) (N := 13) hx hb hu inX5 hown hK hP 0 rfl rfl 2 (by decide) (hu _ kw_116) (fun _ h9 => h9) rfl dX5_addPoint_101 ?_
          refine lv_aload_n hx hb dX5_addPoint_104 rfl (lv_at hl 0 rfl) ?_
          refine va_get (D := (dC, dI)) (ci := 4) (v := .int v0_points) (C := RX5) (T := TX5) (N := 13) hx hb hu inX5 hown hK hP 0 rfl rfl 3 (by decide) (hu _ kw_108) (fun _ h9 => h9) rfl dX5_addPoint_105 ?_
          refine lv_iload_n hx hb dX5_addPoint_108 rfl (lv_at hl 3 rfl) ?_
          obtain ⟨g_12, hM⟩ := gd_u hM
          refine va_zast hx hb hK hP hD hS 3 1 rfl rfl (inb_v g_12) dX5_addPoint_109 (fun H locs hP hD hS => ?_)
          obtain ⟨f3_13, ef3_13⟩ : ∃ g : Nat → Int32, g = upd f3 (v0_points : Int32).toNatClampNeg (vp_nar .boolean p3) := ⟨_, rfl⟩
          have hM := nm_u ef3_13 hM
          have hP : va_P (dC, dI) vwCl [(h0, .inr (4, [.ref h1, .ref h2, .ref h3, .int v0_points, .int v0_lines, .int v0_first, .int v0_firstToldX, .int v0_firstToldY, .int v0_lastToldX, .int v0_lastToldY, .int s1_2, .int s1_4, .int s1_6])), (h1, .inl (cI, 800, .inl f1_9)), (h2, .inl (cI, 800, .inl f2_11)), (h3, .inl (cZ, 800, .inl f3_13))] H := by rw [ef3_13]; exact hP
          have hD : va_D A [(h0, .inr (4, [.ref h1, .ref h2, .ref h3, .int v0_points, .int v0_lines, .int v0_first, .int v0_firstToldX, .int v0_firstToldY, .int v0_lastToldX, .int v0_lastToldY, .int s1_2, .int s1_4, .int s1_6])), (h1, .inl (cI, 800, .inl f1_9)), (h2, .inl (cI, 800, .inl f2_11)), (h3, .inl (cZ, 800, .inl f3_13))] := by rw [ef3_13]; exact hD
          refine lv_aload_n hx hb dX5_addPoint_110 rfl (lv_at hl 0 rfl) ?_
          refine lv_dup hx hb dX5_addPoint_111 rfl ?_
          refine va_get (D := (dC, dI)) (ci := 4) (v := .int v0_points) (C := RX5) (T := TX5) (N := 13) hx hb hu inX5 hown hK hP 0 rfl rfl 3 (by decide) (hu _ kw_108) (fun _ h9 => h9) rfl dX5_addPoint_112 ?_
          refine lv_iconst (v := 1) hx hb dX5_addPoint_115 (by decide) ?_
          refine lv_iadd hx hb dX5_addPoint_116 ?_
          refine lv_topi (fun y_14 ey_14 => ?_)
          have hM := nm_u ey_14 hM
          refine va_put (D := (dC, dI)) (ci := 4) (v := .int y_14) (ty := .int) (C := RX5) (T := TX5) (N := 13) hx hb hu inX5 tyX5 tyX5_ok nmX5 hown hK hP hD hS 0 rfl rfl 3 (by decide) (hu _ kw_108) (fun _ h9 => h9) rfl (by decide +kernel) rfl rfl (Nat.le_of_ble_eq_true rfl) dX5_addPoint_117 (fun H locs hP hD hS => ?_)
          have hP : va_P (dC, dI) vwCl [(h0, .inr (4, [.ref h1, .ref h2, .ref h3, .int y_14, .int v0_lines, .int v0_first, .int v0_firstToldX, .int v0_firstToldY, .int v0_lastToldX, .int v0_lastToldY, .int s1_2, .int s1_4, .int s1_6])), (h1, .inl (cI, 800, .inl f1_9)), (h2, .inl (cI, 800, .inl f2_11)), (h3, .inl (cZ, 800, .inl f3_13))] H := hP
          have hD : va_D A [(h0, .inr (4, [.ref h1, .ref h2, .ref h3, .int y_14, .int v0_lines, .int v0_first, .int v0_firstToldX, .int v0_firstToldY, .int v0_lastToldX, .int v0_lastToldY, .int s1_2, .int s1_4, .int s1_6])), (h1, .inl (cI, 800, .inl f1_9)), (h2, .inl (cI, 800, .inl f2_11)), (h3, .inl (cZ, 800, .inl f3_13))] := hD
          have h9 := Option.some.inj hM
          subst h9
          exact W.vret hx hb hr (fun t ht hW => QMv_mk (by rw [ht]; exact hP) (va_K.moved hW.alike hK) hD (hS.F ht)) hS.2.2 dX5_addPoint_120
        refine lv_if_ne (tgt := 69) hx hb dX5_addPoint_62 (by decide) (fun c_15 => ?_) (fun c_15 => ?_)
        · have hM := if_f c_15 hM
          refine lv_aload_n hx hb dX5_addPoint_69 rfl (lv_at hl 0 rfl) ?_
          refine va_get (D := (dC, dI)) (ci := 4) (v := .int v0_greatestY) (C := RX5) (T := TX5) (N := 13) hx hb hu inX5 hown hK hP 0 rfl rfl 12 (by decide) (hu _ kw_113) (fun _ h9 => h9) rfl dX5_addPoint_70 ?_
          refine lv_iload_n hx hb dX5_addPoint_73 rfl (lv_at hl 2 rfl) ?_
          refine va_mmax hx hb (hml.trans hl.1.symm) hown (hu _ kw_117) (hu _ kw_59) (hu _ kw_60) (hu _ kw_61) (Nat.le_of_ble_eq_true rfl) (Nat.le_of_ble_eq_true rfl) (Nat.zero_le _) (Nat.zero_le _) dX5_addPoint_74 ?_
          refine lv_topi (fun x_16 ex_16 => ?_)
          have hM := nm_u ex_16 hM
          exact hJ77_7 x_16 H locs ls hP hD hS (lv_sub hl [0, 1, 2, 3] rfl) hM
        · have hM := if_t c_15 hM
          refine lv_iload_n hx hb dX5_addPoint_65 rfl (lv_at hl 2 rfl) ?_
          refine lv_goto (tgt := 77) hx hb dX5_addPoint_66 (by decide) ?_
          exact hJ77_7 p2 H locs ls hP hD hS (lv_sub hl [0, 1, 2, 3] rfl) hM
      refine lv_if_ne (tgt := 46) hx hb dX5_addPoint_39 (by decide) (fun c_17 => ?_) (fun c_17 => ?_)
      · have hM := if_f c_17 hM
        refine lv_aload_n hx hb dX5_addPoint_46 rfl (lv_at hl 0 rfl) ?_
        refine va_get (D := (dC, dI)) (ci := 4) (v := .int v0_leastY) (C := RX5) (T := TX5) (N := 13) hx hb hu inX5 hown hK hP 0 rfl rfl 11 (by decide) (hu _ kw_112) (fun _ h9 => h9) rfl dX5_addPoint_47 ?_
        refine lv_iload_n hx hb dX5_addPoint_50 rfl (lv_at hl 2 rfl) ?_
        refine va_mmin hx hb (hml.trans hl.1.symm) hown (hu _ kw_118) (hu _ kw_63) (hu _ kw_60) (hu _ kw_64) (Nat.le_of_ble_eq_true rfl) (Nat.le_of_ble_eq_true rfl) (Nat.zero_le _) (Nat.zero_le _) dX5_addPoint_51 ?_
        refine lv_topi (fun x_18 ex_18 => ?_)
        have hM := nm_u ex_18 hM
        exact hJ54_5 x_18 H locs ls hP hD hS (lv_sub hl [0, 1, 2, 3] rfl) hM
      · have hM := if_t c_17 hM
        refine lv_iload_n hx hb dX5_addPoint_42 rfl (lv_at hl 2 rfl) ?_
        refine lv_goto (tgt := 54) hx hb dX5_addPoint_43 (by decide) ?_
        exact hJ54_5 p2 H locs ls hP hD hS (lv_sub hl [0, 1, 2, 3] rfl) hM
    refine lv_if_ne (tgt := 23) hx hb dX5_addPoint_16 (by decide) (fun c_19 => ?_) (fun c_19 => ?_)
    · have hM := if_f c_19 hM
      refine lv_aload_n hx hb dX5_addPoint_23 rfl (lv_at hl 0 rfl) ?_
      refine va_get (D := (dC, dI)) (ci := 4) (v := .int v0_leastX) (C := RX5) (T := TX5) (N := 13) hx hb hu inX5 hown hK hP 0 rfl rfl 10 (by decide) (hu _ kw_111) (fun _ h9 => h9) rfl dX5_addPoint_24 ?_
      refine lv_iload_n hx hb dX5_addPoint_27 rfl (lv_at hl 1 rfl) ?_
      refine va_mmin hx hb (hml.trans hl.1.symm) hown (hu _ kw_118) (hu _ kw_63) (hu _ kw_60) (hu _ kw_64) (Nat.le_of_ble_eq_true rfl) (Nat.le_of_ble_eq_true rfl) (Nat.zero_le _) (Nat.zero_le _) dX5_addPoint_28 ?_
      refine lv_topi (fun x_20 ex_20 => ?_)
      have hM := nm_u ex_20 hM
      exact hJ31_3 x_20 H locs ls hP hD hS (lv_sub hl [0, 1, 2, 3] rfl) hM
    · have hM := if_t c_19 hM
      refine lv_iload_n hx hb dX5_addPoint_19 rfl (lv_at hl 1 rfl) ?_
      refine lv_goto (tgt := 31) hx hb dX5_addPoint_20 (by decide) ?_
      exact hJ31_3 p1 H locs ls hP hD hS (lv_sub hl [0, 1, 2, 3] rfl) hM
  · have hM := if_f c_1 hM
    have h9 := Option.some.inj hM
    subst h9
    exact W.vret hx hb hr (fun t ht hW => QMv_mk (by rw [ht]; exact hP) (va_K.moved hW.alike hK) hD (hS.F ht)) hS.2.2 dX5_addPoint_10
theorem dX5_begin_0 : decode cX5_begin 0 = .ok (.aload_n 0, 1) := by decide +kernel
theorem dX5_begin_1 : decode cX5_begin 1 = .ok (.aload_n 0, 1) := by decide +kernel
theorem dX5_begin_2 : decode cX5_begin 2 = .ok (.getfield 22, 3) := by decide +kernel
theorem dX5_begin_5 : decode cX5_begin 5 = .ok (.putfield 29, 3) := by decide +kernel
theorem dX5_begin_8 : decode cX5_begin 8 = .ok (.aload_n 0, 1) := by decide +kernel
theorem dX5_begin_9 : decode cX5_begin 9 = .ok (.iload_n 1, 1) := by decide +kernel
theorem dX5_begin_10 : decode cX5_begin 10 = .ok (.putfield 32, 3) := by decide +kernel
theorem dX5_begin_13 : decode cX5_begin 13 = .ok (.aload_n 0, 1) := by decide +kernel
theorem dX5_begin_14 : decode cX5_begin 14 = .ok (.iload_n 2, 1) := by decide +kernel
theorem dX5_begin_15 : decode cX5_begin 15 = .ok (.putfield 35, 3) := by decide +kernel
theorem dX5_begin_18 : decode cX5_begin 18 = .ok (.aload_n 0, 1) := by decide +kernel
theorem dX5_begin_19 : decode cX5_begin 19 = .ok (.iload_n 1, 1) := by decide +kernel
theorem dX5_begin_20 : decode cX5_begin 20 = .ok (.putfield 38, 3) := by decide +kernel
theorem dX5_begin_23 : decode cX5_begin 23 = .ok (.aload_n 0, 1) := by decide +kernel
theorem dX5_begin_24 : decode cX5_begin 24 = .ok (.iload_n 2, 1) := by decide +kernel
theorem dX5_begin_25 : decode cX5_begin 25 = .ok (.putfield 41, 3) := by decide +kernel
theorem dX5_begin_28 : decode cX5_begin 28 = .ok (.aload_n 0, 1) := by decide +kernel
theorem dX5_begin_29 : decode cX5_begin 29 = .ok (.aload_n 3, 1) := by decide +kernel
theorem dX5_begin_30 : decode cX5_begin 30 = .ok (.iload_n 1, 1) := by decide +kernel
theorem dX5_begin_31 : decode cX5_begin 31 = .ok (.iload_n 2, 1) := by decide +kernel
theorem dX5_begin_32 : decode cX5_begin 32 = .ok (.invokevirtual 44, 3) := by decide +kernel
theorem dX5_begin_35 : decode cX5_begin 35 = .ok (.aload_n 3, 1) := by decide +kernel
theorem dX5_begin_36 : decode cX5_begin 36 = .ok (.iload_n 1, 1) := by decide +kernel
theorem dX5_begin_37 : decode cX5_begin 37 = .ok (.iload_n 2, 1) := by decide +kernel
theorem dX5_begin_38 : decode cX5_begin 38 = .ok (.invokevirtual 50, 3) := by decide +kernel
theorem dX5_begin_41 : decode cX5_begin 41 = .ok (.iconst 1, 1) := by decide +kernel
theorem dX5_begin_42 : decode cX5_begin 42 = .ok (.invokevirtual 53, 3) := by decide +kernel
theorem dX5_begin_45 : decode cX5_begin 45 = .ok (.return_, 1) := by decide +kernel
abbrev rm_X5_begin : Room := { frames := 2, cells := 0, slots := 0, locals := 44 }
def w_X5_begin : List Cond := Cond.code yX5_begin cX5_begin 4 none :: uw
set_option maxHeartbeats 4000000 in
set_option maxRecDepth 100000 in
theorem c_X5_begin (l : Launch) (dC : Nat → ClassId) (dI : Nat → Nat → Nat) (cI cZ cO : ClassId) (tL sz : Nat) (h0 : Nat) (h1 : Nat) (h2 : Nat) (h3 : Nat) (h4 : Nat) (v0_points : Int32) (v0_lines : Int32) (v0_first : Int32) (v0_firstToldX : Int32) (v0_firstToldY : Int32) (v0_lastToldX : Int32) (v0_lastToldY : Int32) (v0_leastX : Int32) (v0_leastY : Int32) (v0_greatestY : Int32) (v1_a : Int32) (v1_b : Int32) (v1_c : Int32) (v1_d : Int32) (v1_e : Int32) (v1_f : Int32) (f2 : Nat → Int32) (f3 : Nat → Int32) (f4 : Nat → Int32) (p1 : Int32) (p2 : Int32) (res : Int32 × Int32 × Int32 × Int32 × Int32 × Int32 × Int32 × Int32 × Int32 × (Nat → Int32) × (Nat → Int32) × (Nat → Int32)) (hM : m_X5_begin v0_points v0_first v0_firstToldX v0_firstToldY v0_lastToldX v0_lastToldY v0_leastX v0_leastY v0_greatestY v1_a v1_b v1_c v1_d v1_e v1_f f2 f3 f4 p1 p2 = some res) : Met l yX5_begin w_X5_begin rm_X5_begin (PCx [.ref h0, .int p1, .int p2, .ref h1] (dC, dI) [(cI, .int), (cZ, .boolean), (cO, .object "ListPainter$Settings")] sz tL [(h0, .inr (4, [.ref h2, .ref h3, .ref h4, .int v0_points, .int v0_lines, .int v0_first, .int v0_firstToldX, .int v0_firstToldY, .int v0_lastToldX, .int v0_lastToldY, .int v0_leastX, .int v0_leastY, .int v0_greatestY])), (h1, .inr (8, [.int v1_a, .int v1_b, .int v1_c, .int v1_d, .int v1_e, .int v1_f])), (h2, .inl (cI, 800, .inl f2)), (h3, .inl (cI, 800, .inl f3)), (h4, .inl (cZ, 800, .inl f4))]) (QMv (dC, dI) [(cI, .int), (cZ, .boolean), (cO, .object "ListPainter$Settings")] (va_A [(h0, .inr (4, [.ref h2, .ref h3, .ref h4, .int v0_points, .int v0_lines, .int v0_first, .int v0_firstToldX, .int v0_firstToldY, .int v0_lastToldX, .int v0_lastToldY, .int v0_leastX, .int v0_leastY, .int v0_greatestY])), (h1, .inr (8, [.int v1_a, .int v1_b, .int v1_c, .int v1_d, .int v1_e, .int v1_f])), (h2, .inl (cI, 800, .inl f2)), (h3, .inl (cI, 800, .inl f3)), (h4, .inl (cZ, 800, .inl f4))] sz) [(h0, .inr (4, [.ref h2, .ref h3, .ref h4, .int (res.1), .int v0_lines, .int (res.2.1), .int (res.2.2.1), .int (res.2.2.2.1), .int (res.2.2.2.2.1), .int (res.2.2.2.2.2.1), .int (res.2.2.2.2.2.2.1), .int (res.2.2.2.2.2.2.2.1), .int (res.2.2.2.2.2.2.2.2.1)])), (h1, .inr (8, [.int v1_a, .int v1_b, .int v1_c, .int v1_d, .int v1_e, .int v1_f])), (h2, .inl (cI, 800, .inl (res.2.2.2.2.2.2.2.2.2.1))), (h3, .inl (cI, 800, .inl (res.2.2.2.2.2.2.2.2.2.2.1))), (h4, .inl (cZ, 800, .inl (res.2.2.2.2.2.2.2.2.2.2.2)))]) 0 0 (va_A [(h0, .inr (4, [.ref h2, .ref h3, .ref h4, .int v0_points, .int v0_lines, .int v0_first, .int v0_firstToldX, .int v0_firstToldY, .int v0_lastToldX, .int v0_lastToldY, .int v0_leastX, .int v0_leastY, .int v0_greatestY])), (h1, .inr (8, [.int v1_a, .int v1_b, .int v1_c, .int v1_d, .int v1_e, .int v1_f])), (h2, .inl (cI, 800, .inl f2)), (h3, .inl (cI, 800, .inl f3)), (h4, .inl (cZ, 800, .inl f4))] sz) := by
  refine Met.ofW (cc := cX5_begin) (maxL := 4) (ret := none) (by decide) rfl ?_
  intro p e s m args below meth c s₁ B hml hv
  obtain ⟨rfl, hsz, hP, hK, hD0, hG⟩ := hv
  have hx := B.exec
  have hb := B.bytes
  have hr := B.returns
  have hu : ∀ w ∈ uw, w.before ([.ref h0, .int p1, .int p2, .ref h1] : List Value).toArray s = true := fun w h => atoms_spec (ws := w_X5_begin) B.pre w (List.mem_cons_of_mem _ h)
  have hown : s.vm.findClass RX5 = some m.cls := findClass_of_methodNamed B.named
  have hlocks := B.notSynchronized
  subst hsz
  have hD := hD0.self (sz := s.heap.size)
  generalize hAe : va_A [(h0, .inr (4, [.ref h2, .ref h3, .ref h4, .int v0_points, .int v0_lines, .int v0_first, .int v0_firstToldX, .int v0_firstToldY, .int v0_lastToldX, .int v0_lastToldY, .int v0_leastX, .int v0_leastY, .int v0_greatestY])), (h1, .inr (8, [.int v1_a, .int v1_b, .int v1_c, .int v1_d, .int v1_e, .int v1_f])), (h2, .inl (cI, 800, .inl f2)), (h3, .inl (cI, 800, .inl f3)), (h4, .inl (cZ, 800, .inl f4))] s.heap.size = A at hD hG ⊢
  have hA : ∀ q : Nat, s.heap.size ≤ q → A q := fun q h => by rw [← hAe]; exact Or.inr h
  have hS : va_S A s.heap s.heap [] := va_S.rf
  have hP : va_P (dC, dI) vwCl [(h0, .inr (4, [.ref h2, .ref h3, .ref h4, .int v0_points, .int v0_lines, .int v0_first, .int v0_firstToldX, .int v0_firstToldY, .int v0_lastToldX, .int v0_lastToldY, .int v0_leastX, .int v0_leastY, .int v0_greatestY])), (h1, .inr (8, [.int v1_a, .int v1_b, .int v1_c, .int v1_d, .int v1_e, .int v1_f])), (h2, .inl (cI, 800, .inl f2)), (h3, .inl (cI, 800, .inl f3)), (h4, .inl (cZ, 800, .inl f4))] s.heap := hP
  have hl := lv_entry ([.ref h0, .int p1, .int p2, .ref h1]) (n := 4) (Nat.le_of_ble_eq_true rfl)
  rw [lg_entry_eq]
  generalize (lg_sl ([.ref h0, .int p1, .int p2, .ref h1]) ++ List.replicate (4 - (lg_sl ([.ref h0, .int p1, .int p2, .ref h1])).length) Slot.unset).toArray = ls at hl ⊢
  have hl : lv_has ls 4 [(0, .ref h0), (1, .int p1), (2, .int p2), (3, .ref h1)] := hl
  rw [m_X5_begin] at hM
  suffices hgo : ∀ (H : Heap) (locs : List Loc), va_P (dC, dI) vwCl [(h0, .inr (4, [.ref h2, .ref h3, .ref h4, .int v0_points, .int v0_lines, .int v0_first, .int v0_firstToldX, .int v0_firstToldY, .int v0_lastToldX, .int v0_lastToldY, .int v0_leastX, .int v0_leastY, .int v0_greatestY])), (h1, .inr (8, [.int v1_a, .int v1_b, .int v1_c, .int v1_d, .int v1_e, .int v1_f])), (h2, .inl (cI, 800, .inl f2)), (h3, .inl (cI, 800, .inl f3)), (h4, .inl (cZ, 800, .inl f4))] H → va_D A [(h0, .inr (4, [.ref h2, .ref h3, .ref h4, .int v0_points, .int v0_lines, .int v0_first, .int v0_firstToldX, .int v0_firstToldY, .int v0_lastToldX, .int v0_lastToldY, .int v0_leastX, .int v0_leastY, .int v0_greatestY])), (h1, .inr (8, [.int v1_a, .int v1_b, .int v1_c, .int v1_d, .int v1_e, .int v1_f])), (h2, .inl (cI, 800, .inl f2)), (h3, .inl (cI, 800, .inl f3)), (h4, .inl (cZ, 800, .inl f4))] → va_S A s.heap H locs → W p l e (headSpec w_X5_begin rm_X5_begin).room s m ([.ref h0, .int p1, .int p2, .ref h1] : List Value).toArray below meth c H locs 0 0 (MQ below (QMv (dC, dI) [(cI, .int), (cZ, .boolean), (cO, .object "ListPainter$Settings")] A [(h0, .inr (4, [.ref h2, .ref h3, .ref h4, .int (res.1), .int v0_lines, .int (res.2.1), .int (res.2.2.1), .int (res.2.2.2.1), .int (res.2.2.2.2.1), .int (res.2.2.2.2.2.1), .int (res.2.2.2.2.2.2.1), .int (res.2.2.2.2.2.2.2.1), .int (res.2.2.2.2.2.2.2.2.1)])), (h1, .inr (8, [.int v1_a, .int v1_b, .int v1_c, .int v1_d, .int v1_e, .int v1_f])), (h2, .inl (cI, 800, .inl (res.2.2.2.2.2.2.2.2.2.1))), (h3, .inl (cI, 800, .inl (res.2.2.2.2.2.2.2.2.2.2.1))), (h4, .inl (cZ, 800, .inl (res.2.2.2.2.2.2.2.2.2.2.2)))]) ([.ref h0, .int p1, .int p2, .ref h1] : List Value).toArray s 0 0 A) (F0 m 0 ls []) from hgo _ _ hP hD hS
  intro H locs hP hD hS
  refine lv_aload_n hx hb dX5_begin_0 rfl (lv_at hl 0 rfl) ?_
  refine lv_aload_n hx hb dX5_begin_1 rfl (lv_at hl 0 rfl) ?_
  refine va_get (D := (dC, dI)) (ci := 4) (v := .int v0_points) (C := RX5) (T := TX5) (N := 13) hx hb hu inX5 hown hK hP 0 rfl rfl 3 (by decide) (hu _ kw_108) (fun _ h9 => h9) rfl dX5_begin_2 ?_
  refine va_put (D := (dC, dI)) (ci := 4) (v := .int v0_points) (ty := .int) (C := RX5) (T := TX5) (N := 13) hx hb hu inX5 tyX5 tyX5_ok nmX5 hown hK hP hD hS 0 rfl rfl 5 (by decide) (hu _ kw_110) (fun _ h9 => h9) rfl (by decide +kernel) rfl rfl (Nat.le_of_ble_eq_true rfl) dX5_begin_5 (fun H locs hP hD hS => ?_)
  have hP : va_P (dC, dI) vwCl [(h0, .inr (4, [.ref h2, .ref h3, .ref h4, .int v0_points, .int v0_lines, .int v0_points, .int v0_firstToldX, .int v0_firstToldY, .int v0_lastToldX, .int v0_lastToldY, .int v0_leastX, .int v0_leastY, .int v0_greatestY])), (h1, .inr (8, [.int v1_a, .int v1_b, .int v1_c, .int v1_d, .int v1_e, .int v1_f])), (h2, .inl (cI, 800, .inl f2)), (h3, .inl (cI, 800, .inl f3)), (h4, .inl (cZ, 800, .inl f4))] H := hP
  have hD : va_D A [(h0, .inr (4, [.ref h2, .ref h3, .ref h4, .int v0_points, .int v0_lines, .int v0_points, .int v0_firstToldX, .int v0_firstToldY, .int v0_lastToldX, .int v0_lastToldY, .int v0_leastX, .int v0_leastY, .int v0_greatestY])), (h1, .inr (8, [.int v1_a, .int v1_b, .int v1_c, .int v1_d, .int v1_e, .int v1_f])), (h2, .inl (cI, 800, .inl f2)), (h3, .inl (cI, 800, .inl f3)), (h4, .inl (cZ, 800, .inl f4))] := hD
  refine lv_aload_n hx hb dX5_begin_8 rfl (lv_at hl 0 rfl) ?_
  refine lv_iload_n hx hb dX5_begin_9 rfl (lv_at hl 1 rfl) ?_
  refine va_put (D := (dC, dI)) (ci := 4) (v := .int p1) (ty := .int) (C := RX5) (T := TX5) (N := 13) hx hb hu inX5 tyX5 tyX5_ok nmX5 hown hK hP hD hS 0 rfl rfl 6 (by decide) (hu _ kw_119) (fun _ h9 => h9) rfl (by decide +kernel) rfl rfl (Nat.le_of_ble_eq_true rfl) dX5_begin_10 (fun H locs hP hD hS => ?_)
  have hP : va_P (dC, dI) vwCl [(h0, .inr (4, [.ref h2, .ref h3, .ref h4, .int v0_points, .int v0_lines, .int v0_points, .int p1, .int v0_firstToldY, .int v0_lastToldX, .int v0_lastToldY, .int v0_leastX, .int v0_leastY, .int v0_greatestY])), (h1, .inr (8, [.int v1_a, .int v1_b, .int v1_c, .int v1_d, .int v1_e, .int v1_f])), (h2, .inl (cI, 800, .inl f2)), (h3, .inl (cI, 800, .inl f3)), (h4, .inl (cZ, 800, .inl f4))] H := hP
  have hD : va_D A [(h0, .inr (4, [.ref h2, .ref h3, .ref h4, .int v0_points, .int v0_lines, .int v0_points, .int p1, .int v0_firstToldY, .int v0_lastToldX, .int v0_lastToldY, .int v0_leastX, .int v0_leastY, .int v0_greatestY])), (h1, .inr (8, [.int v1_a, .int v1_b, .int v1_c, .int v1_d, .int v1_e, .int v1_f])), (h2, .inl (cI, 800, .inl f2)), (h3, .inl (cI, 800, .inl f3)), (h4, .inl (cZ, 800, .inl f4))] := hD
  refine lv_aload_n hx hb dX5_begin_13 rfl (lv_at hl 0 rfl) ?_
  refine lv_iload_n hx hb dX5_begin_14 rfl (lv_at hl 2 rfl) ?_
  refine va_put (D := (dC, dI)) (ci := 4) (v := .int p2) (ty := .int) (C := RX5) (T := TX5) (N := 13) hx hb hu inX5 tyX5 tyX5_ok nmX5 hown hK hP hD hS 0 rfl rfl 7 (by decide) (hu _ kw_120) (fun _ h9 => h9) rfl (by decide +kernel) rfl rfl (Nat.le_of_ble_eq_true rfl) dX5_begin_15 (fun H locs hP hD hS => ?_)
  have hP : va_P (dC, dI) vwCl [(h0, .inr (4, [.ref h2, .ref h3, .ref h4, .int v0_points, .int v0_lines, .int v0_points, .int p1, .int p2, .int v0_lastToldX, .int v0_lastToldY, .int v0_leastX, .int v0_leastY, .int v0_greatestY])), (h1, .inr (8, [.int v1_a, .int v1_b, .int v1_c, .int v1_d, .int v1_e, .int v1_f])), (h2, .inl (cI, 800, .inl f2)), (h3, .inl (cI, 800, .inl f3)), (h4, .inl (cZ, 800, .inl f4))] H := hP
  have hD : va_D A [(h0, .inr (4, [.ref h2, .ref h3, .ref h4, .int v0_points, .int v0_lines, .int v0_points, .int p1, .int p2, .int v0_lastToldX, .int v0_lastToldY, .int v0_leastX, .int v0_leastY, .int v0_greatestY])), (h1, .inr (8, [.int v1_a, .int v1_b, .int v1_c, .int v1_d, .int v1_e, .int v1_f])), (h2, .inl (cI, 800, .inl f2)), (h3, .inl (cI, 800, .inl f3)), (h4, .inl (cZ, 800, .inl f4))] := hD
  refine lv_aload_n hx hb dX5_begin_18 rfl (lv_at hl 0 rfl) ?_
  refine lv_iload_n hx hb dX5_begin_19 rfl (lv_at hl 1 rfl) ?_
  refine va_put (D := (dC, dI)) (ci := 4) (v := .int p1) (ty := .int) (C := RX5) (T := TX5) (N := 13) hx hb hu inX5 tyX5 tyX5_ok nmX5 hown hK hP hD hS 0 rfl rfl 8 (by decide) (hu _ kw_121) (fun _ h9 => h9) rfl (by decide +kernel) rfl rfl (Nat.le_of_ble_eq_true rfl) dX5_begin_20 (fun H locs hP hD hS => ?_)
  have hP : va_P (dC, dI) vwCl [(h0, .inr (4, [.ref h2, .ref h3, .ref h4, .int v0_points, .int v0_lines, .int v0_points, .int p1, .int p2, .int p1, .int v0_lastToldY, .int v0_leastX, .int v0_leastY, .int v0_greatestY])), (h1, .inr (8, [.int v1_a, .int v1_b, .int v1_c, .int v1_d, .int v1_e, .int v1_f])), (h2, .inl (cI, 800, .inl f2)), (h3, .inl (cI, 800, .inl f3)), (h4, .inl (cZ, 800, .inl f4))] H := hP
  have hD : va_D A [(h0, .inr (4, [.ref h2, .ref h3, .ref h4, .int v0_points, .int v0_lines, .int v0_points, .int p1, .int p2, .int p1, .int v0_lastToldY, .int v0_leastX, .int v0_leastY, .int v0_greatestY])), (h1, .inr (8, [.int v1_a, .int v1_b, .int v1_c, .int v1_d, .int v1_e, .int v1_f])), (h2, .inl (cI, 800, .inl f2)), (h3, .inl (cI, 800, .inl f3)), (h4, .inl (cZ, 800, .inl f4))] := hD
  refine lv_aload_n hx hb dX5_begin_23 rfl (lv_at hl 0 rfl) ?_
  refine lv_iload_n hx hb dX5_begin_24 rfl (lv_at hl 2 rfl) ?_
  refine va_put (D := (dC, dI)) (ci := 4) (v := .int p2) (ty := .int) (C := RX5) (T := TX5) (N := 13) hx hb hu inX5 tyX5 tyX5_ok nmX5 hown hK hP hD hS 0 rfl rfl 9 (by decide) (hu _ kw_122) (fun _ h9 => h9) rfl (by decide +kernel) rfl rfl (Nat.le_of_ble_eq_true rfl) dX5_begin_25 (fun H locs hP hD hS => ?_)
  have hP : va_P (dC, dI) vwCl [(h0, .inr (4, [.ref h2, .ref h3, .ref h4, .int v0_points, .int v0_lines, .int v0_points, .int p1, .int p2, .int p1, .int p2, .int v0_leastX, .int v0_leastY, .int v0_greatestY])), (h1, .inr (8, [.int v1_a, .int v1_b, .int v1_c, .int v1_d, .int v1_e, .int v1_f])), (h2, .inl (cI, 800, .inl f2)), (h3, .inl (cI, 800, .inl f3)), (h4, .inl (cZ, 800, .inl f4))] H := hP
  have hD : va_D A [(h0, .inr (4, [.ref h2, .ref h3, .ref h4, .int v0_points, .int v0_lines, .int v0_points, .int p1, .int p2, .int p1, .int p2, .int v0_leastX, .int v0_leastY, .int v0_greatestY])), (h1, .inr (8, [.int v1_a, .int v1_b, .int v1_c, .int v1_d, .int v1_e, .int v1_f])), (h2, .inl (cI, 800, .inl f2)), (h3, .inl (cI, 800, .inl f3)), (h4, .inl (cZ, 800, .inl f4))] := hD
  refine lv_aload_n hx hb dX5_begin_28 rfl (lv_at hl 0 rfl) ?_
  refine lv_aload_n hx hb dX5_begin_29 rfl (lv_at hl 3 rfl) ?_
  refine lv_iload_n hx hb dX5_begin_30 rfl (lv_at hl 1 rfl) ?_
  refine lv_iload_n hx hb dX5_begin_31 rfl (lv_at hl 2 rfl) ?_
  obtain ⟨r_1, hm_2, hM⟩ := bd1_u hM
  refine cVi (r := r_1) (As := [.int p1, .int p2]) (rest := [.ref h0]) ⟨hx, hb, hml, hown, hu⟩ (c_X9_sendX l dC dI cI cZ cO tL H.size h1 v1_a v1_b v1_c v1_d v1_e v1_f p1 p2 r_1 hm_2) (cwV 2 hu (gV kw_123 kw_124 kw_125 kw_39 kw_126) rfl rfl rfl (by decide +kernel) ⟨Nat.le_of_ble_eq_true rfl, Nat.le_of_ble_eq_true rfl⟩) hP hD hS hA hK hG [1] (by decide) rfl [none, some 0, none, none, none] 1 rfl (by decide +kernel) rfl 8 1 rfl rfl rfl rfl hl.1 rfl (Nat.le_of_ble_eq_true rfl) dX5_begin_32 (Nat.zero_le _) (Nat.zero_le _) (fun H locs hP hD hS => ?_)
  have hP : va_P (dC, dI) vwCl [(h0, .inr (4, [.ref h2, .ref h3, .ref h4, .int v0_points, .int v0_lines, .int v0_points, .int p1, .int p2, .int p1, .int p2, .int v0_leastX, .int v0_leastY, .int v0_greatestY])), (h1, .inr (8, [.int v1_a, .int v1_b, .int v1_c, .int v1_d, .int v1_e, .int v1_f])), (h2, .inl (cI, 800, .inl f2)), (h3, .inl (cI, 800, .inl f3)), (h4, .inl (cZ, 800, .inl f4))] H := hP
  have hD : va_D A [(h0, .inr (4, [.ref h2, .ref h3, .ref h4, .int v0_points, .int v0_lines, .int v0_points, .int p1, .int p2, .int p1, .int p2, .int v0_leastX, .int v0_leastY, .int v0_greatestY])), (h1, .inr (8, [.int v1_a, .int v1_b, .int v1_c, .int v1_d, .int v1_e, .int v1_f])), (h2, .inl (cI, 800, .inl f2)), (h3, .inl (cI, 800, .inl f3)), (h4, .inl (cZ, 800, .inl f4))] := hD
  refine lv_aload_n hx hb dX5_begin_35 rfl (lv_at hl 3 rfl) ?_
  refine lv_iload_n hx hb dX5_begin_36 rfl (lv_at hl 1 rfl) ?_
  refine lv_iload_n hx hb dX5_begin_37 rfl (lv_at hl 2 rfl) ?_
  obtain ⟨r_3, hm_4, hM⟩ := bd1_u hM
  refine cVi (r := r_3) (As := [.int p1, .int p2]) (rest := [.int r_1, .ref h0]) ⟨hx, hb, hml, hown, hu⟩ (c_X9_sendY l dC dI cI cZ cO tL H.size h1 v1_a v1_b v1_c v1_d v1_e v1_f p1 p2 r_3 hm_4) (cwV 2 hu (gV kw_127 kw_128 kw_129 kw_39 kw_130) rfl rfl rfl (by decide +kernel) ⟨Nat.le_of_ble_eq_true rfl, Nat.le_of_ble_eq_true rfl⟩) hP hD hS hA hK hG [1] (by decide) rfl [none, some 0, none, none, none] 1 rfl (by decide +kernel) rfl 8 1 rfl rfl rfl rfl hl.1 rfl (Nat.le_of_ble_eq_true rfl) dX5_begin_38 (Nat.zero_le _) (Nat.zero_le _) (fun H locs hP hD hS => ?_)
  have hP : va_P (dC, dI) vwCl [(h0, .inr (4, [.ref h2, .ref h3, .ref h4, .int v0_points, .int v0_lines, .int v0_points, .int p1, .int p2, .int p1, .int p2, .int v0_leastX, .int v0_leastY, .int v0_greatestY])), (h1, .inr (8, [.int v1_a, .int v1_b, .int v1_c, .int v1_d, .int v1_e, .int v1_f])), (h2, .inl (cI, 800, .inl f2)), (h3, .inl (cI, 800, .inl f3)), (h4, .inl (cZ, 800, .inl f4))] H := hP
  have hD : va_D A [(h0, .inr (4, [.ref h2, .ref h3, .ref h4, .int v0_points, .int v0_lines, .int v0_points, .int p1, .int p2, .int p1, .int p2, .int v0_leastX, .int v0_leastY, .int v0_greatestY])), (h1, .inr (8, [.int v1_a, .int v1_b, .int v1_c, .int v1_d, .int v1_e, .int v1_f])), (h2, .inl (cI, 800, .inl f2)), (h3, .inl (cI, 800, .inl f3)), (h4, .inl (cZ, 800, .inl f4))] := hD
  refine lv_iconst (v := 1) hx hb dX5_begin_41 (by decide) ?_
  obtain ⟨v0_5, v0_6, v0_7, v0_8, f2_9, f3_10, f4_11, hm_12, hM⟩ := bd7_u hM
  refine cVv (As := [.int r_1, .int r_3, .int 1]) (rest := []) ⟨hx, hb, hml, hown, hu⟩ (c_X5_addPoint l dC dI cI cZ cO tL H.size h0 h2 h3 h4 v0_points v0_lines v0_points p1 p2 p1 p2 v0_leastX v0_leastY v0_greatestY f2 f3 f4 r_1 r_3 1 (v0_5, v0_6, v0_7, v0_8, f2_9, f3_10, f4_11) hm_12) (cwV 3 hu (gV kw_131 kw_132 kw_133 kw_134 kw_135) rfl rfl rfl (by decide +kernel) ⟨Nat.le_of_ble_eq_true rfl, Nat.le_of_ble_eq_true rfl⟩) hP hD hS hA hK hG [0, 2, 3, 4] (by decide) rfl [some 0, none, some 1, some 2, some 3] 4 rfl (by decide +kernel) rfl 4 0 rfl rfl rfl rfl hl.1 rfl (Nat.le_of_ble_eq_true rfl) dX5_begin_42 (Nat.zero_le _) (Nat.zero_le _) (fun H locs hP hD hS => ?_)
  have hP : va_P (dC, dI) vwCl [(h0, .inr (4, [.ref h2, .ref h3, .ref h4, .int v0_5, .int v0_lines, .int v0_points, .int p1, .int p2, .int p1, .int p2, .int v0_6, .int v0_7, .int v0_8])), (h1, .inr (8, [.int v1_a, .int v1_b, .int v1_c, .int v1_d, .int v1_e, .int v1_f])), (h2, .inl (cI, 800, .inl f2_9)), (h3, .inl (cI, 800, .inl f3_10)), (h4, .inl (cZ, 800, .inl f4_11))] H := hP
  have hD : va_D A [(h0, .inr (4, [.ref h2, .ref h3, .ref h4, .int v0_5, .int v0_lines, .int v0_points, .int p1, .int p2, .int p1, .int p2, .int v0_6, .int v0_7, .int v0_8])), (h1, .inr (8, [.int v1_a, .int v1_b, .int v1_c, .int v1_d, .int v1_e, .int v1_f])), (h2, .inl (cI, 800, .inl f2_9)), (h3, .inl (cI, 800, .inl f3_10)), (h4, .inl (cZ, 800, .inl f4_11))] := hD
  have h9 := Option.some.inj hM
  subst h9
  exact W.vret hx hb hr (fun t ht hW => QMv_mk (by rw [ht]; exact hP) (va_K.moved hW.alike hK) hD (hS.F ht)) hS.2.2 dX5_begin_45
theorem dX5_lineTo_0 : decode cX5_lineTo 0 = .ok (.aload_n 0, 1) := by decide +kernel
theorem dX5_lineTo_1 : decode cX5_lineTo 1 = .ok (.iload_n 1, 1) := by decide +kernel
theorem dX5_lineTo_2 : decode cX5_lineTo 2 = .ok (.putfield 38, 3) := by decide +kernel
theorem dX5_lineTo_5 : decode cX5_lineTo 5 = .ok (.aload_n 0, 1) := by decide +kernel
theorem dX5_lineTo_6 : decode cX5_lineTo 6 = .ok (.iload_n 2, 1) := by decide +kernel
theorem dX5_lineTo_7 : decode cX5_lineTo 7 = .ok (.putfield 41, 3) := by decide +kernel
theorem dX5_lineTo_10 : decode cX5_lineTo 10 = .ok (.aload_n 0, 1) := by decide +kernel
theorem dX5_lineTo_11 : decode cX5_lineTo 11 = .ok (.dup, 1) := by decide +kernel
theorem dX5_lineTo_12 : decode cX5_lineTo 12 = .ok (.getfield 26, 3) := by decide +kernel
theorem dX5_lineTo_15 : decode cX5_lineTo 15 = .ok (.iconst 1, 1) := by decide +kernel
theorem dX5_lineTo_16 : decode cX5_lineTo 16 = .ok (.iadd, 1) := by decide +kernel
theorem dX5_lineTo_17 : decode cX5_lineTo 17 = .ok (.putfield 26, 3) := by decide +kernel
theorem dX5_lineTo_20 : decode cX5_lineTo 20 = .ok (.aload_n 0, 1) := by decide +kernel
theorem dX5_lineTo_21 : decode cX5_lineTo 21 = .ok (.aload_n 3, 1) := by decide +kernel
theorem dX5_lineTo_22 : decode cX5_lineTo 22 = .ok (.iload_n 1, 1) := by decide +kernel
theorem dX5_lineTo_23 : decode cX5_lineTo 23 = .ok (.iload_n 2, 1) := by decide +kernel
theorem dX5_lineTo_24 : decode cX5_lineTo 24 = .ok (.invokevirtual 44, 3) := by decide +kernel
theorem dX5_lineTo_27 : decode cX5_lineTo 27 = .ok (.aload_n 3, 1) := by decide +kernel
theorem dX5_lineTo_28 : decode cX5_lineTo 28 = .ok (.iload_n 1, 1) := by decide +kernel
theorem dX5_lineTo_29 : decode cX5_lineTo 29 = .ok (.iload_n 2, 1) := by decide +kernel
theorem dX5_lineTo_30 : decode cX5_lineTo 30 = .ok (.invokevirtual 50, 3) := by decide +kernel
theorem dX5_lineTo_33 : decode cX5_lineTo 33 = .ok (.iconst 0, 1) := by decide +kernel
theorem dX5_lineTo_34 : decode cX5_lineTo 34 = .ok (.invokevirtual 53, 3) := by decide +kernel
theorem dX5_lineTo_37 : decode cX5_lineTo 37 = .ok (.return_, 1) := by decide +kernel
abbrev rm_X5_lineTo : Room := { frames := 2, cells := 0, slots := 0, locals := 44 }
def w_X5_lineTo : List Cond := Cond.code yX5_lineTo cX5_lineTo 4 none :: uw
set_option maxHeartbeats 4000000 in
set_option maxRecDepth 100000 in
theorem c_X5_lineTo (l : Launch) (dC : Nat → ClassId) (dI : Nat → Nat → Nat) (cI cZ cO : ClassId) (tL sz : Nat) (h0 : Nat) (h1 : Nat) (h2 : Nat) (h3 : Nat) (h4 : Nat) (v0_points : Int32) (v0_lines : Int32) (v0_first : Int32) (v0_firstToldX : Int32) (v0_firstToldY : Int32) (v0_lastToldX : Int32) (v0_lastToldY : Int32) (v0_leastX : Int32) (v0_leastY : Int32) (v0_greatestY : Int32) (v1_a : Int32) (v1_b : Int32) (v1_c : Int32) (v1_d : Int32) (v1_e : Int32) (v1_f : Int32) (f2 : Nat → Int32) (f3 : Nat → Int32) (f4 : Nat → Int32) (p1 : Int32) (p2 : Int32) (res : Int32 × Int32 × Int32 × Int32 × Int32 × Int32 × Int32 × (Nat → Int32) × (Nat → Int32) × (Nat → Int32)) (hM : m_X5_lineTo v0_points v0_lines v0_lastToldX v0_lastToldY v0_leastX v0_leastY v0_greatestY v1_a v1_b v1_c v1_d v1_e v1_f f2 f3 f4 p1 p2 = some res) : Met l yX5_lineTo w_X5_lineTo rm_X5_lineTo (PCx [.ref h0, .int p1, .int p2, .ref h1] (dC, dI) [(cI, .int), (cZ, .boolean), (cO, .object "ListPainter$Settings")] sz tL [(h0, .inr (4, [.ref h2, .ref h3, .ref h4, .int v0_points, .int v0_lines, .int v0_first, .int v0_firstToldX, .int v0_firstToldY, .int v0_lastToldX, .int v0_lastToldY, .int v0_leastX, .int v0_leastY, .int v0_greatestY])), (h1, .inr (8, [.int v1_a, .int v1_b, .int v1_c, .int v1_d, .int v1_e, .int v1_f])), (h2, .inl (cI, 800, .inl f2)), (h3, .inl (cI, 800, .inl f3)), (h4, .inl (cZ, 800, .inl f4))]) (QMv (dC, dI) [(cI, .int), (cZ, .boolean), (cO, .object "ListPainter$Settings")] (va_A [(h0, .inr (4, [.ref h2, .ref h3, .ref h4, .int v0_points, .int v0_lines, .int v0_first, .int v0_firstToldX, .int v0_firstToldY, .int v0_lastToldX, .int v0_lastToldY, .int v0_leastX, .int v0_leastY, .int v0_greatestY])), (h1, .inr (8, [.int v1_a, .int v1_b, .int v1_c, .int v1_d, .int v1_e, .int v1_f])), (h2, .inl (cI, 800, .inl f2)), (h3, .inl (cI, 800, .inl f3)), (h4, .inl (cZ, 800, .inl f4))] sz) [(h0, .inr (4, [.ref h2, .ref h3, .ref h4, .int (res.1), .int (res.2.1), .int v0_first, .int v0_firstToldX, .int v0_firstToldY, .int (res.2.2.1), .int (res.2.2.2.1), .int (res.2.2.2.2.1), .int (res.2.2.2.2.2.1), .int (res.2.2.2.2.2.2.1)])), (h1, .inr (8, [.int v1_a, .int v1_b, .int v1_c, .int v1_d, .int v1_e, .int v1_f])), (h2, .inl (cI, 800, .inl (res.2.2.2.2.2.2.2.1))), (h3, .inl (cI, 800, .inl (res.2.2.2.2.2.2.2.2.1))), (h4, .inl (cZ, 800, .inl (res.2.2.2.2.2.2.2.2.2)))]) 0 0 (va_A [(h0, .inr (4, [.ref h2, .ref h3, .ref h4, .int v0_points, .int v0_lines, .int v0_first, .int v0_firstToldX, .int v0_firstToldY, .int v0_lastToldX, .int v0_lastToldY, .int v0_leastX, .int v0_leastY, .int v0_greatestY])), (h1, .inr (8, [.int v1_a, .int v1_b, .int v1_c, .int v1_d, .int v1_e, .int v1_f])), (h2, .inl (cI, 800, .inl f2)), (h3, .inl (cI, 800, .inl f3)), (h4, .inl (cZ, 800, .inl f4))] sz) := by
  refine Met.ofW (cc := cX5_lineTo) (maxL := 4) (ret := none) (by decide) rfl ?_
  intro p e s m args below meth c s₁ B hml hv
  obtain ⟨rfl, hsz, hP, hK, hD0, hG⟩ := hv
  have hx := B.exec
  have hb := B.bytes
  have hr := B.returns
  have hu : ∀ w ∈ uw, w.before ([.ref h0, .int p1, .int p2, .ref h1] : List Value).toArray s = true := fun w h => atoms_spec (ws := w_X5_lineTo) B.pre w (List.mem_cons_of_mem _ h)
  have hown : s.vm.findClass RX5 = some m.cls := findClass_of_methodNamed B.named
  have hlocks := B.notSynchronized
  subst hsz
  have hD := hD0.self (sz := s.heap.size)
  generalize hAe : va_A [(h0, .inr (4, [.ref h2, .ref h3, .ref h4, .int v0_points, .int v0_lines, .int v0_first, .int v0_firstToldX, .int v0_firstToldY, .int v0_lastToldX, .int v0_lastToldY, .int v0_leastX, .int v0_leastY, .int v0_greatestY])), (h1, .inr (8, [.int v1_a, .int v1_b, .int v1_c, .int v1_d, .int v1_e, .int v1_f])), (h2, .inl (cI, 800, .inl f2)), (h3, .inl (cI, 800, .inl f3)), (h4, .inl (cZ, 800, .inl f4))] s.heap.size = A at hD hG ⊢
  have hA : ∀ q : Nat, s.heap.size ≤ q → A q := fun q h => by rw [← hAe]; exact Or.inr h
  have hS : va_S A s.heap s.heap [] := va_S.rf
  have hP : va_P (dC, dI) vwCl [(h0, .inr (4, [.ref h2, .ref h3, .ref h4, .int v0_points, .int v0_lines, .int v0_first, .int v0_firstToldX, .int v0_firstToldY, .int v0_lastToldX, .int v0_lastToldY, .int v0_leastX, .int v0_leastY, .int v0_greatestY])), (h1, .inr (8, [.int v1_a, .int v1_b, .int v1_c, .int v1_d, .int v1_e, .int v1_f])), (h2, .inl (cI, 800, .inl f2)), (h3, .inl (cI, 800, .inl f3)), (h4, .inl (cZ, 800, .inl f4))] s.heap := hP
  have hl := lv_entry ([.ref h0, .int p1, .int p2, .ref h1]) (n := 4) (Nat.le_of_ble_eq_true rfl)
  rw [lg_entry_eq]
  generalize (lg_sl ([.ref h0, .int p1, .int p2, .ref h1]) ++ List.replicate (4 - (lg_sl ([.ref h0, .int p1, .int p2, .ref h1])).length) Slot.unset).toArray = ls at hl ⊢
  have hl : lv_has ls 4 [(0, .ref h0), (1, .int p1), (2, .int p2), (3, .ref h1)] := hl
  rw [m_X5_lineTo] at hM
  suffices hgo : ∀ (H : Heap) (locs : List Loc), va_P (dC, dI) vwCl [(h0, .inr (4, [.ref h2, .ref h3, .ref h4, .int v0_points, .int v0_lines, .int v0_first, .int v0_firstToldX, .int v0_firstToldY, .int v0_lastToldX, .int v0_lastToldY, .int v0_leastX, .int v0_leastY, .int v0_greatestY])), (h1, .inr (8, [.int v1_a, .int v1_b, .int v1_c, .int v1_d, .int v1_e, .int v1_f])), (h2, .inl (cI, 800, .inl f2)), (h3, .inl (cI, 800, .inl f3)), (h4, .inl (cZ, 800, .inl f4))] H → va_D A [(h0, .inr (4, [.ref h2, .ref h3, .ref h4, .int v0_points, .int v0_lines, .int v0_first, .int v0_firstToldX, .int v0_firstToldY, .int v0_lastToldX, .int v0_lastToldY, .int v0_leastX, .int v0_leastY, .int v0_greatestY])), (h1, .inr (8, [.int v1_a, .int v1_b, .int v1_c, .int v1_d, .int v1_e, .int v1_f])), (h2, .inl (cI, 800, .inl f2)), (h3, .inl (cI, 800, .inl f3)), (h4, .inl (cZ, 800, .inl f4))] → va_S A s.heap H locs → W p l e (headSpec w_X5_lineTo rm_X5_lineTo).room s m ([.ref h0, .int p1, .int p2, .ref h1] : List Value).toArray below meth c H locs 0 0 (MQ below (QMv (dC, dI) [(cI, .int), (cZ, .boolean), (cO, .object "ListPainter$Settings")] A [(h0, .inr (4, [.ref h2, .ref h3, .ref h4, .int (res.1), .int (res.2.1), .int v0_first, .int v0_firstToldX, .int v0_firstToldY, .int (res.2.2.1), .int (res.2.2.2.1), .int (res.2.2.2.2.1), .int (res.2.2.2.2.2.1), .int (res.2.2.2.2.2.2.1)])), (h1, .inr (8, [.int v1_a, .int v1_b, .int v1_c, .int v1_d, .int v1_e, .int v1_f])), (h2, .inl (cI, 800, .inl (res.2.2.2.2.2.2.2.1))), (h3, .inl (cI, 800, .inl (res.2.2.2.2.2.2.2.2.1))), (h4, .inl (cZ, 800, .inl (res.2.2.2.2.2.2.2.2.2)))]) ([.ref h0, .int p1, .int p2, .ref h1] : List Value).toArray s 0 0 A) (F0 m 0 ls []) from hgo _ _ hP hD hS
  intro H locs hP hD hS
  refine lv_aload_n hx hb dX5_lineTo_0 rfl (lv_at hl 0 rfl) ?_
  refine lv_iload_n hx hb dX5_lineTo_1 rfl (lv_at hl 1 rfl) ?_
  refine va_put (D := (dC, dI)) (ci := 4) (v := .int p1) (ty := .int) (C := RX5) (T := TX5) (N := 13) hx hb hu inX5 tyX5 tyX5_ok nmX5 hown hK hP hD hS 0 rfl rfl 8 (by decide) (hu _ kw_121) (fun _ h9 => h9) rfl (by decide +kernel) rfl rfl (Nat.le_of_ble_eq_true rfl) dX5_lineTo_2 (fun H locs hP hD hS => ?_)
  have hP : va_P (dC, dI) vwCl [(h0, .inr (4, [.ref h2, .ref h3, .ref h4, .int v0_points, .int v0_lines, .int v0_first, .int v0_firstToldX, .int v0_firstToldY, .int p1, .int v0_lastToldY, .int v0_leastX, .int v0_leastY, .int v0_greatestY])), (h1, .inr (8, [.int v1_a, .int v1_b, .int v1_c, .int v1_d, .int v1_e, .int v1_f])), (h2, .inl (cI, 800, .inl f2)), (h3, .inl (cI, 800, .inl f3)), (h4, .inl (cZ, 800, .inl f4))] H := hP
  have hD : va_D A [(h0, .inr (4, [.ref h2, .ref h3, .ref h4, .int v0_points, .int v0_lines, .int v0_first, .int v0_firstToldX, .int v0_firstToldY, .int p1, .int v0_lastToldY, .int v0_leastX, .int v0_leastY, .int v0_greatestY])), (h1, .inr (8, [.int v1_a, .int v1_b, .int v1_c, .int v1_d, .int v1_e, .int v1_f])), (h2, .inl (cI, 800, .inl f2)), (h3, .inl (cI, 800, .inl f3)), (h4, .inl (cZ, 800, .inl f4))] := hD
  refine lv_aload_n hx hb dX5_lineTo_5 rfl (lv_at hl 0 rfl) ?_
  refine lv_iload_n hx hb dX5_lineTo_6 rfl (lv_at hl 2 rfl) ?_
  refine va_put (D := (dC, dI)) (ci := 4) (v := .int p2) (ty := .int) (C := RX5) (T := TX5) (N := 13) hx hb hu inX5 tyX5 tyX5_ok nmX5 hown hK hP hD hS 0 rfl rfl 9 (by decide) (hu _ kw_122) (fun _ h9 => h9) rfl (by decide +kernel) rfl rfl (Nat.le_of_ble_eq_true rfl) dX5_lineTo_7 (fun H locs hP hD hS => ?_)
  have hP : va_P (dC, dI) vwCl [(h0, .inr (4, [.ref h2, .ref h3, .ref h4, .int v0_points, .int v0_lines, .int v0_first, .int v0_firstToldX, .int v0_firstToldY, .int p1, .int p2, .int v0_leastX, .int v0_leastY, .int v0_greatestY])), (h1, .inr (8, [.int v1_a, .int v1_b, .int v1_c, .int v1_d, .int v1_e, .int v1_f])), (h2, .inl (cI, 800, .inl f2)), (h3, .inl (cI, 800, .inl f3)), (h4, .inl (cZ, 800, .inl f4))] H := hP
  have hD : va_D A [(h0, .inr (4, [.ref h2, .ref h3, .ref h4, .int v0_points, .int v0_lines, .int v0_first, .int v0_firstToldX, .int v0_firstToldY, .int p1, .int p2, .int v0_leastX, .int v0_leastY, .int v0_greatestY])), (h1, .inr (8, [.int v1_a, .int v1_b, .int v1_c, .int v1_d, .int v1_e, .int v1_f])), (h2, .inl (cI, 800, .inl f2)), (h3, .inl (cI, 800, .inl f3)), (h4, .inl (cZ, 800, .inl f4))] := hD
  refine lv_aload_n hx hb dX5_lineTo_10 rfl (lv_at hl 0 rfl) ?_
  refine lv_dup hx hb dX5_lineTo_11 rfl ?_
  refine va_get (D := (dC, dI)) (ci := 4) (v := .int v0_lines) (C := RX5) (T := TX5) (N := 13) hx hb hu inX5 hown hK hP 0 rfl rfl 4 (by decide) (hu _ kw_109) (fun _ h9 => h9) rfl dX5_lineTo_12 ?_
  refine lv_iconst (v := 1) hx hb dX5_lineTo_15 (by decide) ?_
  refine lv_iadd hx hb dX5_lineTo_16 ?_
  refine lv_topi (fun y_1 ey_1 => ?_)
  have hM := nm_u ey_1 hM
  refine va_put (D := (dC, dI)) (ci := 4) (v := .int y_1) (ty := .int) (C := RX5) (T := TX5) (N := 13) hx hb hu inX5 tyX5 tyX5_ok nmX5 hown hK hP hD hS 0 rfl rfl 4 (by decide) (hu _ kw_109) (fun _ h9 => h9) rfl (by decide +kernel) rfl rfl (Nat.le_of_ble_eq_true rfl) dX5_lineTo_17 (fun H locs hP hD hS => ?_)
  have hP : va_P (dC, dI) vwCl [(h0, .inr (4, [.ref h2, .ref h3, .ref h4, .int v0_points, .int y_1, .int v0_first, .int v0_firstToldX, .int v0_firstToldY, .int p1, .int p2, .int v0_leastX, .int v0_leastY, .int v0_greatestY])), (h1, .inr (8, [.int v1_a, .int v1_b, .int v1_c, .int v1_d, .int v1_e, .int v1_f])), (h2, .inl (cI, 800, .inl f2)), (h3, .inl (cI, 800, .inl f3)), (h4, .inl (cZ, 800, .inl f4))] H := hP
  have hD : va_D A [(h0, .inr (4, [.ref h2, .ref h3, .ref h4, .int v0_points, .int y_1, .int v0_first, .int v0_firstToldX, .int v0_firstToldY, .int p1, .int p2, .int v0_leastX, .int v0_leastY, .int v0_greatestY])), (h1, .inr (8, [.int v1_a, .int v1_b, .int v1_c, .int v1_d, .int v1_e, .int v1_f])), (h2, .inl (cI, 800, .inl f2)), (h3, .inl (cI, 800, .inl f3)), (h4, .inl (cZ, 800, .inl f4))] := hD
  refine lv_aload_n hx hb dX5_lineTo_20 rfl (lv_at hl 0 rfl) ?_
  refine lv_aload_n hx hb dX5_lineTo_21 rfl (lv_at hl 3 rfl) ?_
  refine lv_iload_n hx hb dX5_lineTo_22 rfl (lv_at hl 1 rfl) ?_
  refine lv_iload_n hx hb dX5_lineTo_23 rfl (lv_at hl 2 rfl) ?_
  obtain ⟨r_2, hm_3, hM⟩ := bd1_u hM
  refine cVi (r := r_2) (As := [.int p1, .int p2]) (rest := [.ref h0]) ⟨hx, hb, hml, hown, hu⟩ (c_X9_sendX l dC dI cI cZ cO tL H.size h1 v1_a v1_b v1_c v1_d v1_e v1_f p1 p2 r_2 hm_3) (cwV 2 hu (gV kw_123 kw_124 kw_125 kw_39 kw_126) rfl rfl rfl (by decide +kernel) ⟨Nat.le_of_ble_eq_true rfl, Nat.le_of_ble_eq_true rfl⟩) hP hD hS hA hK hG [1] (by decide) rfl [none, some 0, none, none, none] 1 rfl (by decide +kernel) rfl 8 1 rfl rfl rfl rfl hl.1 rfl (Nat.le_of_ble_eq_true rfl) dX5_lineTo_24 (Nat.zero_le _) (Nat.zero_le _) (fun H locs hP hD hS => ?_)
  have hP : va_P (dC, dI) vwCl [(h0, .inr (4, [.ref h2, .ref h3, .ref h4, .int v0_points, .int y_1, .int v0_first, .int v0_firstToldX, .int v0_firstToldY, .int p1, .int p2, .int v0_leastX, .int v0_leastY, .int v0_greatestY])), (h1, .inr (8, [.int v1_a, .int v1_b, .int v1_c, .int v1_d, .int v1_e, .int v1_f])), (h2, .inl (cI, 800, .inl f2)), (h3, .inl (cI, 800, .inl f3)), (h4, .inl (cZ, 800, .inl f4))] H := hP
  have hD : va_D A [(h0, .inr (4, [.ref h2, .ref h3, .ref h4, .int v0_points, .int y_1, .int v0_first, .int v0_firstToldX, .int v0_firstToldY, .int p1, .int p2, .int v0_leastX, .int v0_leastY, .int v0_greatestY])), (h1, .inr (8, [.int v1_a, .int v1_b, .int v1_c, .int v1_d, .int v1_e, .int v1_f])), (h2, .inl (cI, 800, .inl f2)), (h3, .inl (cI, 800, .inl f3)), (h4, .inl (cZ, 800, .inl f4))] := hD
  refine lv_aload_n hx hb dX5_lineTo_27 rfl (lv_at hl 3 rfl) ?_
  refine lv_iload_n hx hb dX5_lineTo_28 rfl (lv_at hl 1 rfl) ?_
  refine lv_iload_n hx hb dX5_lineTo_29 rfl (lv_at hl 2 rfl) ?_
  obtain ⟨r_4, hm_5, hM⟩ := bd1_u hM
  refine cVi (r := r_4) (As := [.int p1, .int p2]) (rest := [.int r_2, .ref h0]) ⟨hx, hb, hml, hown, hu⟩ (c_X9_sendY l dC dI cI cZ cO tL H.size h1 v1_a v1_b v1_c v1_d v1_e v1_f p1 p2 r_4 hm_5) (cwV 2 hu (gV kw_127 kw_128 kw_129 kw_39 kw_130) rfl rfl rfl (by decide +kernel) ⟨Nat.le_of_ble_eq_true rfl, Nat.le_of_ble_eq_true rfl⟩) hP hD hS hA hK hG [1] (by decide) rfl [none, some 0, none, none, none] 1 rfl (by decide +kernel) rfl 8 1 rfl rfl rfl rfl hl.1 rfl (Nat.le_of_ble_eq_true rfl) dX5_lineTo_30 (Nat.zero_le _) (Nat.zero_le _) (fun H locs hP hD hS => ?_)
  have hP : va_P (dC, dI) vwCl [(h0, .inr (4, [.ref h2, .ref h3, .ref h4, .int v0_points, .int y_1, .int v0_first, .int v0_firstToldX, .int v0_firstToldY, .int p1, .int p2, .int v0_leastX, .int v0_leastY, .int v0_greatestY])), (h1, .inr (8, [.int v1_a, .int v1_b, .int v1_c, .int v1_d, .int v1_e, .int v1_f])), (h2, .inl (cI, 800, .inl f2)), (h3, .inl (cI, 800, .inl f3)), (h4, .inl (cZ, 800, .inl f4))] H := hP
  have hD : va_D A [(h0, .inr (4, [.ref h2, .ref h3, .ref h4, .int v0_points, .int y_1, .int v0_first, .int v0_firstToldX, .int v0_firstToldY, .int p1, .int p2, .int v0_leastX, .int v0_leastY, .int v0_greatestY])), (h1, .inr (8, [.int v1_a, .int v1_b, .int v1_c, .int v1_d, .int v1_e, .int v1_f])), (h2, .inl (cI, 800, .inl f2)), (h3, .inl (cI, 800, .inl f3)), (h4, .inl (cZ, 800, .inl f4))] := hD
  refine lv_iconst (v := 0) hx hb dX5_lineTo_33 (by decide) ?_
  obtain ⟨v0_6, v0_7, v0_8, v0_9, f2_10, f3_11, f4_12, hm_13, hM⟩ := bd7_u hM
  refine cVv (As := [.int r_2, .int r_4, .int 0]) (rest := []) ⟨hx, hb, hml, hown, hu⟩ (c_X5_addPoint l dC dI cI cZ cO tL H.size h0 h2 h3 h4 v0_points y_1 v0_first v0_firstToldX v0_firstToldY p1 p2 v0_leastX v0_leastY v0_greatestY f2 f3 f4 r_2 r_4 0 (v0_6, v0_7, v0_8, v0_9, f2_10, f3_11, f4_12) hm_13) (cwV 3 hu (gV kw_131 kw_132 kw_133 kw_134 kw_135) rfl rfl rfl (by decide +kernel) ⟨Nat.le_of_ble_eq_true rfl, Nat.le_of_ble_eq_true rfl⟩) hP hD hS hA hK hG [0, 2, 3, 4] (by decide) rfl [some 0, none, some 1, some 2, some 3] 4 rfl (by decide +kernel) rfl 4 0 rfl rfl rfl rfl hl.1 rfl (Nat.le_of_ble_eq_true rfl) dX5_lineTo_34 (Nat.zero_le _) (Nat.zero_le _) (fun H locs hP hD hS => ?_)
  have hP : va_P (dC, dI) vwCl [(h0, .inr (4, [.ref h2, .ref h3, .ref h4, .int v0_6, .int y_1, .int v0_first, .int v0_firstToldX, .int v0_firstToldY, .int p1, .int p2, .int v0_7, .int v0_8, .int v0_9])), (h1, .inr (8, [.int v1_a, .int v1_b, .int v1_c, .int v1_d, .int v1_e, .int v1_f])), (h2, .inl (cI, 800, .inl f2_10)), (h3, .inl (cI, 800, .inl f3_11)), (h4, .inl (cZ, 800, .inl f4_12))] H := hP
  have hD : va_D A [(h0, .inr (4, [.ref h2, .ref h3, .ref h4, .int v0_6, .int y_1, .int v0_first, .int v0_firstToldX, .int v0_firstToldY, .int p1, .int p2, .int v0_7, .int v0_8, .int v0_9])), (h1, .inr (8, [.int v1_a, .int v1_b, .int v1_c, .int v1_d, .int v1_e, .int v1_f])), (h2, .inl (cI, 800, .inl f2_10)), (h3, .inl (cI, 800, .inl f3_11)), (h4, .inl (cZ, 800, .inl f4_12))] := hD
  have h9 := Option.some.inj hM
  subst h9
  exact W.vret hx hb hr (fun t ht hW => QMv_mk (by rw [ht]; exact hP) (va_K.moved hW.alike hK) hD (hS.F ht)) hS.2.2 dX5_lineTo_37
theorem dX5_onCurve_0 : decode cX5_onCurve 0 = .ok (.bipush 8, 2) := by decide +kernel
theorem dX5_onCurve_2 : decode cX5_onCurve 2 = .ok (.iload 6, 2) := by decide +kernel
theorem dX5_onCurve_4 : decode cX5_onCurve 4 = .ok (.isub, 1) := by decide +kernel
theorem dX5_onCurve_5 : decode cX5_onCurve 5 = .ok (.istore 7, 2) := by decide +kernel
theorem dX5_onCurve_7 : decode cX5_onCurve 7 = .ok (.lload_n 0, 1) := by decide +kernel
theorem dX5_onCurve_8 : decode cX5_onCurve 8 = .ok (.iload 7, 2) := by decide +kernel
theorem dX5_onCurve_10 : decode cX5_onCurve 10 = .ok (.iload 7, 2) := by decide +kernel
theorem dX5_onCurve_12 : decode cX5_onCurve 12 = .ok (.imul, 1) := by decide +kernel
theorem dX5_onCurve_13 : decode cX5_onCurve 13 = .ok (.i2l, 1) := by decide +kernel
theorem dX5_onCurve_14 : decode cX5_onCurve 14 = .ok (.lmul, 1) := by decide +kernel
theorem dX5_onCurve_15 : decode cX5_onCurve 15 = .ok (.lload_n 2, 1) := by decide +kernel
theorem dX5_onCurve_16 : decode cX5_onCurve 16 = .ok (.iconst 2, 1) := by decide +kernel
theorem dX5_onCurve_17 : decode cX5_onCurve 17 = .ok (.iload 6, 2) := by decide +kernel
theorem dX5_onCurve_19 : decode cX5_onCurve 19 = .ok (.imul, 1) := by decide +kernel
theorem dX5_onCurve_20 : decode cX5_onCurve 20 = .ok (.iload 7, 2) := by decide +kernel
theorem dX5_onCurve_22 : decode cX5_onCurve 22 = .ok (.imul, 1) := by decide +kernel
theorem dX5_onCurve_23 : decode cX5_onCurve 23 = .ok (.i2l, 1) := by decide +kernel
theorem dX5_onCurve_24 : decode cX5_onCurve 24 = .ok (.lmul, 1) := by decide +kernel
theorem dX5_onCurve_25 : decode cX5_onCurve 25 = .ok (.ladd, 1) := by decide +kernel
theorem dX5_onCurve_26 : decode cX5_onCurve 26 = .ok (.lload 4, 2) := by decide +kernel
theorem dX5_onCurve_28 : decode cX5_onCurve 28 = .ok (.iload 6, 2) := by decide +kernel
theorem dX5_onCurve_30 : decode cX5_onCurve 30 = .ok (.iload 6, 2) := by decide +kernel
theorem dX5_onCurve_32 : decode cX5_onCurve 32 = .ok (.imul, 1) := by decide +kernel
theorem dX5_onCurve_33 : decode cX5_onCurve 33 = .ok (.i2l, 1) := by decide +kernel
theorem dX5_onCurve_34 : decode cX5_onCurve 34 = .ok (.lmul, 1) := by decide +kernel
theorem dX5_onCurve_35 : decode cX5_onCurve 35 = .ok (.ladd, 1) := by decide +kernel
theorem dX5_onCurve_36 : decode cX5_onCurve 36 = .ok (.ldc2_w 65, 3) := by decide +kernel
theorem dX5_onCurve_39 : decode cX5_onCurve 39 = .ok (.ladd, 1) := by decide +kernel
theorem dX5_onCurve_40 : decode cX5_onCurve 40 = .ok (.bipush 6, 2) := by decide +kernel
theorem dX5_onCurve_42 : decode cX5_onCurve 42 = .ok (.lshr, 1) := by decide +kernel
theorem dX5_onCurve_43 : decode cX5_onCurve 43 = .ok (.l2i, 1) := by decide +kernel
theorem dX5_onCurve_44 : decode cX5_onCurve 44 = .ok (.ireturn, 1) := by decide +kernel
abbrev rm_X5_onCurve : Room := { frames := 0, cells := 0, slots := 0, locals := 0 }
def w_X5_onCurve : List Cond := Cond.code yX5_onCurve cX5_onCurve 8 (some .int) :: uw
set_option maxHeartbeats 4000000 in
set_option maxRecDepth 100000 in
theorem c_X5_onCurve (l : Launch) (dC : Nat → ClassId) (dI : Nat → Nat → Nat) (cI cZ cO : ClassId) (tL sz : Nat) (p0 : Int64) (p1 : Int64) (p2 : Int64) (p3 : Int32) (res : Int32) (hM : m_X5_onCurve p0 p1 p2 p3 = some res) : Met l yX5_onCurve w_X5_onCurve rm_X5_onCurve (PCx [.long p0, .long p1, .long p2, .int p3] (dC, dI) [(cI, .int), (cZ, .boolean), (cO, .object "ListPainter$Settings")] sz tL []) (QMi res (dC, dI) [(cI, .int), (cZ, .boolean), (cO, .object "ListPainter$Settings")] (va_A [] sz) []) 0 0 (va_A [] sz) := by
  refine Met.ofW (cc := cX5_onCurve) (maxL := 8) (ret := (some .int)) (by decide) rfl ?_
  intro p e s m args below meth c s₁ B hml hv
  obtain ⟨rfl, hsz, hP, hK, hD0, hG⟩ := hv
  have hx := B.exec
  have hb := B.bytes
  have hr := B.returns
  have hu : ∀ w ∈ uw, w.before ([.long p0, .long p1, .long p2, .int p3] : List Value).toArray s = true := fun w h => atoms_spec (ws := w_X5_onCurve) B.pre w (List.mem_cons_of_mem _ h)
  have hown : s.vm.findClass RX5 = some m.cls := findClass_of_methodNamed B.named
  have hlocks := B.notSynchronized
  subst hsz
  have hD := hD0.self (sz := s.heap.size)
  generalize hAe : va_A [] s.heap.size = A at hD hG ⊢
  have hA : ∀ q : Nat, s.heap.size ≤ q → A q := fun q h => by rw [← hAe]; exact Or.inr h
  have hS : va_S A s.heap s.heap [] := va_S.rf
  have hP : va_P (dC, dI) vwCl [] s.heap := hP
  have hl := lv_entry ([.long p0, .long p1, .long p2, .int p3]) (n := 8) (Nat.le_of_ble_eq_true rfl)
  rw [lg_entry_eq]
  generalize (lg_sl ([.long p0, .long p1, .long p2, .int p3]) ++ List.replicate (8 - (lg_sl ([.long p0, .long p1, .long p2, .int p3])).length) Slot.unset).toArray = ls at hl ⊢
  have hl : lv_has ls 8 [(0, .long p0), (2, .long p1), (4, .long p2), (6, .int p3)] := hl
  rw [m_X5_onCurve] at hM
  suffices hgo : ∀ (H : Heap) (locs : List Loc), va_P (dC, dI) vwCl [] H → va_D A [] → va_S A s.heap H locs → W p l e (headSpec w_X5_onCurve rm_X5_onCurve).room s m ([.long p0, .long p1, .long p2, .int p3] : List Value).toArray below meth c H locs 0 0 (MQ below (QMi res (dC, dI) [(cI, .int), (cZ, .boolean), (cO, .object "ListPainter$Settings")] A []) ([.long p0, .long p1, .long p2, .int p3] : List Value).toArray s 0 0 A) (F0 m 0 ls []) from hgo _ _ hP hD hS
  intro H locs hP hD hS
  refine lv_bipush (v := 8) hx hb dX5_onCurve_0 (by decide) ?_
  refine lv_iload hx hb dX5_onCurve_2 (lv_at hl 3 rfl) ?_
  refine lv_isub hx hb dX5_onCurve_4 ?_
  refine lv_topi (fun x_1 ex_1 => ?_)
  have hM := nm_u ex_1 hM
  refine lv_istore (lv' := [(7, .int x_1), (0, .long p0), (2, .long p1), (4, .long p2), (6, .int p3)]) hx hb dX5_onCurve_5 hl (by decide) rfl (fun ls hl => ?_)
  refine lv_lload_n hx hb dX5_onCurve_7 rfl (lv_at hl 1 rfl) ?_
  refine lv_iload hx hb dX5_onCurve_8 (lv_at hl 0 rfl) ?_
  refine lv_iload hx hb dX5_onCurve_10 (lv_at hl 0 rfl) ?_
  refine lv_imul hx hb dX5_onCurve_12 ?_
  refine lv_i2l (v := (((x_1 * x_1) : Int32).toInt64)) hx hb dX5_onCurve_13 rfl ?_
  refine lv_lmul hx hb dX5_onCurve_14 ?_
  refine lv_lload_n hx hb dX5_onCurve_15 rfl (lv_at hl 2 rfl) ?_
  refine lv_iconst (v := 2) hx hb dX5_onCurve_16 (by decide) ?_
  refine lv_iload hx hb dX5_onCurve_17 (lv_at hl 4 rfl) ?_
  refine lv_imul hx hb dX5_onCurve_19 ?_
  refine lv_iload hx hb dX5_onCurve_20 (lv_at hl 0 rfl) ?_
  refine lv_imul hx hb dX5_onCurve_22 ?_
  refine lv_i2l (v := ((((2 * p3) * x_1) : Int32).toInt64)) hx hb dX5_onCurve_23 rfl ?_
  refine lv_lmul hx hb dX5_onCurve_24 ?_
  refine lv_ladd hx hb dX5_onCurve_25 ?_
  refine lv_lload hx hb dX5_onCurve_26 (lv_at hl 3 rfl) ?_
  refine lv_iload hx hb dX5_onCurve_28 (lv_at hl 4 rfl) ?_
  refine lv_iload hx hb dX5_onCurve_30 (lv_at hl 4 rfl) ?_
  refine lv_imul hx hb dX5_onCurve_32 ?_
  refine lv_i2l (v := (((p3 * p3) : Int32).toInt64)) hx hb dX5_onCurve_33 rfl ?_
  refine lv_lmul hx hb dX5_onCurve_34 ?_
  refine lv_ladd hx hb dX5_onCurve_35 ?_
  refine lv_ldc2 (v := 32) hx hb hown (hu _ kw_136) dX5_onCurve_36 ?_
  refine lv_ladd hx hb dX5_onCurve_39 ?_
  refine lv_bipush (v := 6) hx hb dX5_onCurve_40 (by decide) ?_
  refine lv_lshr (v := ((((((p0 * (((x_1 * x_1) : Int32).toInt64)) + (p1 * ((((2 * p3) * x_1) : Int32).toInt64))) + (p2 * (((p3 * p3) : Int32).toInt64))) + 32) : Int64) >>> ((6 : Int32).toInt64 &&& 63))) hx hb dX5_onCurve_42 rfl ?_
  refine lv_l2i (v := ((((((((p0 * (((x_1 * x_1) : Int32).toInt64)) + (p1 * ((((2 * p3) * x_1) : Int32).toInt64))) + (p2 * (((p3 * p3) : Int32).toInt64))) + 32) : Int64) >>> ((6 : Int32).toInt64 &&& 63)) : Int64).toInt32)) hx hb dX5_onCurve_43 rfl ?_
  have h9 := Option.some.inj hM
  subst h9
  exact W.iret (v := ((((((((p0 * (((x_1 * x_1) : Int32).toInt64)) + (p1 * ((((2 * p3) * x_1) : Int32).toInt64))) + (p2 * (((p3 * p3) : Int32).toInt64))) + 32) : Int64) >>> ((6 : Int32).toInt64 &&& 63)) : Int64).toInt32)) hx hb hr (fun t ht hW => QMi_mk (by rw [ht]; exact hP) (va_K.moved hW.alike hK) hD (hS.F ht)) hS.2.2 dX5_onCurve_44
theorem dX5_curve_0 : decode cX5_curve 0 = .ok (.aload_n 0, 1) := by decide +kernel
theorem dX5_curve_1 : decode cX5_curve 1 = .ok (.getfield 38, 3) := by decide +kernel
theorem dX5_curve_4 : decode cX5_curve 4 = .ok (.istore 6, 2) := by decide +kernel
theorem dX5_curve_6 : decode cX5_curve 6 = .ok (.aload_n 0, 1) := by decide +kernel
theorem dX5_curve_7 : decode cX5_curve 7 = .ok (.getfield 41, 3) := by decide +kernel
theorem dX5_curve_10 : decode cX5_curve 10 = .ok (.istore 7, 2) := by decide +kernel
theorem dX5_curve_12 : decode cX5_curve 12 = .ok (.iconst 1, 1) := by decide +kernel
theorem dX5_curve_13 : decode cX5_curve 13 = .ok (.istore 8, 2) := by decide +kernel
theorem dX5_curve_15 : decode cX5_curve 15 = .ok (.iload 8, 2) := by decide +kernel
theorem dX5_curve_17 : decode cX5_curve 17 = .ok (.bipush 8, 2) := by decide +kernel
theorem dX5_curve_19 : decode cX5_curve 19 = .ok (.if_icmp .gt 40, 3) := by decide +kernel
theorem dX5_curve_22 : decode cX5_curve 22 = .ok (.aload_n 0, 1) := by decide +kernel
theorem dX5_curve_23 : decode cX5_curve 23 = .ok (.iload 6, 2) := by decide +kernel
theorem dX5_curve_25 : decode cX5_curve 25 = .ok (.i2l, 1) := by decide +kernel
theorem dX5_curve_26 : decode cX5_curve 26 = .ok (.iload_n 1, 1) := by decide +kernel
theorem dX5_curve_27 : decode cX5_curve 27 = .ok (.i2l, 1) := by decide +kernel
theorem dX5_curve_28 : decode cX5_curve 28 = .ok (.iload_n 3, 1) := by decide +kernel
theorem dX5_curve_29 : decode cX5_curve 29 = .ok (.i2l, 1) := by decide +kernel
theorem dX5_curve_30 : decode cX5_curve 30 = .ok (.iload 8, 2) := by decide +kernel
theorem dX5_curve_32 : decode cX5_curve 32 = .ok (.invokestatic 57, 3) := by decide +kernel
theorem dX5_curve_35 : decode cX5_curve 35 = .ok (.iload 7, 2) := by decide +kernel
theorem dX5_curve_37 : decode cX5_curve 37 = .ok (.i2l, 1) := by decide +kernel
theorem dX5_curve_38 : decode cX5_curve 38 = .ok (.iload_n 2, 1) := by decide +kernel
theorem dX5_curve_39 : decode cX5_curve 39 = .ok (.i2l, 1) := by decide +kernel
theorem dX5_curve_40 : decode cX5_curve 40 = .ok (.iload 4, 2) := by decide +kernel
theorem dX5_curve_42 : decode cX5_curve 42 = .ok (.i2l, 1) := by decide +kernel
theorem dX5_curve_43 : decode cX5_curve 43 = .ok (.iload 8, 2) := by decide +kernel
theorem dX5_curve_45 : decode cX5_curve 45 = .ok (.invokestatic 57, 3) := by decide +kernel
theorem dX5_curve_48 : decode cX5_curve 48 = .ok (.aload 5, 2) := by decide +kernel
theorem dX5_curve_50 : decode cX5_curve 50 = .ok (.invokevirtual 61, 3) := by decide +kernel
theorem dX5_curve_53 : decode cX5_curve 53 = .ok (.iinc 8 1, 3) := by decide +kernel
theorem dX5_curve_56 : decode cX5_curve 56 = .ok (.goto (-41), 3) := by decide +kernel
theorem dX5_curve_59 : decode cX5_curve 59 = .ok (.return_, 1) := by decide +kernel
abbrev rm_X5_curve : Room := { frames := 3, cells := 0, slots := 0, locals := 67 }
def w_X5_curve : List Cond := Cond.code yX5_curve cX5_curve 9 none :: uw
set_option maxHeartbeats 4000000 in
set_option maxRecDepth 100000 in
theorem c_X5_curve (l : Launch) (dC : Nat → ClassId) (dI : Nat → Nat → Nat) (cI cZ cO : ClassId) (tL sz : Nat) (h0 : Nat) (h1 : Nat) (h2 : Nat) (h3 : Nat) (h4 : Nat) (v0_points : Int32) (v0_lines : Int32) (v0_first : Int32) (v0_firstToldX : Int32) (v0_firstToldY : Int32) (v0_lastToldX : Int32) (v0_lastToldY : Int32) (v0_leastX : Int32) (v0_leastY : Int32) (v0_greatestY : Int32) (v1_a : Int32) (v1_b : Int32) (v1_c : Int32) (v1_d : Int32) (v1_e : Int32) (v1_f : Int32) (f2 : Nat → Int32) (f3 : Nat → Int32) (f4 : Nat → Int32) (p1 : Int32) (p2 : Int32) (p3 : Int32) (p4 : Int32) (res : Int32 × Int32 × Int32 × Int32 × Int32 × Int32 × Int32 × (Nat → Int32) × (Nat → Int32) × (Nat → Int32)) (hM : m_X5_curve v0_points v0_lines v0_lastToldX v0_lastToldY v0_leastX v0_leastY v0_greatestY v1_a v1_b v1_c v1_d v1_e v1_f f2 f3 f4 p1 p2 p3 p4 = some res) : Met l yX5_curve w_X5_curve rm_X5_curve (PCx [.ref h0, .int p1, .int p2, .int p3, .int p4, .ref h1] (dC, dI) [(cI, .int), (cZ, .boolean), (cO, .object "ListPainter$Settings")] sz tL [(h0, .inr (4, [.ref h2, .ref h3, .ref h4, .int v0_points, .int v0_lines, .int v0_first, .int v0_firstToldX, .int v0_firstToldY, .int v0_lastToldX, .int v0_lastToldY, .int v0_leastX, .int v0_leastY, .int v0_greatestY])), (h1, .inr (8, [.int v1_a, .int v1_b, .int v1_c, .int v1_d, .int v1_e, .int v1_f])), (h2, .inl (cI, 800, .inl f2)), (h3, .inl (cI, 800, .inl f3)), (h4, .inl (cZ, 800, .inl f4))]) (QMv (dC, dI) [(cI, .int), (cZ, .boolean), (cO, .object "ListPainter$Settings")] (va_A [(h0, .inr (4, [.ref h2, .ref h3, .ref h4, .int v0_points, .int v0_lines, .int v0_first, .int v0_firstToldX, .int v0_firstToldY, .int v0_lastToldX, .int v0_lastToldY, .int v0_leastX, .int v0_leastY, .int v0_greatestY])), (h1, .inr (8, [.int v1_a, .int v1_b, .int v1_c, .int v1_d, .int v1_e, .int v1_f])), (h2, .inl (cI, 800, .inl f2)), (h3, .inl (cI, 800, .inl f3)), (h4, .inl (cZ, 800, .inl f4))] sz) [(h0, .inr (4, [.ref h2, .ref h3, .ref h4, .int (res.1), .int (res.2.1), .int v0_first, .int v0_firstToldX, .int v0_firstToldY, .int (res.2.2.1), .int (res.2.2.2.1), .int (res.2.2.2.2.1), .int (res.2.2.2.2.2.1), .int (res.2.2.2.2.2.2.1)])), (h1, .inr (8, [.int v1_a, .int v1_b, .int v1_c, .int v1_d, .int v1_e, .int v1_f])), (h2, .inl (cI, 800, .inl (res.2.2.2.2.2.2.2.1))), (h3, .inl (cI, 800, .inl (res.2.2.2.2.2.2.2.2.1))), (h4, .inl (cZ, 800, .inl (res.2.2.2.2.2.2.2.2.2)))]) 0 0 (va_A [(h0, .inr (4, [.ref h2, .ref h3, .ref h4, .int v0_points, .int v0_lines, .int v0_first, .int v0_firstToldX, .int v0_firstToldY, .int v0_lastToldX, .int v0_lastToldY, .int v0_leastX, .int v0_leastY, .int v0_greatestY])), (h1, .inr (8, [.int v1_a, .int v1_b, .int v1_c, .int v1_d, .int v1_e, .int v1_f])), (h2, .inl (cI, 800, .inl f2)), (h3, .inl (cI, 800, .inl f3)), (h4, .inl (cZ, 800, .inl f4))] sz) := by
  refine Met.ofW (cc := cX5_curve) (maxL := 9) (ret := none) (by decide) rfl ?_
  intro p e s m args below meth c s₁ B hml hv
  obtain ⟨rfl, hsz, hP, hK, hD0, hG⟩ := hv
  have hx := B.exec
  have hb := B.bytes
  have hr := B.returns
  have hu : ∀ w ∈ uw, w.before ([.ref h0, .int p1, .int p2, .int p3, .int p4, .ref h1] : List Value).toArray s = true := fun w h => atoms_spec (ws := w_X5_curve) B.pre w (List.mem_cons_of_mem _ h)
  have hown : s.vm.findClass RX5 = some m.cls := findClass_of_methodNamed B.named
  have hlocks := B.notSynchronized
  subst hsz
  have hD := hD0.self (sz := s.heap.size)
  generalize hAe : va_A [(h0, .inr (4, [.ref h2, .ref h3, .ref h4, .int v0_points, .int v0_lines, .int v0_first, .int v0_firstToldX, .int v0_firstToldY, .int v0_lastToldX, .int v0_lastToldY, .int v0_leastX, .int v0_leastY, .int v0_greatestY])), (h1, .inr (8, [.int v1_a, .int v1_b, .int v1_c, .int v1_d, .int v1_e, .int v1_f])), (h2, .inl (cI, 800, .inl f2)), (h3, .inl (cI, 800, .inl f3)), (h4, .inl (cZ, 800, .inl f4))] s.heap.size = A at hD hG ⊢
  have hA : ∀ q : Nat, s.heap.size ≤ q → A q := fun q h => by rw [← hAe]; exact Or.inr h
  have hS : va_S A s.heap s.heap [] := va_S.rf
  have hP : va_P (dC, dI) vwCl [(h0, .inr (4, [.ref h2, .ref h3, .ref h4, .int v0_points, .int v0_lines, .int v0_first, .int v0_firstToldX, .int v0_firstToldY, .int v0_lastToldX, .int v0_lastToldY, .int v0_leastX, .int v0_leastY, .int v0_greatestY])), (h1, .inr (8, [.int v1_a, .int v1_b, .int v1_c, .int v1_d, .int v1_e, .int v1_f])), (h2, .inl (cI, 800, .inl f2)), (h3, .inl (cI, 800, .inl f3)), (h4, .inl (cZ, 800, .inl f4))] s.heap := hP
  have hl := lv_entry ([.ref h0, .int p1, .int p2, .int p3, .int p4, .ref h1]) (n := 9) (Nat.le_of_ble_eq_true rfl)
  rw [lg_entry_eq]
  generalize (lg_sl ([.ref h0, .int p1, .int p2, .int p3, .int p4, .ref h1]) ++ List.replicate (9 - (lg_sl ([.ref h0, .int p1, .int p2, .int p3, .int p4, .ref h1])).length) Slot.unset).toArray = ls at hl ⊢
  have hl : lv_has ls 9 [(0, .ref h0), (1, .int p1), (2, .int p2), (3, .int p3), (4, .int p4), (5, .ref h1)] := hl
  rw [m_X5_curve] at hM
  suffices hgo : ∀ (H : Heap) (locs : List Loc), va_P (dC, dI) vwCl [(h0, .inr (4, [.ref h2, .ref h3, .ref h4, .int v0_points, .int v0_lines, .int v0_first, .int v0_firstToldX, .int v0_firstToldY, .int v0_lastToldX, .int v0_lastToldY, .int v0_leastX, .int v0_leastY, .int v0_greatestY])), (h1, .inr (8, [.int v1_a, .int v1_b, .int v1_c, .int v1_d, .int v1_e, .int v1_f])), (h2, .inl (cI, 800, .inl f2)), (h3, .inl (cI, 800, .inl f3)), (h4, .inl (cZ, 800, .inl f4))] H → va_D A [(h0, .inr (4, [.ref h2, .ref h3, .ref h4, .int v0_points, .int v0_lines, .int v0_first, .int v0_firstToldX, .int v0_firstToldY, .int v0_lastToldX, .int v0_lastToldY, .int v0_leastX, .int v0_leastY, .int v0_greatestY])), (h1, .inr (8, [.int v1_a, .int v1_b, .int v1_c, .int v1_d, .int v1_e, .int v1_f])), (h2, .inl (cI, 800, .inl f2)), (h3, .inl (cI, 800, .inl f3)), (h4, .inl (cZ, 800, .inl f4))] → va_S A s.heap H locs → W p l e (headSpec w_X5_curve rm_X5_curve).room s m ([.ref h0, .int p1, .int p2, .int p3, .int p4, .ref h1] : List Value).toArray below meth c H locs 0 0 (MQ below (QMv (dC, dI) [(cI, .int), (cZ, .boolean), (cO, .object "ListPainter$Settings")] A [(h0, .inr (4, [.ref h2, .ref h3, .ref h4, .int (res.1), .int (res.2.1), .int v0_first, .int v0_firstToldX, .int v0_firstToldY, .int (res.2.2.1), .int (res.2.2.2.1), .int (res.2.2.2.2.1), .int (res.2.2.2.2.2.1), .int (res.2.2.2.2.2.2.1)])), (h1, .inr (8, [.int v1_a, .int v1_b, .int v1_c, .int v1_d, .int v1_e, .int v1_f])), (h2, .inl (cI, 800, .inl (res.2.2.2.2.2.2.2.1))), (h3, .inl (cI, 800, .inl (res.2.2.2.2.2.2.2.2.1))), (h4, .inl (cZ, 800, .inl (res.2.2.2.2.2.2.2.2.2)))]) ([.ref h0, .int p1, .int p2, .int p3, .int p4, .ref h1] : List Value).toArray s 0 0 A) (F0 m 0 ls []) from hgo _ _ hP hD hS
  intro H locs hP hD hS
  refine lv_aload_n hx hb dX5_curve_0 rfl (lv_at hl 0 rfl) ?_
  refine va_get (D := (dC, dI)) (ci := 4) (v := .int v0_lastToldX) (C := RX5) (T := TX5) (N := 13) hx hb hu inX5 hown hK hP 0 rfl rfl 8 (by decide) (hu _ kw_121) (fun _ h9 => h9) rfl dX5_curve_1 ?_
  refine lv_istore (lv' := [(6, .int v0_lastToldX), (0, .ref h0), (1, .int p1), (2, .int p2), (3, .int p3), (4, .int p4), (5, .ref h1)]) hx hb dX5_curve_4 hl (by decide) rfl (fun ls hl => ?_)
  refine lv_aload_n hx hb dX5_curve_6 rfl (lv_at hl 1 rfl) ?_
  refine va_get (D := (dC, dI)) (ci := 4) (v := .int v0_lastToldY) (C := RX5) (T := TX5) (N := 13) hx hb hu inX5 hown hK hP 0 rfl rfl 9 (by decide) (hu _ kw_122) (fun _ h9 => h9) rfl dX5_curve_7 ?_
  refine lv_istore (lv' := [(7, .int v0_lastToldY), (6, .int v0_lastToldX), (0, .ref h0), (1, .int p1), (2, .int p2), (3, .int p3), (4, .int p4), (5, .ref h1)]) hx hb dX5_curve_10 hl (by decide) rfl (fun ls hl => ?_)
  refine lv_iconst (v := 1) hx hb dX5_curve_12 (by decide) ?_
  refine lv_istore (lv' := [(8, .int 1), (7, .int v0_lastToldY), (6, .int v0_lastToldX), (0, .ref h0), (1, .int p1), (2, .int p2), (3, .int p3), (4, .int p4), (5, .ref h1)]) hx hb dX5_curve_13 hl (by decide) rfl (fun ls hl => ?_)
  have hL15_12 : ∀ (n : Nat) (l8_1 : Int32) (v0_2 : Int32) (v0_3 : Int32) (v0_4 : Int32) (v0_5 : Int32) (v0_6 : Int32) (v0_7 : Int32) (v0_8 : Int32) (f2_9 : Nat → Int32) (f3_10 : Nat → Int32) (f4_11 : Nat → Int32) , ∀ (H : Heap) (locs : List Loc) (ls : Array Slot), va_P (dC, dI) vwCl [(h0, .inr (4, [.ref h2, .ref h3, .ref h4, .int v0_2, .int v0_3, .int v0_first, .int v0_firstToldX, .int v0_firstToldY, .int v0_4, .int v0_5, .int v0_6, .int v0_7, .int v0_8])), (h1, .inr (8, [.int v1_a, .int v1_b, .int v1_c, .int v1_d, .int v1_e, .int v1_f])), (h2, .inl (cI, 800, .inl f2_9)), (h3, .inl (cI, 800, .inl f3_10)), (h4, .inl (cZ, 800, .inl f4_11))] H → va_D A [(h0, .inr (4, [.ref h2, .ref h3, .ref h4, .int v0_2, .int v0_3, .int v0_first, .int v0_firstToldX, .int v0_firstToldY, .int v0_4, .int v0_5, .int v0_6, .int v0_7, .int v0_8])), (h1, .inr (8, [.int v1_a, .int v1_b, .int v1_c, .int v1_d, .int v1_e, .int v1_f])), (h2, .inl (cI, 800, .inl f2_9)), (h3, .inl (cI, 800, .inl f3_10)), (h4, .inl (cZ, 800, .inl f4_11))] → va_S A s.heap H locs → lv_has ls 9 [(0, .ref h0), (1, .int p1), (2, .int p2), (3, .int p3), (4, .int p4), (5, .ref h1), (6, .int v0_lastToldX), (7, .int v0_lastToldY), (8, .int l8_1)] → lp_X5_curve_15 v0_lastToldX p1 p3 v0_lastToldY p2 p4 v1_a v1_b v1_c v1_d v1_e v1_f n l8_1 v0_2 v0_3 v0_4 v0_5 v0_6 v0_7 v0_8 f2_9 f3_10 f4_11 = some res → W p l e (headSpec w_X5_curve rm_X5_curve).room s m ([.ref h0, .int p1, .int p2, .int p3, .int p4, .ref h1] : List Value).toArray below meth c H locs 0 0 (MQ below (QMv (dC, dI) [(cI, .int), (cZ, .boolean), (cO, .object "ListPainter$Settings")] A [(h0, .inr (4, [.ref h2, .ref h3, .ref h4, .int (res.1), .int (res.2.1), .int v0_first, .int v0_firstToldX, .int v0_firstToldY, .int (res.2.2.1), .int (res.2.2.2.1), .int (res.2.2.2.2.1), .int (res.2.2.2.2.2.1), .int (res.2.2.2.2.2.2.1)])), (h1, .inr (8, [.int v1_a, .int v1_b, .int v1_c, .int v1_d, .int v1_e, .int v1_f])), (h2, .inl (cI, 800, .inl (res.2.2.2.2.2.2.2.1))), (h3, .inl (cI, 800, .inl (res.2.2.2.2.2.2.2.2.1))), (h4, .inl (cZ, 800, .inl (res.2.2.2.2.2.2.2.2.2)))]) ([.ref h0, .int p1, .int p2, .int p3, .int p4, .ref h1] : List Value).toArray s 0 0 A) (F0 m 15 ls []) := by
    intro n
    induction n with
    | zero =>
      intro l8_1 v0_2 v0_3 v0_4 v0_5 v0_6 v0_7 v0_8 f2_9 f3_10 f4_11 H locs ls hP hD hS hl hM
      rw [lp_X5_curve_15] at hM
      exact lp0 hM
    | succ n15_12 ih15_12 =>
      intro l8_1 v0_2 v0_3 v0_4 v0_5 v0_6 v0_7 v0_8 f2_9 f3_10 f4_11 H locs ls hP hD hS hl hM
      rw [lp_X5_curve_15] at hM
      refine lv_iload hx hb dX5_curve_15 (lv_at hl 8 rfl) ?_
      refine lv_bipush (v := 8) hx hb dX5_curve_17 (by decide) ?_
      refine lv_icmp_gt (tgt := 59) hx hb dX5_curve_19 (by decide) (fun c_13 => ?_) (fun c_13 => ?_)
      · have hM := if_t c_13 hM
        have h9 := Option.some.inj hM
        subst h9
        exact W.vret hx hb hr (fun t ht hW => QMv_mk (by rw [ht]; exact hP) (va_K.moved hW.alike hK) hD (hS.F ht)) hS.2.2 dX5_curve_59
      · have hM := if_f c_13 hM
        refine lv_aload_n hx hb dX5_curve_22 rfl (lv_at hl 0 rfl) ?_
        refine lv_iload hx hb dX5_curve_23 (lv_at hl 6 rfl) ?_
        refine lv_i2l (v := ((v0_lastToldX : Int32).toInt64)) hx hb dX5_curve_25 rfl ?_
        refine lv_iload_n hx hb dX5_curve_26 rfl (lv_at hl 1 rfl) ?_
        refine lv_i2l (v := ((p1 : Int32).toInt64)) hx hb dX5_curve_27 rfl ?_
        refine lv_iload_n hx hb dX5_curve_28 rfl (lv_at hl 3 rfl) ?_
        refine lv_i2l (v := ((p3 : Int32).toInt64)) hx hb dX5_curve_29 rfl ?_
        refine lv_iload hx hb dX5_curve_30 (lv_at hl 8 rfl) ?_
        obtain ⟨r_14, hm_15, hM⟩ := bd1_u hM
        refine cSi (r := r_14) (As := [.long ((v0_lastToldX : Int32).toInt64), .long ((p1 : Int32).toInt64), .long ((p3 : Int32).toInt64), .int l8_1]) (rest := [.ref h0]) ⟨hx, hb, hml, hown, hu⟩ (c_X5_onCurve l dC dI cI cZ cO tL H.size ((v0_lastToldX : Int32).toInt64) ((p1 : Int32).toInt64) ((p3 : Int32).toInt64) l8_1 r_14 hm_15) (va_cwS 4 hu (gS kw_137 kw_138 kw_134 kw_139) rfl rfl rfl (by decide +kernel) ⟨Nat.le_of_ble_eq_true rfl, Nat.le_of_ble_eq_true rfl⟩) hP hD hS hA hK hG [] (by decide) rfl [none, none, none, none, none] 0 rfl (by decide +kernel) rfl rfl hl.1 rfl (Nat.le_of_ble_eq_true rfl) dX5_curve_32 (Nat.zero_le _) (Nat.zero_le _) (fun H locs hP hD hS => ?_)
        have hP : va_P (dC, dI) vwCl [(h0, .inr (4, [.ref h2, .ref h3, .ref h4, .int v0_2, .int v0_3, .int v0_first, .int v0_firstToldX, .int v0_firstToldY, .int v0_4, .int v0_5, .int v0_6, .int v0_7, .int v0_8])), (h1, .inr (8, [.int v1_a, .int v1_b, .int v1_c, .int v1_d, .int v1_e, .int v1_f])), (h2, .inl (cI, 800, .inl f2_9)), (h3, .inl (cI, 800, .inl f3_10)), (h4, .inl (cZ, 800, .inl f4_11))] H := hP
        have hD : va_D A [(h0, .inr (4, [.ref h2, .ref h3, .ref h4, .int v0_2, .int v0_3, .int v0_first, .int v0_firstToldX, .int v0_firstToldY, .int v0_4, .int v0_5, .int v0_6, .int v0_7, .int v0_8])), (h1, .inr (8, [.int v1_a, .int v1_b, .int v1_c, .int v1_d, .int v1_e, .int v1_f])), (h2, .inl (cI, 800, .inl f2_9)), (h3, .inl (cI, 800, .inl f3_10)), (h4, .inl (cZ, 800, .inl f4_11))] := hD
        refine lv_iload hx hb dX5_curve_35 (lv_at hl 7 rfl) ?_
        refine lv_i2l (v := ((v0_lastToldY : Int32).toInt64)) hx hb dX5_curve_37 rfl ?_
        refine lv_iload_n hx hb dX5_curve_38 rfl (lv_at hl 2 rfl) ?_
        refine lv_i2l (v := ((p2 : Int32).toInt64)) hx hb dX5_curve_39 rfl ?_
        refine lv_iload hx hb dX5_curve_40 (lv_at hl 4 rfl) ?_
        refine lv_i2l (v := ((p4 : Int32).toInt64)) hx hb dX5_curve_42 rfl ?_
        refine lv_iload hx hb dX5_curve_43 (lv_at hl 8 rfl) ?_
        obtain ⟨r_16, hm_17, hM⟩ := bd1_u hM
        refine cSi (r := r_16) (As := [.long ((v0_lastToldY : Int32).toInt64), .long ((p2 : Int32).toInt64), .long ((p4 : Int32).toInt64), .int l8_1]) (rest := [.int r_14, .ref h0]) ⟨hx, hb, hml, hown, hu⟩ (c_X5_onCurve l dC dI cI cZ cO tL H.size ((v0_lastToldY : Int32).toInt64) ((p2 : Int32).toInt64) ((p4 : Int32).toInt64) l8_1 r_16 hm_17) (va_cwS 4 hu (gS kw_137 kw_138 kw_134 kw_139) rfl rfl rfl (by decide +kernel) ⟨Nat.le_of_ble_eq_true rfl, Nat.le_of_ble_eq_true rfl⟩) hP hD hS hA hK hG [] (by decide) rfl [none, none, none, none, none] 0 rfl (by decide +kernel) rfl rfl hl.1 rfl (Nat.le_of_ble_eq_true rfl) dX5_curve_45 (Nat.zero_le _) (Nat.zero_le _) (fun H locs hP hD hS => ?_)
        have hP : va_P (dC, dI) vwCl [(h0, .inr (4, [.ref h2, .ref h3, .ref h4, .int v0_2, .int v0_3, .int v0_first, .int v0_firstToldX, .int v0_firstToldY, .int v0_4, .int v0_5, .int v0_6, .int v0_7, .int v0_8])), (h1, .inr (8, [.int v1_a, .int v1_b, .int v1_c, .int v1_d, .int v1_e, .int v1_f])), (h2, .inl (cI, 800, .inl f2_9)), (h3, .inl (cI, 800, .inl f3_10)), (h4, .inl (cZ, 800, .inl f4_11))] H := hP
        have hD : va_D A [(h0, .inr (4, [.ref h2, .ref h3, .ref h4, .int v0_2, .int v0_3, .int v0_first, .int v0_firstToldX, .int v0_firstToldY, .int v0_4, .int v0_5, .int v0_6, .int v0_7, .int v0_8])), (h1, .inr (8, [.int v1_a, .int v1_b, .int v1_c, .int v1_d, .int v1_e, .int v1_f])), (h2, .inl (cI, 800, .inl f2_9)), (h3, .inl (cI, 800, .inl f3_10)), (h4, .inl (cZ, 800, .inl f4_11))] := hD
        refine lv_aload hx hb dX5_curve_48 (lv_at hl 5 rfl) ?_
        obtain ⟨v0_18, v0_19, v0_20, v0_21, v0_22, v0_23, v0_24, f2_25, f3_26, f4_27, hm_28, hM⟩ := bd10_u hM
        refine cVv (As := [.int r_14, .int r_16, .ref h1]) (rest := []) ⟨hx, hb, hml, hown, hu⟩ (c_X5_lineTo l dC dI cI cZ cO tL H.size h0 h1 h2 h3 h4 v0_2 v0_3 v0_first v0_firstToldX v0_firstToldY v0_4 v0_5 v0_6 v0_7 v0_8 v1_a v1_b v1_c v1_d v1_e v1_f f2_9 f3_10 f4_11 r_14 r_16 (v0_18, v0_19, v0_20, v0_21, v0_22, v0_23, v0_24, f2_25, f3_26, f4_27) hm_28) (cwV 3 hu (gV kw_140 kw_141 kw_142 kw_134 kw_143) rfl rfl rfl (by decide +kernel) ⟨Nat.le_of_ble_eq_true rfl, Nat.le_of_ble_eq_true rfl⟩) hP hD hS hA hK hG [0, 1, 2, 3, 4] (by decide) rfl [some 0, some 1, some 2, some 3, some 4] 5 rfl (by decide +kernel) rfl 4 0 rfl rfl rfl rfl hl.1 rfl (Nat.le_of_ble_eq_true rfl) dX5_curve_50 (Nat.zero_le _) (Nat.zero_le _) (fun H locs hP hD hS => ?_)
        have hP : va_P (dC, dI) vwCl [(h0, .inr (4, [.ref h2, .ref h3, .ref h4, .int v0_18, .int v0_19, .int v0_first, .int v0_firstToldX, .int v0_firstToldY, .int v0_20, .int v0_21, .int v0_22, .int v0_23, .int v0_24])), (h1, .inr (8, [.int v1_a, .int v1_b, .int v1_c, .int v1_d, .int v1_e, .int v1_f])), (h2, .inl (cI, 800, .inl f2_25)), (h3, .inl (cI, 800, .inl f3_26)), (h4, .inl (cZ, 800, .inl f4_27))] H := hP
        have hD : va_D A [(h0, .inr (4, [.ref h2, .ref h3, .ref h4, .int v0_18, .int v0_19, .int v0_first, .int v0_firstToldX, .int v0_firstToldY, .int v0_20, .int v0_21, .int v0_22, .int v0_23, .int v0_24])), (h1, .inr (8, [.int v1_a, .int v1_b, .int v1_c, .int v1_d, .int v1_e, .int v1_f])), (h2, .inl (cI, 800, .inl f2_25)), (h3, .inl (cI, 800, .inl f3_26)), (h4, .inl (cZ, 800, .inl f4_27))] := hD
        obtain ⟨x_29, ex_29⟩ : ∃ y : Int32, y = l8_1 + 1 := ⟨_, rfl⟩
        have hM := nm_u ex_29 hM
        refine lv_iinc (v := x_29) (lv' := [(8, .int x_29), (0, .ref h0), (1, .int p1), (2, .int p2), (3, .int p3), (4, .int p4), (5, .ref h1), (6, .int v0_lastToldX), (7, .int v0_lastToldY)]) hx hb dX5_curve_53 hl (k := 8) rfl (by rw [ex_29]; rfl) (by decide) rfl (fun ls hl => ?_)
        refine lv_goto (tgt := 15) hx hb dX5_curve_56 (by decide) ?_
        exact ih15_12 x_29 v0_18 v0_19 v0_20 v0_21 v0_22 v0_23 v0_24 f2_25 f3_26 f4_27 H locs ls hP hD hS (lv_sub hl [1, 2, 3, 4, 5, 6, 7, 8, 0] rfl) hM
  exact hL15_12 FU 1 v0_points v0_lines v0_lastToldX v0_lastToldY v0_leastX v0_leastY v0_greatestY f2 f3 f4 H locs ls hP hD hS (lv_sub hl [3, 4, 5, 6, 7, 8, 2, 1, 0] rfl) hM
theorem dX5_close_0 : decode cX5_close 0 = .ok (.aload_n 0, 1) := by decide +kernel
theorem dX5_close_1 : decode cX5_close 1 = .ok (.aload_n 0, 1) := by decide +kernel
theorem dX5_close_2 : decode cX5_close 2 = .ok (.getfield 32, 3) := by decide +kernel
theorem dX5_close_5 : decode cX5_close 5 = .ok (.putfield 38, 3) := by decide +kernel
theorem dX5_close_8 : decode cX5_close 8 = .ok (.aload_n 0, 1) := by decide +kernel
theorem dX5_close_9 : decode cX5_close 9 = .ok (.aload_n 0, 1) := by decide +kernel
theorem dX5_close_10 : decode cX5_close 10 = .ok (.getfield 35, 3) := by decide +kernel
theorem dX5_close_13 : decode cX5_close 13 = .ok (.putfield 41, 3) := by decide +kernel
theorem dX5_close_16 : decode cX5_close 16 = .ok (.aload_n 0, 1) := by decide +kernel
theorem dX5_close_17 : decode cX5_close 17 = .ok (.dup, 1) := by decide +kernel
theorem dX5_close_18 : decode cX5_close 18 = .ok (.getfield 26, 3) := by decide +kernel
theorem dX5_close_21 : decode cX5_close 21 = .ok (.iconst 1, 1) := by decide +kernel
theorem dX5_close_22 : decode cX5_close 22 = .ok (.iadd, 1) := by decide +kernel
theorem dX5_close_23 : decode cX5_close 23 = .ok (.putfield 26, 3) := by decide +kernel
theorem dX5_close_26 : decode cX5_close 26 = .ok (.aload_n 0, 1) := by decide +kernel
theorem dX5_close_27 : decode cX5_close 27 = .ok (.getfield 29, 3) := by decide +kernel
theorem dX5_close_30 : decode cX5_close 30 = .ok (.aload_n 0, 1) := by decide +kernel
theorem dX5_close_31 : decode cX5_close 31 = .ok (.getfield 22, 3) := by decide +kernel
theorem dX5_close_34 : decode cX5_close 34 = .ok (.if_icmp .ge 26, 3) := by decide +kernel
theorem dX5_close_37 : decode cX5_close 37 = .ok (.aload_n 0, 1) := by decide +kernel
theorem dX5_close_38 : decode cX5_close 38 = .ok (.aload_n 0, 1) := by decide +kernel
theorem dX5_close_39 : decode cX5_close 39 = .ok (.getfield 9, 3) := by decide +kernel
theorem dX5_close_42 : decode cX5_close 42 = .ok (.aload_n 0, 1) := by decide +kernel
theorem dX5_close_43 : decode cX5_close 43 = .ok (.getfield 29, 3) := by decide +kernel
theorem dX5_close_46 : decode cX5_close 46 = .ok (.iaload, 1) := by decide +kernel
theorem dX5_close_47 : decode cX5_close 47 = .ok (.aload_n 0, 1) := by decide +kernel
theorem dX5_close_48 : decode cX5_close 48 = .ok (.getfield 15, 3) := by decide +kernel
theorem dX5_close_51 : decode cX5_close 51 = .ok (.aload_n 0, 1) := by decide +kernel
theorem dX5_close_52 : decode cX5_close 52 = .ok (.getfield 29, 3) := by decide +kernel
theorem dX5_close_55 : decode cX5_close 55 = .ok (.iaload, 1) := by decide +kernel
theorem dX5_close_56 : decode cX5_close 56 = .ok (.iconst 0, 1) := by decide +kernel
theorem dX5_close_57 : decode cX5_close 57 = .ok (.invokevirtual 53, 3) := by decide +kernel
theorem dX5_close_60 : decode cX5_close 60 = .ok (.return_, 1) := by decide +kernel
abbrev rm_X5_close : Room := { frames := 2, cells := 0, slots := 0, locals := 44 }
def w_X5_close : List Cond := Cond.code yX5_close cX5_close 1 none :: uw
set_option maxHeartbeats 4000000 in
set_option maxRecDepth 100000 in
theorem c_X5_close (l : Launch) (dC : Nat → ClassId) (dI : Nat → Nat → Nat) (cI cZ cO : ClassId) (tL sz : Nat) (h0 : Nat) (h1 : Nat) (h2 : Nat) (h3 : Nat) (v0_points : Int32) (v0_lines : Int32) (v0_first : Int32) (v0_firstToldX : Int32) (v0_firstToldY : Int32) (v0_lastToldX : Int32) (v0_lastToldY : Int32) (v0_leastX : Int32) (v0_leastY : Int32) (v0_greatestY : Int32) (f1 : Nat → Int32) (f2 : Nat → Int32) (f3 : Nat → Int32) (res : Int32 × Int32 × Int32 × Int32 × Int32 × Int32 × Int32 × (Nat → Int32) × (Nat → Int32) × (Nat → Int32)) (hM : m_X5_close v0_points v0_lines v0_first v0_firstToldX v0_firstToldY v0_lastToldX v0_lastToldY v0_leastX v0_leastY v0_greatestY f1 f2 f3 = some res) : Met l yX5_close w_X5_close rm_X5_close (PCx [.ref h0] (dC, dI) [(cI, .int), (cZ, .boolean), (cO, .object "ListPainter$Settings")] sz tL [(h0, .inr (4, [.ref h1, .ref h2, .ref h3, .int v0_points, .int v0_lines, .int v0_first, .int v0_firstToldX, .int v0_firstToldY, .int v0_lastToldX, .int v0_lastToldY, .int v0_leastX, .int v0_leastY, .int v0_greatestY])), (h1, .inl (cI, 800, .inl f1)), (h2, .inl (cI, 800, .inl f2)), (h3, .inl (cZ, 800, .inl f3))]) (QMv (dC, dI) [(cI, .int), (cZ, .boolean), (cO, .object "ListPainter$Settings")] (va_A [(h0, .inr (4, [.ref h1, .ref h2, .ref h3, .int v0_points, .int v0_lines, .int v0_first, .int v0_firstToldX, .int v0_firstToldY, .int v0_lastToldX, .int v0_lastToldY, .int v0_leastX, .int v0_leastY, .int v0_greatestY])), (h1, .inl (cI, 800, .inl f1)), (h2, .inl (cI, 800, .inl f2)), (h3, .inl (cZ, 800, .inl f3))] sz) [(h0, .inr (4, [.ref h1, .ref h2, .ref h3, .int (res.1), .int (res.2.1), .int v0_first, .int v0_firstToldX, .int v0_firstToldY, .int (res.2.2.1), .int (res.2.2.2.1), .int (res.2.2.2.2.1), .int (res.2.2.2.2.2.1), .int (res.2.2.2.2.2.2.1)])), (h1, .inl (cI, 800, .inl (res.2.2.2.2.2.2.2.1))), (h2, .inl (cI, 800, .inl (res.2.2.2.2.2.2.2.2.1))), (h3, .inl (cZ, 800, .inl (res.2.2.2.2.2.2.2.2.2)))]) 0 0 (va_A [(h0, .inr (4, [.ref h1, .ref h2, .ref h3, .int v0_points, .int v0_lines, .int v0_first, .int v0_firstToldX, .int v0_firstToldY, .int v0_lastToldX, .int v0_lastToldY, .int v0_leastX, .int v0_leastY, .int v0_greatestY])), (h1, .inl (cI, 800, .inl f1)), (h2, .inl (cI, 800, .inl f2)), (h3, .inl (cZ, 800, .inl f3))] sz) := by
  refine Met.ofW (cc := cX5_close) (maxL := 1) (ret := none) (by decide) rfl ?_
  intro p e s m args below meth c s₁ B hml hv
  obtain ⟨rfl, hsz, hP, hK, hD0, hG⟩ := hv
  have hx := B.exec
  have hb := B.bytes
  have hr := B.returns
  have hu : ∀ w ∈ uw, w.before ([.ref h0] : List Value).toArray s = true := fun w h => atoms_spec (ws := w_X5_close) B.pre w (List.mem_cons_of_mem _ h)
  have hown : s.vm.findClass RX5 = some m.cls := findClass_of_methodNamed B.named
  have hlocks := B.notSynchronized
  subst hsz
  have hD := hD0.self (sz := s.heap.size)
  generalize hAe : va_A [(h0, .inr (4, [.ref h1, .ref h2, .ref h3, .int v0_points, .int v0_lines, .int v0_first, .int v0_firstToldX, .int v0_firstToldY, .int v0_lastToldX, .int v0_lastToldY, .int v0_leastX, .int v0_leastY, .int v0_greatestY])), (h1, .inl (cI, 800, .inl f1)), (h2, .inl (cI, 800, .inl f2)), (h3, .inl (cZ, 800, .inl f3))] s.heap.size = A at hD hG ⊢
  have hA : ∀ q : Nat, s.heap.size ≤ q → A q := fun q h => by rw [← hAe]; exact Or.inr h
  have hS : va_S A s.heap s.heap [] := va_S.rf
  have hP : va_P (dC, dI) vwCl [(h0, .inr (4, [.ref h1, .ref h2, .ref h3, .int v0_points, .int v0_lines, .int v0_first, .int v0_firstToldX, .int v0_firstToldY, .int v0_lastToldX, .int v0_lastToldY, .int v0_leastX, .int v0_leastY, .int v0_greatestY])), (h1, .inl (cI, 800, .inl f1)), (h2, .inl (cI, 800, .inl f2)), (h3, .inl (cZ, 800, .inl f3))] s.heap := hP
  have hl := lv_entry ([.ref h0]) (n := 1) (Nat.le_of_ble_eq_true rfl)
  rw [lg_entry_eq]
  generalize (lg_sl ([.ref h0]) ++ List.replicate (1 - (lg_sl ([.ref h0])).length) Slot.unset).toArray = ls at hl ⊢
  have hl : lv_has ls 1 [(0, .ref h0)] := hl
  rw [m_X5_close] at hM
  suffices hgo : ∀ (H : Heap) (locs : List Loc), va_P (dC, dI) vwCl [(h0, .inr (4, [.ref h1, .ref h2, .ref h3, .int v0_points, .int v0_lines, .int v0_first, .int v0_firstToldX, .int v0_firstToldY, .int v0_lastToldX, .int v0_lastToldY, .int v0_leastX, .int v0_leastY, .int v0_greatestY])), (h1, .inl (cI, 800, .inl f1)), (h2, .inl (cI, 800, .inl f2)), (h3, .inl (cZ, 800, .inl f3))] H → va_D A [(h0, .inr (4, [.ref h1, .ref h2, .ref h3, .int v0_points, .int v0_lines, .int v0_first, .int v0_firstToldX, .int v0_firstToldY, .int v0_lastToldX, .int v0_lastToldY, .int v0_leastX, .int v0_leastY, .int v0_greatestY])), (h1, .inl (cI, 800, .inl f1)), (h2, .inl (cI, 800, .inl f2)), (h3, .inl (cZ, 800, .inl f3))] → va_S A s.heap H locs → W p l e (headSpec w_X5_close rm_X5_close).room s m ([.ref h0] : List Value).toArray below meth c H locs 0 0 (MQ below (QMv (dC, dI) [(cI, .int), (cZ, .boolean), (cO, .object "ListPainter$Settings")] A [(h0, .inr (4, [.ref h1, .ref h2, .ref h3, .int (res.1), .int (res.2.1), .int v0_first, .int v0_firstToldX, .int v0_firstToldY, .int (res.2.2.1), .int (res.2.2.2.1), .int (res.2.2.2.2.1), .int (res.2.2.2.2.2.1), .int (res.2.2.2.2.2.2.1)])), (h1, .inl (cI, 800, .inl (res.2.2.2.2.2.2.2.1))), (h2, .inl (cI, 800, .inl (res.2.2.2.2.2.2.2.2.1))), (h3, .inl (cZ, 800, .inl (res.2.2.2.2.2.2.2.2.2)))]) ([.ref h0] : List Value).toArray s 0 0 A) (F0 m 0 ls []) from hgo _ _ hP hD hS
  intro H locs hP hD hS
  refine lv_aload_n hx hb dX5_close_0 rfl (lv_at hl 0 rfl) ?_
  refine lv_aload_n hx hb dX5_close_1 rfl (lv_at hl 0 rfl) ?_
  refine va_get (D := (dC, dI)) (ci := 4) (v := .int v0_firstToldX) (C := RX5) (T := TX5) (N := 13) hx hb hu inX5 hown hK hP 0 rfl rfl 6 (by decide) (hu _ kw_119) (fun _ h9 => h9) rfl dX5_close_2 ?_
  refine va_put (D := (dC, dI)) (ci := 4) (v := .int v0_firstToldX) (ty := .int) (C := RX5) (T := TX5) (N := 13) hx hb hu inX5 tyX5 tyX5_ok nmX5 hown hK hP hD hS 0 rfl rfl 8 (by decide) (hu _ kw_121) (fun _ h9 => h9) rfl (by decide +kernel) rfl rfl (Nat.le_of_ble_eq_true rfl) dX5_close_5 (fun H locs hP hD hS => ?_)
  have hP : va_P (dC, dI) vwCl [(h0, .inr (4, [.ref h1, .ref h2, .ref h3, .int v0_points, .int v0_lines, .int v0_first, .int v0_firstToldX, .int v0_firstToldY, .int v0_firstToldX, .int v0_lastToldY, .int v0_leastX, .int v0_leastY, .int v0_greatestY])), (h1, .inl (cI, 800, .inl f1)), (h2, .inl (cI, 800, .inl f2)), (h3, .inl (cZ, 800, .inl f3))] H := hP
  have hD : va_D A [(h0, .inr (4, [.ref h1, .ref h2, .ref h3, .int v0_points, .int v0_lines, .int v0_first, .int v0_firstToldX, .int v0_firstToldY, .int v0_firstToldX, .int v0_lastToldY, .int v0_leastX, .int v0_leastY, .int v0_greatestY])), (h1, .inl (cI, 800, .inl f1)), (h2, .inl (cI, 800, .inl f2)), (h3, .inl (cZ, 800, .inl f3))] := hD
  refine lv_aload_n hx hb dX5_close_8 rfl (lv_at hl 0 rfl) ?_
  refine lv_aload_n hx hb dX5_close_9 rfl (lv_at hl 0 rfl) ?_
  refine va_get (D := (dC, dI)) (ci := 4) (v := .int v0_firstToldY) (C := RX5) (T := TX5) (N := 13) hx hb hu inX5 hown hK hP 0 rfl rfl 7 (by decide) (hu _ kw_120) (fun _ h9 => h9) rfl dX5_close_10 ?_
  refine va_put (D := (dC, dI)) (ci := 4) (v := .int v0_firstToldY) (ty := .int) (C := RX5) (T := TX5) (N := 13) hx hb hu inX5 tyX5 tyX5_ok nmX5 hown hK hP hD hS 0 rfl rfl 9 (by decide) (hu _ kw_122) (fun _ h9 => h9) rfl (by decide +kernel) rfl rfl (Nat.le_of_ble_eq_true rfl) dX5_close_13 (fun H locs hP hD hS => ?_)
  have hP : va_P (dC, dI) vwCl [(h0, .inr (4, [.ref h1, .ref h2, .ref h3, .int v0_points, .int v0_lines, .int v0_first, .int v0_firstToldX, .int v0_firstToldY, .int v0_firstToldX, .int v0_firstToldY, .int v0_leastX, .int v0_leastY, .int v0_greatestY])), (h1, .inl (cI, 800, .inl f1)), (h2, .inl (cI, 800, .inl f2)), (h3, .inl (cZ, 800, .inl f3))] H := hP
  have hD : va_D A [(h0, .inr (4, [.ref h1, .ref h2, .ref h3, .int v0_points, .int v0_lines, .int v0_first, .int v0_firstToldX, .int v0_firstToldY, .int v0_firstToldX, .int v0_firstToldY, .int v0_leastX, .int v0_leastY, .int v0_greatestY])), (h1, .inl (cI, 800, .inl f1)), (h2, .inl (cI, 800, .inl f2)), (h3, .inl (cZ, 800, .inl f3))] := hD
  refine lv_aload_n hx hb dX5_close_16 rfl (lv_at hl 0 rfl) ?_
  refine lv_dup hx hb dX5_close_17 rfl ?_
  refine va_get (D := (dC, dI)) (ci := 4) (v := .int v0_lines) (C := RX5) (T := TX5) (N := 13) hx hb hu inX5 hown hK hP 0 rfl rfl 4 (by decide) (hu _ kw_109) (fun _ h9 => h9) rfl dX5_close_18 ?_
  refine lv_iconst (v := 1) hx hb dX5_close_21 (by decide) ?_
  refine lv_iadd hx hb dX5_close_22 ?_
  refine lv_topi (fun y_1 ey_1 => ?_)
  have hM := nm_u ey_1 hM
  refine va_put (D := (dC, dI)) (ci := 4) (v := .int y_1) (ty := .int) (C := RX5) (T := TX5) (N := 13) hx hb hu inX5 tyX5 tyX5_ok nmX5 hown hK hP hD hS 0 rfl rfl 4 (by decide) (hu _ kw_109) (fun _ h9 => h9) rfl (by decide +kernel) rfl rfl (Nat.le_of_ble_eq_true rfl) dX5_close_23 (fun H locs hP hD hS => ?_)
  have hP : va_P (dC, dI) vwCl [(h0, .inr (4, [.ref h1, .ref h2, .ref h3, .int v0_points, .int y_1, .int v0_first, .int v0_firstToldX, .int v0_firstToldY, .int v0_firstToldX, .int v0_firstToldY, .int v0_leastX, .int v0_leastY, .int v0_greatestY])), (h1, .inl (cI, 800, .inl f1)), (h2, .inl (cI, 800, .inl f2)), (h3, .inl (cZ, 800, .inl f3))] H := hP
  have hD : va_D A [(h0, .inr (4, [.ref h1, .ref h2, .ref h3, .int v0_points, .int y_1, .int v0_first, .int v0_firstToldX, .int v0_firstToldY, .int v0_firstToldX, .int v0_firstToldY, .int v0_leastX, .int v0_leastY, .int v0_greatestY])), (h1, .inl (cI, 800, .inl f1)), (h2, .inl (cI, 800, .inl f2)), (h3, .inl (cZ, 800, .inl f3))] := hD
  refine lv_aload_n hx hb dX5_close_26 rfl (lv_at hl 0 rfl) ?_
  refine va_get (D := (dC, dI)) (ci := 4) (v := .int v0_first) (C := RX5) (T := TX5) (N := 13) hx hb hu inX5 hown hK hP 0 rfl rfl 5 (by decide) (hu _ kw_110) (fun _ h9 => h9) rfl dX5_close_27 ?_
  refine lv_aload_n hx hb dX5_close_30 rfl (lv_at hl 0 rfl) ?_
  refine va_get (D := (dC, dI)) (ci := 4) (v := .int v0_points) (C := RX5) (T := TX5) (N := 13) hx hb hu inX5 hown hK hP 0 rfl rfl 3 (by decide) (hu _ kw_108) (fun _ h9 => h9) rfl dX5_close_31 ?_
  refine lv_icmp_ge (tgt := 60) hx hb dX5_close_34 (by decide) (fun c_2 => ?_) (fun c_2 => ?_)
  · have hM := if_t c_2 hM
    have h9 := Option.some.inj hM
    subst h9
    exact W.vret hx hb hr (fun t ht hW => QMv_mk (by rw [ht]; exact hP) (va_K.moved hW.alike hK) hD (hS.F ht)) hS.2.2 dX5_close_60
  · have hM := if_f c_2 hM
    refine lv_aload_n hx hb dX5_close_37 rfl (lv_at hl 0 rfl) ?_
    refine lv_aload_n hx hb dX5_close_38 rfl (lv_at hl 0 rfl) ?_
    refine va_get (D := (dC, dI)) (ci := 4) (v := .ref h1) (C := RX5) (T := TX5) (N := 13) hx hb hu inX5 hown hK hP 0 rfl rfl 0 (by decide) (hu _ kw_114) (fun _ h9 => h9) rfl dX5_close_39 ?_
    refine lv_aload_n hx hb dX5_close_42 rfl (lv_at hl 0 rfl) ?_
    refine va_get (D := (dC, dI)) (ci := 4) (v := .int v0_first) (C := RX5) (T := TX5) (N := 13) hx hb hu inX5 hown hK hP 0 rfl rfl 5 (by decide) (hu _ kw_110) (fun _ h9 => h9) rfl dX5_close_43 ?_
    obtain ⟨g_3, hM⟩ := gd_u hM
    refine va_iald hx hb hK hP 1 0 rfl rfl (inb_v g_3) dX5_close_46 ?_
    refine lv_topi (fun a_4 ea_4 => ?_)
    have hM := nm_u ea_4 hM
    refine lv_aload_n hx hb dX5_close_47 rfl (lv_at hl 0 rfl) ?_
    refine va_get (D := (dC, dI)) (ci := 4) (v := .ref h2) (C := RX5) (T := TX5) (N := 13) hx hb hu inX5 hown hK hP 0 rfl rfl 1 (by decide) (hu _ kw_115) (fun _ h9 => h9) rfl dX5_close_48 ?_
    refine lv_aload_n hx hb dX5_close_51 rfl (lv_at hl 0 rfl) ?_
    refine va_get (D := (dC, dI)) (ci := 4) (v := .int v0_first) (C := RX5) (T := TX5) (N := 13) hx hb hu inX5 hown hK hP 0 rfl rfl 5 (by decide) (hu _ kw_110) (fun _ h9 => h9) rfl dX5_close_52 ?_
    obtain ⟨g_5, hM⟩ := gd_u hM
    refine va_iald hx hb hK hP 2 0 rfl rfl (inb_v g_5) dX5_close_55 ?_
    refine lv_topi (fun a_6 ea_6 => ?_)
    have hM := nm_u ea_6 hM
    refine lv_iconst (v := 0) hx hb dX5_close_56 (by decide) ?_
    obtain ⟨v0_7, v0_8, v0_9, v0_10, f1_11, f2_12, f3_13, hm_14, hM⟩ := bd7_u hM
    refine cVv (As := [.int a_4, .int a_6, .int 0]) (rest := []) ⟨hx, hb, hml, hown, hu⟩ (c_X5_addPoint l dC dI cI cZ cO tL H.size h0 h1 h2 h3 v0_points y_1 v0_first v0_firstToldX v0_firstToldY v0_firstToldX v0_firstToldY v0_leastX v0_leastY v0_greatestY f1 f2 f3 a_4 a_6 0 (v0_7, v0_8, v0_9, v0_10, f1_11, f2_12, f3_13) hm_14) (cwV 3 hu (gV kw_131 kw_132 kw_133 kw_134 kw_135) rfl rfl rfl (by decide +kernel) ⟨Nat.le_of_ble_eq_true rfl, Nat.le_of_ble_eq_true rfl⟩) hP hD hS hA hK hG [0, 1, 2, 3] (by decide) rfl [some 0, some 1, some 2, some 3] 4 rfl (by decide +kernel) rfl 4 0 rfl rfl rfl rfl hl.1 rfl (Nat.le_of_ble_eq_true rfl) dX5_close_57 (Nat.zero_le _) (Nat.zero_le _) (fun H locs hP hD hS => ?_)
    have hP : va_P (dC, dI) vwCl [(h0, .inr (4, [.ref h1, .ref h2, .ref h3, .int v0_7, .int y_1, .int v0_first, .int v0_firstToldX, .int v0_firstToldY, .int v0_firstToldX, .int v0_firstToldY, .int v0_8, .int v0_9, .int v0_10])), (h1, .inl (cI, 800, .inl f1_11)), (h2, .inl (cI, 800, .inl f2_12)), (h3, .inl (cZ, 800, .inl f3_13))] H := hP
    have hD : va_D A [(h0, .inr (4, [.ref h1, .ref h2, .ref h3, .int v0_7, .int y_1, .int v0_first, .int v0_firstToldX, .int v0_firstToldY, .int v0_firstToldX, .int v0_firstToldY, .int v0_8, .int v0_9, .int v0_10])), (h1, .inl (cI, 800, .inl f1_11)), (h2, .inl (cI, 800, .inl f2_12)), (h3, .inl (cZ, 800, .inl f3_13))] := hD
    have h9 := Option.some.inj hM
    subst h9
    exact W.vret hx hb hr (fun t ht hW => QMv_mk (by rw [ht]; exact hP) (va_K.moved hW.alike hK) hD (hS.F ht)) hS.2.2 dX5_close_60
theorem dX5_box_0 : decode cX5_box 0 = .ok (.aload_n 0, 1) := by decide +kernel
theorem dX5_box_1 : decode cX5_box 1 = .ok (.iload_n 1, 1) := by decide +kernel
theorem dX5_box_2 : decode cX5_box 2 = .ok (.iload_n 2, 1) := by decide +kernel
theorem dX5_box_3 : decode cX5_box 3 = .ok (.aload 5, 2) := by decide +kernel
theorem dX5_box_5 : decode cX5_box 5 = .ok (.invokevirtual 67, 3) := by decide +kernel
theorem dX5_box_8 : decode cX5_box 8 = .ok (.aload_n 0, 1) := by decide +kernel
theorem dX5_box_9 : decode cX5_box 9 = .ok (.iload_n 3, 1) := by decide +kernel
theorem dX5_box_10 : decode cX5_box 10 = .ok (.iload_n 2, 1) := by decide +kernel
theorem dX5_box_11 : decode cX5_box 11 = .ok (.aload 5, 2) := by decide +kernel
theorem dX5_box_13 : decode cX5_box 13 = .ok (.invokevirtual 61, 3) := by decide +kernel
theorem dX5_box_16 : decode cX5_box 16 = .ok (.aload_n 0, 1) := by decide +kernel
theorem dX5_box_17 : decode cX5_box 17 = .ok (.iload_n 3, 1) := by decide +kernel
theorem dX5_box_18 : decode cX5_box 18 = .ok (.iload 4, 2) := by decide +kernel
theorem dX5_box_20 : decode cX5_box 20 = .ok (.aload 5, 2) := by decide +kernel
theorem dX5_box_22 : decode cX5_box 22 = .ok (.invokevirtual 61, 3) := by decide +kernel
theorem dX5_box_25 : decode cX5_box 25 = .ok (.aload_n 0, 1) := by decide +kernel
theorem dX5_box_26 : decode cX5_box 26 = .ok (.iload_n 1, 1) := by decide +kernel
theorem dX5_box_27 : decode cX5_box 27 = .ok (.iload 4, 2) := by decide +kernel
theorem dX5_box_29 : decode cX5_box 29 = .ok (.aload 5, 2) := by decide +kernel
theorem dX5_box_31 : decode cX5_box 31 = .ok (.invokevirtual 61, 3) := by decide +kernel
theorem dX5_box_34 : decode cX5_box 34 = .ok (.aload_n 0, 1) := by decide +kernel
theorem dX5_box_35 : decode cX5_box 35 = .ok (.invokevirtual 70, 3) := by decide +kernel
theorem dX5_box_38 : decode cX5_box 38 = .ok (.return_, 1) := by decide +kernel
abbrev rm_X5_box : Room := { frames := 3, cells := 0, slots := 0, locals := 67 }
def w_X5_box : List Cond := Cond.code yX5_box cX5_box 6 none :: uw
set_option maxHeartbeats 4000000 in
set_option maxRecDepth 100000 in
theorem c_X5_box (l : Launch) (dC : Nat → ClassId) (dI : Nat → Nat → Nat) (cI cZ cO : ClassId) (tL sz : Nat) (h0 : Nat) (h1 : Nat) (h2 : Nat) (h3 : Nat) (h4 : Nat) (v0_points : Int32) (v0_lines : Int32) (v0_first : Int32) (v0_firstToldX : Int32) (v0_firstToldY : Int32) (v0_lastToldX : Int32) (v0_lastToldY : Int32) (v0_leastX : Int32) (v0_leastY : Int32) (v0_greatestY : Int32) (v1_a : Int32) (v1_b : Int32) (v1_c : Int32) (v1_d : Int32) (v1_e : Int32) (v1_f : Int32) (f2 : Nat → Int32) (f3 : Nat → Int32) (f4 : Nat → Int32) (p1 : Int32) (p2 : Int32) (p3 : Int32) (p4 : Int32) (res : Int32 × Int32 × Int32 × Int32 × Int32 × Int32 × Int32 × Int32 × Int32 × Int32 × (Nat → Int32) × (Nat → Int32) × (Nat → Int32)) (hM : m_X5_box v0_points v0_lines v0_first v0_firstToldX v0_firstToldY v0_lastToldX v0_lastToldY v0_leastX v0_leastY v0_greatestY v1_a v1_b v1_c v1_d v1_e v1_f f2 f3 f4 p1 p2 p3 p4 = some res) : Met l yX5_box w_X5_box rm_X5_box (PCx [.ref h0, .int p1, .int p2, .int p3, .int p4, .ref h1] (dC, dI) [(cI, .int), (cZ, .boolean), (cO, .object "ListPainter$Settings")] sz tL [(h0, .inr (4, [.ref h2, .ref h3, .ref h4, .int v0_points, .int v0_lines, .int v0_first, .int v0_firstToldX, .int v0_firstToldY, .int v0_lastToldX, .int v0_lastToldY, .int v0_leastX, .int v0_leastY, .int v0_greatestY])), (h1, .inr (8, [.int v1_a, .int v1_b, .int v1_c, .int v1_d, .int v1_e, .int v1_f])), (h2, .inl (cI, 800, .inl f2)), (h3, .inl (cI, 800, .inl f3)), (h4, .inl (cZ, 800, .inl f4))]) (QMv (dC, dI) [(cI, .int), (cZ, .boolean), (cO, .object "ListPainter$Settings")] (va_A [(h0, .inr (4, [.ref h2, .ref h3, .ref h4, .int v0_points, .int v0_lines, .int v0_first, .int v0_firstToldX, .int v0_firstToldY, .int v0_lastToldX, .int v0_lastToldY, .int v0_leastX, .int v0_leastY, .int v0_greatestY])), (h1, .inr (8, [.int v1_a, .int v1_b, .int v1_c, .int v1_d, .int v1_e, .int v1_f])), (h2, .inl (cI, 800, .inl f2)), (h3, .inl (cI, 800, .inl f3)), (h4, .inl (cZ, 800, .inl f4))] sz) [(h0, .inr (4, [.ref h2, .ref h3, .ref h4, .int (res.1), .int (res.2.1), .int (res.2.2.1), .int (res.2.2.2.1), .int (res.2.2.2.2.1), .int (res.2.2.2.2.2.1), .int (res.2.2.2.2.2.2.1), .int (res.2.2.2.2.2.2.2.1), .int (res.2.2.2.2.2.2.2.2.1), .int (res.2.2.2.2.2.2.2.2.2.1)])), (h1, .inr (8, [.int v1_a, .int v1_b, .int v1_c, .int v1_d, .int v1_e, .int v1_f])), (h2, .inl (cI, 800, .inl (res.2.2.2.2.2.2.2.2.2.2.1))), (h3, .inl (cI, 800, .inl (res.2.2.2.2.2.2.2.2.2.2.2.1))), (h4, .inl (cZ, 800, .inl (res.2.2.2.2.2.2.2.2.2.2.2.2)))]) 0 0 (va_A [(h0, .inr (4, [.ref h2, .ref h3, .ref h4, .int v0_points, .int v0_lines, .int v0_first, .int v0_firstToldX, .int v0_firstToldY, .int v0_lastToldX, .int v0_lastToldY, .int v0_leastX, .int v0_leastY, .int v0_greatestY])), (h1, .inr (8, [.int v1_a, .int v1_b, .int v1_c, .int v1_d, .int v1_e, .int v1_f])), (h2, .inl (cI, 800, .inl f2)), (h3, .inl (cI, 800, .inl f3)), (h4, .inl (cZ, 800, .inl f4))] sz) := by
  refine Met.ofW (cc := cX5_box) (maxL := 6) (ret := none) (by decide) rfl ?_
  intro p e s m args below meth c s₁ B hml hv
  obtain ⟨rfl, hsz, hP, hK, hD0, hG⟩ := hv
  have hx := B.exec
  have hb := B.bytes
  have hr := B.returns
  have hu : ∀ w ∈ uw, w.before ([.ref h0, .int p1, .int p2, .int p3, .int p4, .ref h1] : List Value).toArray s = true := fun w h => atoms_spec (ws := w_X5_box) B.pre w (List.mem_cons_of_mem _ h)
  have hown : s.vm.findClass RX5 = some m.cls := findClass_of_methodNamed B.named
  have hlocks := B.notSynchronized
  subst hsz
  have hD := hD0.self (sz := s.heap.size)
  generalize hAe : va_A [(h0, .inr (4, [.ref h2, .ref h3, .ref h4, .int v0_points, .int v0_lines, .int v0_first, .int v0_firstToldX, .int v0_firstToldY, .int v0_lastToldX, .int v0_lastToldY, .int v0_leastX, .int v0_leastY, .int v0_greatestY])), (h1, .inr (8, [.int v1_a, .int v1_b, .int v1_c, .int v1_d, .int v1_e, .int v1_f])), (h2, .inl (cI, 800, .inl f2)), (h3, .inl (cI, 800, .inl f3)), (h4, .inl (cZ, 800, .inl f4))] s.heap.size = A at hD hG ⊢
  have hA : ∀ q : Nat, s.heap.size ≤ q → A q := fun q h => by rw [← hAe]; exact Or.inr h
  have hS : va_S A s.heap s.heap [] := va_S.rf
  have hP : va_P (dC, dI) vwCl [(h0, .inr (4, [.ref h2, .ref h3, .ref h4, .int v0_points, .int v0_lines, .int v0_first, .int v0_firstToldX, .int v0_firstToldY, .int v0_lastToldX, .int v0_lastToldY, .int v0_leastX, .int v0_leastY, .int v0_greatestY])), (h1, .inr (8, [.int v1_a, .int v1_b, .int v1_c, .int v1_d, .int v1_e, .int v1_f])), (h2, .inl (cI, 800, .inl f2)), (h3, .inl (cI, 800, .inl f3)), (h4, .inl (cZ, 800, .inl f4))] s.heap := hP
  have hl := lv_entry ([.ref h0, .int p1, .int p2, .int p3, .int p4, .ref h1]) (n := 6) (Nat.le_of_ble_eq_true rfl)
  rw [lg_entry_eq]
  generalize (lg_sl ([.ref h0, .int p1, .int p2, .int p3, .int p4, .ref h1]) ++ List.replicate (6 - (lg_sl ([.ref h0, .int p1, .int p2, .int p3, .int p4, .ref h1])).length) Slot.unset).toArray = ls at hl ⊢
  have hl : lv_has ls 6 [(0, .ref h0), (1, .int p1), (2, .int p2), (3, .int p3), (4, .int p4), (5, .ref h1)] := hl
  rw [m_X5_box] at hM
  suffices hgo : ∀ (H : Heap) (locs : List Loc), va_P (dC, dI) vwCl [(h0, .inr (4, [.ref h2, .ref h3, .ref h4, .int v0_points, .int v0_lines, .int v0_first, .int v0_firstToldX, .int v0_firstToldY, .int v0_lastToldX, .int v0_lastToldY, .int v0_leastX, .int v0_leastY, .int v0_greatestY])), (h1, .inr (8, [.int v1_a, .int v1_b, .int v1_c, .int v1_d, .int v1_e, .int v1_f])), (h2, .inl (cI, 800, .inl f2)), (h3, .inl (cI, 800, .inl f3)), (h4, .inl (cZ, 800, .inl f4))] H → va_D A [(h0, .inr (4, [.ref h2, .ref h3, .ref h4, .int v0_points, .int v0_lines, .int v0_first, .int v0_firstToldX, .int v0_firstToldY, .int v0_lastToldX, .int v0_lastToldY, .int v0_leastX, .int v0_leastY, .int v0_greatestY])), (h1, .inr (8, [.int v1_a, .int v1_b, .int v1_c, .int v1_d, .int v1_e, .int v1_f])), (h2, .inl (cI, 800, .inl f2)), (h3, .inl (cI, 800, .inl f3)), (h4, .inl (cZ, 800, .inl f4))] → va_S A s.heap H locs → W p l e (headSpec w_X5_box rm_X5_box).room s m ([.ref h0, .int p1, .int p2, .int p3, .int p4, .ref h1] : List Value).toArray below meth c H locs 0 0 (MQ below (QMv (dC, dI) [(cI, .int), (cZ, .boolean), (cO, .object "ListPainter$Settings")] A [(h0, .inr (4, [.ref h2, .ref h3, .ref h4, .int (res.1), .int (res.2.1), .int (res.2.2.1), .int (res.2.2.2.1), .int (res.2.2.2.2.1), .int (res.2.2.2.2.2.1), .int (res.2.2.2.2.2.2.1), .int (res.2.2.2.2.2.2.2.1), .int (res.2.2.2.2.2.2.2.2.1), .int (res.2.2.2.2.2.2.2.2.2.1)])), (h1, .inr (8, [.int v1_a, .int v1_b, .int v1_c, .int v1_d, .int v1_e, .int v1_f])), (h2, .inl (cI, 800, .inl (res.2.2.2.2.2.2.2.2.2.2.1))), (h3, .inl (cI, 800, .inl (res.2.2.2.2.2.2.2.2.2.2.2.1))), (h4, .inl (cZ, 800, .inl (res.2.2.2.2.2.2.2.2.2.2.2.2)))]) ([.ref h0, .int p1, .int p2, .int p3, .int p4, .ref h1] : List Value).toArray s 0 0 A) (F0 m 0 ls []) from hgo _ _ hP hD hS
  intro H locs hP hD hS
  refine lv_aload_n hx hb dX5_box_0 rfl (lv_at hl 0 rfl) ?_
  refine lv_iload_n hx hb dX5_box_1 rfl (lv_at hl 1 rfl) ?_
  refine lv_iload_n hx hb dX5_box_2 rfl (lv_at hl 2 rfl) ?_
  refine lv_aload hx hb dX5_box_3 (lv_at hl 5 rfl) ?_
  obtain ⟨v0_1, v0_2, v0_3, v0_4, v0_5, v0_6, v0_7, v0_8, v0_9, f2_10, f3_11, f4_12, hm_13, hM⟩ := bd12_u hM
  refine cVv (As := [.int p1, .int p2, .ref h1]) (rest := []) ⟨hx, hb, hml, hown, hu⟩ (c_X5_begin l dC dI cI cZ cO tL H.size h0 h1 h2 h3 h4 v0_points v0_lines v0_first v0_firstToldX v0_firstToldY v0_lastToldX v0_lastToldY v0_leastX v0_leastY v0_greatestY v1_a v1_b v1_c v1_d v1_e v1_f f2 f3 f4 p1 p2 (v0_1, v0_2, v0_3, v0_4, v0_5, v0_6, v0_7, v0_8, v0_9, f2_10, f3_11, f4_12) hm_13) (cwV 3 hu (gV kw_144 kw_145 kw_146 kw_134 kw_147) rfl rfl rfl (by decide +kernel) ⟨Nat.le_of_ble_eq_true rfl, Nat.le_of_ble_eq_true rfl⟩) hP hD hS hA hK hG [0, 1, 2, 3, 4] (by decide) rfl [some 0, some 1, some 2, some 3, some 4] 5 rfl (by decide +kernel) rfl 4 0 rfl rfl rfl rfl hl.1 rfl (Nat.le_of_ble_eq_true rfl) dX5_box_5 (Nat.zero_le _) (Nat.zero_le _) (fun H locs hP hD hS => ?_)
  have hP : va_P (dC, dI) vwCl [(h0, .inr (4, [.ref h2, .ref h3, .ref h4, .int v0_1, .int v0_lines, .int v0_2, .int v0_3, .int v0_4, .int v0_5, .int v0_6, .int v0_7, .int v0_8, .int v0_9])), (h1, .inr (8, [.int v1_a, .int v1_b, .int v1_c, .int v1_d, .int v1_e, .int v1_f])), (h2, .inl (cI, 800, .inl f2_10)), (h3, .inl (cI, 800, .inl f3_11)), (h4, .inl (cZ, 800, .inl f4_12))] H := hP
  have hD : va_D A [(h0, .inr (4, [.ref h2, .ref h3, .ref h4, .int v0_1, .int v0_lines, .int v0_2, .int v0_3, .int v0_4, .int v0_5, .int v0_6, .int v0_7, .int v0_8, .int v0_9])), (h1, .inr (8, [.int v1_a, .int v1_b, .int v1_c, .int v1_d, .int v1_e, .int v1_f])), (h2, .inl (cI, 800, .inl f2_10)), (h3, .inl (cI, 800, .inl f3_11)), (h4, .inl (cZ, 800, .inl f4_12))] := hD
  refine lv_aload_n hx hb dX5_box_8 rfl (lv_at hl 0 rfl) ?_
  refine lv_iload_n hx hb dX5_box_9 rfl (lv_at hl 3 rfl) ?_
  refine lv_iload_n hx hb dX5_box_10 rfl (lv_at hl 2 rfl) ?_
  refine lv_aload hx hb dX5_box_11 (lv_at hl 5 rfl) ?_
  obtain ⟨v0_14, v0_15, v0_16, v0_17, v0_18, v0_19, v0_20, f2_21, f3_22, f4_23, hm_24, hM⟩ := bd10_u hM
  refine cVv (As := [.int p3, .int p2, .ref h1]) (rest := []) ⟨hx, hb, hml, hown, hu⟩ (c_X5_lineTo l dC dI cI cZ cO tL H.size h0 h1 h2 h3 h4 v0_1 v0_lines v0_2 v0_3 v0_4 v0_5 v0_6 v0_7 v0_8 v0_9 v1_a v1_b v1_c v1_d v1_e v1_f f2_10 f3_11 f4_12 p3 p2 (v0_14, v0_15, v0_16, v0_17, v0_18, v0_19, v0_20, f2_21, f3_22, f4_23) hm_24) (cwV 3 hu (gV kw_140 kw_141 kw_142 kw_134 kw_143) rfl rfl rfl (by decide +kernel) ⟨Nat.le_of_ble_eq_true rfl, Nat.le_of_ble_eq_true rfl⟩) hP hD hS hA hK hG [0, 1, 2, 3, 4] (by decide) rfl [some 0, some 1, some 2, some 3, some 4] 5 rfl (by decide +kernel) rfl 4 0 rfl rfl rfl rfl hl.1 rfl (Nat.le_of_ble_eq_true rfl) dX5_box_13 (Nat.zero_le _) (Nat.zero_le _) (fun H locs hP hD hS => ?_)
  have hP : va_P (dC, dI) vwCl [(h0, .inr (4, [.ref h2, .ref h3, .ref h4, .int v0_14, .int v0_15, .int v0_2, .int v0_3, .int v0_4, .int v0_16, .int v0_17, .int v0_18, .int v0_19, .int v0_20])), (h1, .inr (8, [.int v1_a, .int v1_b, .int v1_c, .int v1_d, .int v1_e, .int v1_f])), (h2, .inl (cI, 800, .inl f2_21)), (h3, .inl (cI, 800, .inl f3_22)), (h4, .inl (cZ, 800, .inl f4_23))] H := hP
  have hD : va_D A [(h0, .inr (4, [.ref h2, .ref h3, .ref h4, .int v0_14, .int v0_15, .int v0_2, .int v0_3, .int v0_4, .int v0_16, .int v0_17, .int v0_18, .int v0_19, .int v0_20])), (h1, .inr (8, [.int v1_a, .int v1_b, .int v1_c, .int v1_d, .int v1_e, .int v1_f])), (h2, .inl (cI, 800, .inl f2_21)), (h3, .inl (cI, 800, .inl f3_22)), (h4, .inl (cZ, 800, .inl f4_23))] := hD
  refine lv_aload_n hx hb dX5_box_16 rfl (lv_at hl 0 rfl) ?_
  refine lv_iload_n hx hb dX5_box_17 rfl (lv_at hl 3 rfl) ?_
  refine lv_iload hx hb dX5_box_18 (lv_at hl 4 rfl) ?_
  refine lv_aload hx hb dX5_box_20 (lv_at hl 5 rfl) ?_
  obtain ⟨v0_25, v0_26, v0_27, v0_28, v0_29, v0_30, v0_31, f2_32, f3_33, f4_34, hm_35, hM⟩ := bd10_u hM
  refine cVv (As := [.int p3, .int p4, .ref h1]) (rest := []) ⟨hx, hb, hml, hown, hu⟩ (c_X5_lineTo l dC dI cI cZ cO tL H.size h0 h1 h2 h3 h4 v0_14 v0_15 v0_2 v0_3 v0_4 v0_16 v0_17 v0_18 v0_19 v0_20 v1_a v1_b v1_c v1_d v1_e v1_f f2_21 f3_22 f4_23 p3 p4 (v0_25, v0_26, v0_27, v0_28, v0_29, v0_30, v0_31, f2_32, f3_33, f4_34) hm_35) (cwV 3 hu (gV kw_140 kw_141 kw_142 kw_134 kw_143) rfl rfl rfl (by decide +kernel) ⟨Nat.le_of_ble_eq_true rfl, Nat.le_of_ble_eq_true rfl⟩) hP hD hS hA hK hG [0, 1, 2, 3, 4] (by decide) rfl [some 0, some 1, some 2, some 3, some 4] 5 rfl (by decide +kernel) rfl 4 0 rfl rfl rfl rfl hl.1 rfl (Nat.le_of_ble_eq_true rfl) dX5_box_22 (Nat.zero_le _) (Nat.zero_le _) (fun H locs hP hD hS => ?_)
  have hP : va_P (dC, dI) vwCl [(h0, .inr (4, [.ref h2, .ref h3, .ref h4, .int v0_25, .int v0_26, .int v0_2, .int v0_3, .int v0_4, .int v0_27, .int v0_28, .int v0_29, .int v0_30, .int v0_31])), (h1, .inr (8, [.int v1_a, .int v1_b, .int v1_c, .int v1_d, .int v1_e, .int v1_f])), (h2, .inl (cI, 800, .inl f2_32)), (h3, .inl (cI, 800, .inl f3_33)), (h4, .inl (cZ, 800, .inl f4_34))] H := hP
  have hD : va_D A [(h0, .inr (4, [.ref h2, .ref h3, .ref h4, .int v0_25, .int v0_26, .int v0_2, .int v0_3, .int v0_4, .int v0_27, .int v0_28, .int v0_29, .int v0_30, .int v0_31])), (h1, .inr (8, [.int v1_a, .int v1_b, .int v1_c, .int v1_d, .int v1_e, .int v1_f])), (h2, .inl (cI, 800, .inl f2_32)), (h3, .inl (cI, 800, .inl f3_33)), (h4, .inl (cZ, 800, .inl f4_34))] := hD
  refine lv_aload_n hx hb dX5_box_25 rfl (lv_at hl 0 rfl) ?_
  refine lv_iload_n hx hb dX5_box_26 rfl (lv_at hl 1 rfl) ?_
  refine lv_iload hx hb dX5_box_27 (lv_at hl 4 rfl) ?_
  refine lv_aload hx hb dX5_box_29 (lv_at hl 5 rfl) ?_
  obtain ⟨v0_36, v0_37, v0_38, v0_39, v0_40, v0_41, v0_42, f2_43, f3_44, f4_45, hm_46, hM⟩ := bd10_u hM
  refine cVv (As := [.int p1, .int p4, .ref h1]) (rest := []) ⟨hx, hb, hml, hown, hu⟩ (c_X5_lineTo l dC dI cI cZ cO tL H.size h0 h1 h2 h3 h4 v0_25 v0_26 v0_2 v0_3 v0_4 v0_27 v0_28 v0_29 v0_30 v0_31 v1_a v1_b v1_c v1_d v1_e v1_f f2_32 f3_33 f4_34 p1 p4 (v0_36, v0_37, v0_38, v0_39, v0_40, v0_41, v0_42, f2_43, f3_44, f4_45) hm_46) (cwV 3 hu (gV kw_140 kw_141 kw_142 kw_134 kw_143) rfl rfl rfl (by decide +kernel) ⟨Nat.le_of_ble_eq_true rfl, Nat.le_of_ble_eq_true rfl⟩) hP hD hS hA hK hG [0, 1, 2, 3, 4] (by decide) rfl [some 0, some 1, some 2, some 3, some 4] 5 rfl (by decide +kernel) rfl 4 0 rfl rfl rfl rfl hl.1 rfl (Nat.le_of_ble_eq_true rfl) dX5_box_31 (Nat.zero_le _) (Nat.zero_le _) (fun H locs hP hD hS => ?_)
  have hP : va_P (dC, dI) vwCl [(h0, .inr (4, [.ref h2, .ref h3, .ref h4, .int v0_36, .int v0_37, .int v0_2, .int v0_3, .int v0_4, .int v0_38, .int v0_39, .int v0_40, .int v0_41, .int v0_42])), (h1, .inr (8, [.int v1_a, .int v1_b, .int v1_c, .int v1_d, .int v1_e, .int v1_f])), (h2, .inl (cI, 800, .inl f2_43)), (h3, .inl (cI, 800, .inl f3_44)), (h4, .inl (cZ, 800, .inl f4_45))] H := hP
  have hD : va_D A [(h0, .inr (4, [.ref h2, .ref h3, .ref h4, .int v0_36, .int v0_37, .int v0_2, .int v0_3, .int v0_4, .int v0_38, .int v0_39, .int v0_40, .int v0_41, .int v0_42])), (h1, .inr (8, [.int v1_a, .int v1_b, .int v1_c, .int v1_d, .int v1_e, .int v1_f])), (h2, .inl (cI, 800, .inl f2_43)), (h3, .inl (cI, 800, .inl f3_44)), (h4, .inl (cZ, 800, .inl f4_45))] := hD
  refine lv_aload_n hx hb dX5_box_34 rfl (lv_at hl 0 rfl) ?_
  obtain ⟨v0_47, v0_48, v0_49, v0_50, v0_51, v0_52, v0_53, f2_54, f3_55, f4_56, hm_57, hM⟩ := bd10_u hM
  refine cVv (As := []) (rest := []) ⟨hx, hb, hml, hown, hu⟩ (c_X5_close l dC dI cI cZ cO tL H.size h0 h2 h3 h4 v0_36 v0_37 v0_2 v0_3 v0_4 v0_38 v0_39 v0_40 v0_41 v0_42 f2_43 f3_44 f4_45 (v0_47, v0_48, v0_49, v0_50, v0_51, v0_52, v0_53, f2_54, f3_55, f4_56) hm_57) (cwV 0 hu (gV kw_148 kw_149 kw_150 kw_134 kw_151) rfl rfl rfl (by decide +kernel) ⟨Nat.le_of_ble_eq_true rfl, Nat.le_of_ble_eq_true rfl⟩) hP hD hS hA hK hG [0, 2, 3, 4] (by decide) rfl [some 0, none, some 1, some 2, some 3] 4 rfl (by decide +kernel) rfl 4 0 rfl rfl rfl rfl hl.1 rfl (Nat.le_of_ble_eq_true rfl) dX5_box_35 (Nat.zero_le _) (Nat.zero_le _) (fun H locs hP hD hS => ?_)
  have hP : va_P (dC, dI) vwCl [(h0, .inr (4, [.ref h2, .ref h3, .ref h4, .int v0_47, .int v0_48, .int v0_2, .int v0_3, .int v0_4, .int v0_49, .int v0_50, .int v0_51, .int v0_52, .int v0_53])), (h1, .inr (8, [.int v1_a, .int v1_b, .int v1_c, .int v1_d, .int v1_e, .int v1_f])), (h2, .inl (cI, 800, .inl f2_54)), (h3, .inl (cI, 800, .inl f3_55)), (h4, .inl (cZ, 800, .inl f4_56))] H := hP
  have hD : va_D A [(h0, .inr (4, [.ref h2, .ref h3, .ref h4, .int v0_47, .int v0_48, .int v0_2, .int v0_3, .int v0_4, .int v0_49, .int v0_50, .int v0_51, .int v0_52, .int v0_53])), (h1, .inr (8, [.int v1_a, .int v1_b, .int v1_c, .int v1_d, .int v1_e, .int v1_f])), (h2, .inl (cI, 800, .inl f2_54)), (h3, .inl (cI, 800, .inl f3_55)), (h4, .inl (cZ, 800, .inl f4_56))] := hD
  have h9 := Option.some.inj hM
  subst h9
  exact W.vret hx hb hr (fun t ht hW => QMv_mk (by rw [ht]; exact hP) (va_K.moved hW.alike hK) hD (hS.F ht)) hS.2.2 dX5_box_38
theorem dX5_endOfLine_0 : decode cX5_endOfLine 0 = .ok (.iload_n 1, 1) := by decide +kernel
theorem dX5_endOfLine_1 : decode cX5_endOfLine 1 = .ok (.iconst 1, 1) := by decide +kernel
theorem dX5_endOfLine_2 : decode cX5_endOfLine 2 = .ok (.iadd, 1) := by decide +kernel
theorem dX5_endOfLine_3 : decode cX5_endOfLine 3 = .ok (.istore_n 3, 1) := by decide +kernel
theorem dX5_endOfLine_4 : decode cX5_endOfLine 4 = .ok (.iload_n 3, 1) := by decide +kernel
theorem dX5_endOfLine_5 : decode cX5_endOfLine 5 = .ok (.aload_n 0, 1) := by decide +kernel
theorem dX5_endOfLine_6 : decode cX5_endOfLine 6 = .ok (.getfield 22, 3) := by decide +kernel
theorem dX5_endOfLine_9 : decode cX5_endOfLine 9 = .ok (.if_icmp .ge 16, 3) := by decide +kernel
theorem dX5_endOfLine_12 : decode cX5_endOfLine 12 = .ok (.aload_n 0, 1) := by decide +kernel
theorem dX5_endOfLine_13 : decode cX5_endOfLine 13 = .ok (.getfield 18, 3) := by decide +kernel
theorem dX5_endOfLine_16 : decode cX5_endOfLine 16 = .ok (.iload_n 3, 1) := by decide +kernel
theorem dX5_endOfLine_17 : decode cX5_endOfLine 17 = .ok (.baload, 1) := by decide +kernel
theorem dX5_endOfLine_18 : decode cX5_endOfLine 18 = .ok (.ifCond .ne 7, 3) := by decide +kernel
theorem dX5_endOfLine_21 : decode cX5_endOfLine 21 = .ok (.iload_n 3, 1) := by decide +kernel
theorem dX5_endOfLine_22 : decode cX5_endOfLine 22 = .ok (.goto 4, 3) := by decide +kernel
theorem dX5_endOfLine_25 : decode cX5_endOfLine 25 = .ok (.iload_n 2, 1) := by decide +kernel
theorem dX5_endOfLine_26 : decode cX5_endOfLine 26 = .ok (.ireturn, 1) := by decide +kernel
abbrev rm_X5_endOfLine : Room := { frames := 0, cells := 0, slots := 0, locals := 0 }
def w_X5_endOfLine : List Cond := Cond.code yX5_endOfLine cX5_endOfLine 4 (some .int) :: uw
set_option maxHeartbeats 4000000 in
set_option maxRecDepth 100000 in
theorem c_X5_endOfLine (l : Launch) (dC : Nat → ClassId) (dI : Nat → Nat → Nat) (cI cZ cO : ClassId) (tL sz : Nat) (h0 : Nat) (h1 : Nat) (g0_xs : Nat) (g0_ys : Nat) (v0_points : Int32) (v0_lines : Int32) (v0_first : Int32) (v0_firstToldX : Int32) (v0_firstToldY : Int32) (v0_lastToldX : Int32) (v0_lastToldY : Int32) (v0_leastX : Int32) (v0_leastY : Int32) (v0_greatestY : Int32) (f1 : Nat → Int32) (p1 : Int32) (p2 : Int32) (res : Int32) (hM : m_X5_endOfLine v0_points f1 p1 p2 = some res) : Met l yX5_endOfLine w_X5_endOfLine rm_X5_endOfLine (PCx [.ref h0, .int p1, .int p2] (dC, dI) [(cI, .int), (cZ, .boolean), (cO, .object "ListPainter$Settings")] sz tL [(h0, .inr (4, [.ref g0_xs, .ref g0_ys, .ref h1, .int v0_points, .int v0_lines, .int v0_first, .int v0_firstToldX, .int v0_firstToldY, .int v0_lastToldX, .int v0_lastToldY, .int v0_leastX, .int v0_leastY, .int v0_greatestY])), (h1, .inl (cZ, 800, .inl f1))]) (QMi res (dC, dI) [(cI, .int), (cZ, .boolean), (cO, .object "ListPainter$Settings")] (va_A [(h0, .inr (4, [.ref g0_xs, .ref g0_ys, .ref h1, .int v0_points, .int v0_lines, .int v0_first, .int v0_firstToldX, .int v0_firstToldY, .int v0_lastToldX, .int v0_lastToldY, .int v0_leastX, .int v0_leastY, .int v0_greatestY])), (h1, .inl (cZ, 800, .inl f1))] sz) [(h0, .inr (4, [.ref g0_xs, .ref g0_ys, .ref h1, .int v0_points, .int v0_lines, .int v0_first, .int v0_firstToldX, .int v0_firstToldY, .int v0_lastToldX, .int v0_lastToldY, .int v0_leastX, .int v0_leastY, .int v0_greatestY])), (h1, .inl (cZ, 800, .inl f1))]) 0 0 (va_A [(h0, .inr (4, [.ref g0_xs, .ref g0_ys, .ref h1, .int v0_points, .int v0_lines, .int v0_first, .int v0_firstToldX, .int v0_firstToldY, .int v0_lastToldX, .int v0_lastToldY, .int v0_leastX, .int v0_leastY, .int v0_greatestY])), (h1, .inl (cZ, 800, .inl f1))] sz) := by
  refine Met.ofW (cc := cX5_endOfLine) (maxL := 4) (ret := (some .int)) (by decide) rfl ?_
  intro p e s m args below meth c s₁ B hml hv
  obtain ⟨rfl, hsz, hP, hK, hD0, hG⟩ := hv
  have hx := B.exec
  have hb := B.bytes
  have hr := B.returns
  have hu : ∀ w ∈ uw, w.before ([.ref h0, .int p1, .int p2] : List Value).toArray s = true := fun w h => atoms_spec (ws := w_X5_endOfLine) B.pre w (List.mem_cons_of_mem _ h)
  have hown : s.vm.findClass RX5 = some m.cls := findClass_of_methodNamed B.named
  have hlocks := B.notSynchronized
  subst hsz
  have hD := hD0.self (sz := s.heap.size)
  generalize hAe : va_A [(h0, .inr (4, [.ref g0_xs, .ref g0_ys, .ref h1, .int v0_points, .int v0_lines, .int v0_first, .int v0_firstToldX, .int v0_firstToldY, .int v0_lastToldX, .int v0_lastToldY, .int v0_leastX, .int v0_leastY, .int v0_greatestY])), (h1, .inl (cZ, 800, .inl f1))] s.heap.size = A at hD hG ⊢
  have hA : ∀ q : Nat, s.heap.size ≤ q → A q := fun q h => by rw [← hAe]; exact Or.inr h
  have hS : va_S A s.heap s.heap [] := va_S.rf
  have hP : va_P (dC, dI) vwCl [(h0, .inr (4, [.ref g0_xs, .ref g0_ys, .ref h1, .int v0_points, .int v0_lines, .int v0_first, .int v0_firstToldX, .int v0_firstToldY, .int v0_lastToldX, .int v0_lastToldY, .int v0_leastX, .int v0_leastY, .int v0_greatestY])), (h1, .inl (cZ, 800, .inl f1))] s.heap := hP
  have hl := lv_entry ([.ref h0, .int p1, .int p2]) (n := 4) (Nat.le_of_ble_eq_true rfl)
  rw [lg_entry_eq]
  generalize (lg_sl ([.ref h0, .int p1, .int p2]) ++ List.replicate (4 - (lg_sl ([.ref h0, .int p1, .int p2])).length) Slot.unset).toArray = ls at hl ⊢
  have hl : lv_has ls 4 [(0, .ref h0), (1, .int p1), (2, .int p2)] := hl
  rw [m_X5_endOfLine] at hM
  suffices hgo : ∀ (H : Heap) (locs : List Loc), va_P (dC, dI) vwCl [(h0, .inr (4, [.ref g0_xs, .ref g0_ys, .ref h1, .int v0_points, .int v0_lines, .int v0_first, .int v0_firstToldX, .int v0_firstToldY, .int v0_lastToldX, .int v0_lastToldY, .int v0_leastX, .int v0_leastY, .int v0_greatestY])), (h1, .inl (cZ, 800, .inl f1))] H → va_D A [(h0, .inr (4, [.ref g0_xs, .ref g0_ys, .ref h1, .int v0_points, .int v0_lines, .int v0_first, .int v0_firstToldX, .int v0_firstToldY, .int v0_lastToldX, .int v0_lastToldY, .int v0_leastX, .int v0_leastY, .int v0_greatestY])), (h1, .inl (cZ, 800, .inl f1))] → va_S A s.heap H locs → W p l e (headSpec w_X5_endOfLine rm_X5_endOfLine).room s m ([.ref h0, .int p1, .int p2] : List Value).toArray below meth c H locs 0 0 (MQ below (QMi res (dC, dI) [(cI, .int), (cZ, .boolean), (cO, .object "ListPainter$Settings")] A [(h0, .inr (4, [.ref g0_xs, .ref g0_ys, .ref h1, .int v0_points, .int v0_lines, .int v0_first, .int v0_firstToldX, .int v0_firstToldY, .int v0_lastToldX, .int v0_lastToldY, .int v0_leastX, .int v0_leastY, .int v0_greatestY])), (h1, .inl (cZ, 800, .inl f1))]) ([.ref h0, .int p1, .int p2] : List Value).toArray s 0 0 A) (F0 m 0 ls []) from hgo _ _ hP hD hS
  intro H locs hP hD hS
  refine lv_iload_n hx hb dX5_endOfLine_0 rfl (lv_at hl 1 rfl) ?_
  refine lv_iconst (v := 1) hx hb dX5_endOfLine_1 (by decide) ?_
  refine lv_iadd hx hb dX5_endOfLine_2 ?_
  refine lv_topi (fun x_1 ex_1 => ?_)
  have hM := nm_u ex_1 hM
  refine lv_istore_n (lv' := [(3, .int x_1), (0, .ref h0), (1, .int p1), (2, .int p2)]) hx hb dX5_endOfLine_3 rfl hl (by decide) rfl (fun ls hl => ?_)
  refine lv_iload_n hx hb dX5_endOfLine_4 rfl (lv_at hl 0 rfl) ?_
  refine lv_aload_n hx hb dX5_endOfLine_5 rfl (lv_at hl 1 rfl) ?_
  refine va_get (D := (dC, dI)) (ci := 4) (v := .int v0_points) (C := RX5) (T := TX5) (N := 13) hx hb hu inX5 hown hK hP 0 rfl rfl 3 (by decide) (hu _ kw_108) (fun _ h9 => h9) rfl dX5_endOfLine_6 ?_
  refine lv_icmp_ge (tgt := 25) hx hb dX5_endOfLine_9 (by decide) (fun c_2 => ?_) (fun c_2 => ?_)
  · have hM := if_t c_2 hM
    refine lv_iload_n hx hb dX5_endOfLine_25 rfl (lv_at hl 3 rfl) ?_
    have h9 := Option.some.inj hM
    subst h9
    exact W.iret (v := p2) hx hb hr (fun t ht hW => QMi_mk (by rw [ht]; exact hP) (va_K.moved hW.alike hK) hD (hS.F ht)) hS.2.2 dX5_endOfLine_26
  · have hM := if_f c_2 hM
    refine lv_aload_n hx hb dX5_endOfLine_12 rfl (lv_at hl 1 rfl) ?_
    refine va_get (D := (dC, dI)) (ci := 4) (v := .ref h1) (C := RX5) (T := TX5) (N := 13) hx hb hu inX5 hown hK hP 0 rfl rfl 2 (by decide) (hu _ kw_116) (fun _ h9 => h9) rfl dX5_endOfLine_13 ?_
    refine lv_iload_n hx hb dX5_endOfLine_16 rfl (lv_at hl 0 rfl) ?_
    obtain ⟨g_3, hM⟩ := gd_u hM
    refine va_zald hx hb hK hP 1 1 rfl rfl (inb_v g_3) dX5_endOfLine_17 ?_
    refine lv_topi (fun a_4 ea_4 => ?_)
    have hM := nm_u ea_4 hM
    refine lv_if_ne (tgt := 25) hx hb dX5_endOfLine_18 (by decide) (fun c_5 => ?_) (fun c_5 => ?_)
    · have hM := if_f c_5 hM
      refine lv_iload_n hx hb dX5_endOfLine_25 rfl (lv_at hl 3 rfl) ?_
      have h9 := Option.some.inj hM
      subst h9
      exact W.iret (v := p2) hx hb hr (fun t ht hW => QMi_mk (by rw [ht]; exact hP) (va_K.moved hW.alike hK) hD (hS.F ht)) hS.2.2 dX5_endOfLine_26
    · have hM := if_t c_5 hM
      refine lv_iload_n hx hb dX5_endOfLine_21 rfl (lv_at hl 0 rfl) ?_
      refine lv_goto (tgt := 26) hx hb dX5_endOfLine_22 (by decide) ?_
      have h9 := Option.some.inj hM
      subst h9
      exact W.iret (v := x_1) hx hb hr (fun t ht hW => QMi_mk (by rw [ht]; exact hP) (va_K.moved hW.alike hK) hD (hS.F ht)) hS.2.2 dX5_endOfLine_26
theorem dX2_firstMiddle_0 : decode cX2_firstMiddle 0 = .ok (.iload_n 0, 1) := by decide +kernel
theorem dX2_firstMiddle_1 : decode cX2_firstMiddle 1 = .ok (.ldc 95, 2) := by decide +kernel
theorem dX2_firstMiddle_3 : decode cX2_firstMiddle 3 = .ok (.iadd, 1) := by decide +kernel
theorem dX2_firstMiddle_4 : decode cX2_firstMiddle 4 = .ok (.iconst 1, 1) := by decide +kernel
theorem dX2_firstMiddle_5 : decode cX2_firstMiddle 5 = .ok (.isub, 1) := by decide +kernel
theorem dX2_firstMiddle_6 : decode cX2_firstMiddle 6 = .ok (.bipush 16, 2) := by decide +kernel
theorem dX2_firstMiddle_8 : decode cX2_firstMiddle 8 = .ok (.ishr, 1) := by decide +kernel
theorem dX2_firstMiddle_9 : decode cX2_firstMiddle 9 = .ok (.ireturn, 1) := by decide +kernel
abbrev rm_X2_firstMiddle : Room := { frames := 0, cells := 0, slots := 0, locals := 0 }
def w_X2_firstMiddle : List Cond := Cond.code yX2_firstMiddle cX2_firstMiddle 1 (some .int) :: uw
set_option maxHeartbeats 4000000 in
set_option maxRecDepth 100000 in
theorem c_X2_firstMiddle (l : Launch) (dC : Nat → ClassId) (dI : Nat → Nat → Nat) (cI cZ cO : ClassId) (tL sz : Nat) (p0 : Int32) (res : Int32) (hM : m_X2_firstMiddle p0 = some res) : Met l yX2_firstMiddle w_X2_firstMiddle rm_X2_firstMiddle (PCx [.int p0] (dC, dI) [(cI, .int), (cZ, .boolean), (cO, .object "ListPainter$Settings")] sz tL []) (QMi res (dC, dI) [(cI, .int), (cZ, .boolean), (cO, .object "ListPainter$Settings")] (va_A [] sz) []) 0 0 (va_A [] sz) := by
  refine Met.ofW (cc := cX2_firstMiddle) (maxL := 1) (ret := (some .int)) (by decide) rfl ?_
  intro p e s m args below meth c s₁ B hml hv
  obtain ⟨rfl, hsz, hP, hK, hD0, hG⟩ := hv
  have hx := B.exec
  have hb := B.bytes
  have hr := B.returns
  have hu : ∀ w ∈ uw, w.before ([.int p0] : List Value).toArray s = true := fun w h => atoms_spec (ws := w_X2_firstMiddle) B.pre w (List.mem_cons_of_mem _ h)
  have hown : s.vm.findClass RX2 = some m.cls := findClass_of_methodNamed B.named
  have hlocks := B.notSynchronized
  subst hsz
  have hD := hD0.self (sz := s.heap.size)
  generalize hAe : va_A [] s.heap.size = A at hD hG ⊢
  have hA : ∀ q : Nat, s.heap.size ≤ q → A q := fun q h => by rw [← hAe]; exact Or.inr h
  have hS : va_S A s.heap s.heap [] := va_S.rf
  have hP : va_P (dC, dI) vwCl [] s.heap := hP
  have hl := lv_entry ([.int p0]) (n := 1) (Nat.le_of_ble_eq_true rfl)
  rw [lg_entry_eq]
  generalize (lg_sl ([.int p0]) ++ List.replicate (1 - (lg_sl ([.int p0])).length) Slot.unset).toArray = ls at hl ⊢
  have hl : lv_has ls 1 [(0, .int p0)] := hl
  rw [m_X2_firstMiddle] at hM
  suffices hgo : ∀ (H : Heap) (locs : List Loc), va_P (dC, dI) vwCl [] H → va_D A [] → va_S A s.heap H locs → W p l e (headSpec w_X2_firstMiddle rm_X2_firstMiddle).room s m ([.int p0] : List Value).toArray below meth c H locs 0 0 (MQ below (QMi res (dC, dI) [(cI, .int), (cZ, .boolean), (cO, .object "ListPainter$Settings")] A []) ([.int p0] : List Value).toArray s 0 0 A) (F0 m 0 ls []) from hgo _ _ hP hD hS
  intro H locs hP hD hS
  refine lv_iload_n hx hb dX2_firstMiddle_0 rfl (lv_at hl 0 rfl) ?_
  refine lv_ldc (v := 32768) hx hb hown (hu _ kw_152) dX2_firstMiddle_1 ?_
  refine lv_iadd hx hb dX2_firstMiddle_3 ?_
  refine lv_iconst (v := 1) hx hb dX2_firstMiddle_4 (by decide) ?_
  refine lv_isub hx hb dX2_firstMiddle_5 ?_
  refine lv_bipush (v := 16) hx hb dX2_firstMiddle_6 (by decide) ?_
  refine lv_ishr hx hb dX2_firstMiddle_8 ?_
  have h9 := Option.some.inj hM
  subst h9
  exact W.iret (v := ((((p0 + 32768) - 1) : Int32) >>> (16 &&& 31))) hx hb hr (fun t ht hW => QMi_mk (by rw [ht]; exact hP) (va_K.moved hW.alike hK) hD (hS.F ht)) hS.2.2 dX2_firstMiddle_9
theorem dX5_misses_0 : decode cX5_misses 0 = .ok (.aload_n 0, 1) := by decide +kernel
theorem dX5_misses_1 : decode cX5_misses 1 = .ok (.getfield 22, 3) := by decide +kernel
theorem dX5_misses_4 : decode cX5_misses 4 = .ok (.ifCond .ne 5, 3) := by decide +kernel
theorem dX5_misses_7 : decode cX5_misses 7 = .ok (.iconst 1, 1) := by decide +kernel
theorem dX5_misses_8 : decode cX5_misses 8 = .ok (.ireturn, 1) := by decide +kernel
theorem dX5_misses_9 : decode cX5_misses 9 = .ok (.aload_n 1, 1) := by decide +kernel
theorem dX5_misses_10 : decode cX5_misses 10 = .ok (.getfield 90, 3) := by decide +kernel
theorem dX5_misses_13 : decode cX5_misses 13 = .ok (.aload_n 0, 1) := by decide +kernel
theorem dX5_misses_14 : decode cX5_misses 14 = .ok (.getfield 81, 3) := by decide +kernel
theorem dX5_misses_17 : decode cX5_misses 17 = .ok (.invokestatic 95, 3) := by decide +kernel
theorem dX5_misses_20 : decode cX5_misses 20 = .ok (.invokestatic 87, 3) := by decide +kernel
theorem dX5_misses_23 : decode cX5_misses 23 = .ok (.istore_n 2, 1) := by decide +kernel
theorem dX5_misses_24 : decode cX5_misses 24 = .ok (.aload_n 1, 1) := by decide +kernel
theorem dX5_misses_25 : decode cX5_misses 25 = .ok (.getfield 101, 3) := by decide +kernel
theorem dX5_misses_28 : decode cX5_misses 28 = .ok (.aload_n 0, 1) := by decide +kernel
theorem dX5_misses_29 : decode cX5_misses 29 = .ok (.getfield 84, 3) := by decide +kernel
theorem dX5_misses_32 : decode cX5_misses 32 = .ok (.invokestatic 95, 3) := by decide +kernel
theorem dX5_misses_35 : decode cX5_misses 35 = .ok (.invokestatic 76, 3) := by decide +kernel
theorem dX5_misses_38 : decode cX5_misses 38 = .ok (.istore_n 3, 1) := by decide +kernel
theorem dX5_misses_39 : decode cX5_misses 39 = .ok (.iload_n 2, 1) := by decide +kernel
theorem dX5_misses_40 : decode cX5_misses 40 = .ok (.iload_n 3, 1) := by decide +kernel
theorem dX5_misses_41 : decode cX5_misses 41 = .ok (.if_icmp .ge 17, 3) := by decide +kernel
theorem dX5_misses_44 : decode cX5_misses 44 = .ok (.aload_n 0, 1) := by decide +kernel
theorem dX5_misses_45 : decode cX5_misses 45 = .ok (.getfield 73, 3) := by decide +kernel
theorem dX5_misses_48 : decode cX5_misses 48 = .ok (.invokestatic 95, 3) := by decide +kernel
theorem dX5_misses_51 : decode cX5_misses 51 = .ok (.aload_n 1, 1) := by decide +kernel
theorem dX5_misses_52 : decode cX5_misses 52 = .ok (.getfield 104, 3) := by decide +kernel
theorem dX5_misses_55 : decode cX5_misses 55 = .ok (.if_icmp .lt 7, 3) := by decide +kernel
theorem dX5_misses_58 : decode cX5_misses 58 = .ok (.iconst 1, 1) := by decide +kernel
theorem dX5_misses_59 : decode cX5_misses 59 = .ok (.goto 4, 3) := by decide +kernel
theorem dX5_misses_62 : decode cX5_misses 62 = .ok (.iconst 0, 1) := by decide +kernel
theorem dX5_misses_63 : decode cX5_misses 63 = .ok (.ireturn, 1) := by decide +kernel
abbrev rm_X5_misses : Room := { frames := 1, cells := 0, slots := 0, locals := 21 }
def w_X5_misses : List Cond := Cond.code yX5_misses cX5_misses 4 (some .boolean) :: uw
set_option maxHeartbeats 4000000 in
set_option maxRecDepth 100000 in
theorem c_X5_misses (l : Launch) (dC : Nat → ClassId) (dI : Nat → Nat → Nat) (cI cZ cO : ClassId) (tL sz : Nat) (h0 : Nat) (h1 : Nat) (g0_xs : Nat) (g0_ys : Nat) (g0_begins : Nat) (v0_points : Int32) (v0_lines : Int32) (v0_first : Int32) (v0_firstToldX : Int32) (v0_firstToldY : Int32) (v0_lastToldX : Int32) (v0_lastToldY : Int32) (v0_leastX : Int32) (v0_leastY : Int32) (v0_greatestY : Int32) (v1_x : Int32) (v1_y : Int32) (v1_endX : Int32) (v1_endY : Int32) (res : Int32) (hM : m_X5_misses v0_points v0_leastX v0_leastY v0_greatestY v1_y v1_endX v1_endY = some res) : Met l yX5_misses w_X5_misses rm_X5_misses (PCx [.ref h0, .ref h1] (dC, dI) [(cI, .int), (cZ, .boolean), (cO, .object "ListPainter$Settings")] sz tL [(h0, .inr (4, [.ref g0_xs, .ref g0_ys, .ref g0_begins, .int v0_points, .int v0_lines, .int v0_first, .int v0_firstToldX, .int v0_firstToldY, .int v0_lastToldX, .int v0_lastToldY, .int v0_leastX, .int v0_leastY, .int v0_greatestY])), (h1, .inr (1, [.int v1_x, .int v1_y, .int v1_endX, .int v1_endY]))]) (QMz res (dC, dI) [(cI, .int), (cZ, .boolean), (cO, .object "ListPainter$Settings")] (va_A [(h0, .inr (4, [.ref g0_xs, .ref g0_ys, .ref g0_begins, .int v0_points, .int v0_lines, .int v0_first, .int v0_firstToldX, .int v0_firstToldY, .int v0_lastToldX, .int v0_lastToldY, .int v0_leastX, .int v0_leastY, .int v0_greatestY])), (h1, .inr (1, [.int v1_x, .int v1_y, .int v1_endX, .int v1_endY]))] sz) [(h0, .inr (4, [.ref g0_xs, .ref g0_ys, .ref g0_begins, .int v0_points, .int v0_lines, .int v0_first, .int v0_firstToldX, .int v0_firstToldY, .int v0_lastToldX, .int v0_lastToldY, .int v0_leastX, .int v0_leastY, .int v0_greatestY])), (h1, .inr (1, [.int v1_x, .int v1_y, .int v1_endX, .int v1_endY]))]) 0 0 (va_A [(h0, .inr (4, [.ref g0_xs, .ref g0_ys, .ref g0_begins, .int v0_points, .int v0_lines, .int v0_first, .int v0_firstToldX, .int v0_firstToldY, .int v0_lastToldX, .int v0_lastToldY, .int v0_leastX, .int v0_leastY, .int v0_greatestY])), (h1, .inr (1, [.int v1_x, .int v1_y, .int v1_endX, .int v1_endY]))] sz) := by
  refine Met.ofW (cc := cX5_misses) (maxL := 4) (ret := (some .boolean)) (by decide) rfl ?_
  intro p e s m args below meth c s₁ B hml hv
  obtain ⟨rfl, hsz, hP, hK, hD0, hG⟩ := hv
  have hx := B.exec
  have hb := B.bytes
  have hr := B.returns
  have hu : ∀ w ∈ uw, w.before ([.ref h0, .ref h1] : List Value).toArray s = true := fun w h => atoms_spec (ws := w_X5_misses) B.pre w (List.mem_cons_of_mem _ h)
  have hown : s.vm.findClass RX5 = some m.cls := findClass_of_methodNamed B.named
  have hlocks := B.notSynchronized
  subst hsz
  have hD := hD0.self (sz := s.heap.size)
  generalize hAe : va_A [(h0, .inr (4, [.ref g0_xs, .ref g0_ys, .ref g0_begins, .int v0_points, .int v0_lines, .int v0_first, .int v0_firstToldX, .int v0_firstToldY, .int v0_lastToldX, .int v0_lastToldY, .int v0_leastX, .int v0_leastY, .int v0_greatestY])), (h1, .inr (1, [.int v1_x, .int v1_y, .int v1_endX, .int v1_endY]))] s.heap.size = A at hD hG ⊢
  have hA : ∀ q : Nat, s.heap.size ≤ q → A q := fun q h => by rw [← hAe]; exact Or.inr h
  have hS : va_S A s.heap s.heap [] := va_S.rf
  have hP : va_P (dC, dI) vwCl [(h0, .inr (4, [.ref g0_xs, .ref g0_ys, .ref g0_begins, .int v0_points, .int v0_lines, .int v0_first, .int v0_firstToldX, .int v0_firstToldY, .int v0_lastToldX, .int v0_lastToldY, .int v0_leastX, .int v0_leastY, .int v0_greatestY])), (h1, .inr (1, [.int v1_x, .int v1_y, .int v1_endX, .int v1_endY]))] s.heap := hP
  have hl := lv_entry ([.ref h0, .ref h1]) (n := 4) (Nat.le_of_ble_eq_true rfl)
  rw [lg_entry_eq]
  generalize (lg_sl ([.ref h0, .ref h1]) ++ List.replicate (4 - (lg_sl ([.ref h0, .ref h1])).length) Slot.unset).toArray = ls at hl ⊢
  have hl : lv_has ls 4 [(0, .ref h0), (1, .ref h1)] := hl
  rw [m_X5_misses] at hM
  suffices hgo : ∀ (H : Heap) (locs : List Loc), va_P (dC, dI) vwCl [(h0, .inr (4, [.ref g0_xs, .ref g0_ys, .ref g0_begins, .int v0_points, .int v0_lines, .int v0_first, .int v0_firstToldX, .int v0_firstToldY, .int v0_lastToldX, .int v0_lastToldY, .int v0_leastX, .int v0_leastY, .int v0_greatestY])), (h1, .inr (1, [.int v1_x, .int v1_y, .int v1_endX, .int v1_endY]))] H → va_D A [(h0, .inr (4, [.ref g0_xs, .ref g0_ys, .ref g0_begins, .int v0_points, .int v0_lines, .int v0_first, .int v0_firstToldX, .int v0_firstToldY, .int v0_lastToldX, .int v0_lastToldY, .int v0_leastX, .int v0_leastY, .int v0_greatestY])), (h1, .inr (1, [.int v1_x, .int v1_y, .int v1_endX, .int v1_endY]))] → va_S A s.heap H locs → W p l e (headSpec w_X5_misses rm_X5_misses).room s m ([.ref h0, .ref h1] : List Value).toArray below meth c H locs 0 0 (MQ below (QMz res (dC, dI) [(cI, .int), (cZ, .boolean), (cO, .object "ListPainter$Settings")] A [(h0, .inr (4, [.ref g0_xs, .ref g0_ys, .ref g0_begins, .int v0_points, .int v0_lines, .int v0_first, .int v0_firstToldX, .int v0_firstToldY, .int v0_lastToldX, .int v0_lastToldY, .int v0_leastX, .int v0_leastY, .int v0_greatestY])), (h1, .inr (1, [.int v1_x, .int v1_y, .int v1_endX, .int v1_endY]))]) ([.ref h0, .ref h1] : List Value).toArray s 0 0 A) (F0 m 0 ls []) from hgo _ _ hP hD hS
  intro H locs hP hD hS
  refine lv_aload_n hx hb dX5_misses_0 rfl (lv_at hl 0 rfl) ?_
  refine va_get (D := (dC, dI)) (ci := 4) (v := .int v0_points) (C := RX5) (T := TX5) (N := 13) hx hb hu inX5 hown hK hP 0 rfl rfl 3 (by decide) (hu _ kw_108) (fun _ h9 => h9) rfl dX5_misses_1 ?_
  refine lv_if_ne (tgt := 9) hx hb dX5_misses_4 (by decide) (fun c_1 => ?_) (fun c_1 => ?_)
  · have hM := if_f c_1 hM
    refine lv_aload_n hx hb dX5_misses_9 rfl (lv_at hl 1 rfl) ?_
    refine va_getN (D := (dC, dI)) (ci := 1) (v := .int v1_y) (C := RX1) (T := TX1) (N := 4) hx hb hu inX1 hown hK hP 1 rfl rfl 1 (by decide) (gX_nest hG 210 kw_153 rfl) (fun _ h9 => h9) rfl dX5_misses_10 ?_
    refine lv_aload_n hx hb dX5_misses_13 rfl (lv_at hl 0 rfl) ?_
    refine va_get (D := (dC, dI)) (ci := 4) (v := .int v0_leastY) (C := RX5) (T := TX5) (N := 13) hx hb hu inX5 hown hK hP 0 rfl rfl 11 (by decide) (hu _ kw_112) (fun _ h9 => h9) rfl dX5_misses_14 ?_
    obtain ⟨r_2, hm_3, hM⟩ := bd1_u hM
    refine cSi (r := r_2) (As := [.int v0_leastY]) (rest := [.int v1_y]) ⟨hx, hb, hml, hown, hu⟩ (c_X2_firstMiddle l dC dI cI cZ cO tL H.size v0_leastY r_2 hm_3) (va_cwS 1 hu (gS kw_154 kw_155 kw_156 kw_157) rfl rfl rfl (by decide +kernel) ⟨Nat.le_of_ble_eq_true rfl, Nat.le_of_ble_eq_true rfl⟩) hP hD hS hA hK hG [] (by decide) rfl [none, none] 0 rfl (by decide +kernel) rfl rfl hl.1 rfl (Nat.le_of_ble_eq_true rfl) dX5_misses_17 (Nat.zero_le _) (Nat.zero_le _) (fun H locs hP hD hS => ?_)
    have hP : va_P (dC, dI) vwCl [(h0, .inr (4, [.ref g0_xs, .ref g0_ys, .ref g0_begins, .int v0_points, .int v0_lines, .int v0_first, .int v0_firstToldX, .int v0_firstToldY, .int v0_lastToldX, .int v0_lastToldY, .int v0_leastX, .int v0_leastY, .int v0_greatestY])), (h1, .inr (1, [.int v1_x, .int v1_y, .int v1_endX, .int v1_endY]))] H := hP
    have hD : va_D A [(h0, .inr (4, [.ref g0_xs, .ref g0_ys, .ref g0_begins, .int v0_points, .int v0_lines, .int v0_first, .int v0_firstToldX, .int v0_firstToldY, .int v0_lastToldX, .int v0_lastToldY, .int v0_leastX, .int v0_leastY, .int v0_greatestY])), (h1, .inr (1, [.int v1_x, .int v1_y, .int v1_endX, .int v1_endY]))] := hD
    refine va_mmax hx hb (hml.trans hl.1.symm) hown (hu _ kw_117) (hu _ kw_59) (hu _ kw_60) (hu _ kw_61) (Nat.le_of_ble_eq_true rfl) (Nat.le_of_ble_eq_true rfl) (Nat.zero_le _) (Nat.zero_le _) dX5_misses_20 ?_
    refine lv_topi (fun x_4 ex_4 => ?_)
    have hM := nm_u ex_4 hM
    refine lv_istore_n (lv' := [(2, .int x_4), (0, .ref h0), (1, .ref h1)]) hx hb dX5_misses_23 rfl hl (by decide) rfl (fun ls hl => ?_)
    refine lv_aload_n hx hb dX5_misses_24 rfl (lv_at hl 2 rfl) ?_
    refine va_getN (D := (dC, dI)) (ci := 1) (v := .int v1_endY) (C := RX1) (T := TX1) (N := 4) hx hb hu inX1 hown hK hP 1 rfl rfl 3 (by decide) (gX_nest hG 218 kw_158 rfl) (fun _ h9 => h9) rfl dX5_misses_25 ?_
    refine lv_aload_n hx hb dX5_misses_28 rfl (lv_at hl 1 rfl) ?_
    refine va_get (D := (dC, dI)) (ci := 4) (v := .int v0_greatestY) (C := RX5) (T := TX5) (N := 13) hx hb hu inX5 hown hK hP 0 rfl rfl 12 (by decide) (hu _ kw_113) (fun _ h9 => h9) rfl dX5_misses_29 ?_
    obtain ⟨r_5, hm_6, hM⟩ := bd1_u hM
    refine cSi (r := r_5) (As := [.int v0_greatestY]) (rest := [.int v1_endY]) ⟨hx, hb, hml, hown, hu⟩ (c_X2_firstMiddle l dC dI cI cZ cO tL H.size v0_greatestY r_5 hm_6) (va_cwS 1 hu (gS kw_154 kw_155 kw_156 kw_157) rfl rfl rfl (by decide +kernel) ⟨Nat.le_of_ble_eq_true rfl, Nat.le_of_ble_eq_true rfl⟩) hP hD hS hA hK hG [] (by decide) rfl [none, none] 0 rfl (by decide +kernel) rfl rfl hl.1 rfl (Nat.le_of_ble_eq_true rfl) dX5_misses_32 (Nat.zero_le _) (Nat.zero_le _) (fun H locs hP hD hS => ?_)
    have hP : va_P (dC, dI) vwCl [(h0, .inr (4, [.ref g0_xs, .ref g0_ys, .ref g0_begins, .int v0_points, .int v0_lines, .int v0_first, .int v0_firstToldX, .int v0_firstToldY, .int v0_lastToldX, .int v0_lastToldY, .int v0_leastX, .int v0_leastY, .int v0_greatestY])), (h1, .inr (1, [.int v1_x, .int v1_y, .int v1_endX, .int v1_endY]))] H := hP
    have hD : va_D A [(h0, .inr (4, [.ref g0_xs, .ref g0_ys, .ref g0_begins, .int v0_points, .int v0_lines, .int v0_first, .int v0_firstToldX, .int v0_firstToldY, .int v0_lastToldX, .int v0_lastToldY, .int v0_leastX, .int v0_leastY, .int v0_greatestY])), (h1, .inr (1, [.int v1_x, .int v1_y, .int v1_endX, .int v1_endY]))] := hD
    refine va_mmin hx hb (hml.trans hl.1.symm) hown (hu _ kw_118) (hu _ kw_63) (hu _ kw_60) (hu _ kw_64) (Nat.le_of_ble_eq_true rfl) (Nat.le_of_ble_eq_true rfl) (Nat.zero_le _) (Nat.zero_le _) dX5_misses_35 ?_
    refine lv_topi (fun x_7 ex_7 => ?_)
    have hM := nm_u ex_7 hM
    refine lv_istore_n (lv' := [(3, .int x_7), (2, .int x_4), (0, .ref h0), (1, .ref h1)]) hx hb dX5_misses_38 rfl hl (by decide) rfl (fun ls hl => ?_)
    refine lv_iload_n hx hb dX5_misses_39 rfl (lv_at hl 1 rfl) ?_
    refine lv_iload_n hx hb dX5_misses_40 rfl (lv_at hl 0 rfl) ?_
    refine lv_icmp_ge (tgt := 58) hx hb dX5_misses_41 (by decide) (fun c_8 => ?_) (fun c_8 => ?_)
    · have hM := if_t c_8 hM
      refine lv_iconst (v := 1) hx hb dX5_misses_58 (by decide) ?_
      refine lv_goto (tgt := 63) hx hb dX5_misses_59 (by decide) ?_
      have h9 := Option.some.inj hM
      subst h9
      exact W.zret (v := 1) hx hb hr (zb_n (Or.inr rfl)) (fun t ht hW => QMz_mk (Or.inr rfl) (by rw [ht]; exact hP) (va_K.moved hW.alike hK) hD (hS.F ht)) hS.2.2 dX5_misses_63
    · have hM := if_f c_8 hM
      refine lv_aload_n hx hb dX5_misses_44 rfl (lv_at hl 2 rfl) ?_
      refine va_get (D := (dC, dI)) (ci := 4) (v := .int v0_leastX) (C := RX5) (T := TX5) (N := 13) hx hb hu inX5 hown hK hP 0 rfl rfl 10 (by decide) (hu _ kw_111) (fun _ h9 => h9) rfl dX5_misses_45 ?_
      obtain ⟨r_9, hm_10, hM⟩ := bd1_u hM
      refine cSi (r := r_9) (As := [.int v0_leastX]) (rest := []) ⟨hx, hb, hml, hown, hu⟩ (c_X2_firstMiddle l dC dI cI cZ cO tL H.size v0_leastX r_9 hm_10) (va_cwS 1 hu (gS kw_154 kw_155 kw_156 kw_157) rfl rfl rfl (by decide +kernel) ⟨Nat.le_of_ble_eq_true rfl, Nat.le_of_ble_eq_true rfl⟩) hP hD hS hA hK hG [] (by decide) rfl [none, none] 0 rfl (by decide +kernel) rfl rfl hl.1 rfl (Nat.le_of_ble_eq_true rfl) dX5_misses_48 (Nat.zero_le _) (Nat.zero_le _) (fun H locs hP hD hS => ?_)
      have hP : va_P (dC, dI) vwCl [(h0, .inr (4, [.ref g0_xs, .ref g0_ys, .ref g0_begins, .int v0_points, .int v0_lines, .int v0_first, .int v0_firstToldX, .int v0_firstToldY, .int v0_lastToldX, .int v0_lastToldY, .int v0_leastX, .int v0_leastY, .int v0_greatestY])), (h1, .inr (1, [.int v1_x, .int v1_y, .int v1_endX, .int v1_endY]))] H := hP
      have hD : va_D A [(h0, .inr (4, [.ref g0_xs, .ref g0_ys, .ref g0_begins, .int v0_points, .int v0_lines, .int v0_first, .int v0_firstToldX, .int v0_firstToldY, .int v0_lastToldX, .int v0_lastToldY, .int v0_leastX, .int v0_leastY, .int v0_greatestY])), (h1, .inr (1, [.int v1_x, .int v1_y, .int v1_endX, .int v1_endY]))] := hD
      refine lv_aload_n hx hb dX5_misses_51 rfl (lv_at hl 3 rfl) ?_
      refine va_getN (D := (dC, dI)) (ci := 1) (v := .int v1_endX) (C := RX1) (T := TX1) (N := 4) hx hb hu inX1 hown hK hP 1 rfl rfl 2 (by decide) (gX_nest hG 214 kw_159 rfl) (fun _ h9 => h9) rfl dX5_misses_52 ?_
      refine lv_icmp_lt (tgt := 62) hx hb dX5_misses_55 (by decide) (fun c_11 => ?_) (fun c_11 => ?_)
      · have hM := if_t c_11 hM
        refine lv_iconst (v := 0) hx hb dX5_misses_62 (by decide) ?_
        have h9 := Option.some.inj hM
        subst h9
        exact W.zret (v := 0) hx hb hr (zb_n (Or.inl rfl)) (fun t ht hW => QMz_mk (Or.inl rfl) (by rw [ht]; exact hP) (va_K.moved hW.alike hK) hD (hS.F ht)) hS.2.2 dX5_misses_63
      · have hM := if_f c_11 hM
        refine lv_iconst (v := 1) hx hb dX5_misses_58 (by decide) ?_
        refine lv_goto (tgt := 63) hx hb dX5_misses_59 (by decide) ?_
        have h9 := Option.some.inj hM
        subst h9
        exact W.zret (v := 1) hx hb hr (zb_n (Or.inr rfl)) (fun t ht hW => QMz_mk (Or.inr rfl) (by rw [ht]; exact hP) (va_K.moved hW.alike hK) hD (hS.F ht)) hS.2.2 dX5_misses_63
  · have hM := if_t c_1 hM
    refine lv_iconst (v := 1) hx hb dX5_misses_7 (by decide) ?_
    have h9 := Option.some.inj hM
    subst h9
    exact W.zret (v := 1) hx hb hr (zb_n (Or.inr rfl)) (fun t ht hW => QMz_mk (Or.inr rfl) (by rw [ht]; exact hP) (va_K.moved hW.alike hK) hD (hS.F ht)) hS.2.2 dX5_misses_8
