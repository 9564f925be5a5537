theorem dX8_goesBehindFills_0 : decode cX8_goesBehindFills 0 = .ok (.iload_n 1, 1) := by decide +kernel
theorem dX8_goesBehindFills_1 : decode cX8_goesBehindFills 1 = .ok (.iconst 1, 1) := by decide +kernel
theorem dX8_goesBehindFills_2 : decode cX8_goesBehindFills 2 = .ok (.if_icmp .ne 13, 3) := by decide +kernel
theorem dX8_goesBehindFills_5 : decode cX8_goesBehindFills 5 = .ok (.aload_n 0, 1) := by decide +kernel
theorem dX8_goesBehindFills_6 : decode cX8_goesBehindFills 6 = .ok (.dup, 1) := by decide +kernel
theorem dX8_goesBehindFills_7 : decode cX8_goesBehindFills 7 = .ok (.getfield 57, 3) := by decide +kernel
theorem dX8_goesBehindFills_10 : decode cX8_goesBehindFills 10 = .ok (.iconst 1, 1) := by decide +kernel
theorem dX8_goesBehindFills_11 : decode cX8_goesBehindFills 11 = .ok (.iadd, 1) := by decide +kernel
theorem dX8_goesBehindFills_12 : decode cX8_goesBehindFills 12 = .ok (.putfield 57, 3) := by decide +kernel
theorem dX8_goesBehindFills_15 : decode cX8_goesBehindFills 15 = .ok (.iload_n 1, 1) := by decide +kernel
theorem dX8_goesBehindFills_16 : decode cX8_goesBehindFills 16 = .ok (.iconst 2, 1) := by decide +kernel
theorem dX8_goesBehindFills_17 : decode cX8_goesBehindFills 17 = .ok (.if_icmp .ne 12, 3) := by decide +kernel
theorem dX8_goesBehindFills_20 : decode cX8_goesBehindFills 20 = .ok (.aload_n 0, 1) := by decide +kernel
theorem dX8_goesBehindFills_21 : decode cX8_goesBehindFills 21 = .ok (.getfield 57, 3) := by decide +kernel
theorem dX8_goesBehindFills_24 : decode cX8_goesBehindFills 24 = .ok (.ifCond .ne 5, 3) := by decide +kernel
theorem dX8_goesBehindFills_27 : decode cX8_goesBehindFills 27 = .ok (.iconst 0, 1) := by decide +kernel
theorem dX8_goesBehindFills_28 : decode cX8_goesBehindFills 28 = .ok (.ireturn, 1) := by decide +kernel
theorem dX8_goesBehindFills_29 : decode cX8_goesBehindFills 29 = .ok (.iload_n 1, 1) := by decide +kernel
theorem dX8_goesBehindFills_30 : decode cX8_goesBehindFills 30 = .ok (.iconst 2, 1) := by decide +kernel
theorem dX8_goesBehindFills_31 : decode cX8_goesBehindFills 31 = .ok (.if_icmp .ne 13, 3) := by decide +kernel
theorem dX8_goesBehindFills_34 : decode cX8_goesBehindFills 34 = .ok (.aload_n 0, 1) := by decide +kernel
theorem dX8_goesBehindFills_35 : decode cX8_goesBehindFills 35 = .ok (.dup, 1) := by decide +kernel
theorem dX8_goesBehindFills_36 : decode cX8_goesBehindFills 36 = .ok (.getfield 57, 3) := by decide +kernel
theorem dX8_goesBehindFills_39 : decode cX8_goesBehindFills 39 = .ok (.iconst 1, 1) := by decide +kernel
theorem dX8_goesBehindFills_40 : decode cX8_goesBehindFills 40 = .ok (.isub, 1) := by decide +kernel
theorem dX8_goesBehindFills_41 : decode cX8_goesBehindFills 41 = .ok (.putfield 57, 3) := by decide +kernel
theorem dX8_goesBehindFills_44 : decode cX8_goesBehindFills 44 = .ok (.iconst 1, 1) := by decide +kernel
theorem dX8_goesBehindFills_45 : decode cX8_goesBehindFills 45 = .ok (.ireturn, 1) := by decide +kernel
abbrev rm_X8_goesBehindFills : Room := { frames := 0, cells := 0, slots := 0, locals := 0 }
def w_X8_goesBehindFills : List Cond := Cond.code yX8_goesBehindFills cX8_goesBehindFills 2 (some .boolean) :: uw
set_option maxHeartbeats 4000000 in
set_option maxRecDepth 100000 in
theorem c_X8_goesBehindFills (l : Launch) (dC : Nat → ClassId) (dI : Nat → Nat → Nat) (cI cZ cO : ClassId) (tL sz : Nat) (h0 : Nat) (g0_list : Nat) (g0_machine : Nat) (g0_clip : Nat) (g0_table : Nat) (g0_next : Nat) (v0_lastFill : Int32) (v0_openedBehind : Int32) (v0_joinedAt : Int32) (p1 : Int32) (res : Int32 × Int32) (hM : m_X8_goesBehindFills v0_openedBehind p1 = some res) : Met l yX8_goesBehindFills w_X8_goesBehindFills rm_X8_goesBehindFills (PCx [.ref h0, .int p1] (dC, dI) [(cI, .int), (cZ, .boolean), (cO, .object "ListPainter$Settings")] sz tL [(h0, .inr (7, [.ref g0_list, .ref g0_machine, .ref g0_clip, .ref g0_table, .ref g0_next, .int v0_lastFill, .int v0_openedBehind, .int v0_joinedAt]))]) (QMz (res.1) (dC, dI) [(cI, .int), (cZ, .boolean), (cO, .object "ListPainter$Settings")] (va_A [(h0, .inr (7, [.ref g0_list, .ref g0_machine, .ref g0_clip, .ref g0_table, .ref g0_next, .int v0_lastFill, .int v0_openedBehind, .int v0_joinedAt]))] sz) [(h0, .inr (7, [.ref g0_list, .ref g0_machine, .ref g0_clip, .ref g0_table, .ref g0_next, .int v0_lastFill, .int (res.2), .int v0_joinedAt]))]) 0 0 (va_A [(h0, .inr (7, [.ref g0_list, .ref g0_machine, .ref g0_clip, .ref g0_table, .ref g0_next, .int v0_lastFill, .int v0_openedBehind, .int v0_joinedAt]))] sz) := by
  refine Met.ofW (cc := cX8_goesBehindFills) (maxL := 2) (ret := (some .boolean)) (by decide) rfl ?_
  intro p e s m args below meth c s₁ B hml hv
  obtain ⟨rfl, hsz, hP, hK, hD0, hG⟩ := hv
  have hx := B.exec
  have hb := B.bytes
  have hr := B.returns
  have hu : ∀ w ∈ uw, w.before ([.ref h0, .int p1] : List Value).toArray s = true := fun w h => atoms_spec (ws := w_X8_goesBehindFills) B.pre w (List.mem_cons_of_mem _ h)
  have hown : s.vm.findClass RX8 = some m.cls := findClass_of_methodNamed B.named
  have hlocks := B.notSynchronized
  subst hsz
  have hD := hD0.self (sz := s.heap.size)
  generalize hAe : va_A [(h0, .inr (7, [.ref g0_list, .ref g0_machine, .ref g0_clip, .ref g0_table, .ref g0_next, .int v0_lastFill, .int v0_openedBehind, .int v0_joinedAt]))] s.heap.size = A at hD hG ⊢
  have hA : ∀ q : Nat, s.heap.size ≤ q → A q := fun q h => by rw [← hAe]; exact Or.inr h
  have hS : va_S A s.heap s.heap [] := va_S.rf
  have hP : va_P (dC, dI) vwCl [(h0, .inr (7, [.ref g0_list, .ref g0_machine, .ref g0_clip, .ref g0_table, .ref g0_next, .int v0_lastFill, .int v0_openedBehind, .int v0_joinedAt]))] s.heap := hP
  have hl := lv_entry ([.ref h0, .int p1]) (n := 2) (Nat.le_of_ble_eq_true rfl)
  rw [lg_entry_eq]
  generalize (lg_sl ([.ref h0, .int p1]) ++ List.replicate (2 - (lg_sl ([.ref h0, .int p1])).length) Slot.unset).toArray = ls at hl ⊢
  have hl : lv_has ls 2 [(0, .ref h0), (1, .int p1)] := hl
  rw [m_X8_goesBehindFills] at hM
  suffices hgo : ∀ (H : Heap) (locs : List Loc), va_P (dC, dI) vwCl [(h0, .inr (7, [.ref g0_list, .ref g0_machine, .ref g0_clip, .ref g0_table, .ref g0_next, .int v0_lastFill, .int v0_openedBehind, .int v0_joinedAt]))] H → va_D A [(h0, .inr (7, [.ref g0_list, .ref g0_machine, .ref g0_clip, .ref g0_table, .ref g0_next, .int v0_lastFill, .int v0_openedBehind, .int v0_joinedAt]))] → va_S A s.heap H locs → W p l e (headSpec w_X8_goesBehindFills rm_X8_goesBehindFills).room s m ([.ref h0, .int p1] : List Value).toArray below meth c H locs 0 0 (MQ below (QMz (res.1) (dC, dI) [(cI, .int), (cZ, .boolean), (cO, .object "ListPainter$Settings")] A [(h0, .inr (7, [.ref g0_list, .ref g0_machine, .ref g0_clip, .ref g0_table, .ref g0_next, .int v0_lastFill, .int (res.2), .int v0_joinedAt]))]) ([.ref h0, .int p1] : List Value).toArray s 0 0 A) (F0 m 0 ls []) from hgo _ _ hP hD hS
  intro H locs hP hD hS
  refine lv_iload_n hx hb dX8_goesBehindFills_0 rfl (lv_at hl 1 rfl) ?_
  refine lv_iconst (v := 1) hx hb dX8_goesBehindFills_1 (by decide) ?_
  obtain ⟨K15_2, eK15_2, hM⟩ := jn_u hM
  have hJ15_2 : ∀ (v0_1 : Int32) , ∀ (H : Heap) (locs : List Loc) (ls : Array Slot), va_P (dC, dI) vwCl [(h0, .inr (7, [.ref g0_list, .ref g0_machine, .ref g0_clip, .ref g0_table, .ref g0_next, .int v0_lastFill, .int v0_1, .int v0_joinedAt]))] H → va_D A [(h0, .inr (7, [.ref g0_list, .ref g0_machine, .ref g0_clip, .ref g0_table, .ref g0_next, .int v0_lastFill, .int v0_1, .int v0_joinedAt]))] → va_S A s.heap H locs → lv_has ls 2 [(0, .ref h0), (1, .int p1)] → K15_2 v0_1 = some res → W p l e (headSpec w_X8_goesBehindFills rm_X8_goesBehindFills).room s m ([.ref h0, .int p1] : List Value).toArray below meth c H locs 0 0 (MQ below (QMz (res.1) (dC, dI) [(cI, .int), (cZ, .boolean), (cO, .object "ListPainter$Settings")] A [(h0, .inr (7, [.ref g0_list, .ref g0_machine, .ref g0_clip, .ref g0_table, .ref g0_next, .int v0_lastFill, .int (res.2), .int v0_joinedAt]))]) ([.ref h0, .int p1] : List Value).toArray s 0 0 A) (F0 m 15 ls []) := by
    intro v0_1 H locs ls hP hD hS hl hM
    have hM := ja1 eK15_2 hM
    refine lv_iload_n hx hb dX8_goesBehindFills_15 rfl (lv_at hl 1 rfl) ?_
    refine lv_iconst (v := 2) hx hb dX8_goesBehindFills_16 (by decide) ?_
    obtain ⟨K29_3, eK29_3, hM⟩ := jn_u hM
    have hJ29_3 : ∀ (H : Heap) (locs : List Loc) (ls : Array Slot), va_P (dC, dI) vwCl [(h0, .inr (7, [.ref g0_list, .ref g0_machine, .ref g0_clip, .ref g0_table, .ref g0_next, .int v0_lastFill, .int v0_1, .int v0_joinedAt]))] H → va_D A [(h0, .inr (7, [.ref g0_list, .ref g0_machine, .ref g0_clip, .ref g0_table, .ref g0_next, .int v0_lastFill, .int v0_1, .int v0_joinedAt]))] → va_S A s.heap H locs → lv_has ls 2 [(0, .ref h0), (1, .int p1)] → K29_3 = some res → W p l e (headSpec w_X8_goesBehindFills rm_X8_goesBehindFills).room s m ([.ref h0, .int p1] : List Value).toArray below meth c H locs 0 0 (MQ below (QMz (res.1) (dC, dI) [(cI, .int), (cZ, .boolean), (cO, .object "ListPainter$Settings")] A [(h0, .inr (7, [.ref g0_list, .ref g0_machine, .ref g0_clip, .ref g0_table, .ref g0_next, .int v0_lastFill, .int (res.2), .int v0_joinedAt]))]) ([.ref h0, .int p1] : List Value).toArray s 0 0 A) (F0 m 29 ls []) := by
      intro H locs ls hP hD hS hl hM
      have hM := ja0 eK29_3 hM
      refine lv_iload_n hx hb dX8_goesBehindFills_29 rfl (lv_at hl 1 rfl) ?_
      refine lv_iconst (v := 2) hx hb dX8_goesBehindFills_30 (by decide) ?_
      refine lv_icmp_ne (tgt := 44) hx hb dX8_goesBehindFills_31 (by decide) (fun c_4 => ?_) (fun c_4 => ?_)
      · have hM := if_f c_4 hM
        refine lv_iconst (v := 1) hx hb dX8_goesBehindFills_44 (by decide) ?_
        have h9 := Option.some.inj hM
        subst h9
        exact W.zret (v := 1) hx hb hr (zb_n (Or.inr rfl)) (fun t ht hW => QMz_mk (Or.inr rfl) (by rw [ht]; exact hP) (va_K.moved hW.alike hK) hD (hS.F ht)) hS.2.2 dX8_goesBehindFills_45
      · have hM := if_t c_4 hM
        refine lv_aload_n hx hb dX8_goesBehindFills_34 rfl (lv_at hl 0 rfl) ?_
        refine lv_dup hx hb dX8_goesBehindFills_35 rfl ?_
        refine va_get (D := (dC, dI)) (ci := 7) (v := .int v0_1) (C := RX8) (T := TX8) (N := 8) hx hb hu inX8 hown hK hP 0 rfl rfl 6 (by decide) (hu _ kw_582) (fun _ h9 => h9) rfl dX8_goesBehindFills_36 ?_
        refine lv_iconst (v := 1) hx hb dX8_goesBehindFills_39 (by decide) ?_
        refine lv_isub hx hb dX8_goesBehindFills_40 ?_
        refine lv_topi (fun y_5 ey_5 => ?_)
        have hM := nm_u ey_5 hM
        refine va_put (D := (dC, dI)) (ci := 7) (v := .int y_5) (ty := .int) (C := RX8) (T := TX8) (N := 8) hx hb hu inX8 tyX8 tyX8_ok nmX8 hown hK hP hD hS 0 rfl rfl 6 (by decide) (hu _ kw_582) (fun _ h9 => h9) rfl (by decide +kernel) rfl rfl (Nat.le_of_ble_eq_true rfl) dX8_goesBehindFills_41 (fun H locs hP hD hS => ?_)
        have hP : va_P (dC, dI) vwCl [(h0, .inr (7, [.ref g0_list, .ref g0_machine, .ref g0_clip, .ref g0_table, .ref g0_next, .int v0_lastFill, .int y_5, .int v0_joinedAt]))] H := hP
        have hD : va_D A [(h0, .inr (7, [.ref g0_list, .ref g0_machine, .ref g0_clip, .ref g0_table, .ref g0_next, .int v0_lastFill, .int y_5, .int v0_joinedAt]))] := hD
        refine lv_iconst (v := 1) hx hb dX8_goesBehindFills_44 (by decide) ?_
        have h9 := Option.some.inj hM
        subst h9
        exact W.zret (v := 1) hx hb hr (zb_n (Or.inr rfl)) (fun t ht hW => QMz_mk (Or.inr rfl) (by rw [ht]; exact hP) (va_K.moved hW.alike hK) hD (hS.F ht)) hS.2.2 dX8_goesBehindFills_45
    refine lv_icmp_ne (tgt := 29) hx hb dX8_goesBehindFills_17 (by decide) (fun c_6 => ?_) (fun c_6 => ?_)
    · have hM := if_f c_6 hM
      exact hJ29_3  H locs ls hP hD hS (lv_sub hl [0, 1] rfl) hM
    · have hM := if_t c_6 hM
      refine lv_aload_n hx hb dX8_goesBehindFills_20 rfl (lv_at hl 0 rfl) ?_
      refine va_get (D := (dC, dI)) (ci := 7) (v := .int v0_1) (C := RX8) (T := TX8) (N := 8) hx hb hu inX8 hown hK hP 0 rfl rfl 6 (by decide) (hu _ kw_582) (fun _ h9 => h9) rfl dX8_goesBehindFills_21 ?_
      refine lv_if_ne (tgt := 29) hx hb dX8_goesBehindFills_24 (by decide) (fun c_7 => ?_) (fun c_7 => ?_)
      · have hM := if_f c_7 hM
        exact hJ29_3  H locs ls hP hD hS (lv_sub hl [0, 1] rfl) hM
      · have hM := if_t c_7 hM
        refine lv_iconst (v := 0) hx hb dX8_goesBehindFills_27 (by decide) ?_
        have h9 := Option.some.inj hM
        subst h9
        exact W.zret (v := 0) hx hb hr (zb_n (Or.inl rfl)) (fun t ht hW => QMz_mk (Or.inl rfl) (by rw [ht]; exact hP) (va_K.moved hW.alike hK) hD (hS.F ht)) hS.2.2 dX8_goesBehindFills_28
  refine lv_icmp_ne (tgt := 15) hx hb dX8_goesBehindFills_2 (by decide) (fun c_8 => ?_) (fun c_8 => ?_)
  · have hM := if_f c_8 hM
    exact hJ15_2 v0_openedBehind H locs ls hP hD hS (lv_sub hl [0, 1] rfl) hM
  · have hM := if_t c_8 hM
    refine lv_aload_n hx hb dX8_goesBehindFills_5 rfl (lv_at hl 0 rfl) ?_
    refine lv_dup hx hb dX8_goesBehindFills_6 rfl ?_
    refine va_get (D := (dC, dI)) (ci := 7) (v := .int v0_openedBehind) (C := RX8) (T := TX8) (N := 8) hx hb hu inX8 hown hK hP 0 rfl rfl 6 (by decide) (hu _ kw_582) (fun _ h9 => h9) rfl dX8_goesBehindFills_7 ?_
    refine lv_iconst (v := 1) hx hb dX8_goesBehindFills_10 (by decide) ?_
    refine lv_iadd hx hb dX8_goesBehindFills_11 ?_
    refine lv_topi (fun y_9 ey_9 => ?_)
    have hM := nm_u ey_9 hM
    refine va_put (D := (dC, dI)) (ci := 7) (v := .int y_9) (ty := .int) (C := RX8) (T := TX8) (N := 8) hx hb hu inX8 tyX8 tyX8_ok nmX8 hown hK hP hD hS 0 rfl rfl 6 (by decide) (hu _ kw_582) (fun _ h9 => h9) rfl (by decide +kernel) rfl rfl (Nat.le_of_ble_eq_true rfl) dX8_goesBehindFills_12 (fun H locs hP hD hS => ?_)
    have hP : va_P (dC, dI) vwCl [(h0, .inr (7, [.ref g0_list, .ref g0_machine, .ref g0_clip, .ref g0_table, .ref g0_next, .int v0_lastFill, .int y_9, .int v0_joinedAt]))] H := hP
    have hD : va_D A [(h0, .inr (7, [.ref g0_list, .ref g0_machine, .ref g0_clip, .ref g0_table, .ref g0_next, .int v0_lastFill, .int y_9, .int v0_joinedAt]))] := hD
    exact hJ15_2 y_9 H locs ls hP hD hS (lv_sub hl [0, 1] rfl) hM
theorem dX8_isIdlePaint_0 : decode cX8_isIdlePaint 0 = .ok (.iload_n 2, 1) := by decide +kernel
theorem dX8_isIdlePaint_1 : decode cX8_isIdlePaint 1 = .ok (.bipush 10, 2) := by decide +kernel
theorem dX8_isIdlePaint_3 : decode cX8_isIdlePaint 3 = .ok (.if_icmp .eq 11, 3) := by decide +kernel
theorem dX8_isIdlePaint_6 : decode cX8_isIdlePaint 6 = .ok (.iload_n 2, 1) := by decide +kernel
theorem dX8_isIdlePaint_7 : decode cX8_isIdlePaint 7 = .ok (.bipush 11, 2) := by decide +kernel
theorem dX8_isIdlePaint_9 : decode cX8_isIdlePaint 9 = .ok (.if_icmp .eq 5, 3) := by decide +kernel
theorem dX8_isIdlePaint_12 : decode cX8_isIdlePaint 12 = .ok (.iconst 0, 1) := by decide +kernel
theorem dX8_isIdlePaint_13 : decode cX8_isIdlePaint 13 = .ok (.ireturn, 1) := by decide +kernel
theorem dX8_isIdlePaint_14 : decode cX8_isIdlePaint 14 = .ok (.iload_n 2, 1) := by decide +kernel
theorem dX8_isIdlePaint_15 : decode cX8_isIdlePaint 15 = .ok (.bipush 10, 2) := by decide +kernel
theorem dX8_isIdlePaint_17 : decode cX8_isIdlePaint 17 = .ok (.if_icmp .ne 16, 3) := by decide +kernel
theorem dX8_isIdlePaint_20 : decode cX8_isIdlePaint 20 = .ok (.aload_n 0, 1) := by decide +kernel
theorem dX8_isIdlePaint_21 : decode cX8_isIdlePaint 21 = .ok (.getfield 32, 3) := by decide +kernel
theorem dX8_isIdlePaint_24 : decode cX8_isIdlePaint 24 = .ok (.getfield 93, 3) := by decide +kernel
theorem dX8_isIdlePaint_27 : decode cX8_isIdlePaint 27 = .ok (.getfield 133, 3) := by decide +kernel
theorem dX8_isIdlePaint_30 : decode cX8_isIdlePaint 30 = .ok (.goto 13, 3) := by decide +kernel
theorem dX8_isIdlePaint_33 : decode cX8_isIdlePaint 33 = .ok (.aload_n 0, 1) := by decide +kernel
theorem dX8_isIdlePaint_34 : decode cX8_isIdlePaint 34 = .ok (.getfield 32, 3) := by decide +kernel
theorem dX8_isIdlePaint_37 : decode cX8_isIdlePaint 37 = .ok (.getfield 93, 3) := by decide +kernel
theorem dX8_isIdlePaint_40 : decode cX8_isIdlePaint 40 = .ok (.getfield 136, 3) := by decide +kernel
theorem dX8_isIdlePaint_43 : decode cX8_isIdlePaint 43 = .ok (.istore_n 3, 1) := by decide +kernel
theorem dX8_isIdlePaint_44 : decode cX8_isIdlePaint 44 = .ok (.aload_n 0, 1) := by decide +kernel
theorem dX8_isIdlePaint_45 : decode cX8_isIdlePaint 45 = .ok (.getfield 28, 3) := by decide +kernel
theorem dX8_isIdlePaint_48 : decode cX8_isIdlePaint 48 = .ok (.iload_n 1, 1) := by decide +kernel
theorem dX8_isIdlePaint_49 : decode cX8_isIdlePaint 49 = .ok (.iconst 1, 1) := by decide +kernel
theorem dX8_isIdlePaint_50 : decode cX8_isIdlePaint 50 = .ok (.iadd, 1) := by decide +kernel
theorem dX8_isIdlePaint_51 : decode cX8_isIdlePaint 51 = .ok (.invokevirtual 67, 3) := by decide +kernel
theorem dX8_isIdlePaint_54 : decode cX8_isIdlePaint 54 = .ok (.iload_n 3, 1) := by decide +kernel
theorem dX8_isIdlePaint_55 : decode cX8_isIdlePaint 55 = .ok (.if_icmp .ne 5, 3) := by decide +kernel
theorem dX8_isIdlePaint_58 : decode cX8_isIdlePaint 58 = .ok (.iconst 1, 1) := by decide +kernel
theorem dX8_isIdlePaint_59 : decode cX8_isIdlePaint 59 = .ok (.ireturn, 1) := by decide +kernel
theorem dX8_isIdlePaint_60 : decode cX8_isIdlePaint 60 = .ok (.aload_n 0, 1) := by decide +kernel
theorem dX8_isIdlePaint_61 : decode cX8_isIdlePaint 61 = .ok (.getfield 28, 3) := by decide +kernel
theorem dX8_isIdlePaint_64 : decode cX8_isIdlePaint 64 = .ok (.iload_n 1, 1) := by decide +kernel
theorem dX8_isIdlePaint_65 : decode cX8_isIdlePaint 65 = .ok (.sipush 518, 3) := by decide +kernel
theorem dX8_isIdlePaint_68 : decode cX8_isIdlePaint 68 = .ok (.iconst 1, 1) := by decide +kernel
theorem dX8_isIdlePaint_69 : decode cX8_isIdlePaint 69 = .ok (.iload_n 2, 1) := by decide +kernel
theorem dX8_isIdlePaint_70 : decode cX8_isIdlePaint 70 = .ok (.ishl, 1) := by decide +kernel
theorem dX8_isIdlePaint_71 : decode cX8_isIdlePaint 71 = .ok (.ior, 1) := by decide +kernel
theorem dX8_isIdlePaint_72 : decode cX8_isIdlePaint 72 = .ok (.invokevirtual 106, 3) := by decide +kernel
theorem dX8_isIdlePaint_75 : decode cX8_isIdlePaint 75 = .ok (.istore 4, 2) := by decide +kernel
theorem dX8_isIdlePaint_77 : decode cX8_isIdlePaint 77 = .ok (.iload 4, 2) := by decide +kernel
theorem dX8_isIdlePaint_79 : decode cX8_isIdlePaint 79 = .ok (.bipush 9, 2) := by decide +kernel
theorem dX8_isIdlePaint_81 : decode cX8_isIdlePaint 81 = .ok (.if_icmp .eq 13, 3) := by decide +kernel
theorem dX8_isIdlePaint_84 : decode cX8_isIdlePaint 84 = .ok (.iload 4, 2) := by decide +kernel
theorem dX8_isIdlePaint_86 : decode cX8_isIdlePaint 86 = .ok (.iconst 1, 1) := by decide +kernel
theorem dX8_isIdlePaint_87 : decode cX8_isIdlePaint 87 = .ok (.if_icmp .eq 7, 3) := by decide +kernel
theorem dX8_isIdlePaint_90 : decode cX8_isIdlePaint 90 = .ok (.iconst 1, 1) := by decide +kernel
theorem dX8_isIdlePaint_91 : decode cX8_isIdlePaint 91 = .ok (.goto 4, 3) := by decide +kernel
theorem dX8_isIdlePaint_94 : decode cX8_isIdlePaint 94 = .ok (.iconst 0, 1) := by decide +kernel
theorem dX8_isIdlePaint_95 : decode cX8_isIdlePaint 95 = .ok (.ireturn, 1) := by decide +kernel
abbrev rm_X8_isIdlePaint : Room := { frames := 3, cells := 0, slots := 0, locals := 67 }
def w_X8_isIdlePaint : List Cond := Cond.code yX8_isIdlePaint cX8_isIdlePaint 5 (some .boolean) :: uw
set_option maxHeartbeats 4000000 in
set_option maxRecDepth 100000 in
theorem c_X8_isIdlePaint (l : Launch) (dC : Nat → ClassId) (dI : Nat → Nat → Nat) (cI cZ cO : ClassId) (tL sz : Nat) (h0 : Nat) (h1 : Nat) (h2 : Nat) (h3 : Nat) (h4 : Nat) (g0_clip : Nat) (g0_table : Nat) (g0_next : Nat) (g1_sheet : Nat) (g1_filler : Nat) (g1_path : Nat) (g1_nextTable : Nat) (g1_saved : Nat) (g2_table : Nat) (g2_clip : Nat) (v0_lastFill : Int32) (v0_openedBehind : Int32) (v0_joinedAt : Int32) (v1_open : Int32) (v1_place : Int32) (v1_fills : Int32) (v1_painted : Int32) (v2_colour : Int32) (v2_way : Int32) (v3_count : Int32) (f4 : Nat → Int32) (p1 : Int32) (p2 : Int32) (res : Int32) (hM : m_X8_isIdlePaint v2_colour v2_way v3_count f4 p1 p2 = some res) : Met l yX8_isIdlePaint w_X8_isIdlePaint rm_X8_isIdlePaint (PCx [.ref h0, .int p1, .int p2] (dC, dI) [(cI, .int), (cZ, .boolean), (cO, .object "ListPainter$Settings")] sz tL [(h0, .inr (7, [.ref h3, .ref h1, .ref g0_clip, .ref g0_table, .ref g0_next, .int v0_lastFill, .int v0_openedBehind, .int v0_joinedAt])), (h1, .inr (3, [.ref g1_sheet, .ref g1_filler, .ref g1_path, .ref h2, .ref g1_nextTable, .ref g1_saved, .int v1_open, .int v1_place, .int v1_fills, .int v1_painted])), (h2, .inr (5, [.ref g2_table, .ref g2_clip, .int v2_colour, .int v2_way])), (h3, .inr (9, [.ref h4, .int v3_count])), (h4, .inl (cI, 1500, .inl f4))]) (QMz res (dC, dI) [(cI, .int), (cZ, .boolean), (cO, .object "ListPainter$Settings")] (va_A [(h0, .inr (7, [.ref h3, .ref h1, .ref g0_clip, .ref g0_table, .ref g0_next, .int v0_lastFill, .int v0_openedBehind, .int v0_joinedAt])), (h1, .inr (3, [.ref g1_sheet, .ref g1_filler, .ref g1_path, .ref h2, .ref g1_nextTable, .ref g1_saved, .int v1_open, .int v1_place, .int v1_fills, .int v1_painted])), (h2, .inr (5, [.ref g2_table, .ref g2_clip, .int v2_colour, .int v2_way])), (h3, .inr (9, [.ref h4, .int v3_count])), (h4, .inl (cI, 1500, .inl f4))] sz) [(h0, .inr (7, [.ref h3, .ref h1, .ref g0_clip, .ref g0_table, .ref g0_next, .int v0_lastFill, .int v0_openedBehind, .int v0_joinedAt])), (h1, .inr (3, [.ref g1_sheet, .ref g1_filler, .ref g1_path, .ref h2, .ref g1_nextTable, .ref g1_saved, .int v1_open, .int v1_place, .int v1_fills, .int v1_painted])), (h2, .inr (5, [.ref g2_table, .ref g2_clip, .int v2_colour, .int v2_way])), (h3, .inr (9, [.ref h4, .int v3_count])), (h4, .inl (cI, 1500, .inl f4))]) 0 0 (va_A [(h0, .inr (7, [.ref h3, .ref h1, .ref g0_clip, .ref g0_table, .ref g0_next, .int v0_lastFill, .int v0_openedBehind, .int v0_joinedAt])), (h1, .inr (3, [.ref g1_sheet, .ref g1_filler, .ref g1_path, .ref h2, .ref g1_nextTable, .ref g1_saved, .int v1_open, .int v1_place, .int v1_fills, .int v1_painted])), (h2, .inr (5, [.ref g2_table, .ref g2_clip, .int v2_colour, .int v2_way])), (h3, .inr (9, [.ref h4, .int v3_count])), (h4, .inl (cI, 1500, .inl f4))] sz) := by
  refine Met.ofW (cc := cX8_isIdlePaint) (maxL := 5) (ret := (some .boolean)) (by decide) rfl ?_
  intro p e s m args below meth c s₁ B hml hv
  obtain ⟨rfl, hsz, hP, hK, hD0, hG⟩ := hv
  have hx := B.exec
  have hb := B.bytes
  have hr := B.returns
  have hu : ∀ w ∈ uw, w.before ([.ref h0, .int p1, .int p2] : List Value).toArray s = true := fun w h => atoms_spec (ws := w_X8_isIdlePaint) B.pre w (List.mem_cons_of_mem _ h)
  have hown : s.vm.findClass RX8 = some m.cls := findClass_of_methodNamed B.named
  have hlocks := B.notSynchronized
  subst hsz
  have hD := hD0.self (sz := s.heap.size)
  generalize hAe : va_A [(h0, .inr (7, [.ref h3, .ref h1, .ref g0_clip, .ref g0_table, .ref g0_next, .int v0_lastFill, .int v0_openedBehind, .int v0_joinedAt])), (h1, .inr (3, [.ref g1_sheet, .ref g1_filler, .ref g1_path, .ref h2, .ref g1_nextTable, .ref g1_saved, .int v1_open, .int v1_place, .int v1_fills, .int v1_painted])), (h2, .inr (5, [.ref g2_table, .ref g2_clip, .int v2_colour, .int v2_way])), (h3, .inr (9, [.ref h4, .int v3_count])), (h4, .inl (cI, 1500, .inl f4))] s.heap.size = A at hD hG ⊢
  have hA : ∀ q : Nat, s.heap.size ≤ q → A q := fun q h => by rw [← hAe]; exact Or.inr h
  have hS : va_S A s.heap s.heap [] := va_S.rf
  have hP : va_P (dC, dI) vwCl [(h0, .inr (7, [.ref h3, .ref h1, .ref g0_clip, .ref g0_table, .ref g0_next, .int v0_lastFill, .int v0_openedBehind, .int v0_joinedAt])), (h1, .inr (3, [.ref g1_sheet, .ref g1_filler, .ref g1_path, .ref h2, .ref g1_nextTable, .ref g1_saved, .int v1_open, .int v1_place, .int v1_fills, .int v1_painted])), (h2, .inr (5, [.ref g2_table, .ref g2_clip, .int v2_colour, .int v2_way])), (h3, .inr (9, [.ref h4, .int v3_count])), (h4, .inl (cI, 1500, .inl f4))] s.heap := hP
  have hl := lv_entry ([.ref h0, .int p1, .int p2]) (n := 5) (Nat.le_of_ble_eq_true rfl)
  rw [lg_entry_eq]
  generalize (lg_sl ([.ref h0, .int p1, .int p2]) ++ List.replicate (5 - (lg_sl ([.ref h0, .int p1, .int p2])).length) Slot.unset).toArray = ls at hl ⊢
  have hl : lv_has ls 5 [(0, .ref h0), (1, .int p1), (2, .int p2)] := hl
  rw [m_X8_isIdlePaint] at hM
  suffices hgo : ∀ (H : Heap) (locs : List Loc), va_P (dC, dI) vwCl [(h0, .inr (7, [.ref h3, .ref h1, .ref g0_clip, .ref g0_table, .ref g0_next, .int v0_lastFill, .int v0_openedBehind, .int v0_joinedAt])), (h1, .inr (3, [.ref g1_sheet, .ref g1_filler, .ref g1_path, .ref h2, .ref g1_nextTable, .ref g1_saved, .int v1_open, .int v1_place, .int v1_fills, .int v1_painted])), (h2, .inr (5, [.ref g2_table, .ref g2_clip, .int v2_colour, .int v2_way])), (h3, .inr (9, [.ref h4, .int v3_count])), (h4, .inl (cI, 1500, .inl f4))] H → va_D A [(h0, .inr (7, [.ref h3, .ref h1, .ref g0_clip, .ref g0_table, .ref g0_next, .int v0_lastFill, .int v0_openedBehind, .int v0_joinedAt])), (h1, .inr (3, [.ref g1_sheet, .ref g1_filler, .ref g1_path, .ref h2, .ref g1_nextTable, .ref g1_saved, .int v1_open, .int v1_place, .int v1_fills, .int v1_painted])), (h2, .inr (5, [.ref g2_table, .ref g2_clip, .int v2_colour, .int v2_way])), (h3, .inr (9, [.ref h4, .int v3_count])), (h4, .inl (cI, 1500, .inl f4))] → va_S A s.heap H locs → W p l e (headSpec w_X8_isIdlePaint rm_X8_isIdlePaint).room s m ([.ref h0, .int p1, .int p2] : List Value).toArray below meth c H locs 0 0 (MQ below (QMz res (dC, dI) [(cI, .int), (cZ, .boolean), (cO, .object "ListPainter$Settings")] A [(h0, .inr (7, [.ref h3, .ref h1, .ref g0_clip, .ref g0_table, .ref g0_next, .int v0_lastFill, .int v0_openedBehind, .int v0_joinedAt])), (h1, .inr (3, [.ref g1_sheet, .ref g1_filler, .ref g1_path, .ref h2, .ref g1_nextTable, .ref g1_saved, .int v1_open, .int v1_place, .int v1_fills, .int v1_painted])), (h2, .inr (5, [.ref g2_table, .ref g2_clip, .int v2_colour, .int v2_way])), (h3, .inr (9, [.ref h4, .int v3_count])), (h4, .inl (cI, 1500, .inl f4))]) ([.ref h0, .int p1, .int p2] : List Value).toArray s 0 0 A) (F0 m 0 ls []) from hgo _ _ hP hD hS
  intro H locs hP hD hS
  refine lv_iload_n hx hb dX8_isIdlePaint_0 rfl (lv_at hl 2 rfl) ?_
  refine lv_bipush (v := 10) hx hb dX8_isIdlePaint_1 (by decide) ?_
  obtain ⟨K14_1, eK14_1, hM⟩ := jn_u hM
  have hJ14_1 : ∀ (H : Heap) (locs : List Loc) (ls : Array Slot), va_P (dC, dI) vwCl [(h0, .inr (7, [.ref h3, .ref h1, .ref g0_clip, .ref g0_table, .ref g0_next, .int v0_lastFill, .int v0_openedBehind, .int v0_joinedAt])), (h1, .inr (3, [.ref g1_sheet, .ref g1_filler, .ref g1_path, .ref h2, .ref g1_nextTable, .ref g1_saved, .int v1_open, .int v1_place, .int v1_fills, .int v1_painted])), (h2, .inr (5, [.ref g2_table, .ref g2_clip, .int v2_colour, .int v2_way])), (h3, .inr (9, [.ref h4, .int v3_count])), (h4, .inl (cI, 1500, .inl f4))] H → va_D A [(h0, .inr (7, [.ref h3, .ref h1, .ref g0_clip, .ref g0_table, .ref g0_next, .int v0_lastFill, .int v0_openedBehind, .int v0_joinedAt])), (h1, .inr (3, [.ref g1_sheet, .ref g1_filler, .ref g1_path, .ref h2, .ref g1_nextTable, .ref g1_saved, .int v1_open, .int v1_place, .int v1_fills, .int v1_painted])), (h2, .inr (5, [.ref g2_table, .ref g2_clip, .int v2_colour, .int v2_way])), (h3, .inr (9, [.ref h4, .int v3_count])), (h4, .inl (cI, 1500, .inl f4))] → va_S A s.heap H locs → lv_has ls 5 [(0, .ref h0), (1, .int p1), (2, .int p2)] → K14_1 = some res → W p l e (headSpec w_X8_isIdlePaint rm_X8_isIdlePaint).room s m ([.ref h0, .int p1, .int p2] : List Value).toArray below meth c H locs 0 0 (MQ below (QMz res (dC, dI) [(cI, .int), (cZ, .boolean), (cO, .object "ListPainter$Settings")] A [(h0, .inr (7, [.ref h3, .ref h1, .ref g0_clip, .ref g0_table, .ref g0_next, .int v0_lastFill, .int v0_openedBehind, .int v0_joinedAt])), (h1, .inr (3, [.ref g1_sheet, .ref g1_filler, .ref g1_path, .ref h2, .ref g1_nextTable, .ref g1_saved, .int v1_open, .int v1_place, .int v1_fills, .int v1_painted])), (h2, .inr (5, [.ref g2_table, .ref g2_clip, .int v2_colour, .int v2_way])), (h3, .inr (9, [.ref h4, .int v3_count])), (h4, .inl (cI, 1500, .inl f4))]) ([.ref h0, .int p1, .int p2] : List Value).toArray s 0 0 A) (F0 m 14 ls []) := by
    intro H locs ls hP hD hS hl hM
    have hM := ja0 eK14_1 hM
    refine lv_iload_n hx hb dX8_isIdlePaint_14 rfl (lv_at hl 2 rfl) ?_
    refine lv_bipush (v := 10) hx hb dX8_isIdlePaint_15 (by decide) ?_
    obtain ⟨K43_3, eK43_3, hM⟩ := jn_u hM
    have hJ43_3 : ∀ (s0_2 : Int32) , ∀ (H : Heap) (locs : List Loc) (ls : Array Slot), va_P (dC, dI) vwCl [(h0, .inr (7, [.ref h3, .ref h1, .ref g0_clip, .ref g0_table, .ref g0_next, .int v0_lastFill, .int v0_openedBehind, .int v0_joinedAt])), (h1, .inr (3, [.ref g1_sheet, .ref g1_filler, .ref g1_path, .ref h2, .ref g1_nextTable, .ref g1_saved, .int v1_open, .int v1_place, .int v1_fills, .int v1_painted])), (h2, .inr (5, [.ref g2_table, .ref g2_clip, .int v2_colour, .int v2_way])), (h3, .inr (9, [.ref h4, .int v3_count])), (h4, .inl (cI, 1500, .inl f4))] H → va_D A [(h0, .inr (7, [.ref h3, .ref h1, .ref g0_clip, .ref g0_table, .ref g0_next, .int v0_lastFill, .int v0_openedBehind, .int v0_joinedAt])), (h1, .inr (3, [.ref g1_sheet, .ref g1_filler, .ref g1_path, .ref h2, .ref g1_nextTable, .ref g1_saved, .int v1_open, .int v1_place, .int v1_fills, .int v1_painted])), (h2, .inr (5, [.ref g2_table, .ref g2_clip, .int v2_colour, .int v2_way])), (h3, .inr (9, [.ref h4, .int v3_count])), (h4, .inl (cI, 1500, .inl f4))] → va_S A s.heap H locs → lv_has ls 5 [(0, .ref h0), (1, .int p1), (2, .int p2)] → K43_3 s0_2 = some res → W p l e (headSpec w_X8_isIdlePaint rm_X8_isIdlePaint).room s m ([.ref h0, .int p1, .int p2] : List Value).toArray below meth c H locs 0 0 (MQ below (QMz res (dC, dI) [(cI, .int), (cZ, .boolean), (cO, .object "ListPainter$Settings")] A [(h0, .inr (7, [.ref h3, .ref h1, .ref g0_clip, .ref g0_table, .ref g0_next, .int v0_lastFill, .int v0_openedBehind, .int v0_joinedAt])), (h1, .inr (3, [.ref g1_sheet, .ref g1_filler, .ref g1_path, .ref h2, .ref g1_nextTable, .ref g1_saved, .int v1_open, .int v1_place, .int v1_fills, .int v1_painted])), (h2, .inr (5, [.ref g2_table, .ref g2_clip, .int v2_colour, .int v2_way])), (h3, .inr (9, [.ref h4, .int v3_count])), (h4, .inl (cI, 1500, .inl f4))]) ([.ref h0, .int p1, .int p2] : List Value).toArray s 0 0 A) (F0 m 43 ls [.int s0_2]) := by
      intro s0_2 H locs ls hP hD hS hl hM
      have hM := ja1 eK43_3 hM
      refine lv_istore_n (lv' := [(3, .int s0_2), (0, .ref h0), (1, .int p1), (2, .int p2)]) hx hb dX8_isIdlePaint_43 rfl hl (by decide) rfl (fun ls hl => ?_)
      refine lv_aload_n hx hb dX8_isIdlePaint_44 rfl (lv_at hl 1 rfl) ?_
      refine va_get (D := (dC, dI)) (ci := 7) (v := .ref h3) (C := RX8) (T := TX8) (N := 8) hx hb hu inX8 hown hK hP 0 rfl rfl 0 (by decide) (hu _ kw_583) (fun _ h9 => h9) rfl dX8_isIdlePaint_45 ?_
      refine lv_iload_n hx hb dX8_isIdlePaint_48 rfl (lv_at hl 2 rfl) ?_
      refine lv_iconst (v := 1) hx hb dX8_isIdlePaint_49 (by decide) ?_
      refine lv_iadd hx hb dX8_isIdlePaint_50 ?_
      obtain ⟨r_4, hm_5, hM⟩ := bd1_u hM
      refine cVi (r := r_4) (As := [.int (p1 + 1)]) (rest := []) ⟨hx, hb, hml, hown, hu⟩ (c_X10_word l dC dI cI cZ cO tL H.size h3 h4 v3_count f4 (p1 + 1) r_4 hm_5) (cwV 1 hu (gV kw_584 kw_3 kw_4 kw_5 kw_6) rfl rfl rfl (by decide +kernel) ⟨Nat.le_of_ble_eq_true rfl, Nat.le_of_ble_eq_true rfl⟩) hP hD hS hA hK hG [3, 4] (by decide) rfl [none, none, none, some 0, some 1] 2 rfl (by decide +kernel) rfl 9 3 rfl rfl rfl rfl hl.1 rfl (Nat.le_of_ble_eq_true rfl) dX8_isIdlePaint_51 (Nat.zero_le _) (Nat.zero_le _) (fun H locs hP hD hS => ?_)
      have hP : va_P (dC, dI) vwCl [(h0, .inr (7, [.ref h3, .ref h1, .ref g0_clip, .ref g0_table, .ref g0_next, .int v0_lastFill, .int v0_openedBehind, .int v0_joinedAt])), (h1, .inr (3, [.ref g1_sheet, .ref g1_filler, .ref g1_path, .ref h2, .ref g1_nextTable, .ref g1_saved, .int v1_open, .int v1_place, .int v1_fills, .int v1_painted])), (h2, .inr (5, [.ref g2_table, .ref g2_clip, .int v2_colour, .int v2_way])), (h3, .inr (9, [.ref h4, .int v3_count])), (h4, .inl (cI, 1500, .inl f4))] H := hP
      have hD : va_D A [(h0, .inr (7, [.ref h3, .ref h1, .ref g0_clip, .ref g0_table, .ref g0_next, .int v0_lastFill, .int v0_openedBehind, .int v0_joinedAt])), (h1, .inr (3, [.ref g1_sheet, .ref g1_filler, .ref g1_path, .ref h2, .ref g1_nextTable, .ref g1_saved, .int v1_open, .int v1_place, .int v1_fills, .int v1_painted])), (h2, .inr (5, [.ref g2_table, .ref g2_clip, .int v2_colour, .int v2_way])), (h3, .inr (9, [.ref h4, .int v3_count])), (h4, .inl (cI, 1500, .inl f4))] := hD
      refine lv_iload_n hx hb dX8_isIdlePaint_54 rfl (lv_at hl 0 rfl) ?_
      refine lv_icmp_ne (tgt := 60) hx hb dX8_isIdlePaint_55 (by decide) (fun c_6 => ?_) (fun c_6 => ?_)
      · have hM := if_f c_6 hM
        refine lv_aload_n hx hb dX8_isIdlePaint_60 rfl (lv_at hl 1 rfl) ?_
        refine va_get (D := (dC, dI)) (ci := 7) (v := .ref h3) (C := RX8) (T := TX8) (N := 8) hx hb hu inX8 hown hK hP 0 rfl rfl 0 (by decide) (hu _ kw_583) (fun _ h9 => h9) rfl dX8_isIdlePaint_61 ?_
        refine lv_iload_n hx hb dX8_isIdlePaint_64 rfl (lv_at hl 2 rfl) ?_
        refine lv_sipush (v := 518) hx hb dX8_isIdlePaint_65 (by decide) ?_
        refine lv_iconst (v := 1) hx hb dX8_isIdlePaint_68 (by decide) ?_
        refine lv_iload_n hx hb dX8_isIdlePaint_69 rfl (lv_at hl 3 rfl) ?_
        refine lv_ishl hx hb dX8_isIdlePaint_70 ?_
        refine lv_ior hx hb dX8_isIdlePaint_71 ?_
        obtain ⟨r_7, hm_8, hM⟩ := bd1_u hM
        refine cVi (r := r_7) (As := [.int p1, .int (518 ||| ((1 : Int32) <<< (p2 &&& 31)))]) (rest := []) ⟨hx, hb, hml, hown, hu⟩ (c_X10_firstBehind l dC dI cI cZ cO tL H.size h3 h4 v3_count f4 p1 (518 ||| ((1 : Int32) <<< (p2 &&& 31))) r_7 hm_8) (cwV 2 hu (gV kw_585 kw_586 kw_587 kw_5 kw_588) rfl rfl rfl (by decide +kernel) ⟨Nat.le_of_ble_eq_true rfl, Nat.le_of_ble_eq_true rfl⟩) hP hD hS hA hK hG [3, 4] (by decide) rfl [none, none, none, some 0, some 1] 2 rfl (by decide +kernel) rfl 9 3 rfl rfl rfl rfl hl.1 rfl (Nat.le_of_ble_eq_true rfl) dX8_isIdlePaint_72 (Nat.zero_le _) (Nat.zero_le _) (fun H locs hP hD hS => ?_)
        have hP : va_P (dC, dI) vwCl [(h0, .inr (7, [.ref h3, .ref h1, .ref g0_clip, .ref g0_table, .ref g0_next, .int v0_lastFill, .int v0_openedBehind, .int v0_joinedAt])), (h1, .inr (3, [.ref g1_sheet, .ref g1_filler, .ref g1_path, .ref h2, .ref g1_nextTable, .ref g1_saved, .int v1_open, .int v1_place, .int v1_fills, .int v1_painted])), (h2, .inr (5, [.ref g2_table, .ref g2_clip, .int v2_colour, .int v2_way])), (h3, .inr (9, [.ref h4, .int v3_count])), (h4, .inl (cI, 1500, .inl f4))] H := hP
        have hD : va_D A [(h0, .inr (7, [.ref h3, .ref h1, .ref g0_clip, .ref g0_table, .ref g0_next, .int v0_lastFill, .int v0_openedBehind, .int v0_joinedAt])), (h1, .inr (3, [.ref g1_sheet, .ref g1_filler, .ref g1_path, .ref h2, .ref g1_nextTable, .ref g1_saved, .int v1_open, .int v1_place, .int v1_fills, .int v1_painted])), (h2, .inr (5, [.ref g2_table, .ref g2_clip, .int v2_colour, .int v2_way])), (h3, .inr (9, [.ref h4, .int v3_count])), (h4, .inl (cI, 1500, .inl f4))] := hD
        refine lv_istore (lv' := [(4, .int r_7), (3, .int s0_2), (0, .ref h0), (1, .int p1), (2, .int p2)]) hx hb dX8_isIdlePaint_75 hl (by decide) rfl (fun ls hl => ?_)
        refine lv_iload hx hb dX8_isIdlePaint_77 (lv_at hl 0 rfl) ?_
        refine lv_bipush (v := 9) hx hb dX8_isIdlePaint_79 (by decide) ?_
        refine lv_icmp_eq (tgt := 94) hx hb dX8_isIdlePaint_81 (by decide) (fun c_9 => ?_) (fun c_9 => ?_)
        · have hM := if_t c_9 hM
          refine lv_iconst (v := 0) hx hb dX8_isIdlePaint_94 (by decide) ?_
          have h9 := Option.some.inj hM
          subst h9
          exact W.zret (v := 0) hx hb hr (zb_n (Or.inl rfl)) (fun t ht hW => QMz_mk (Or.inl rfl) (by rw [ht]; exact hP) (va_K.moved hW.alike hK) hD (hS.F ht)) hS.2.2 dX8_isIdlePaint_95
        · have hM := if_f c_9 hM
          refine lv_iload hx hb dX8_isIdlePaint_84 (lv_at hl 0 rfl) ?_
          refine lv_iconst (v := 1) hx hb dX8_isIdlePaint_86 (by decide) ?_
          refine lv_icmp_eq (tgt := 94) hx hb dX8_isIdlePaint_87 (by decide) (fun c_10 => ?_) (fun c_10 => ?_)
          · have hM := if_t c_10 hM
            refine lv_iconst (v := 0) hx hb dX8_isIdlePaint_94 (by decide) ?_
            have h9 := Option.some.inj hM
            subst h9
            exact W.zret (v := 0) hx hb hr (zb_n (Or.inl rfl)) (fun t ht hW => QMz_mk (Or.inl rfl) (by rw [ht]; exact hP) (va_K.moved hW.alike hK) hD (hS.F ht)) hS.2.2 dX8_isIdlePaint_95
          · have hM := if_f c_10 hM
            refine lv_iconst (v := 1) hx hb dX8_isIdlePaint_90 (by decide) ?_
            refine lv_goto (tgt := 95) hx hb dX8_isIdlePaint_91 (by decide) ?_
            have h9 := Option.some.inj hM
            subst h9
            exact W.zret (v := 1) hx hb hr (zb_n (Or.inr rfl)) (fun t ht hW => QMz_mk (Or.inr rfl) (by rw [ht]; exact hP) (va_K.moved hW.alike hK) hD (hS.F ht)) hS.2.2 dX8_isIdlePaint_95
      · have hM := if_t c_6 hM
        refine lv_iconst (v := 1) hx hb dX8_isIdlePaint_58 (by decide) ?_
        have h9 := Option.some.inj hM
        subst h9
        exact W.zret (v := 1) hx hb hr (zb_n (Or.inr rfl)) (fun t ht hW => QMz_mk (Or.inr rfl) (by rw [ht]; exact hP) (va_K.moved hW.alike hK) hD (hS.F ht)) hS.2.2 dX8_isIdlePaint_59
    refine lv_icmp_ne (tgt := 33) hx hb dX8_isIdlePaint_17 (by decide) (fun c_11 => ?_) (fun c_11 => ?_)
    · have hM := if_f c_11 hM
      refine lv_aload_n hx hb dX8_isIdlePaint_33 rfl (lv_at hl 0 rfl) ?_
      refine va_get (D := (dC, dI)) (ci := 7) (v := .ref h1) (C := RX8) (T := TX8) (N := 8) hx hb hu inX8 hown hK hP 0 rfl rfl 1 (by decide) (hu _ kw_589) (fun _ h9 => h9) rfl dX8_isIdlePaint_34 ?_
      refine va_getN (D := (dC, dI)) (ci := 3) (v := .ref h2) (C := RX3) (T := TX3) (N := 10) hx hb hu inX3 hown hK hP 1 rfl rfl 3 (by decide) (gX_nest hG 260 kw_590 rfl) (fun _ h9 => h9) rfl dX8_isIdlePaint_37 ?_
      refine va_getN (D := (dC, dI)) (ci := 5) (v := .int v2_way) (C := RX6) (T := TX6) (N := 4) hx hb hu inX6 hown hK hP 2 rfl rfl 3 (by decide) (gX_nest hG 240 kw_591 rfl) (fun _ h9 => h9) rfl dX8_isIdlePaint_40 ?_
      exact hJ43_3 v2_way H locs ls hP hD hS (lv_sub hl [0, 1, 2] rfl) hM
    · have hM := if_t c_11 hM
      refine lv_aload_n hx hb dX8_isIdlePaint_20 rfl (lv_at hl 0 rfl) ?_
      refine va_get (D := (dC, dI)) (ci := 7) (v := .ref h1) (C := RX8) (T := TX8) (N := 8) hx hb hu inX8 hown hK hP 0 rfl rfl 1 (by decide) (hu _ kw_589) (fun _ h9 => h9) rfl dX8_isIdlePaint_21 ?_
      refine va_getN (D := (dC, dI)) (ci := 3) (v := .ref h2) (C := RX3) (T := TX3) (N := 10) hx hb hu inX3 hown hK hP 1 rfl rfl 3 (by decide) (gX_nest hG 260 kw_590 rfl) (fun _ h9 => h9) rfl dX8_isIdlePaint_24 ?_
      refine va_getN (D := (dC, dI)) (ci := 5) (v := .int v2_colour) (C := RX6) (T := TX6) (N := 4) hx hb hu inX6 hown hK hP 2 rfl rfl 2 (by decide) (gX_nest hG 236 kw_592 rfl) (fun _ h9 => h9) rfl dX8_isIdlePaint_27 ?_
      refine lv_goto (tgt := 43) hx hb dX8_isIdlePaint_30 (by decide) ?_
      exact hJ43_3 v2_colour H locs ls hP hD hS (lv_sub hl [0, 1, 2] rfl) hM
  refine lv_icmp_eq (tgt := 14) hx hb dX8_isIdlePaint_3 (by decide) (fun c_12 => ?_) (fun c_12 => ?_)
  · have hM := if_t c_12 hM
    exact hJ14_1  H locs ls hP hD hS (lv_sub hl [0, 1, 2] rfl) hM
  · have hM := if_f c_12 hM
    refine lv_iload_n hx hb dX8_isIdlePaint_6 rfl (lv_at hl 2 rfl) ?_
    refine lv_bipush (v := 11) hx hb dX8_isIdlePaint_7 (by decide) ?_
    refine lv_icmp_eq (tgt := 14) hx hb dX8_isIdlePaint_9 (by decide) (fun c_13 => ?_) (fun c_13 => ?_)
    · have hM := if_t c_13 hM
      exact hJ14_1  H locs ls hP hD hS (lv_sub hl [0, 1, 2] rfl) hM
    · have hM := if_f c_13 hM
      refine lv_iconst (v := 0) hx hb dX8_isIdlePaint_12 (by decide) ?_
      have h9 := Option.some.inj hM
      subst h9
      exact W.zret (v := 0) hx hb hr (zb_n (Or.inl rfl)) (fun t ht hW => QMz_mk (Or.inl rfl) (by rw [ht]; exact hP) (va_K.moved hW.alike hK) hD (hS.F ht)) hS.2.2 dX8_isIdlePaint_13
theorem dX8_isIdleClip_0 : decode cX8_isIdleClip 0 = .ok (.aload_n 0, 1) := by decide +kernel
theorem dX8_isIdleClip_1 : decode cX8_isIdleClip 1 = .ok (.getfield 12, 3) := by decide +kernel
theorem dX8_isIdleClip_4 : decode cX8_isIdleClip 4 = .ok (.aload_n 0, 1) := by decide +kernel
theorem dX8_isIdleClip_5 : decode cX8_isIdleClip 5 = .ok (.getfield 32, 3) := by decide +kernel
theorem dX8_isIdleClip_8 : decode cX8_isIdleClip 8 = .ok (.getfield 93, 3) := by decide +kernel
theorem dX8_isIdleClip_11 : decode cX8_isIdleClip 11 = .ok (.getfield 97, 3) := by decide +kernel
theorem dX8_isIdleClip_14 : decode cX8_isIdleClip 14 = .ok (.invokevirtual 139, 3) := by decide +kernel
theorem dX8_isIdleClip_17 : decode cX8_isIdleClip 17 = .ok (.aload_n 0, 1) := by decide +kernel
theorem dX8_isIdleClip_18 : decode cX8_isIdleClip 18 = .ok (.getfield 12, 3) := by decide +kernel
theorem dX8_isIdleClip_21 : decode cX8_isIdleClip 21 = .ok (.aload_n 0, 1) := by decide +kernel
theorem dX8_isIdleClip_22 : decode cX8_isIdleClip 22 = .ok (.getfield 28, 3) := by decide +kernel
theorem dX8_isIdleClip_25 : decode cX8_isIdleClip 25 = .ok (.iload_n 1, 1) := by decide +kernel
theorem dX8_isIdleClip_26 : decode cX8_isIdleClip 26 = .ok (.invokevirtual 143, 3) := by decide +kernel
theorem dX8_isIdleClip_29 : decode cX8_isIdleClip 29 = .ok (.aload_n 0, 1) := by decide +kernel
theorem dX8_isIdleClip_30 : decode cX8_isIdleClip 30 = .ok (.getfield 12, 3) := by decide +kernel
theorem dX8_isIdleClip_33 : decode cX8_isIdleClip 33 = .ok (.aload_n 0, 1) := by decide +kernel
theorem dX8_isIdleClip_34 : decode cX8_isIdleClip 34 = .ok (.getfield 32, 3) := by decide +kernel
theorem dX8_isIdleClip_37 : decode cX8_isIdleClip 37 = .ok (.getfield 93, 3) := by decide +kernel
theorem dX8_isIdleClip_40 : decode cX8_isIdleClip 40 = .ok (.getfield 97, 3) := by decide +kernel
theorem dX8_isIdleClip_43 : decode cX8_isIdleClip 43 = .ok (.invokevirtual 146, 3) := by decide +kernel
theorem dX8_isIdleClip_46 : decode cX8_isIdleClip 46 = .ok (.ireturn, 1) := by decide +kernel
abbrev rm_X8_isIdleClip : Room := { frames := 2, cells := 0, slots := 0, locals := 48 }
def w_X8_isIdleClip : List Cond := Cond.code yX8_isIdleClip cX8_isIdleClip 2 (some .boolean) :: uw
set_option maxHeartbeats 4000000 in
set_option maxRecDepth 100000 in
theorem c_X8_isIdleClip (l : Launch) (dC : Nat → ClassId) (dI : Nat → Nat → Nat) (cI cZ cO : ClassId) (tL sz : Nat) (h0 : Nat) (h1 : Nat) (h2 : Nat) (h3 : Nat) (h4 : Nat) (h5 : Nat) (h6 : Nat) (g0_table : Nat) (g0_next : Nat) (g1_sheet : Nat) (g1_filler : Nat) (g1_path : Nat) (g1_nextTable : Nat) (g1_saved : Nat) (g2_table : Nat) (v0_lastFill : Int32) (v0_openedBehind : Int32) (v0_joinedAt : Int32) (v1_open : Int32) (v1_place : Int32) (v1_fills : Int32) (v1_painted : Int32) (v2_colour : Int32) (v2_way : Int32) (v3_x : Int32) (v3_y : Int32) (v3_endX : Int32) (v3_endY : Int32) (v4_x : Int32) (v4_y : Int32) (v4_endX : Int32) (v4_endY : Int32) (v5_count : Int32) (f6 : Nat → Int32) (p1 : Int32) (res : Int32 × Int32 × Int32 × Int32 × Int32) (hM : m_X8_isIdleClip v3_x v3_y v3_endX v3_endY v4_x v4_y v4_endX v4_endY v5_count f6 p1 = some res) : Met l yX8_isIdleClip w_X8_isIdleClip rm_X8_isIdleClip (PCx [.ref h0, .int p1] (dC, dI) [(cI, .int), (cZ, .boolean), (cO, .object "ListPainter$Settings")] sz tL [(h0, .inr (7, [.ref h5, .ref h1, .ref h3, .ref g0_table, .ref g0_next, .int v0_lastFill, .int v0_openedBehind, .int v0_joinedAt])), (h1, .inr (3, [.ref g1_sheet, .ref g1_filler, .ref g1_path, .ref h2, .ref g1_nextTable, .ref g1_saved, .int v1_open, .int v1_place, .int v1_fills, .int v1_painted])), (h2, .inr (5, [.ref g2_table, .ref h4, .int v2_colour, .int v2_way])), (h3, .inr (1, [.int v3_x, .int v3_y, .int v3_endX, .int v3_endY])), (h4, .inr (1, [.int v4_x, .int v4_y, .int v4_endX, .int v4_endY])), (h5, .inr (9, [.ref h6, .int v5_count])), (h6, .inl (cI, 1500, .inl f6))]) (QMz (res.1) (dC, dI) [(cI, .int), (cZ, .boolean), (cO, .object "ListPainter$Settings")] (va_A [(h0, .inr (7, [.ref h5, .ref h1, .ref h3, .ref g0_table, .ref g0_next, .int v0_lastFill, .int v0_openedBehind, .int v0_joinedAt])), (h1, .inr (3, [.ref g1_sheet, .ref g1_filler, .ref g1_path, .ref h2, .ref g1_nextTable, .ref g1_saved, .int v1_open, .int v1_place, .int v1_fills, .int v1_painted])), (h2, .inr (5, [.ref g2_table, .ref h4, .int v2_colour, .int v2_way])), (h3, .inr (1, [.int v3_x, .int v3_y, .int v3_endX, .int v3_endY])), (h4, .inr (1, [.int v4_x, .int v4_y, .int v4_endX, .int v4_endY])), (h5, .inr (9, [.ref h6, .int v5_count])), (h6, .inl (cI, 1500, .inl f6))] sz) [(h0, .inr (7, [.ref h5, .ref h1, .ref h3, .ref g0_table, .ref g0_next, .int v0_lastFill, .int v0_openedBehind, .int v0_joinedAt])), (h1, .inr (3, [.ref g1_sheet, .ref g1_filler, .ref g1_path, .ref h2, .ref g1_nextTable, .ref g1_saved, .int v1_open, .int v1_place, .int v1_fills, .int v1_painted])), (h2, .inr (5, [.ref g2_table, .ref h4, .int v2_colour, .int v2_way])), (h3, .inr (1, [.int (res.2.1), .int (res.2.2.1), .int (res.2.2.2.1), .int (res.2.2.2.2)])), (h4, .inr (1, [.int v4_x, .int v4_y, .int v4_endX, .int v4_endY])), (h5, .inr (9, [.ref h6, .int v5_count])), (h6, .inl (cI, 1500, .inl f6))]) 0 0 (va_A [(h0, .inr (7, [.ref h5, .ref h1, .ref h3, .ref g0_table, .ref g0_next, .int v0_lastFill, .int v0_openedBehind, .int v0_joinedAt])), (h1, .inr (3, [.ref g1_sheet, .ref g1_filler, .ref g1_path, .ref h2, .ref g1_nextTable, .ref g1_saved, .int v1_open, .int v1_place, .int v1_fills, .int v1_painted])), (h2, .inr (5, [.ref g2_table, .ref h4, .int v2_colour, .int v2_way])), (h3, .inr (1, [.int v3_x, .int v3_y, .int v3_endX, .int v3_endY])), (h4, .inr (1, [.int v4_x, .int v4_y, .int v4_endX, .int v4_endY])), (h5, .inr (9, [.ref h6, .int v5_count])), (h6, .inl (cI, 1500, .inl f6))] sz) := by
  refine Met.ofW (cc := cX8_isIdleClip) (maxL := 2) (ret := (some .boolean)) (by decide) rfl ?_
  intro p e s m args below meth c s₁ B hml hv
  obtain ⟨rfl, hsz, hP, hK, hD0, hG⟩ := hv
  have hx := B.exec
  have hb := B.bytes
  have hr := B.returns
  have hu : ∀ w ∈ uw, w.before ([.ref h0, .int p1] : List Value).toArray s = true := fun w h => atoms_spec (ws := w_X8_isIdleClip) B.pre w (List.mem_cons_of_mem _ h)
  have hown : s.vm.findClass RX8 = some m.cls := findClass_of_methodNamed B.named
  have hlocks := B.notSynchronized
  subst hsz
  have hD := hD0.self (sz := s.heap.size)
  generalize hAe : va_A [(h0, .inr (7, [.ref h5, .ref h1, .ref h3, .ref g0_table, .ref g0_next, .int v0_lastFill, .int v0_openedBehind, .int v0_joinedAt])), (h1, .inr (3, [.ref g1_sheet, .ref g1_filler, .ref g1_path, .ref h2, .ref g1_nextTable, .ref g1_saved, .int v1_open, .int v1_place, .int v1_fills, .int v1_painted])), (h2, .inr (5, [.ref g2_table, .ref h4, .int v2_colour, .int v2_way])), (h3, .inr (1, [.int v3_x, .int v3_y, .int v3_endX, .int v3_endY])), (h4, .inr (1, [.int v4_x, .int v4_y, .int v4_endX, .int v4_endY])), (h5, .inr (9, [.ref h6, .int v5_count])), (h6, .inl (cI, 1500, .inl f6))] s.heap.size = A at hD hG ⊢
  have hA : ∀ q : Nat, s.heap.size ≤ q → A q := fun q h => by rw [← hAe]; exact Or.inr h
  have hS : va_S A s.heap s.heap [] := va_S.rf
  have hP : va_P (dC, dI) vwCl [(h0, .inr (7, [.ref h5, .ref h1, .ref h3, .ref g0_table, .ref g0_next, .int v0_lastFill, .int v0_openedBehind, .int v0_joinedAt])), (h1, .inr (3, [.ref g1_sheet, .ref g1_filler, .ref g1_path, .ref h2, .ref g1_nextTable, .ref g1_saved, .int v1_open, .int v1_place, .int v1_fills, .int v1_painted])), (h2, .inr (5, [.ref g2_table, .ref h4, .int v2_colour, .int v2_way])), (h3, .inr (1, [.int v3_x, .int v3_y, .int v3_endX, .int v3_endY])), (h4, .inr (1, [.int v4_x, .int v4_y, .int v4_endX, .int v4_endY])), (h5, .inr (9, [.ref h6, .int v5_count])), (h6, .inl (cI, 1500, .inl f6))] s.heap := hP
  have hl := lv_entry ([.ref h0, .int p1]) (n := 2) (Nat.le_of_ble_eq_true rfl)
  rw [lg_entry_eq]
  generalize (lg_sl ([.ref h0, .int p1]) ++ List.replicate (2 - (lg_sl ([.ref h0, .int p1])).length) Slot.unset).toArray = ls at hl ⊢
  have hl : lv_has ls 2 [(0, .ref h0), (1, .int p1)] := hl
  rw [m_X8_isIdleClip] at hM
  suffices hgo : ∀ (H : Heap) (locs : List Loc), va_P (dC, dI) vwCl [(h0, .inr (7, [.ref h5, .ref h1, .ref h3, .ref g0_table, .ref g0_next, .int v0_lastFill, .int v0_openedBehind, .int v0_joinedAt])), (h1, .inr (3, [.ref g1_sheet, .ref g1_filler, .ref g1_path, .ref h2, .ref g1_nextTable, .ref g1_saved, .int v1_open, .int v1_place, .int v1_fills, .int v1_painted])), (h2, .inr (5, [.ref g2_table, .ref h4, .int v2_colour, .int v2_way])), (h3, .inr (1, [.int v3_x, .int v3_y, .int v3_endX, .int v3_endY])), (h4, .inr (1, [.int v4_x, .int v4_y, .int v4_endX, .int v4_endY])), (h5, .inr (9, [.ref h6, .int v5_count])), (h6, .inl (cI, 1500, .inl f6))] H → va_D A [(h0, .inr (7, [.ref h5, .ref h1, .ref h3, .ref g0_table, .ref g0_next, .int v0_lastFill, .int v0_openedBehind, .int v0_joinedAt])), (h1, .inr (3, [.ref g1_sheet, .ref g1_filler, .ref g1_path, .ref h2, .ref g1_nextTable, .ref g1_saved, .int v1_open, .int v1_place, .int v1_fills, .int v1_painted])), (h2, .inr (5, [.ref g2_table, .ref h4, .int v2_colour, .int v2_way])), (h3, .inr (1, [.int v3_x, .int v3_y, .int v3_endX, .int v3_endY])), (h4, .inr (1, [.int v4_x, .int v4_y, .int v4_endX, .int v4_endY])), (h5, .inr (9, [.ref h6, .int v5_count])), (h6, .inl (cI, 1500, .inl f6))] → va_S A s.heap H locs → W p l e (headSpec w_X8_isIdleClip rm_X8_isIdleClip).room s m ([.ref h0, .int p1] : List Value).toArray below meth c H locs 0 0 (MQ below (QMz (res.1) (dC, dI) [(cI, .int), (cZ, .boolean), (cO, .object "ListPainter$Settings")] A [(h0, .inr (7, [.ref h5, .ref h1, .ref h3, .ref g0_table, .ref g0_next, .int v0_lastFill, .int v0_openedBehind, .int v0_joinedAt])), (h1, .inr (3, [.ref g1_sheet, .ref g1_filler, .ref g1_path, .ref h2, .ref g1_nextTable, .ref g1_saved, .int v1_open, .int v1_place, .int v1_fills, .int v1_painted])), (h2, .inr (5, [.ref g2_table, .ref h4, .int v2_colour, .int v2_way])), (h3, .inr (1, [.int (res.2.1), .int (res.2.2.1), .int (res.2.2.2.1), .int (res.2.2.2.2)])), (h4, .inr (1, [.int v4_x, .int v4_y, .int v4_endX, .int v4_endY])), (h5, .inr (9, [.ref h6, .int v5_count])), (h6, .inl (cI, 1500, .inl f6))]) ([.ref h0, .int p1] : List Value).toArray s 0 0 A) (F0 m 0 ls []) from hgo _ _ hP hD hS
  intro H locs hP hD hS
  refine lv_aload_n hx hb dX8_isIdleClip_0 rfl (lv_at hl 0 rfl) ?_
  refine va_get (D := (dC, dI)) (ci := 7) (v := .ref h3) (C := RX8) (T := TX8) (N := 8) hx hb hu inX8 hown hK hP 0 rfl rfl 2 (by decide) (hu _ kw_593) (fun _ h9 => h9) rfl dX8_isIdleClip_1 ?_
  refine lv_aload_n hx hb dX8_isIdleClip_4 rfl (lv_at hl 0 rfl) ?_
  refine va_get (D := (dC, dI)) (ci := 7) (v := .ref h1) (C := RX8) (T := TX8) (N := 8) hx hb hu inX8 hown hK hP 0 rfl rfl 1 (by decide) (hu _ kw_589) (fun _ h9 => h9) rfl dX8_isIdleClip_5 ?_
  refine va_getN (D := (dC, dI)) (ci := 3) (v := .ref h2) (C := RX3) (T := TX3) (N := 10) hx hb hu inX3 hown hK hP 1 rfl rfl 3 (by decide) (gX_nest hG 260 kw_590 rfl) (fun _ h9 => h9) rfl dX8_isIdleClip_8 ?_
  refine va_getN (D := (dC, dI)) (ci := 5) (v := .ref h4) (C := RX6) (T := TX6) (N := 4) hx hb hu inX6 hown hK hP 2 rfl rfl 1 (by decide) (gX_nest hG 233 kw_594 rfl) (fun _ h9 => h9) rfl dX8_isIdleClip_11 ?_
  obtain ⟨v3_1, v3_2, v3_3, v3_4, hm_5, hM⟩ := bd4_u hM
  refine cVv (As := [.ref h4]) (rest := []) ⟨hx, hb, hml, hown, hu⟩ (c_X1_copyFrom l dC dI cI cZ cO tL H.size h4 h3 v4_x v4_y v4_endX v4_endY v3_x v3_y v3_endX v3_endY (v3_1, v3_2, v3_3, v3_4) hm_5) (cwV 1 hu (gV kw_595 kw_105 kw_106 kw_55 kw_107) rfl rfl rfl (by decide +kernel) ⟨Nat.le_of_ble_eq_true rfl, Nat.le_of_ble_eq_true rfl⟩) hP hD hS hA hK hG [4, 3] (by decide) rfl [none, none, none, some 1, some 0, none, none] 2 rfl (by decide +kernel) rfl 1 3 rfl rfl rfl rfl hl.1 rfl (Nat.le_of_ble_eq_true rfl) dX8_isIdleClip_14 (Nat.zero_le _) (Nat.zero_le _) (fun H locs hP hD hS => ?_)
  have hP : va_P (dC, dI) vwCl [(h0, .inr (7, [.ref h5, .ref h1, .ref h3, .ref g0_table, .ref g0_next, .int v0_lastFill, .int v0_openedBehind, .int v0_joinedAt])), (h1, .inr (3, [.ref g1_sheet, .ref g1_filler, .ref g1_path, .ref h2, .ref g1_nextTable, .ref g1_saved, .int v1_open, .int v1_place, .int v1_fills, .int v1_painted])), (h2, .inr (5, [.ref g2_table, .ref h4, .int v2_colour, .int v2_way])), (h3, .inr (1, [.int v3_1, .int v3_2, .int v3_3, .int v3_4])), (h4, .inr (1, [.int v4_x, .int v4_y, .int v4_endX, .int v4_endY])), (h5, .inr (9, [.ref h6, .int v5_count])), (h6, .inl (cI, 1500, .inl f6))] H := hP
  have hD : va_D A [(h0, .inr (7, [.ref h5, .ref h1, .ref h3, .ref g0_table, .ref g0_next, .int v0_lastFill, .int v0_openedBehind, .int v0_joinedAt])), (h1, .inr (3, [.ref g1_sheet, .ref g1_filler, .ref g1_path, .ref h2, .ref g1_nextTable, .ref g1_saved, .int v1_open, .int v1_place, .int v1_fills, .int v1_painted])), (h2, .inr (5, [.ref g2_table, .ref h4, .int v2_colour, .int v2_way])), (h3, .inr (1, [.int v3_1, .int v3_2, .int v3_3, .int v3_4])), (h4, .inr (1, [.int v4_x, .int v4_y, .int v4_endX, .int v4_endY])), (h5, .inr (9, [.ref h6, .int v5_count])), (h6, .inl (cI, 1500, .inl f6))] := hD
  refine lv_aload_n hx hb dX8_isIdleClip_17 rfl (lv_at hl 0 rfl) ?_
  refine va_get (D := (dC, dI)) (ci := 7) (v := .ref h3) (C := RX8) (T := TX8) (N := 8) hx hb hu inX8 hown hK hP 0 rfl rfl 2 (by decide) (hu _ kw_593) (fun _ h9 => h9) rfl dX8_isIdleClip_18 ?_
  refine lv_aload_n hx hb dX8_isIdleClip_21 rfl (lv_at hl 0 rfl) ?_
  refine va_get (D := (dC, dI)) (ci := 7) (v := .ref h5) (C := RX8) (T := TX8) (N := 8) hx hb hu inX8 hown hK hP 0 rfl rfl 0 (by decide) (hu _ kw_583) (fun _ h9 => h9) rfl dX8_isIdleClip_22 ?_
  refine lv_iload_n hx hb dX8_isIdleClip_25 rfl (lv_at hl 1 rfl) ?_
  obtain ⟨v3_6, v3_7, v3_8, v3_9, hm_10, hM⟩ := bd4_u hM
  refine cVv (As := [.ref h5, .int p1]) (rest := []) ⟨hx, hb, hml, hown, hu⟩ (c_X1_narrowBy l dC dI cI cZ cO tL H.size h5 h6 h3 v5_count f6 v3_1 v3_2 v3_3 v3_4 p1 (v3_6, v3_7, v3_8, v3_9) hm_10) (cwV 2 hu (gV kw_596 kw_558 kw_559 kw_55 kw_560) rfl rfl rfl (by decide +kernel) ⟨Nat.le_of_ble_eq_true rfl, Nat.le_of_ble_eq_true rfl⟩) hP hD hS hA hK hG [5, 6, 3] (by decide) rfl [none, none, none, some 2, none, some 0, some 1] 3 rfl (by decide +kernel) rfl 1 3 rfl rfl rfl rfl hl.1 rfl (Nat.le_of_ble_eq_true rfl) dX8_isIdleClip_26 (Nat.zero_le _) (Nat.zero_le _) (fun H locs hP hD hS => ?_)
  have hP : va_P (dC, dI) vwCl [(h0, .inr (7, [.ref h5, .ref h1, .ref h3, .ref g0_table, .ref g0_next, .int v0_lastFill, .int v0_openedBehind, .int v0_joinedAt])), (h1, .inr (3, [.ref g1_sheet, .ref g1_filler, .ref g1_path, .ref h2, .ref g1_nextTable, .ref g1_saved, .int v1_open, .int v1_place, .int v1_fills, .int v1_painted])), (h2, .inr (5, [.ref g2_table, .ref h4, .int v2_colour, .int v2_way])), (h3, .inr (1, [.int v3_6, .int v3_7, .int v3_8, .int v3_9])), (h4, .inr (1, [.int v4_x, .int v4_y, .int v4_endX, .int v4_endY])), (h5, .inr (9, [.ref h6, .int v5_count])), (h6, .inl (cI, 1500, .inl f6))] H := hP
  have hD : va_D A [(h0, .inr (7, [.ref h5, .ref h1, .ref h3, .ref g0_table, .ref g0_next, .int v0_lastFill, .int v0_openedBehind, .int v0_joinedAt])), (h1, .inr (3, [.ref g1_sheet, .ref g1_filler, .ref g1_path, .ref h2, .ref g1_nextTable, .ref g1_saved, .int v1_open, .int v1_place, .int v1_fills, .int v1_painted])), (h2, .inr (5, [.ref g2_table, .ref h4, .int v2_colour, .int v2_way])), (h3, .inr (1, [.int v3_6, .int v3_7, .int v3_8, .int v3_9])), (h4, .inr (1, [.int v4_x, .int v4_y, .int v4_endX, .int v4_endY])), (h5, .inr (9, [.ref h6, .int v5_count])), (h6, .inl (cI, 1500, .inl f6))] := hD
  refine lv_aload_n hx hb dX8_isIdleClip_29 rfl (lv_at hl 0 rfl) ?_
  refine va_get (D := (dC, dI)) (ci := 7) (v := .ref h3) (C := RX8) (T := TX8) (N := 8) hx hb hu inX8 hown hK hP 0 rfl rfl 2 (by decide) (hu _ kw_593) (fun _ h9 => h9) rfl dX8_isIdleClip_30 ?_
  refine lv_aload_n hx hb dX8_isIdleClip_33 rfl (lv_at hl 0 rfl) ?_
  refine va_get (D := (dC, dI)) (ci := 7) (v := .ref h1) (C := RX8) (T := TX8) (N := 8) hx hb hu inX8 hown hK hP 0 rfl rfl 1 (by decide) (hu _ kw_589) (fun _ h9 => h9) rfl dX8_isIdleClip_34 ?_
  refine va_getN (D := (dC, dI)) (ci := 3) (v := .ref h2) (C := RX3) (T := TX3) (N := 10) hx hb hu inX3 hown hK hP 1 rfl rfl 3 (by decide) (gX_nest hG 260 kw_590 rfl) (fun _ h9 => h9) rfl dX8_isIdleClip_37 ?_
  refine va_getN (D := (dC, dI)) (ci := 5) (v := .ref h4) (C := RX6) (T := TX6) (N := 4) hx hb hu inX6 hown hK hP 2 rfl rfl 1 (by decide) (gX_nest hG 233 kw_594 rfl) (fun _ h9 => h9) rfl dX8_isIdleClip_40 ?_
  obtain ⟨r_11, hm_12, hM⟩ := bd1_u hM
  refine cVz (r := r_11) (As := [.ref h4]) (rest := []) ⟨hx, hb, hml, hown, hu⟩ (c_X1_isSameAs l dC dI cI cZ cO tL H.size h3 h4 v3_6 v3_7 v3_8 v3_9 v4_x v4_y v4_endX v4_endY r_11 hm_12) (cwV 1 hu (gV kw_597 kw_598 kw_599 kw_55 kw_600) rfl rfl rfl (by decide +kernel) ⟨Nat.le_of_ble_eq_true rfl, Nat.le_of_ble_eq_true rfl⟩) hP hD hS hA hK hG [3, 4] (by decide) rfl [none, none, none, some 0, some 1, none, none] 2 rfl (by decide +kernel) rfl 1 3 rfl rfl rfl rfl hl.1 rfl (Nat.le_of_ble_eq_true rfl) dX8_isIdleClip_43 (Nat.zero_le _) (Nat.zero_le _) (fun H locs hz_r_11 hP hD hS => ?_)
  have hP : va_P (dC, dI) vwCl [(h0, .inr (7, [.ref h5, .ref h1, .ref h3, .ref g0_table, .ref g0_next, .int v0_lastFill, .int v0_openedBehind, .int v0_joinedAt])), (h1, .inr (3, [.ref g1_sheet, .ref g1_filler, .ref g1_path, .ref h2, .ref g1_nextTable, .ref g1_saved, .int v1_open, .int v1_place, .int v1_fills, .int v1_painted])), (h2, .inr (5, [.ref g2_table, .ref h4, .int v2_colour, .int v2_way])), (h3, .inr (1, [.int v3_6, .int v3_7, .int v3_8, .int v3_9])), (h4, .inr (1, [.int v4_x, .int v4_y, .int v4_endX, .int v4_endY])), (h5, .inr (9, [.ref h6, .int v5_count])), (h6, .inl (cI, 1500, .inl f6))] H := hP
  have hD : va_D A [(h0, .inr (7, [.ref h5, .ref h1, .ref h3, .ref g0_table, .ref g0_next, .int v0_lastFill, .int v0_openedBehind, .int v0_joinedAt])), (h1, .inr (3, [.ref g1_sheet, .ref g1_filler, .ref g1_path, .ref h2, .ref g1_nextTable, .ref g1_saved, .int v1_open, .int v1_place, .int v1_fills, .int v1_painted])), (h2, .inr (5, [.ref g2_table, .ref h4, .int v2_colour, .int v2_way])), (h3, .inr (1, [.int v3_6, .int v3_7, .int v3_8, .int v3_9])), (h4, .inr (1, [.int v4_x, .int v4_y, .int v4_endX, .int v4_endY])), (h5, .inr (9, [.ref h6, .int v5_count])), (h6, .inl (cI, 1500, .inl f6))] := hD
  have h9 := Option.some.inj hM
  subst h9
  exact W.zret (v := r_11) hx hb hr (zb_n hz_r_11) (fun t ht hW => QMz_mk hz_r_11 (by rw [ht]; exact hP) (va_K.moved hW.alike hK) hD (hS.F ht)) hS.2.2 dX8_isIdleClip_46
theorem dX8_isIdleTable_0 : decode cX8_isIdleTable 0 = .ok (.iload_n 2, 1) := by decide +kernel
theorem dX8_isIdleTable_1 : decode cX8_isIdleTable 1 = .ok (.bipush 12, 2) := by decide +kernel
theorem dX8_isIdleTable_3 : decode cX8_isIdleTable 3 = .ok (.if_icmp .eq 11, 3) := by decide +kernel
theorem dX8_isIdleTable_6 : decode cX8_isIdleTable 6 = .ok (.iload_n 2, 1) := by decide +kernel
theorem dX8_isIdleTable_7 : decode cX8_isIdleTable 7 = .ok (.bipush 14, 2) := by decide +kernel
theorem dX8_isIdleTable_9 : decode cX8_isIdleTable 9 = .ok (.if_icmp .eq 5, 3) := by decide +kernel
theorem dX8_isIdleTable_12 : decode cX8_isIdleTable 12 = .ok (.iconst 0, 1) := by decide +kernel
theorem dX8_isIdleTable_13 : decode cX8_isIdleTable 13 = .ok (.ireturn, 1) := by decide +kernel
theorem dX8_isIdleTable_14 : decode cX8_isIdleTable 14 = .ok (.aload_n 0, 1) := by decide +kernel
theorem dX8_isIdleTable_15 : decode cX8_isIdleTable 15 = .ok (.getfield 21, 3) := by decide +kernel
theorem dX8_isIdleTable_18 : decode cX8_isIdleTable 18 = .ok (.invokevirtual 149, 3) := by decide +kernel
theorem dX8_isIdleTable_21 : decode cX8_isIdleTable 21 = .ok (.iload_n 2, 1) := by decide +kernel
theorem dX8_isIdleTable_22 : decode cX8_isIdleTable 22 = .ok (.bipush 12, 2) := by decide +kernel
theorem dX8_isIdleTable_24 : decode cX8_isIdleTable 24 = .ok (.if_icmp .ne 43, 3) := by decide +kernel
theorem dX8_isIdleTable_27 : decode cX8_isIdleTable 27 = .ok (.aload_n 0, 1) := by decide +kernel
theorem dX8_isIdleTable_28 : decode cX8_isIdleTable 28 = .ok (.getfield 25, 3) := by decide +kernel
theorem dX8_isIdleTable_31 : decode cX8_isIdleTable 31 = .ok (.aload_n 0, 1) := by decide +kernel
theorem dX8_isIdleTable_32 : decode cX8_isIdleTable 32 = .ok (.getfield 28, 3) := by decide +kernel
theorem dX8_isIdleTable_35 : decode cX8_isIdleTable 35 = .ok (.iload_n 1, 1) := by decide +kernel
theorem dX8_isIdleTable_36 : decode cX8_isIdleTable 36 = .ok (.invokevirtual 152, 3) := by decide +kernel
theorem dX8_isIdleTable_39 : decode cX8_isIdleTable 39 = .ok (.aload_n 0, 1) := by decide +kernel
theorem dX8_isIdleTable_40 : decode cX8_isIdleTable 40 = .ok (.getfield 21, 3) := by decide +kernel
theorem dX8_isIdleTable_43 : decode cX8_isIdleTable 43 = .ok (.aload_n 0, 1) := by decide +kernel
theorem dX8_isIdleTable_44 : decode cX8_isIdleTable 44 = .ok (.getfield 32, 3) := by decide +kernel
theorem dX8_isIdleTable_47 : decode cX8_isIdleTable 47 = .ok (.getfield 93, 3) := by decide +kernel
theorem dX8_isIdleTable_50 : decode cX8_isIdleTable 50 = .ok (.getfield 155, 3) := by decide +kernel
theorem dX8_isIdleTable_53 : decode cX8_isIdleTable 53 = .ok (.invokevirtual 156, 3) := by decide +kernel
theorem dX8_isIdleTable_56 : decode cX8_isIdleTable 56 = .ok (.aload_n 0, 1) := by decide +kernel
theorem dX8_isIdleTable_57 : decode cX8_isIdleTable 57 = .ok (.getfield 21, 3) := by decide +kernel
theorem dX8_isIdleTable_60 : decode cX8_isIdleTable 60 = .ok (.aload_n 0, 1) := by decide +kernel
theorem dX8_isIdleTable_61 : decode cX8_isIdleTable 61 = .ok (.getfield 25, 3) := by decide +kernel
theorem dX8_isIdleTable_64 : decode cX8_isIdleTable 64 = .ok (.invokevirtual 159, 3) := by decide +kernel
theorem dX8_isIdleTable_67 : decode cX8_isIdleTable 67 = .ok (.aload_n 0, 1) := by decide +kernel
theorem dX8_isIdleTable_68 : decode cX8_isIdleTable 68 = .ok (.getfield 21, 3) := by decide +kernel
theorem dX8_isIdleTable_71 : decode cX8_isIdleTable 71 = .ok (.aload_n 0, 1) := by decide +kernel
theorem dX8_isIdleTable_72 : decode cX8_isIdleTable 72 = .ok (.getfield 32, 3) := by decide +kernel
theorem dX8_isIdleTable_75 : decode cX8_isIdleTable 75 = .ok (.getfield 93, 3) := by decide +kernel
theorem dX8_isIdleTable_78 : decode cX8_isIdleTable 78 = .ok (.getfield 155, 3) := by decide +kernel
theorem dX8_isIdleTable_81 : decode cX8_isIdleTable 81 = .ok (.invokevirtual 162, 3) := by decide +kernel
theorem dX8_isIdleTable_84 : decode cX8_isIdleTable 84 = .ok (.ireturn, 1) := by decide +kernel
abbrev rm_X8_isIdleTable : Room := { frames := 2, cells := 0, slots := 0, locals := 46 }
def w_X8_isIdleTable : List Cond := Cond.code yX8_isIdleTable cX8_isIdleTable 3 (some .boolean) :: uw
set_option maxHeartbeats 4000000 in
set_option maxRecDepth 100000 in
theorem c_X8_isIdleTable (l : Launch) (dC : Nat → ClassId) (dI : Nat → Nat → Nat) (cI cZ cO : ClassId) (tL sz : Nat) (h0 : Nat) (h1 : Nat) (h2 : Nat) (h3 : Nat) (h4 : Nat) (h5 : Nat) (h6 : Nat) (h7 : Nat) (g0_clip : Nat) (g5_sheet : Nat) (g5_filler : Nat) (g5_path : Nat) (g5_nextTable : Nat) (g5_saved : Nat) (g6_clip : Nat) (v0_lastFill : Int32) (v0_openedBehind : Int32) (v0_joinedAt : Int32) (v1_a : Int32) (v1_b : Int32) (v1_c : Int32) (v1_d : Int32) (v1_e : Int32) (v1_f : Int32) (v2_a : Int32) (v2_b : Int32) (v2_c : Int32) (v2_d : Int32) (v2_e : Int32) (v2_f : Int32) (v3_count : Int32) (f4 : Nat → Int32) (v5_open : Int32) (v5_place : Int32) (v5_fills : Int32) (v5_painted : Int32) (v6_colour : Int32) (v6_way : Int32) (v7_a : Int32) (v7_b : Int32) (v7_c : Int32) (v7_d : Int32) (v7_e : Int32) (v7_f : Int32) (p1 : Int32) (p2 : Int32) (res : Int32 × Int32 × Int32 × Int32 × Int32 × Int32 × Int32 × Int32 × Int32 × Int32 × Int32 × Int32 × Int32) (hM : m_X8_isIdleTable v1_a v1_b v1_c v1_d v1_e v1_f v2_a v2_b v2_c v2_d v2_e v2_f v3_count f4 v7_a v7_b v7_c v7_d v7_e v7_f p1 p2 = some res) : Met l yX8_isIdleTable w_X8_isIdleTable rm_X8_isIdleTable (PCx [.ref h0, .int p1, .int p2] (dC, dI) [(cI, .int), (cZ, .boolean), (cO, .object "ListPainter$Settings")] sz tL [(h0, .inr (7, [.ref h3, .ref h5, .ref g0_clip, .ref h1, .ref h2, .int v0_lastFill, .int v0_openedBehind, .int v0_joinedAt])), (h1, .inr (8, [.int v1_a, .int v1_b, .int v1_c, .int v1_d, .int v1_e, .int v1_f])), (h2, .inr (8, [.int v2_a, .int v2_b, .int v2_c, .int v2_d, .int v2_e, .int v2_f])), (h3, .inr (9, [.ref h4, .int v3_count])), (h4, .inl (cI, 1500, .inl f4)), (h5, .inr (3, [.ref g5_sheet, .ref g5_filler, .ref g5_path, .ref h6, .ref g5_nextTable, .ref g5_saved, .int v5_open, .int v5_place, .int v5_fills, .int v5_painted])), (h6, .inr (5, [.ref h7, .ref g6_clip, .int v6_colour, .int v6_way])), (h7, .inr (8, [.int v7_a, .int v7_b, .int v7_c, .int v7_d, .int v7_e, .int v7_f]))]) (QMz (res.1) (dC, dI) [(cI, .int), (cZ, .boolean), (cO, .object "ListPainter$Settings")] (va_A [(h0, .inr (7, [.ref h3, .ref h5, .ref g0_clip, .ref h1, .ref h2, .int v0_lastFill, .int v0_openedBehind, .int v0_joinedAt])), (h1, .inr (8, [.int v1_a, .int v1_b, .int v1_c, .int v1_d, .int v1_e, .int v1_f])), (h2, .inr (8, [.int v2_a, .int v2_b, .int v2_c, .int v2_d, .int v2_e, .int v2_f])), (h3, .inr (9, [.ref h4, .int v3_count])), (h4, .inl (cI, 1500, .inl f4)), (h5, .inr (3, [.ref g5_sheet, .ref g5_filler, .ref g5_path, .ref h6, .ref g5_nextTable, .ref g5_saved, .int v5_open, .int v5_place, .int v5_fills, .int v5_painted])), (h6, .inr (5, [.ref h7, .ref g6_clip, .int v6_colour, .int v6_way])), (h7, .inr (8, [.int v7_a, .int v7_b, .int v7_c, .int v7_d, .int v7_e, .int v7_f]))] sz) [(h0, .inr (7, [.ref h3, .ref h5, .ref g0_clip, .ref h1, .ref h2, .int v0_lastFill, .int v0_openedBehind, .int v0_joinedAt])), (h1, .inr (8, [.int (res.2.1), .int (res.2.2.1), .int (res.2.2.2.1), .int (res.2.2.2.2.1), .int (res.2.2.2.2.2.1), .int (res.2.2.2.2.2.2.1)])), (h2, .inr (8, [.int (res.2.2.2.2.2.2.2.1), .int (res.2.2.2.2.2.2.2.2.1), .int (res.2.2.2.2.2.2.2.2.2.1), .int (res.2.2.2.2.2.2.2.2.2.2.1), .int (res.2.2.2.2.2.2.2.2.2.2.2.1), .int (res.2.2.2.2.2.2.2.2.2.2.2.2)])), (h3, .inr (9, [.ref h4, .int v3_count])), (h4, .inl (cI, 1500, .inl f4)), (h5, .inr (3, [.ref g5_sheet, .ref g5_filler, .ref g5_path, .ref h6, .ref g5_nextTable, .ref g5_saved, .int v5_open, .int v5_place, .int v5_fills, .int v5_painted])), (h6, .inr (5, [.ref h7, .ref g6_clip, .int v6_colour, .int v6_way])), (h7, .inr (8, [.int v7_a, .int v7_b, .int v7_c, .int v7_d, .int v7_e, .int v7_f]))]) 0 0 (va_A [(h0, .inr (7, [.ref h3, .ref h5, .ref g0_clip, .ref h1, .ref h2, .int v0_lastFill, .int v0_openedBehind, .int v0_joinedAt])), (h1, .inr (8, [.int v1_a, .int v1_b, .int v1_c, .int v1_d, .int v1_e, .int v1_f])), (h2, .inr (8, [.int v2_a, .int v2_b, .int v2_c, .int v2_d, .int v2_e, .int v2_f])), (h3, .inr (9, [.ref h4, .int v3_count])), (h4, .inl (cI, 1500, .inl f4)), (h5, .inr (3, [.ref g5_sheet, .ref g5_filler, .ref g5_path, .ref h6, .ref g5_nextTable, .ref g5_saved, .int v5_open, .int v5_place, .int v5_fills, .int v5_painted])), (h6, .inr (5, [.ref h7, .ref g6_clip, .int v6_colour, .int v6_way])), (h7, .inr (8, [.int v7_a, .int v7_b, .int v7_c, .int v7_d, .int v7_e, .int v7_f]))] sz) := by
  refine Met.ofW (cc := cX8_isIdleTable) (maxL := 3) (ret := (some .boolean)) (by decide) rfl ?_
  intro p e s m args below meth c s₁ B hml hv
  obtain ⟨rfl, hsz, hP, hK, hD0, hG⟩ := hv
  have hx := B.exec
  have hb := B.bytes
  have hr := B.returns
  have hu : ∀ w ∈ uw, w.before ([.ref h0, .int p1, .int p2] : List Value).toArray s = true := fun w h => atoms_spec (ws := w_X8_isIdleTable) B.pre w (List.mem_cons_of_mem _ h)
  have hown : s.vm.findClass RX8 = some m.cls := findClass_of_methodNamed B.named
  have hlocks := B.notSynchronized
  subst hsz
  have hD := hD0.self (sz := s.heap.size)
  generalize hAe : va_A [(h0, .inr (7, [.ref h3, .ref h5, .ref g0_clip, .ref h1, .ref h2, .int v0_lastFill, .int v0_openedBehind, .int v0_joinedAt])), (h1, .inr (8, [.int v1_a, .int v1_b, .int v1_c, .int v1_d, .int v1_e, .int v1_f])), (h2, .inr (8, [.int v2_a, .int v2_b, .int v2_c, .int v2_d, .int v2_e, .int v2_f])), (h3, .inr (9, [.ref h4, .int v3_count])), (h4, .inl (cI, 1500, .inl f4)), (h5, .inr (3, [.ref g5_sheet, .ref g5_filler, .ref g5_path, .ref h6, .ref g5_nextTable, .ref g5_saved, .int v5_open, .int v5_place, .int v5_fills, .int v5_painted])), (h6, .inr (5, [.ref h7, .ref g6_clip, .int v6_colour, .int v6_way])), (h7, .inr (8, [.int v7_a, .int v7_b, .int v7_c, .int v7_d, .int v7_e, .int v7_f]))] s.heap.size = A at hD hG ⊢
  have hA : ∀ q : Nat, s.heap.size ≤ q → A q := fun q h => by rw [← hAe]; exact Or.inr h
  have hS : va_S A s.heap s.heap [] := va_S.rf
  have hP : va_P (dC, dI) vwCl [(h0, .inr (7, [.ref h3, .ref h5, .ref g0_clip, .ref h1, .ref h2, .int v0_lastFill, .int v0_openedBehind, .int v0_joinedAt])), (h1, .inr (8, [.int v1_a, .int v1_b, .int v1_c, .int v1_d, .int v1_e, .int v1_f])), (h2, .inr (8, [.int v2_a, .int v2_b, .int v2_c, .int v2_d, .int v2_e, .int v2_f])), (h3, .inr (9, [.ref h4, .int v3_count])), (h4, .inl (cI, 1500, .inl f4)), (h5, .inr (3, [.ref g5_sheet, .ref g5_filler, .ref g5_path, .ref h6, .ref g5_nextTable, .ref g5_saved, .int v5_open, .int v5_place, .int v5_fills, .int v5_painted])), (h6, .inr (5, [.ref h7, .ref g6_clip, .int v6_colour, .int v6_way])), (h7, .inr (8, [.int v7_a, .int v7_b, .int v7_c, .int v7_d, .int v7_e, .int v7_f]))] s.heap := hP
  have hl := lv_entry ([.ref h0, .int p1, .int p2]) (n := 3) (Nat.le_of_ble_eq_true rfl)
  rw [lg_entry_eq]
  generalize (lg_sl ([.ref h0, .int p1, .int p2]) ++ List.replicate (3 - (lg_sl ([.ref h0, .int p1, .int p2])).length) Slot.unset).toArray = ls at hl ⊢
  have hl : lv_has ls 3 [(0, .ref h0), (1, .int p1), (2, .int p2)] := hl
  rw [m_X8_isIdleTable] at hM
  suffices hgo : ∀ (H : Heap) (locs : List Loc), va_P (dC, dI) vwCl [(h0, .inr (7, [.ref h3, .ref h5, .ref g0_clip, .ref h1, .ref h2, .int v0_lastFill, .int v0_openedBehind, .int v0_joinedAt])), (h1, .inr (8, [.int v1_a, .int v1_b, .int v1_c, .int v1_d, .int v1_e, .int v1_f])), (h2, .inr (8, [.int v2_a, .int v2_b, .int v2_c, .int v2_d, .int v2_e, .int v2_f])), (h3, .inr (9, [.ref h4, .int v3_count])), (h4, .inl (cI, 1500, .inl f4)), (h5, .inr (3, [.ref g5_sheet, .ref g5_filler, .ref g5_path, .ref h6, .ref g5_nextTable, .ref g5_saved, .int v5_open, .int v5_place, .int v5_fills, .int v5_painted])), (h6, .inr (5, [.ref h7, .ref g6_clip, .int v6_colour, .int v6_way])), (h7, .inr (8, [.int v7_a, .int v7_b, .int v7_c, .int v7_d, .int v7_e, .int v7_f]))] H → va_D A [(h0, .inr (7, [.ref h3, .ref h5, .ref g0_clip, .ref h1, .ref h2, .int v0_lastFill, .int v0_openedBehind, .int v0_joinedAt])), (h1, .inr (8, [.int v1_a, .int v1_b, .int v1_c, .int v1_d, .int v1_e, .int v1_f])), (h2, .inr (8, [.int v2_a, .int v2_b, .int v2_c, .int v2_d, .int v2_e, .int v2_f])), (h3, .inr (9, [.ref h4, .int v3_count])), (h4, .inl (cI, 1500, .inl f4)), (h5, .inr (3, [.ref g5_sheet, .ref g5_filler, .ref g5_path, .ref h6, .ref g5_nextTable, .ref g5_saved, .int v5_open, .int v5_place, .int v5_fills, .int v5_painted])), (h6, .inr (5, [.ref h7, .ref g6_clip, .int v6_colour, .int v6_way])), (h7, .inr (8, [.int v7_a, .int v7_b, .int v7_c, .int v7_d, .int v7_e, .int v7_f]))] → va_S A s.heap H locs → W p l e (headSpec w_X8_isIdleTable rm_X8_isIdleTable).room s m ([.ref h0, .int p1, .int p2] : List Value).toArray below meth c H locs 0 0 (MQ below (QMz (res.1) (dC, dI) [(cI, .int), (cZ, .boolean), (cO, .object "ListPainter$Settings")] A [(h0, .inr (7, [.ref h3, .ref h5, .ref g0_clip, .ref h1, .ref h2, .int v0_lastFill, .int v0_openedBehind, .int v0_joinedAt])), (h1, .inr (8, [.int (res.2.1), .int (res.2.2.1), .int (res.2.2.2.1), .int (res.2.2.2.2.1), .int (res.2.2.2.2.2.1), .int (res.2.2.2.2.2.2.1)])), (h2, .inr (8, [.int (res.2.2.2.2.2.2.2.1), .int (res.2.2.2.2.2.2.2.2.1), .int (res.2.2.2.2.2.2.2.2.2.1), .int (res.2.2.2.2.2.2.2.2.2.2.1), .int (res.2.2.2.2.2.2.2.2.2.2.2.1), .int (res.2.2.2.2.2.2.2.2.2.2.2.2)])), (h3, .inr (9, [.ref h4, .int v3_count])), (h4, .inl (cI, 1500, .inl f4)), (h5, .inr (3, [.ref g5_sheet, .ref g5_filler, .ref g5_path, .ref h6, .ref g5_nextTable, .ref g5_saved, .int v5_open, .int v5_place, .int v5_fills, .int v5_painted])), (h6, .inr (5, [.ref h7, .ref g6_clip, .int v6_colour, .int v6_way])), (h7, .inr (8, [.int v7_a, .int v7_b, .int v7_c, .int v7_d, .int v7_e, .int v7_f]))]) ([.ref h0, .int p1, .int p2] : List Value).toArray s 0 0 A) (F0 m 0 ls []) from hgo _ _ hP hD hS
  intro H locs hP hD hS
  refine lv_iload_n hx hb dX8_isIdleTable_0 rfl (lv_at hl 2 rfl) ?_
  refine lv_bipush (v := 12) hx hb dX8_isIdleTable_1 (by decide) ?_
  obtain ⟨K14_1, eK14_1, hM⟩ := jn_u hM
  have hJ14_1 : ∀ (H : Heap) (locs : List Loc) (ls : Array Slot), va_P (dC, dI) vwCl [(h0, .inr (7, [.ref h3, .ref h5, .ref g0_clip, .ref h1, .ref h2, .int v0_lastFill, .int v0_openedBehind, .int v0_joinedAt])), (h1, .inr (8, [.int v1_a, .int v1_b, .int v1_c, .int v1_d, .int v1_e, .int v1_f])), (h2, .inr (8, [.int v2_a, .int v2_b, .int v2_c, .int v2_d, .int v2_e, .int v2_f])), (h3, .inr (9, [.ref h4, .int v3_count])), (h4, .inl (cI, 1500, .inl f4)), (h5, .inr (3, [.ref g5_sheet, .ref g5_filler, .ref g5_path, .ref h6, .ref g5_nextTable, .ref g5_saved, .int v5_open, .int v5_place, .int v5_fills, .int v5_painted])), (h6, .inr (5, [.ref h7, .ref g6_clip, .int v6_colour, .int v6_way])), (h7, .inr (8, [.int v7_a, .int v7_b, .int v7_c, .int v7_d, .int v7_e, .int v7_f]))] H → va_D A [(h0, .inr (7, [.ref h3, .ref h5, .ref g0_clip, .ref h1, .ref h2, .int v0_lastFill, .int v0_openedBehind, .int v0_joinedAt])), (h1, .inr (8, [.int v1_a, .int v1_b, .int v1_c, .int v1_d, .int v1_e, .int v1_f])), (h2, .inr (8, [.int v2_a, .int v2_b, .int v2_c, .int v2_d, .int v2_e, .int v2_f])), (h3, .inr (9, [.ref h4, .int v3_count])), (h4, .inl (cI, 1500, .inl f4)), (h5, .inr (3, [.ref g5_sheet, .ref g5_filler, .ref g5_path, .ref h6, .ref g5_nextTable, .ref g5_saved, .int v5_open, .int v5_place, .int v5_fills, .int v5_painted])), (h6, .inr (5, [.ref h7, .ref g6_clip, .int v6_colour, .int v6_way])), (h7, .inr (8, [.int v7_a, .int v7_b, .int v7_c, .int v7_d, .int v7_e, .int v7_f]))] → va_S A s.heap H locs → lv_has ls 3 [(0, .ref h0), (1, .int p1), (2, .int p2)] → K14_1 = some res → W p l e (headSpec w_X8_isIdleTable rm_X8_isIdleTable).room s m ([.ref h0, .int p1, .int p2] : List Value).toArray below meth c H locs 0 0 (MQ below (QMz (res.1) (dC, dI) [(cI, .int), (cZ, .boolean), (cO, .object "ListPainter$Settings")] A [(h0, .inr (7, [.ref h3, .ref h5, .ref g0_clip, .ref h1, .ref h2, .int v0_lastFill, .int v0_openedBehind, .int v0_joinedAt])), (h1, .inr (8, [.int (res.2.1), .int (res.2.2.1), .int (res.2.2.2.1), .int (res.2.2.2.2.1), .int (res.2.2.2.2.2.1), .int (res.2.2.2.2.2.2.1)])), (h2, .inr (8, [.int (res.2.2.2.2.2.2.2.1), .int (res.2.2.2.2.2.2.2.2.1), .int (res.2.2.2.2.2.2.2.2.2.1), .int (res.2.2.2.2.2.2.2.2.2.2.1), .int (res.2.2.2.2.2.2.2.2.2.2.2.1), .int (res.2.2.2.2.2.2.2.2.2.2.2.2)])), (h3, .inr (9, [.ref h4, .int v3_count])), (h4, .inl (cI, 1500, .inl f4)), (h5, .inr (3, [.ref g5_sheet, .ref g5_filler, .ref g5_path, .ref h6, .ref g5_nextTable, .ref g5_saved, .int v5_open, .int v5_place, .int v5_fills, .int v5_painted])), (h6, .inr (5, [.ref h7, .ref g6_clip, .int v6_colour, .int v6_way])), (h7, .inr (8, [.int v7_a, .int v7_b, .int v7_c, .int v7_d, .int v7_e, .int v7_f]))]) ([.ref h0, .int p1, .int p2] : List Value).toArray s 0 0 A) (F0 m 14 ls []) := by
    intro H locs ls hP hD hS hl hM
    have hM := ja0 eK14_1 hM
    refine lv_aload_n hx hb dX8_isIdleTable_14 rfl (lv_at hl 0 rfl) ?_
    refine va_get (D := (dC, dI)) (ci := 7) (v := .ref h1) (C := RX8) (T := TX8) (N := 8) hx hb hu inX8 hown hK hP 0 rfl rfl 3 (by decide) (hu _ kw_601) (fun _ h9 => h9) rfl dX8_isIdleTable_15 ?_
    obtain ⟨v1_2, v1_3, v1_4, v1_5, v1_6, v1_7, hm_8, hM⟩ := bd6_u hM
    refine cVv (As := []) (rest := []) ⟨hx, hb, hml, hown, hu⟩ (c_X9_becomePlain l dC dI cI cZ cO tL H.size h1 v1_a v1_b v1_c v1_d v1_e v1_f (v1_2, v1_3, v1_4, v1_5, v1_6, v1_7) hm_8) (cwV 0 hu (gV kw_602 kw_90 kw_91 kw_39 kw_92) rfl rfl rfl (by decide +kernel) ⟨Nat.le_of_ble_eq_true rfl, Nat.le_of_ble_eq_true rfl⟩) hP hD hS hA hK hG [1] (by decide) rfl [none, some 0, none, none, none, none, none, none] 1 rfl (by decide +kernel) rfl 8 1 rfl rfl rfl rfl hl.1 rfl (Nat.le_of_ble_eq_true rfl) dX8_isIdleTable_18 (Nat.zero_le _) (Nat.zero_le _) (fun H locs hP hD hS => ?_)
    have hP : va_P (dC, dI) vwCl [(h0, .inr (7, [.ref h3, .ref h5, .ref g0_clip, .ref h1, .ref h2, .int v0_lastFill, .int v0_openedBehind, .int v0_joinedAt])), (h1, .inr (8, [.int v1_2, .int v1_3, .int v1_4, .int v1_5, .int v1_6, .int v1_7])), (h2, .inr (8, [.int v2_a, .int v2_b, .int v2_c, .int v2_d, .int v2_e, .int v2_f])), (h3, .inr (9, [.ref h4, .int v3_count])), (h4, .inl (cI, 1500, .inl f4)), (h5, .inr (3, [.ref g5_sheet, .ref g5_filler, .ref g5_path, .ref h6, .ref g5_nextTable, .ref g5_saved, .int v5_open, .int v5_place, .int v5_fills, .int v5_painted])), (h6, .inr (5, [.ref h7, .ref g6_clip, .int v6_colour, .int v6_way])), (h7, .inr (8, [.int v7_a, .int v7_b, .int v7_c, .int v7_d, .int v7_e, .int v7_f]))] H := hP
    have hD : va_D A [(h0, .inr (7, [.ref h3, .ref h5, .ref g0_clip, .ref h1, .ref h2, .int v0_lastFill, .int v0_openedBehind, .int v0_joinedAt])), (h1, .inr (8, [.int v1_2, .int v1_3, .int v1_4, .int v1_5, .int v1_6, .int v1_7])), (h2, .inr (8, [.int v2_a, .int v2_b, .int v2_c, .int v2_d, .int v2_e, .int v2_f])), (h3, .inr (9, [.ref h4, .int v3_count])), (h4, .inl (cI, 1500, .inl f4)), (h5, .inr (3, [.ref g5_sheet, .ref g5_filler, .ref g5_path, .ref h6, .ref g5_nextTable, .ref g5_saved, .int v5_open, .int v5_place, .int v5_fills, .int v5_painted])), (h6, .inr (5, [.ref h7, .ref g6_clip, .int v6_colour, .int v6_way])), (h7, .inr (8, [.int v7_a, .int v7_b, .int v7_c, .int v7_d, .int v7_e, .int v7_f]))] := hD
    refine lv_iload_n hx hb dX8_isIdleTable_21 rfl (lv_at hl 2 rfl) ?_
    refine lv_bipush (v := 12) hx hb dX8_isIdleTable_22 (by decide) ?_
    obtain ⟨K67_21, eK67_21, hM⟩ := jn_u hM
    have hJ67_21 : ∀ (v1_9 : Int32) (v1_10 : Int32) (v1_11 : Int32) (v1_12 : Int32) (v1_13 : Int32) (v1_14 : Int32) (v2_15 : Int32) (v2_16 : Int32) (v2_17 : Int32) (v2_18 : Int32) (v2_19 : Int32) (v2_20 : Int32) , ∀ (H : Heap) (locs : List Loc) (ls : Array Slot), va_P (dC, dI) vwCl [(h0, .inr (7, [.ref h3, .ref h5, .ref g0_clip, .ref h1, .ref h2, .int v0_lastFill, .int v0_openedBehind, .int v0_joinedAt])), (h1, .inr (8, [.int v1_9, .int v1_10, .int v1_11, .int v1_12, .int v1_13, .int v1_14])), (h2, .inr (8, [.int v2_15, .int v2_16, .int v2_17, .int v2_18, .int v2_19, .int v2_20])), (h3, .inr (9, [.ref h4, .int v3_count])), (h4, .inl (cI, 1500, .inl f4)), (h5, .inr (3, [.ref g5_sheet, .ref g5_filler, .ref g5_path, .ref h6, .ref g5_nextTable, .ref g5_saved, .int v5_open, .int v5_place, .int v5_fills, .int v5_painted])), (h6, .inr (5, [.ref h7, .ref g6_clip, .int v6_colour, .int v6_way])), (h7, .inr (8, [.int v7_a, .int v7_b, .int v7_c, .int v7_d, .int v7_e, .int v7_f]))] H → va_D A [(h0, .inr (7, [.ref h3, .ref h5, .ref g0_clip, .ref h1, .ref h2, .int v0_lastFill, .int v0_openedBehind, .int v0_joinedAt])), (h1, .inr (8, [.int v1_9, .int v1_10, .int v1_11, .int v1_12, .int v1_13, .int v1_14])), (h2, .inr (8, [.int v2_15, .int v2_16, .int v2_17, .int v2_18, .int v2_19, .int v2_20])), (h3, .inr (9, [.ref h4, .int v3_count])), (h4, .inl (cI, 1500, .inl f4)), (h5, .inr (3, [.ref g5_sheet, .ref g5_filler, .ref g5_path, .ref h6, .ref g5_nextTable, .ref g5_saved, .int v5_open, .int v5_place, .int v5_fills, .int v5_painted])), (h6, .inr (5, [.ref h7, .ref g6_clip, .int v6_colour, .int v6_way])), (h7, .inr (8, [.int v7_a, .int v7_b, .int v7_c, .int v7_d, .int v7_e, .int v7_f]))] → va_S A s.heap H locs → lv_has ls 3 [(0, .ref h0)] → K67_21 v1_9 v1_10 v1_11 v1_12 v1_13 v1_14 v2_15 v2_16 v2_17 v2_18 v2_19 v2_20 = some res → W p l e (headSpec w_X8_isIdleTable rm_X8_isIdleTable).room s m ([.ref h0, .int p1, .int p2] : List Value).toArray below meth c H locs 0 0 (MQ below (QMz (res.1) (dC, dI) [(cI, .int), (cZ, .boolean), (cO, .object "ListPainter$Settings")] A [(h0, .inr (7, [.ref h3, .ref h5, .ref g0_clip, .ref h1, .ref h2, .int v0_lastFill, .int v0_openedBehind, .int v0_joinedAt])), (h1, .inr (8, [.int (res.2.1), .int (res.2.2.1), .int (res.2.2.2.1), .int (res.2.2.2.2.1), .int (res.2.2.2.2.2.1), .int (res.2.2.2.2.2.2.1)])), (h2, .inr (8, [.int (res.2.2.2.2.2.2.2.1), .int (res.2.2.2.2.2.2.2.2.1), .int (res.2.2.2.2.2.2.2.2.2.1), .int (res.2.2.2.2.2.2.2.2.2.2.1), .int (res.2.2.2.2.2.2.2.2.2.2.2.1), .int (res.2.2.2.2.2.2.2.2.2.2.2.2)])), (h3, .inr (9, [.ref h4, .int v3_count])), (h4, .inl (cI, 1500, .inl f4)), (h5, .inr (3, [.ref g5_sheet, .ref g5_filler, .ref g5_path, .ref h6, .ref g5_nextTable, .ref g5_saved, .int v5_open, .int v5_place, .int v5_fills, .int v5_painted])), (h6, .inr (5, [.ref h7, .ref g6_clip, .int v6_colour, .int v6_way])), (h7, .inr (8, [.int v7_a, .int v7_b, .int v7_c, .int v7_d, .int v7_e, .int v7_f]))]) ([.ref h0, .int p1, .int p2] : List Value).toArray s 0 0 A) (F0 m 67 ls []) := by
      intro v1_9 v1_10 v1_11 v1_12 v1_13 v1_14 v2_15 v2_16 v2_17 v2_18 v2_19 v2_20 H locs ls hP hD hS hl hM
      have hM := ja12 eK67_21 hM
      refine lv_aload_n hx hb dX8_isIdleTable_67 rfl (lv_at hl 0 rfl) ?_
      refine va_get (D := (dC, dI)) (ci := 7) (v := .ref h1) (C := RX8) (T := TX8) (N := 8) hx hb hu inX8 hown hK hP 0 rfl rfl 3 (by decide) (hu _ kw_601) (fun _ h9 => h9) rfl dX8_isIdleTable_68 ?_
      refine lv_aload_n hx hb dX8_isIdleTable_71 rfl (lv_at hl 0 rfl) ?_
      refine va_get (D := (dC, dI)) (ci := 7) (v := .ref h5) (C := RX8) (T := TX8) (N := 8) hx hb hu inX8 hown hK hP 0 rfl rfl 1 (by decide) (hu _ kw_589) (fun _ h9 => h9) rfl dX8_isIdleTable_72 ?_
      refine va_getN (D := (dC, dI)) (ci := 3) (v := .ref h6) (C := RX3) (T := TX3) (N := 10) hx hb hu inX3 hown hK hP 5 rfl rfl 3 (by decide) (gX_nest hG 260 kw_590 rfl) (fun _ h9 => h9) rfl dX8_isIdleTable_75 ?_
      refine va_getN (D := (dC, dI)) (ci := 5) (v := .ref h7) (C := RX6) (T := TX6) (N := 4) hx hb hu inX6 hown hK hP 6 rfl rfl 0 (by decide) (gX_nest hG 230 kw_603 rfl) (fun _ h9 => h9) rfl dX8_isIdleTable_78 ?_
      obtain ⟨r_22, hm_23, hM⟩ := bd1_u hM
      refine cVz (r := r_22) (As := [.ref h7]) (rest := []) ⟨hx, hb, hml, hown, hu⟩ (c_X9_isSameAs l dC dI cI cZ cO tL H.size h1 h7 v1_9 v1_10 v1_11 v1_12 v1_13 v1_14 v7_a v7_b v7_c v7_d v7_e v7_f r_22 hm_23) (cwV 1 hu (gV kw_604 kw_605 kw_606 kw_39 kw_607) rfl rfl rfl (by decide +kernel) ⟨Nat.le_of_ble_eq_true rfl, Nat.le_of_ble_eq_true rfl⟩) hP hD hS hA hK hG [1, 7] (by decide) rfl [none, some 0, none, none, none, none, none, some 1] 2 rfl (by decide +kernel) rfl 8 1 rfl rfl rfl rfl hl.1 rfl (Nat.le_of_ble_eq_true rfl) dX8_isIdleTable_81 (Nat.zero_le _) (Nat.zero_le _) (fun H locs hz_r_22 hP hD hS => ?_)
      have hP : va_P (dC, dI) vwCl [(h0, .inr (7, [.ref h3, .ref h5, .ref g0_clip, .ref h1, .ref h2, .int v0_lastFill, .int v0_openedBehind, .int v0_joinedAt])), (h1, .inr (8, [.int v1_9, .int v1_10, .int v1_11, .int v1_12, .int v1_13, .int v1_14])), (h2, .inr (8, [.int v2_15, .int v2_16, .int v2_17, .int v2_18, .int v2_19, .int v2_20])), (h3, .inr (9, [.ref h4, .int v3_count])), (h4, .inl (cI, 1500, .inl f4)), (h5, .inr (3, [.ref g5_sheet, .ref g5_filler, .ref g5_path, .ref h6, .ref g5_nextTable, .ref g5_saved, .int v5_open, .int v5_place, .int v5_fills, .int v5_painted])), (h6, .inr (5, [.ref h7, .ref g6_clip, .int v6_colour, .int v6_way])), (h7, .inr (8, [.int v7_a, .int v7_b, .int v7_c, .int v7_d, .int v7_e, .int v7_f]))] H := hP
      have hD : va_D A [(h0, .inr (7, [.ref h3, .ref h5, .ref g0_clip, .ref h1, .ref h2, .int v0_lastFill, .int v0_openedBehind, .int v0_joinedAt])), (h1, .inr (8, [.int v1_9, .int v1_10, .int v1_11, .int v1_12, .int v1_13, .int v1_14])), (h2, .inr (8, [.int v2_15, .int v2_16, .int v2_17, .int v2_18, .int v2_19, .int v2_20])), (h3, .inr (9, [.ref h4, .int v3_count])), (h4, .inl (cI, 1500, .inl f4)), (h5, .inr (3, [.ref g5_sheet, .ref g5_filler, .ref g5_path, .ref h6, .ref g5_nextTable, .ref g5_saved, .int v5_open, .int v5_place, .int v5_fills, .int v5_painted])), (h6, .inr (5, [.ref h7, .ref g6_clip, .int v6_colour, .int v6_way])), (h7, .inr (8, [.int v7_a, .int v7_b, .int v7_c, .int v7_d, .int v7_e, .int v7_f]))] := hD
      have h9 := Option.some.inj hM
      subst h9
      exact W.zret (v := r_22) hx hb hr (zb_n hz_r_22) (fun t ht hW => QMz_mk hz_r_22 (by rw [ht]; exact hP) (va_K.moved hW.alike hK) hD (hS.F ht)) hS.2.2 dX8_isIdleTable_84
    refine lv_icmp_ne (tgt := 67) hx hb dX8_isIdleTable_24 (by decide) (fun c_24 => ?_) (fun c_24 => ?_)
    · have hM := if_f c_24 hM
      exact hJ67_21 v1_2 v1_3 v1_4 v1_5 v1_6 v1_7 v2_a v2_b v2_c v2_d v2_e v2_f H locs ls hP hD hS (lv_sub hl [0] rfl) hM
    · have hM := if_t c_24 hM
      refine lv_aload_n hx hb dX8_isIdleTable_27 rfl (lv_at hl 0 rfl) ?_
      refine va_get (D := (dC, dI)) (ci := 7) (v := .ref h2) (C := RX8) (T := TX8) (N := 8) hx hb hu inX8 hown hK hP 0 rfl rfl 4 (by decide) (hu _ kw_608) (fun _ h9 => h9) rfl dX8_isIdleTable_28 ?_
      refine lv_aload_n hx hb dX8_isIdleTable_31 rfl (lv_at hl 0 rfl) ?_
      refine va_get (D := (dC, dI)) (ci := 7) (v := .ref h3) (C := RX8) (T := TX8) (N := 8) hx hb hu inX8 hown hK hP 0 rfl rfl 0 (by decide) (hu _ kw_583) (fun _ h9 => h9) rfl dX8_isIdleTable_32 ?_
      refine lv_iload_n hx hb dX8_isIdleTable_35 rfl (lv_at hl 1 rfl) ?_
      obtain ⟨v2_25, v2_26, v2_27, v2_28, v2_29, v2_30, hm_31, hM⟩ := bd6_u hM
      refine cVv (As := [.ref h3, .int p1]) (rest := []) ⟨hx, hb, hml, hown, hu⟩ (c_X9_readFrom l dC dI cI cZ cO tL H.size h3 h4 h2 v3_count f4 v2_a v2_b v2_c v2_d v2_e v2_f p1 (v2_25, v2_26, v2_27, v2_28, v2_29, v2_30) hm_31) (cwV 2 hu (gV kw_609 kw_550 kw_551 kw_39 kw_552) rfl rfl rfl (by decide +kernel) ⟨Nat.le_of_ble_eq_true rfl, Nat.le_of_ble_eq_true rfl⟩) hP hD hS hA hK hG [3, 4, 2] (by decide) rfl [none, none, some 2, some 0, some 1, none, none, none] 3 rfl (by decide +kernel) rfl 8 2 rfl rfl rfl rfl hl.1 rfl (Nat.le_of_ble_eq_true rfl) dX8_isIdleTable_36 (Nat.zero_le _) (Nat.zero_le _) (fun H locs hP hD hS => ?_)
      have hP : va_P (dC, dI) vwCl [(h0, .inr (7, [.ref h3, .ref h5, .ref g0_clip, .ref h1, .ref h2, .int v0_lastFill, .int v0_openedBehind, .int v0_joinedAt])), (h1, .inr (8, [.int v1_2, .int v1_3, .int v1_4, .int v1_5, .int v1_6, .int v1_7])), (h2, .inr (8, [.int v2_25, .int v2_26, .int v2_27, .int v2_28, .int v2_29, .int v2_30])), (h3, .inr (9, [.ref h4, .int v3_count])), (h4, .inl (cI, 1500, .inl f4)), (h5, .inr (3, [.ref g5_sheet, .ref g5_filler, .ref g5_path, .ref h6, .ref g5_nextTable, .ref g5_saved, .int v5_open, .int v5_place, .int v5_fills, .int v5_painted])), (h6, .inr (5, [.ref h7, .ref g6_clip, .int v6_colour, .int v6_way])), (h7, .inr (8, [.int v7_a, .int v7_b, .int v7_c, .int v7_d, .int v7_e, .int v7_f]))] H := hP
      have hD : va_D A [(h0, .inr (7, [.ref h3, .ref h5, .ref g0_clip, .ref h1, .ref h2, .int v0_lastFill, .int v0_openedBehind, .int v0_joinedAt])), (h1, .inr (8, [.int v1_2, .int v1_3, .int v1_4, .int v1_5, .int v1_6, .int v1_7])), (h2, .inr (8, [.int v2_25, .int v2_26, .int v2_27, .int v2_28, .int v2_29, .int v2_30])), (h3, .inr (9, [.ref h4, .int v3_count])), (h4, .inl (cI, 1500, .inl f4)), (h5, .inr (3, [.ref g5_sheet, .ref g5_filler, .ref g5_path, .ref h6, .ref g5_nextTable, .ref g5_saved, .int v5_open, .int v5_place, .int v5_fills, .int v5_painted])), (h6, .inr (5, [.ref h7, .ref g6_clip, .int v6_colour, .int v6_way])), (h7, .inr (8, [.int v7_a, .int v7_b, .int v7_c, .int v7_d, .int v7_e, .int v7_f]))] := hD
      refine lv_aload_n hx hb dX8_isIdleTable_39 rfl (lv_at hl 0 rfl) ?_
      refine va_get (D := (dC, dI)) (ci := 7) (v := .ref h1) (C := RX8) (T := TX8) (N := 8) hx hb hu inX8 hown hK hP 0 rfl rfl 3 (by decide) (hu _ kw_601) (fun _ h9 => h9) rfl dX8_isIdleTable_40 ?_
      refine lv_aload_n hx hb dX8_isIdleTable_43 rfl (lv_at hl 0 rfl) ?_
      refine va_get (D := (dC, dI)) (ci := 7) (v := .ref h5) (C := RX8) (T := TX8) (N := 8) hx hb hu inX8 hown hK hP 0 rfl rfl 1 (by decide) (hu _ kw_589) (fun _ h9 => h9) rfl dX8_isIdleTable_44 ?_
      refine va_getN (D := (dC, dI)) (ci := 3) (v := .ref h6) (C := RX3) (T := TX3) (N := 10) hx hb hu inX3 hown hK hP 5 rfl rfl 3 (by decide) (gX_nest hG 260 kw_590 rfl) (fun _ h9 => h9) rfl dX8_isIdleTable_47 ?_
      refine va_getN (D := (dC, dI)) (ci := 5) (v := .ref h7) (C := RX6) (T := TX6) (N := 4) hx hb hu inX6 hown hK hP 6 rfl rfl 0 (by decide) (gX_nest hG 230 kw_603 rfl) (fun _ h9 => h9) rfl dX8_isIdleTable_50 ?_
      obtain ⟨v1_32, v1_33, v1_34, v1_35, v1_36, v1_37, hm_38, hM⟩ := bd6_u hM
      refine cVv (As := [.ref h7]) (rest := []) ⟨hx, hb, hml, hown, hu⟩ (c_X9_copyFrom l dC dI cI cZ cO tL H.size h7 h1 v7_a v7_b v7_c v7_d v7_e v7_f v1_2 v1_3 v1_4 v1_5 v1_6 v1_7 (v1_32, v1_33, v1_34, v1_35, v1_36, v1_37) hm_38) (cwV 1 hu (gV kw_610 kw_101 kw_102 kw_39 kw_103) rfl rfl rfl (by decide +kernel) ⟨Nat.le_of_ble_eq_true rfl, Nat.le_of_ble_eq_true rfl⟩) hP hD hS hA hK hG [7, 1] (by decide) rfl [none, some 1, none, none, none, none, none, some 0] 2 rfl (by decide +kernel) rfl 8 1 rfl rfl rfl rfl hl.1 rfl (Nat.le_of_ble_eq_true rfl) dX8_isIdleTable_53 (Nat.zero_le _) (Nat.zero_le _) (fun H locs hP hD hS => ?_)
      have hP : va_P (dC, dI) vwCl [(h0, .inr (7, [.ref h3, .ref h5, .ref g0_clip, .ref h1, .ref h2, .int v0_lastFill, .int v0_openedBehind, .int v0_joinedAt])), (h1, .inr (8, [.int v1_32, .int v1_33, .int v1_34, .int v1_35, .int v1_36, .int v1_37])), (h2, .inr (8, [.int v2_25, .int v2_26, .int v2_27, .int v2_28, .int v2_29, .int v2_30])), (h3, .inr (9, [.ref h4, .int v3_count])), (h4, .inl (cI, 1500, .inl f4)), (h5, .inr (3, [.ref g5_sheet, .ref g5_filler, .ref g5_path, .ref h6, .ref g5_nextTable, .ref g5_saved, .int v5_open, .int v5_place, .int v5_fills, .int v5_painted])), (h6, .inr (5, [.ref h7, .ref g6_clip, .int v6_colour, .int v6_way])), (h7, .inr (8, [.int v7_a, .int v7_b, .int v7_c, .int v7_d, .int v7_e, .int v7_f]))] H := hP
      have hD : va_D A [(h0, .inr (7, [.ref h3, .ref h5, .ref g0_clip, .ref h1, .ref h2, .int v0_lastFill, .int v0_openedBehind, .int v0_joinedAt])), (h1, .inr (8, [.int v1_32, .int v1_33, .int v1_34, .int v1_35, .int v1_36, .int v1_37])), (h2, .inr (8, [.int v2_25, .int v2_26, .int v2_27, .int v2_28, .int v2_29, .int v2_30])), (h3, .inr (9, [.ref h4, .int v3_count])), (h4, .inl (cI, 1500, .inl f4)), (h5, .inr (3, [.ref g5_sheet, .ref g5_filler, .ref g5_path, .ref h6, .ref g5_nextTable, .ref g5_saved, .int v5_open, .int v5_place, .int v5_fills, .int v5_painted])), (h6, .inr (5, [.ref h7, .ref g6_clip, .int v6_colour, .int v6_way])), (h7, .inr (8, [.int v7_a, .int v7_b, .int v7_c, .int v7_d, .int v7_e, .int v7_f]))] := hD
      refine lv_aload_n hx hb dX8_isIdleTable_56 rfl (lv_at hl 0 rfl) ?_
      refine va_get (D := (dC, dI)) (ci := 7) (v := .ref h1) (C := RX8) (T := TX8) (N := 8) hx hb hu inX8 hown hK hP 0 rfl rfl 3 (by decide) (hu _ kw_601) (fun _ h9 => h9) rfl dX8_isIdleTable_57 ?_
      refine lv_aload_n hx hb dX8_isIdleTable_60 rfl (lv_at hl 0 rfl) ?_
      refine va_get (D := (dC, dI)) (ci := 7) (v := .ref h2) (C := RX8) (T := TX8) (N := 8) hx hb hu inX8 hown hK hP 0 rfl rfl 4 (by decide) (hu _ kw_608) (fun _ h9 => h9) rfl dX8_isIdleTable_61 ?_
      obtain ⟨v1_39, v1_40, v1_41, v1_42, v1_43, v1_44, hm_45, hM⟩ := bd6_u hM
      refine cVv (As := [.ref h2]) (rest := []) ⟨hx, hb, hml, hown, hu⟩ (c_X9_goBehind l dC dI cI cZ cO tL H.size h1 h2 v1_32 v1_33 v1_34 v1_35 v1_36 v1_37 v2_25 v2_26 v2_27 v2_28 v2_29 v2_30 (v1_39, v1_40, v1_41, v1_42, v1_43, v1_44) hm_45) (cwV 1 hu (gV kw_611 kw_554 kw_555 kw_39 kw_556) rfl rfl rfl (by decide +kernel) ⟨Nat.le_of_ble_eq_true rfl, Nat.le_of_ble_eq_true rfl⟩) hP hD hS hA hK hG [1, 2] (by decide) rfl [none, some 0, some 1, none, none, none, none, none] 2 rfl (by decide +kernel) rfl 8 1 rfl rfl rfl rfl hl.1 rfl (Nat.le_of_ble_eq_true rfl) dX8_isIdleTable_64 (Nat.zero_le _) (Nat.zero_le _) (fun H locs hP hD hS => ?_)
      have hP : va_P (dC, dI) vwCl [(h0, .inr (7, [.ref h3, .ref h5, .ref g0_clip, .ref h1, .ref h2, .int v0_lastFill, .int v0_openedBehind, .int v0_joinedAt])), (h1, .inr (8, [.int v1_39, .int v1_40, .int v1_41, .int v1_42, .int v1_43, .int v1_44])), (h2, .inr (8, [.int v2_25, .int v2_26, .int v2_27, .int v2_28, .int v2_29, .int v2_30])), (h3, .inr (9, [.ref h4, .int v3_count])), (h4, .inl (cI, 1500, .inl f4)), (h5, .inr (3, [.ref g5_sheet, .ref g5_filler, .ref g5_path, .ref h6, .ref g5_nextTable, .ref g5_saved, .int v5_open, .int v5_place, .int v5_fills, .int v5_painted])), (h6, .inr (5, [.ref h7, .ref g6_clip, .int v6_colour, .int v6_way])), (h7, .inr (8, [.int v7_a, .int v7_b, .int v7_c, .int v7_d, .int v7_e, .int v7_f]))] H := hP
      have hD : va_D A [(h0, .inr (7, [.ref h3, .ref h5, .ref g0_clip, .ref h1, .ref h2, .int v0_lastFill, .int v0_openedBehind, .int v0_joinedAt])), (h1, .inr (8, [.int v1_39, .int v1_40, .int v1_41, .int v1_42, .int v1_43, .int v1_44])), (h2, .inr (8, [.int v2_25, .int v2_26, .int v2_27, .int v2_28, .int v2_29, .int v2_30])), (h3, .inr (9, [.ref h4, .int v3_count])), (h4, .inl (cI, 1500, .inl f4)), (h5, .inr (3, [.ref g5_sheet, .ref g5_filler, .ref g5_path, .ref h6, .ref g5_nextTable, .ref g5_saved, .int v5_open, .int v5_place, .int v5_fills, .int v5_painted])), (h6, .inr (5, [.ref h7, .ref g6_clip, .int v6_colour, .int v6_way])), (h7, .inr (8, [.int v7_a, .int v7_b, .int v7_c, .int v7_d, .int v7_e, .int v7_f]))] := hD
      exact hJ67_21 v1_39 v1_40 v1_41 v1_42 v1_43 v1_44 v2_25 v2_26 v2_27 v2_28 v2_29 v2_30 H locs ls hP hD hS (lv_sub hl [0] rfl) hM
  refine lv_icmp_eq (tgt := 14) hx hb dX8_isIdleTable_3 (by decide) (fun c_46 => ?_) (fun c_46 => ?_)
  · have hM := if_t c_46 hM
    exact hJ14_1  H locs ls hP hD hS (lv_sub hl [0, 1, 2] rfl) hM
  · have hM := if_f c_46 hM
    refine lv_iload_n hx hb dX8_isIdleTable_6 rfl (lv_at hl 2 rfl) ?_
    refine lv_bipush (v := 14) hx hb dX8_isIdleTable_7 (by decide) ?_
    refine lv_icmp_eq (tgt := 14) hx hb dX8_isIdleTable_9 (by decide) (fun c_47 => ?_) (fun c_47 => ?_)
    · have hM := if_t c_47 hM
      exact hJ14_1  H locs ls hP hD hS (lv_sub hl [0, 1, 2] rfl) hM
    · have hM := if_f c_47 hM
      refine lv_iconst (v := 0) hx hb dX8_isIdleTable_12 (by decide) ?_
      have h9 := Option.some.inj hM
      subst h9
      exact W.zret (v := 0) hx hb hr (zb_n (Or.inl rfl)) (fun t ht hW => QMz_mk (Or.inl rfl) (by rw [ht]; exact hP) (va_K.moved hW.alike hK) hD (hS.F ht)) hS.2.2 dX8_isIdleTable_13
theorem dX8_joinsNext_0 : decode cX8_joinsNext 0 = .ok (.iload_n 1, 1) := by decide +kernel
theorem dX8_joinsNext_1 : decode cX8_joinsNext 1 = .ok (.aload_n 0, 1) := by decide +kernel
theorem dX8_joinsNext_2 : decode cX8_joinsNext 2 = .ok (.getfield 28, 3) := by decide +kernel
theorem dX8_joinsNext_5 : decode cX8_joinsNext 5 = .ok (.iload_n 1, 1) := by decide +kernel
theorem dX8_joinsNext_6 : decode cX8_joinsNext 6 = .ok (.invokevirtual 63, 3) := by decide +kernel
theorem dX8_joinsNext_9 : decode cX8_joinsNext 9 = .ok (.iadd, 1) := by decide +kernel
theorem dX8_joinsNext_10 : decode cX8_joinsNext 10 = .ok (.istore_n 3, 1) := by decide +kernel
theorem dX8_joinsNext_11 : decode cX8_joinsNext 11 = .ok (.iload_n 2, 1) := by decide +kernel
theorem dX8_joinsNext_12 : decode cX8_joinsNext 12 = .ok (.bipush 12, 2) := by decide +kernel
theorem dX8_joinsNext_14 : decode cX8_joinsNext 14 = .ok (.if_icmp .ne 16, 3) := by decide +kernel
theorem dX8_joinsNext_17 : decode cX8_joinsNext 17 = .ok (.aload_n 0, 1) := by decide +kernel
theorem dX8_joinsNext_18 : decode cX8_joinsNext 18 = .ok (.getfield 28, 3) := by decide +kernel
theorem dX8_joinsNext_21 : decode cX8_joinsNext 21 = .ok (.iload_n 3, 1) := by decide +kernel
theorem dX8_joinsNext_22 : decode cX8_joinsNext 22 = .ok (.invokevirtual 67, 3) := by decide +kernel
theorem dX8_joinsNext_25 : decode cX8_joinsNext 25 = .ok (.bipush 12, 2) := by decide +kernel
theorem dX8_joinsNext_27 : decode cX8_joinsNext 27 = .ok (.if_icmp .eq 5, 3) := by decide +kernel
theorem dX8_joinsNext_30 : decode cX8_joinsNext 30 = .ok (.iconst 0, 1) := by decide +kernel
theorem dX8_joinsNext_31 : decode cX8_joinsNext 31 = .ok (.ireturn, 1) := by decide +kernel
theorem dX8_joinsNext_32 : decode cX8_joinsNext 32 = .ok (.aload_n 0, 1) := by decide +kernel
theorem dX8_joinsNext_33 : decode cX8_joinsNext 33 = .ok (.getfield 21, 3) := by decide +kernel
theorem dX8_joinsNext_36 : decode cX8_joinsNext 36 = .ok (.aload_n 0, 1) := by decide +kernel
theorem dX8_joinsNext_37 : decode cX8_joinsNext 37 = .ok (.getfield 28, 3) := by decide +kernel
theorem dX8_joinsNext_40 : decode cX8_joinsNext 40 = .ok (.iload_n 1, 1) := by decide +kernel
theorem dX8_joinsNext_41 : decode cX8_joinsNext 41 = .ok (.invokevirtual 152, 3) := by decide +kernel
theorem dX8_joinsNext_44 : decode cX8_joinsNext 44 = .ok (.aload_n 0, 1) := by decide +kernel
theorem dX8_joinsNext_45 : decode cX8_joinsNext 45 = .ok (.getfield 25, 3) := by decide +kernel
theorem dX8_joinsNext_48 : decode cX8_joinsNext 48 = .ok (.aload_n 0, 1) := by decide +kernel
theorem dX8_joinsNext_49 : decode cX8_joinsNext 49 = .ok (.getfield 28, 3) := by decide +kernel
theorem dX8_joinsNext_52 : decode cX8_joinsNext 52 = .ok (.iload_n 3, 1) := by decide +kernel
theorem dX8_joinsNext_53 : decode cX8_joinsNext 53 = .ok (.invokevirtual 152, 3) := by decide +kernel
theorem dX8_joinsNext_56 : decode cX8_joinsNext 56 = .ok (.aload_n 0, 1) := by decide +kernel
theorem dX8_joinsNext_57 : decode cX8_joinsNext 57 = .ok (.getfield 21, 3) := by decide +kernel
theorem dX8_joinsNext_60 : decode cX8_joinsNext 60 = .ok (.invokevirtual 165, 3) := by decide +kernel
theorem dX8_joinsNext_63 : decode cX8_joinsNext 63 = .ok (.ifCond .eq 27, 3) := by decide +kernel
theorem dX8_joinsNext_66 : decode cX8_joinsNext 66 = .ok (.aload_n 0, 1) := by decide +kernel
theorem dX8_joinsNext_67 : decode cX8_joinsNext 67 = .ok (.getfield 25, 3) := by decide +kernel
theorem dX8_joinsNext_70 : decode cX8_joinsNext 70 = .ok (.invokevirtual 165, 3) := by decide +kernel
theorem dX8_joinsNext_73 : decode cX8_joinsNext 73 = .ok (.ifCond .eq 17, 3) := by decide +kernel
theorem dX8_joinsNext_76 : decode cX8_joinsNext 76 = .ok (.aload_n 0, 1) := by decide +kernel
theorem dX8_joinsNext_77 : decode cX8_joinsNext 77 = .ok (.getfield 21, 3) := by decide +kernel
theorem dX8_joinsNext_80 : decode cX8_joinsNext 80 = .ok (.aload_n 0, 1) := by decide +kernel
theorem dX8_joinsNext_81 : decode cX8_joinsNext 81 = .ok (.getfield 25, 3) := by decide +kernel
theorem dX8_joinsNext_84 : decode cX8_joinsNext 84 = .ok (.invokevirtual 168, 3) := by decide +kernel
theorem dX8_joinsNext_87 : decode cX8_joinsNext 87 = .ok (.ifCond .ne 5, 3) := by decide +kernel
theorem dX8_joinsNext_90 : decode cX8_joinsNext 90 = .ok (.iconst 0, 1) := by decide +kernel
theorem dX8_joinsNext_91 : decode cX8_joinsNext 91 = .ok (.ireturn, 1) := by decide +kernel
theorem dX8_joinsNext_92 : decode cX8_joinsNext 92 = .ok (.aload_n 0, 1) := by decide +kernel
theorem dX8_joinsNext_93 : decode cX8_joinsNext 93 = .ok (.getfield 21, 3) := by decide +kernel
theorem dX8_joinsNext_96 : decode cX8_joinsNext 96 = .ok (.aload_n 0, 1) := by decide +kernel
theorem dX8_joinsNext_97 : decode cX8_joinsNext 97 = .ok (.getfield 25, 3) := by decide +kernel
theorem dX8_joinsNext_100 : decode cX8_joinsNext 100 = .ok (.invokevirtual 159, 3) := by decide +kernel
theorem dX8_joinsNext_103 : decode cX8_joinsNext 103 = .ok (.aload_n 0, 1) := by decide +kernel
theorem dX8_joinsNext_104 : decode cX8_joinsNext 104 = .ok (.getfield 21, 3) := by decide +kernel
theorem dX8_joinsNext_107 : decode cX8_joinsNext 107 = .ok (.aload_n 0, 1) := by decide +kernel
theorem dX8_joinsNext_108 : decode cX8_joinsNext 108 = .ok (.getfield 28, 3) := by decide +kernel
theorem dX8_joinsNext_111 : decode cX8_joinsNext 111 = .ok (.iload_n 3, 1) := by decide +kernel
theorem dX8_joinsNext_112 : decode cX8_joinsNext 112 = .ok (.invokevirtual 171, 3) := by decide +kernel
theorem dX8_joinsNext_115 : decode cX8_joinsNext 115 = .ok (.aload_n 0, 1) := by decide +kernel
theorem dX8_joinsNext_116 : decode cX8_joinsNext 116 = .ok (.iload_n 3, 1) := by decide +kernel
theorem dX8_joinsNext_117 : decode cX8_joinsNext 117 = .ok (.putfield 60, 3) := by decide +kernel
theorem dX8_joinsNext_120 : decode cX8_joinsNext 120 = .ok (.iconst 1, 1) := by decide +kernel
theorem dX8_joinsNext_121 : decode cX8_joinsNext 121 = .ok (.ireturn, 1) := by decide +kernel
abbrev rm_X8_joinsNext : Room := { frames := 2, cells := 0, slots := 0, locals := 50 }
def w_X8_joinsNext : List Cond := Cond.code yX8_joinsNext cX8_joinsNext 4 (some .boolean) :: uw
set_option maxHeartbeats 4000000 in
set_option maxRecDepth 100000 in
theorem c_X8_joinsNext (l : Launch) (dC : Nat → ClassId) (dI : Nat → Nat → Nat) (cI cZ cO : ClassId) (tL sz : Nat) (h0 : Nat) (h1 : Nat) (h2 : Nat) (h3 : Nat) (h4 : Nat) (g0_machine : Nat) (g0_clip : Nat) (v0_lastFill : Int32) (v0_openedBehind : Int32) (v0_joinedAt : Int32) (v1_count : Int32) (f2 : Nat → Int32) (v3_a : Int32) (v3_b : Int32) (v3_c : Int32) (v3_d : Int32) (v3_e : Int32) (v3_f : Int32) (v4_a : Int32) (v4_b : Int32) (v4_c : Int32) (v4_d : Int32) (v4_e : Int32) (v4_f : Int32) (p1 : Int32) (p2 : Int32) (res : Int32 × Int32 × (Nat → Int32) × Int32 × Int32 × Int32 × Int32 × Int32 × Int32 × Int32 × Int32 × Int32 × Int32 × Int32 × Int32) (hM : m_X8_joinsNext v0_joinedAt v1_count f2 v3_a v3_b v3_c v3_d v3_e v3_f v4_a v4_b v4_c v4_d v4_e v4_f p1 p2 = some res) : Met l yX8_joinsNext w_X8_joinsNext rm_X8_joinsNext (PCx [.ref h0, .int p1, .int p2] (dC, dI) [(cI, .int), (cZ, .boolean), (cO, .object "ListPainter$Settings")] sz tL [(h0, .inr (7, [.ref h1, .ref g0_machine, .ref g0_clip, .ref h3, .ref h4, .int v0_lastFill, .int v0_openedBehind, .int v0_joinedAt])), (h1, .inr (9, [.ref h2, .int v1_count])), (h2, .inl (cI, 1500, .inl f2)), (h3, .inr (8, [.int v3_a, .int v3_b, .int v3_c, .int v3_d, .int v3_e, .int v3_f])), (h4, .inr (8, [.int v4_a, .int v4_b, .int v4_c, .int v4_d, .int v4_e, .int v4_f]))]) (QMz (res.1) (dC, dI) [(cI, .int), (cZ, .boolean), (cO, .object "ListPainter$Settings")] (va_A [(h0, .inr (7, [.ref h1, .ref g0_machine, .ref g0_clip, .ref h3, .ref h4, .int v0_lastFill, .int v0_openedBehind, .int v0_joinedAt])), (h1, .inr (9, [.ref h2, .int v1_count])), (h2, .inl (cI, 1500, .inl f2)), (h3, .inr (8, [.int v3_a, .int v3_b, .int v3_c, .int v3_d, .int v3_e, .int v3_f])), (h4, .inr (8, [.int v4_a, .int v4_b, .int v4_c, .int v4_d, .int v4_e, .int v4_f]))] sz) [(h0, .inr (7, [.ref h1, .ref g0_machine, .ref g0_clip, .ref h3, .ref h4, .int v0_lastFill, .int v0_openedBehind, .int (res.2.1)])), (h1, .inr (9, [.ref h2, .int v1_count])), (h2, .inl (cI, 1500, .inl (res.2.2.1))), (h3, .inr (8, [.int (res.2.2.2.1), .int (res.2.2.2.2.1), .int (res.2.2.2.2.2.1), .int (res.2.2.2.2.2.2.1), .int (res.2.2.2.2.2.2.2.1), .int (res.2.2.2.2.2.2.2.2.1)])), (h4, .inr (8, [.int (res.2.2.2.2.2.2.2.2.2.1), .int (res.2.2.2.2.2.2.2.2.2.2.1), .int (res.2.2.2.2.2.2.2.2.2.2.2.1), .int (res.2.2.2.2.2.2.2.2.2.2.2.2.1), .int (res.2.2.2.2.2.2.2.2.2.2.2.2.2.1), .int (res.2.2.2.2.2.2.2.2.2.2.2.2.2.2)]))]) 0 0 (va_A [(h0, .inr (7, [.ref h1, .ref g0_machine, .ref g0_clip, .ref h3, .ref h4, .int v0_lastFill, .int v0_openedBehind, .int v0_joinedAt])), (h1, .inr (9, [.ref h2, .int v1_count])), (h2, .inl (cI, 1500, .inl f2)), (h3, .inr (8, [.int v3_a, .int v3_b, .int v3_c, .int v3_d, .int v3_e, .int v3_f])), (h4, .inr (8, [.int v4_a, .int v4_b, .int v4_c, .int v4_d, .int v4_e, .int v4_f]))] sz) := by
  refine Met.ofW (cc := cX8_joinsNext) (maxL := 4) (ret := (some .boolean)) (by decide) rfl ?_
  intro p e s m args below meth c s₁ B hml hv
  obtain ⟨rfl, hsz, hP, hK, hD0, hG⟩ := hv
  have hx := B.exec
  have hb := B.bytes
  have hr := B.returns
  have hu : ∀ w ∈ uw, w.before ([.ref h0, .int p1, .int p2] : List Value).toArray s = true := fun w h => atoms_spec (ws := w_X8_joinsNext) B.pre w (List.mem_cons_of_mem _ h)
  have hown : s.vm.findClass RX8 = some m.cls := findClass_of_methodNamed B.named
  have hlocks := B.notSynchronized
  subst hsz
  have hD := hD0.self (sz := s.heap.size)
  generalize hAe : va_A [(h0, .inr (7, [.ref h1, .ref g0_machine, .ref g0_clip, .ref h3, .ref h4, .int v0_lastFill, .int v0_openedBehind, .int v0_joinedAt])), (h1, .inr (9, [.ref h2, .int v1_count])), (h2, .inl (cI, 1500, .inl f2)), (h3, .inr (8, [.int v3_a, .int v3_b, .int v3_c, .int v3_d, .int v3_e, .int v3_f])), (h4, .inr (8, [.int v4_a, .int v4_b, .int v4_c, .int v4_d, .int v4_e, .int v4_f]))] s.heap.size = A at hD hG ⊢
  have hA : ∀ q : Nat, s.heap.size ≤ q → A q := fun q h => by rw [← hAe]; exact Or.inr h
  have hS : va_S A s.heap s.heap [] := va_S.rf
  have hP : va_P (dC, dI) vwCl [(h0, .inr (7, [.ref h1, .ref g0_machine, .ref g0_clip, .ref h3, .ref h4, .int v0_lastFill, .int v0_openedBehind, .int v0_joinedAt])), (h1, .inr (9, [.ref h2, .int v1_count])), (h2, .inl (cI, 1500, .inl f2)), (h3, .inr (8, [.int v3_a, .int v3_b, .int v3_c, .int v3_d, .int v3_e, .int v3_f])), (h4, .inr (8, [.int v4_a, .int v4_b, .int v4_c, .int v4_d, .int v4_e, .int v4_f]))] s.heap := hP
  have hl := lv_entry ([.ref h0, .int p1, .int p2]) (n := 4) (Nat.le_of_ble_eq_true rfl)
  rw [lg_entry_eq]
  generalize (lg_sl ([.ref h0, .int p1, .int p2]) ++ List.replicate (4 - (lg_sl ([.ref h0, .int p1, .int p2])).length) Slot.unset).toArray = ls at hl ⊢
  have hl : lv_has ls 4 [(0, .ref h0), (1, .int p1), (2, .int p2)] := hl
  rw [m_X8_joinsNext] at hM
  suffices hgo : ∀ (H : Heap) (locs : List Loc), va_P (dC, dI) vwCl [(h0, .inr (7, [.ref h1, .ref g0_machine, .ref g0_clip, .ref h3, .ref h4, .int v0_lastFill, .int v0_openedBehind, .int v0_joinedAt])), (h1, .inr (9, [.ref h2, .int v1_count])), (h2, .inl (cI, 1500, .inl f2)), (h3, .inr (8, [.int v3_a, .int v3_b, .int v3_c, .int v3_d, .int v3_e, .int v3_f])), (h4, .inr (8, [.int v4_a, .int v4_b, .int v4_c, .int v4_d, .int v4_e, .int v4_f]))] H → va_D A [(h0, .inr (7, [.ref h1, .ref g0_machine, .ref g0_clip, .ref h3, .ref h4, .int v0_lastFill, .int v0_openedBehind, .int v0_joinedAt])), (h1, .inr (9, [.ref h2, .int v1_count])), (h2, .inl (cI, 1500, .inl f2)), (h3, .inr (8, [.int v3_a, .int v3_b, .int v3_c, .int v3_d, .int v3_e, .int v3_f])), (h4, .inr (8, [.int v4_a, .int v4_b, .int v4_c, .int v4_d, .int v4_e, .int v4_f]))] → va_S A s.heap H locs → W p l e (headSpec w_X8_joinsNext rm_X8_joinsNext).room s m ([.ref h0, .int p1, .int p2] : List Value).toArray below meth c H locs 0 0 (MQ below (QMz (res.1) (dC, dI) [(cI, .int), (cZ, .boolean), (cO, .object "ListPainter$Settings")] A [(h0, .inr (7, [.ref h1, .ref g0_machine, .ref g0_clip, .ref h3, .ref h4, .int v0_lastFill, .int v0_openedBehind, .int (res.2.1)])), (h1, .inr (9, [.ref h2, .int v1_count])), (h2, .inl (cI, 1500, .inl (res.2.2.1))), (h3, .inr (8, [.int (res.2.2.2.1), .int (res.2.2.2.2.1), .int (res.2.2.2.2.2.1), .int (res.2.2.2.2.2.2.1), .int (res.2.2.2.2.2.2.2.1), .int (res.2.2.2.2.2.2.2.2.1)])), (h4, .inr (8, [.int (res.2.2.2.2.2.2.2.2.2.1), .int (res.2.2.2.2.2.2.2.2.2.2.1), .int (res.2.2.2.2.2.2.2.2.2.2.2.1), .int (res.2.2.2.2.2.2.2.2.2.2.2.2.1), .int (res.2.2.2.2.2.2.2.2.2.2.2.2.2.1), .int (res.2.2.2.2.2.2.2.2.2.2.2.2.2.2)]))]) ([.ref h0, .int p1, .int p2] : List Value).toArray s 0 0 A) (F0 m 0 ls []) from hgo _ _ hP hD hS
  intro H locs hP hD hS
  refine lv_iload_n hx hb dX8_joinsNext_0 rfl (lv_at hl 1 rfl) ?_
  refine lv_aload_n hx hb dX8_joinsNext_1 rfl (lv_at hl 0 rfl) ?_
  refine va_get (D := (dC, dI)) (ci := 7) (v := .ref h1) (C := RX8) (T := TX8) (N := 8) hx hb hu inX8 hown hK hP 0 rfl rfl 0 (by decide) (hu _ kw_583) (fun _ h9 => h9) rfl dX8_joinsNext_2 ?_
  refine lv_iload_n hx hb dX8_joinsNext_5 rfl (lv_at hl 1 rfl) ?_
  obtain ⟨r_1, hm_2, hM⟩ := bd1_u hM
  refine cVi (r := r_1) (As := [.int p1]) (rest := [.int p1]) ⟨hx, hb, hml, hown, hu⟩ (c_X10_lengthAt l dC dI cI cZ cO tL H.size h1 h2 v1_count f2 p1 r_1 hm_2) (cwV 1 hu (gV kw_612 kw_16 kw_17 kw_5 kw_18) rfl rfl rfl (by decide +kernel) ⟨Nat.le_of_ble_eq_true rfl, Nat.le_of_ble_eq_true rfl⟩) hP hD hS hA hK hG [1, 2] (by decide) rfl [none, some 0, some 1, none, none] 2 rfl (by decide +kernel) rfl 9 1 rfl rfl rfl rfl hl.1 rfl (Nat.le_of_ble_eq_true rfl) dX8_joinsNext_6 (Nat.zero_le _) (Nat.zero_le _) (fun H locs hP hD hS => ?_)
  have hP : va_P (dC, dI) vwCl [(h0, .inr (7, [.ref h1, .ref g0_machine, .ref g0_clip, .ref h3, .ref h4, .int v0_lastFill, .int v0_openedBehind, .int v0_joinedAt])), (h1, .inr (9, [.ref h2, .int v1_count])), (h2, .inl (cI, 1500, .inl f2)), (h3, .inr (8, [.int v3_a, .int v3_b, .int v3_c, .int v3_d, .int v3_e, .int v3_f])), (h4, .inr (8, [.int v4_a, .int v4_b, .int v4_c, .int v4_d, .int v4_e, .int v4_f]))] H := hP
  have hD : va_D A [(h0, .inr (7, [.ref h1, .ref g0_machine, .ref g0_clip, .ref h3, .ref h4, .int v0_lastFill, .int v0_openedBehind, .int v0_joinedAt])), (h1, .inr (9, [.ref h2, .int v1_count])), (h2, .inl (cI, 1500, .inl f2)), (h3, .inr (8, [.int v3_a, .int v3_b, .int v3_c, .int v3_d, .int v3_e, .int v3_f])), (h4, .inr (8, [.int v4_a, .int v4_b, .int v4_c, .int v4_d, .int v4_e, .int v4_f]))] := hD
  refine lv_iadd hx hb dX8_joinsNext_9 ?_
  refine lv_topi (fun x_3 ex_3 => ?_)
  have hM := nm_u ex_3 hM
  refine lv_istore_n (lv' := [(3, .int x_3), (0, .ref h0), (1, .int p1), (2, .int p2)]) hx hb dX8_joinsNext_10 rfl hl (by decide) rfl (fun ls hl => ?_)
  refine lv_iload_n hx hb dX8_joinsNext_11 rfl (lv_at hl 3 rfl) ?_
  refine lv_bipush (v := 12) hx hb dX8_joinsNext_12 (by decide) ?_
  refine lv_icmp_ne (tgt := 30) hx hb dX8_joinsNext_14 (by decide) (fun c_4 => ?_) (fun c_4 => ?_)
  · have hM := if_f c_4 hM
    refine lv_iconst (v := 0) hx hb dX8_joinsNext_30 (by decide) ?_
    have h9 := Option.some.inj hM
    subst h9
    exact W.zret (v := 0) hx hb hr (zb_n (Or.inl rfl)) (fun t ht hW => QMz_mk (Or.inl rfl) (by rw [ht]; exact hP) (va_K.moved hW.alike hK) hD (hS.F ht)) hS.2.2 dX8_joinsNext_31
  · have hM := if_t c_4 hM
    refine lv_aload_n hx hb dX8_joinsNext_17 rfl (lv_at hl 1 rfl) ?_
    refine va_get (D := (dC, dI)) (ci := 7) (v := .ref h1) (C := RX8) (T := TX8) (N := 8) hx hb hu inX8 hown hK hP 0 rfl rfl 0 (by decide) (hu _ kw_583) (fun _ h9 => h9) rfl dX8_joinsNext_18 ?_
    refine lv_iload_n hx hb dX8_joinsNext_21 rfl (lv_at hl 0 rfl) ?_
    obtain ⟨r_5, hm_6, hM⟩ := bd1_u hM
    refine cVi (r := r_5) (As := [.int x_3]) (rest := []) ⟨hx, hb, hml, hown, hu⟩ (c_X10_word l dC dI cI cZ cO tL H.size h1 h2 v1_count f2 x_3 r_5 hm_6) (cwV 1 hu (gV kw_584 kw_3 kw_4 kw_5 kw_6) rfl rfl rfl (by decide +kernel) ⟨Nat.le_of_ble_eq_true rfl, Nat.le_of_ble_eq_true rfl⟩) hP hD hS hA hK hG [1, 2] (by decide) rfl [none, some 0, some 1, none, none] 2 rfl (by decide +kernel) rfl 9 1 rfl rfl rfl rfl hl.1 rfl (Nat.le_of_ble_eq_true rfl) dX8_joinsNext_22 (Nat.zero_le _) (Nat.zero_le _) (fun H locs hP hD hS => ?_)
    have hP : va_P (dC, dI) vwCl [(h0, .inr (7, [.ref h1, .ref g0_machine, .ref g0_clip, .ref h3, .ref h4, .int v0_lastFill, .int v0_openedBehind, .int v0_joinedAt])), (h1, .inr (9, [.ref h2, .int v1_count])), (h2, .inl (cI, 1500, .inl f2)), (h3, .inr (8, [.int v3_a, .int v3_b, .int v3_c, .int v3_d, .int v3_e, .int v3_f])), (h4, .inr (8, [.int v4_a, .int v4_b, .int v4_c, .int v4_d, .int v4_e, .int v4_f]))] H := hP
    have hD : va_D A [(h0, .inr (7, [.ref h1, .ref g0_machine, .ref g0_clip, .ref h3, .ref h4, .int v0_lastFill, .int v0_openedBehind, .int v0_joinedAt])), (h1, .inr (9, [.ref h2, .int v1_count])), (h2, .inl (cI, 1500, .inl f2)), (h3, .inr (8, [.int v3_a, .int v3_b, .int v3_c, .int v3_d, .int v3_e, .int v3_f])), (h4, .inr (8, [.int v4_a, .int v4_b, .int v4_c, .int v4_d, .int v4_e, .int v4_f]))] := hD
    refine lv_bipush (v := 12) hx hb dX8_joinsNext_25 (by decide) ?_
    refine lv_icmp_eq (tgt := 32) hx hb dX8_joinsNext_27 (by decide) (fun c_7 => ?_) (fun c_7 => ?_)
    · have hM := if_t c_7 hM
      refine lv_aload_n hx hb dX8_joinsNext_32 rfl (lv_at hl 1 rfl) ?_
      refine va_get (D := (dC, dI)) (ci := 7) (v := .ref h3) (C := RX8) (T := TX8) (N := 8) hx hb hu inX8 hown hK hP 0 rfl rfl 3 (by decide) (hu _ kw_601) (fun _ h9 => h9) rfl dX8_joinsNext_33 ?_
      refine lv_aload_n hx hb dX8_joinsNext_36 rfl (lv_at hl 1 rfl) ?_
      refine va_get (D := (dC, dI)) (ci := 7) (v := .ref h1) (C := RX8) (T := TX8) (N := 8) hx hb hu inX8 hown hK hP 0 rfl rfl 0 (by decide) (hu _ kw_583) (fun _ h9 => h9) rfl dX8_joinsNext_37 ?_
      refine lv_iload_n hx hb dX8_joinsNext_40 rfl (lv_at hl 2 rfl) ?_
      obtain ⟨v3_8, v3_9, v3_10, v3_11, v3_12, v3_13, hm_14, hM⟩ := bd6_u hM
      refine cVv (As := [.ref h1, .int p1]) (rest := []) ⟨hx, hb, hml, hown, hu⟩ (c_X9_readFrom l dC dI cI cZ cO tL H.size h1 h2 h3 v1_count f2 v3_a v3_b v3_c v3_d v3_e v3_f p1 (v3_8, v3_9, v3_10, v3_11, v3_12, v3_13) hm_14) (cwV 2 hu (gV kw_609 kw_550 kw_551 kw_39 kw_552) rfl rfl rfl (by decide +kernel) ⟨Nat.le_of_ble_eq_true rfl, Nat.le_of_ble_eq_true rfl⟩) hP hD hS hA hK hG [1, 2, 3] (by decide) rfl [none, some 0, some 1, some 2, none] 3 rfl (by decide +kernel) rfl 8 3 rfl rfl rfl rfl hl.1 rfl (Nat.le_of_ble_eq_true rfl) dX8_joinsNext_41 (Nat.zero_le _) (Nat.zero_le _) (fun H locs hP hD hS => ?_)
      have hP : va_P (dC, dI) vwCl [(h0, .inr (7, [.ref h1, .ref g0_machine, .ref g0_clip, .ref h3, .ref h4, .int v0_lastFill, .int v0_openedBehind, .int v0_joinedAt])), (h1, .inr (9, [.ref h2, .int v1_count])), (h2, .inl (cI, 1500, .inl f2)), (h3, .inr (8, [.int v3_8, .int v3_9, .int v3_10, .int v3_11, .int v3_12, .int v3_13])), (h4, .inr (8, [.int v4_a, .int v4_b, .int v4_c, .int v4_d, .int v4_e, .int v4_f]))] H := hP
      have hD : va_D A [(h0, .inr (7, [.ref h1, .ref g0_machine, .ref g0_clip, .ref h3, .ref h4, .int v0_lastFill, .int v0_openedBehind, .int v0_joinedAt])), (h1, .inr (9, [.ref h2, .int v1_count])), (h2, .inl (cI, 1500, .inl f2)), (h3, .inr (8, [.int v3_8, .int v3_9, .int v3_10, .int v3_11, .int v3_12, .int v3_13])), (h4, .inr (8, [.int v4_a, .int v4_b, .int v4_c, .int v4_d, .int v4_e, .int v4_f]))] := hD
      refine lv_aload_n hx hb dX8_joinsNext_44 rfl (lv_at hl 1 rfl) ?_
      refine va_get (D := (dC, dI)) (ci := 7) (v := .ref h4) (C := RX8) (T := TX8) (N := 8) hx hb hu inX8 hown hK hP 0 rfl rfl 4 (by decide) (hu _ kw_608) (fun _ h9 => h9) rfl dX8_joinsNext_45 ?_
      refine lv_aload_n hx hb dX8_joinsNext_48 rfl (lv_at hl 1 rfl) ?_
      refine va_get (D := (dC, dI)) (ci := 7) (v := .ref h1) (C := RX8) (T := TX8) (N := 8) hx hb hu inX8 hown hK hP 0 rfl rfl 0 (by decide) (hu _ kw_583) (fun _ h9 => h9) rfl dX8_joinsNext_49 ?_
      refine lv_iload_n hx hb dX8_joinsNext_52 rfl (lv_at hl 0 rfl) ?_
      obtain ⟨v4_15, v4_16, v4_17, v4_18, v4_19, v4_20, hm_21, hM⟩ := bd6_u hM
      refine cVv (As := [.ref h1, .int x_3]) (rest := []) ⟨hx, hb, hml, hown, hu⟩ (c_X9_readFrom l dC dI cI cZ cO tL H.size h1 h2 h4 v1_count f2 v4_a v4_b v4_c v4_d v4_e v4_f x_3 (v4_15, v4_16, v4_17, v4_18, v4_19, v4_20) hm_21) (cwV 2 hu (gV kw_609 kw_550 kw_551 kw_39 kw_552) rfl rfl rfl (by decide +kernel) ⟨Nat.le_of_ble_eq_true rfl, Nat.le_of_ble_eq_true rfl⟩) hP hD hS hA hK hG [1, 2, 4] (by decide) rfl [none, some 0, some 1, none, some 2] 3 rfl (by decide +kernel) rfl 8 4 rfl rfl rfl rfl hl.1 rfl (Nat.le_of_ble_eq_true rfl) dX8_joinsNext_53 (Nat.zero_le _) (Nat.zero_le _) (fun H locs hP hD hS => ?_)
      have hP : va_P (dC, dI) vwCl [(h0, .inr (7, [.ref h1, .ref g0_machine, .ref g0_clip, .ref h3, .ref h4, .int v0_lastFill, .int v0_openedBehind, .int v0_joinedAt])), (h1, .inr (9, [.ref h2, .int v1_count])), (h2, .inl (cI, 1500, .inl f2)), (h3, .inr (8, [.int v3_8, .int v3_9, .int v3_10, .int v3_11, .int v3_12, .int v3_13])), (h4, .inr (8, [.int v4_15, .int v4_16, .int v4_17, .int v4_18, .int v4_19, .int v4_20]))] H := hP
      have hD : va_D A [(h0, .inr (7, [.ref h1, .ref g0_machine, .ref g0_clip, .ref h3, .ref h4, .int v0_lastFill, .int v0_openedBehind, .int v0_joinedAt])), (h1, .inr (9, [.ref h2, .int v1_count])), (h2, .inl (cI, 1500, .inl f2)), (h3, .inr (8, [.int v3_8, .int v3_9, .int v3_10, .int v3_11, .int v3_12, .int v3_13])), (h4, .inr (8, [.int v4_15, .int v4_16, .int v4_17, .int v4_18, .int v4_19, .int v4_20]))] := hD
      refine lv_aload_n hx hb dX8_joinsNext_56 rfl (lv_at hl 1 rfl) ?_
      refine va_get (D := (dC, dI)) (ci := 7) (v := .ref h3) (C := RX8) (T := TX8) (N := 8) hx hb hu inX8 hown hK hP 0 rfl rfl 3 (by decide) (hu _ kw_601) (fun _ h9 => h9) rfl dX8_joinsNext_57 ?_
      obtain ⟨r_22, hm_23, hM⟩ := bd1_u hM
      refine cVz (r := r_22) (As := []) (rest := []) ⟨hx, hb, hml, hown, hu⟩ (c_X9_isWhole l dC dI cI cZ cO tL H.size h3 v3_8 v3_9 v3_10 v3_11 v3_12 v3_13 r_22 hm_23) (cwV 0 hu (gV kw_613 kw_614 kw_615 kw_39 kw_616) rfl rfl rfl (by decide +kernel) ⟨Nat.le_of_ble_eq_true rfl, Nat.le_of_ble_eq_true rfl⟩) hP hD hS hA hK hG [3] (by decide) rfl [none, none, none, some 0, none] 1 rfl (by decide +kernel) rfl 8 3 rfl rfl rfl rfl hl.1 rfl (Nat.le_of_ble_eq_true rfl) dX8_joinsNext_60 (Nat.zero_le _) (Nat.zero_le _) (fun H locs hz_r_22 hP hD hS => ?_)
      have hP : va_P (dC, dI) vwCl [(h0, .inr (7, [.ref h1, .ref g0_machine, .ref g0_clip, .ref h3, .ref h4, .int v0_lastFill, .int v0_openedBehind, .int v0_joinedAt])), (h1, .inr (9, [.ref h2, .int v1_count])), (h2, .inl (cI, 1500, .inl f2)), (h3, .inr (8, [.int v3_8, .int v3_9, .int v3_10, .int v3_11, .int v3_12, .int v3_13])), (h4, .inr (8, [.int v4_15, .int v4_16, .int v4_17, .int v4_18, .int v4_19, .int v4_20]))] H := hP
      have hD : va_D A [(h0, .inr (7, [.ref h1, .ref g0_machine, .ref g0_clip, .ref h3, .ref h4, .int v0_lastFill, .int v0_openedBehind, .int v0_joinedAt])), (h1, .inr (9, [.ref h2, .int v1_count])), (h2, .inl (cI, 1500, .inl f2)), (h3, .inr (8, [.int v3_8, .int v3_9, .int v3_10, .int v3_11, .int v3_12, .int v3_13])), (h4, .inr (8, [.int v4_15, .int v4_16, .int v4_17, .int v4_18, .int v4_19, .int v4_20]))] := hD
      refine lv_if_eq (tgt := 90) hx hb dX8_joinsNext_63 (by decide) (fun c_24 => ?_) (fun c_24 => ?_)
      · have hM := if_t c_24 hM
        refine lv_iconst (v := 0) hx hb dX8_joinsNext_90 (by decide) ?_
        have h9 := Option.some.inj hM
        subst h9
        exact W.zret (v := 0) hx hb hr (zb_n (Or.inl rfl)) (fun t ht hW => QMz_mk (Or.inl rfl) (by rw [ht]; exact hP) (va_K.moved hW.alike hK) hD (hS.F ht)) hS.2.2 dX8_joinsNext_91
      · have hM := if_f c_24 hM
        refine lv_aload_n hx hb dX8_joinsNext_66 rfl (lv_at hl 1 rfl) ?_
        refine va_get (D := (dC, dI)) (ci := 7) (v := .ref h4) (C := RX8) (T := TX8) (N := 8) hx hb hu inX8 hown hK hP 0 rfl rfl 4 (by decide) (hu _ kw_608) (fun _ h9 => h9) rfl dX8_joinsNext_67 ?_
        obtain ⟨r_25, hm_26, hM⟩ := bd1_u hM
        refine cVz (r := r_25) (As := []) (rest := []) ⟨hx, hb, hml, hown, hu⟩ (c_X9_isWhole l dC dI cI cZ cO tL H.size h4 v4_15 v4_16 v4_17 v4_18 v4_19 v4_20 r_25 hm_26) (cwV 0 hu (gV kw_613 kw_614 kw_615 kw_39 kw_616) rfl rfl rfl (by decide +kernel) ⟨Nat.le_of_ble_eq_true rfl, Nat.le_of_ble_eq_true rfl⟩) hP hD hS hA hK hG [4] (by decide) rfl [none, none, none, none, some 0] 1 rfl (by decide +kernel) rfl 8 4 rfl rfl rfl rfl hl.1 rfl (Nat.le_of_ble_eq_true rfl) dX8_joinsNext_70 (Nat.zero_le _) (Nat.zero_le _) (fun H locs hz_r_25 hP hD hS => ?_)
        have hP : va_P (dC, dI) vwCl [(h0, .inr (7, [.ref h1, .ref g0_machine, .ref g0_clip, .ref h3, .ref h4, .int v0_lastFill, .int v0_openedBehind, .int v0_joinedAt])), (h1, .inr (9, [.ref h2, .int v1_count])), (h2, .inl (cI, 1500, .inl f2)), (h3, .inr (8, [.int v3_8, .int v3_9, .int v3_10, .int v3_11, .int v3_12, .int v3_13])), (h4, .inr (8, [.int v4_15, .int v4_16, .int v4_17, .int v4_18, .int v4_19, .int v4_20]))] H := hP
        have hD : va_D A [(h0, .inr (7, [.ref h1, .ref g0_machine, .ref g0_clip, .ref h3, .ref h4, .int v0_lastFill, .int v0_openedBehind, .int v0_joinedAt])), (h1, .inr (9, [.ref h2, .int v1_count])), (h2, .inl (cI, 1500, .inl f2)), (h3, .inr (8, [.int v3_8, .int v3_9, .int v3_10, .int v3_11, .int v3_12, .int v3_13])), (h4, .inr (8, [.int v4_15, .int v4_16, .int v4_17, .int v4_18, .int v4_19, .int v4_20]))] := hD
        refine lv_if_eq (tgt := 90) hx hb dX8_joinsNext_73 (by decide) (fun c_27 => ?_) (fun c_27 => ?_)
        · have hM := if_t c_27 hM
          refine lv_iconst (v := 0) hx hb dX8_joinsNext_90 (by decide) ?_
          have h9 := Option.some.inj hM
          subst h9
          exact W.zret (v := 0) hx hb hr (zb_n (Or.inl rfl)) (fun t ht hW => QMz_mk (Or.inl rfl) (by rw [ht]; exact hP) (va_K.moved hW.alike hK) hD (hS.F ht)) hS.2.2 dX8_joinsNext_91
        · have hM := if_f c_27 hM
          refine lv_aload_n hx hb dX8_joinsNext_76 rfl (lv_at hl 1 rfl) ?_
          refine va_get (D := (dC, dI)) (ci := 7) (v := .ref h3) (C := RX8) (T := TX8) (N := 8) hx hb hu inX8 hown hK hP 0 rfl rfl 3 (by decide) (hu _ kw_601) (fun _ h9 => h9) rfl dX8_joinsNext_77 ?_
          refine lv_aload_n hx hb dX8_joinsNext_80 rfl (lv_at hl 1 rfl) ?_
          refine va_get (D := (dC, dI)) (ci := 7) (v := .ref h4) (C := RX8) (T := TX8) (N := 8) hx hb hu inX8 hown hK hP 0 rfl rfl 4 (by decide) (hu _ kw_608) (fun _ h9 => h9) rfl dX8_joinsNext_81 ?_
          obtain ⟨r_28, hm_29, hM⟩ := bd1_u hM
          refine cVz (r := r_28) (As := [.ref h4]) (rest := []) ⟨hx, hb, hml, hown, hu⟩ (c_X9_fitsBehind l dC dI cI cZ cO tL H.size h3 h4 v3_8 v3_9 v3_10 v3_11 v3_12 v3_13 v4_15 v4_16 v4_17 v4_18 v4_19 v4_20 r_28 hm_29) (cwV 1 hu (gV kw_617 kw_618 kw_619 kw_39 kw_620) rfl rfl rfl (by decide +kernel) ⟨Nat.le_of_ble_eq_true rfl, Nat.le_of_ble_eq_true rfl⟩) hP hD hS hA hK hG [3, 4] (by decide) rfl [none, none, none, some 0, some 1] 2 rfl (by decide +kernel) rfl 8 3 rfl rfl rfl rfl hl.1 rfl (Nat.le_of_ble_eq_true rfl) dX8_joinsNext_84 (Nat.zero_le _) (Nat.zero_le _) (fun H locs hz_r_28 hP hD hS => ?_)
          have hP : va_P (dC, dI) vwCl [(h0, .inr (7, [.ref h1, .ref g0_machine, .ref g0_clip, .ref h3, .ref h4, .int v0_lastFill, .int v0_openedBehind, .int v0_joinedAt])), (h1, .inr (9, [.ref h2, .int v1_count])), (h2, .inl (cI, 1500, .inl f2)), (h3, .inr (8, [.int v3_8, .int v3_9, .int v3_10, .int v3_11, .int v3_12, .int v3_13])), (h4, .inr (8, [.int v4_15, .int v4_16, .int v4_17, .int v4_18, .int v4_19, .int v4_20]))] H := hP
          have hD : va_D A [(h0, .inr (7, [.ref h1, .ref g0_machine, .ref g0_clip, .ref h3, .ref h4, .int v0_lastFill, .int v0_openedBehind, .int v0_joinedAt])), (h1, .inr (9, [.ref h2, .int v1_count])), (h2, .inl (cI, 1500, .inl f2)), (h3, .inr (8, [.int v3_8, .int v3_9, .int v3_10, .int v3_11, .int v3_12, .int v3_13])), (h4, .inr (8, [.int v4_15, .int v4_16, .int v4_17, .int v4_18, .int v4_19, .int v4_20]))] := hD
          refine lv_if_ne (tgt := 92) hx hb dX8_joinsNext_87 (by decide) (fun c_30 => ?_) (fun c_30 => ?_)
          · have hM := if_f c_30 hM
            refine lv_aload_n hx hb dX8_joinsNext_92 rfl (lv_at hl 1 rfl) ?_
            refine va_get (D := (dC, dI)) (ci := 7) (v := .ref h3) (C := RX8) (T := TX8) (N := 8) hx hb hu inX8 hown hK hP 0 rfl rfl 3 (by decide) (hu _ kw_601) (fun _ h9 => h9) rfl dX8_joinsNext_93 ?_
            refine lv_aload_n hx hb dX8_joinsNext_96 rfl (lv_at hl 1 rfl) ?_
            refine va_get (D := (dC, dI)) (ci := 7) (v := .ref h4) (C := RX8) (T := TX8) (N := 8) hx hb hu inX8 hown hK hP 0 rfl rfl 4 (by decide) (hu _ kw_608) (fun _ h9 => h9) rfl dX8_joinsNext_97 ?_
            obtain ⟨v3_31, v3_32, v3_33, v3_34, v3_35, v3_36, hm_37, hM⟩ := bd6_u hM
            refine cVv (As := [.ref h4]) (rest := []) ⟨hx, hb, hml, hown, hu⟩ (c_X9_goBehind l dC dI cI cZ cO tL H.size h3 h4 v3_8 v3_9 v3_10 v3_11 v3_12 v3_13 v4_15 v4_16 v4_17 v4_18 v4_19 v4_20 (v3_31, v3_32, v3_33, v3_34, v3_35, v3_36) hm_37) (cwV 1 hu (gV kw_611 kw_554 kw_555 kw_39 kw_556) rfl rfl rfl (by decide +kernel) ⟨Nat.le_of_ble_eq_true rfl, Nat.le_of_ble_eq_true rfl⟩) hP hD hS hA hK hG [3, 4] (by decide) rfl [none, none, none, some 0, some 1] 2 rfl (by decide +kernel) rfl 8 3 rfl rfl rfl rfl hl.1 rfl (Nat.le_of_ble_eq_true rfl) dX8_joinsNext_100 (Nat.zero_le _) (Nat.zero_le _) (fun H locs hP hD hS => ?_)
            have hP : va_P (dC, dI) vwCl [(h0, .inr (7, [.ref h1, .ref g0_machine, .ref g0_clip, .ref h3, .ref h4, .int v0_lastFill, .int v0_openedBehind, .int v0_joinedAt])), (h1, .inr (9, [.ref h2, .int v1_count])), (h2, .inl (cI, 1500, .inl f2)), (h3, .inr (8, [.int v3_31, .int v3_32, .int v3_33, .int v3_34, .int v3_35, .int v3_36])), (h4, .inr (8, [.int v4_15, .int v4_16, .int v4_17, .int v4_18, .int v4_19, .int v4_20]))] H := hP
            have hD : va_D A [(h0, .inr (7, [.ref h1, .ref g0_machine, .ref g0_clip, .ref h3, .ref h4, .int v0_lastFill, .int v0_openedBehind, .int v0_joinedAt])), (h1, .inr (9, [.ref h2, .int v1_count])), (h2, .inl (cI, 1500, .inl f2)), (h3, .inr (8, [.int v3_31, .int v3_32, .int v3_33, .int v3_34, .int v3_35, .int v3_36])), (h4, .inr (8, [.int v4_15, .int v4_16, .int v4_17, .int v4_18, .int v4_19, .int v4_20]))] := hD
            refine lv_aload_n hx hb dX8_joinsNext_103 rfl (lv_at hl 1 rfl) ?_
            refine va_get (D := (dC, dI)) (ci := 7) (v := .ref h3) (C := RX8) (T := TX8) (N := 8) hx hb hu inX8 hown hK hP 0 rfl rfl 3 (by decide) (hu _ kw_601) (fun _ h9 => h9) rfl dX8_joinsNext_104 ?_
            refine lv_aload_n hx hb dX8_joinsNext_107 rfl (lv_at hl 1 rfl) ?_
            refine va_get (D := (dC, dI)) (ci := 7) (v := .ref h1) (C := RX8) (T := TX8) (N := 8) hx hb hu inX8 hown hK hP 0 rfl rfl 0 (by decide) (hu _ kw_583) (fun _ h9 => h9) rfl dX8_joinsNext_108 ?_
            refine lv_iload_n hx hb dX8_joinsNext_111 rfl (lv_at hl 0 rfl) ?_
            obtain ⟨f2_38, hm_39, hM⟩ := bd1_u hM
            refine cVv (As := [.ref h1, .int x_3]) (rest := []) ⟨hx, hb, hml, hown, hu⟩ (c_X9_writeTo l dC dI cI cZ cO tL H.size h3 h1 h2 v3_31 v3_32 v3_33 v3_34 v3_35 v3_36 v1_count f2 x_3 f2_38 hm_39) (cwV 2 hu (gV kw_621 kw_622 kw_623 kw_39 kw_624) rfl rfl rfl (by decide +kernel) ⟨Nat.le_of_ble_eq_true rfl, Nat.le_of_ble_eq_true rfl⟩) hP hD hS hA hK hG [3, 1, 2] (by decide) rfl [none, some 1, some 2, some 0, none] 3 rfl (by decide +kernel) rfl 8 3 rfl rfl rfl rfl hl.1 rfl (Nat.le_of_ble_eq_true rfl) dX8_joinsNext_112 (Nat.zero_le _) (Nat.zero_le _) (fun H locs hP hD hS => ?_)
            have hP : va_P (dC, dI) vwCl [(h0, .inr (7, [.ref h1, .ref g0_machine, .ref g0_clip, .ref h3, .ref h4, .int v0_lastFill, .int v0_openedBehind, .int v0_joinedAt])), (h1, .inr (9, [.ref h2, .int v1_count])), (h2, .inl (cI, 1500, .inl f2_38)), (h3, .inr (8, [.int v3_31, .int v3_32, .int v3_33, .int v3_34, .int v3_35, .int v3_36])), (h4, .inr (8, [.int v4_15, .int v4_16, .int v4_17, .int v4_18, .int v4_19, .int v4_20]))] H := hP
            have hD : va_D A [(h0, .inr (7, [.ref h1, .ref g0_machine, .ref g0_clip, .ref h3, .ref h4, .int v0_lastFill, .int v0_openedBehind, .int v0_joinedAt])), (h1, .inr (9, [.ref h2, .int v1_count])), (h2, .inl (cI, 1500, .inl f2_38)), (h3, .inr (8, [.int v3_31, .int v3_32, .int v3_33, .int v3_34, .int v3_35, .int v3_36])), (h4, .inr (8, [.int v4_15, .int v4_16, .int v4_17, .int v4_18, .int v4_19, .int v4_20]))] := hD
            refine lv_aload_n hx hb dX8_joinsNext_115 rfl (lv_at hl 1 rfl) ?_
            refine lv_iload_n hx hb dX8_joinsNext_116 rfl (lv_at hl 0 rfl) ?_
            refine va_put (D := (dC, dI)) (ci := 7) (v := .int x_3) (ty := .int) (C := RX8) (T := TX8) (N := 8) hx hb hu inX8 tyX8 tyX8_ok nmX8 hown hK hP hD hS 0 rfl rfl 7 (by decide) (hu _ kw_625) (fun _ h9 => h9) rfl (by decide +kernel) rfl rfl (Nat.le_of_ble_eq_true rfl) dX8_joinsNext_117 (fun H locs hP hD hS => ?_)
            have hP : va_P (dC, dI) vwCl [(h0, .inr (7, [.ref h1, .ref g0_machine, .ref g0_clip, .ref h3, .ref h4, .int v0_lastFill, .int v0_openedBehind, .int x_3])), (h1, .inr (9, [.ref h2, .int v1_count])), (h2, .inl (cI, 1500, .inl f2_38)), (h3, .inr (8, [.int v3_31, .int v3_32, .int v3_33, .int v3_34, .int v3_35, .int v3_36])), (h4, .inr (8, [.int v4_15, .int v4_16, .int v4_17, .int v4_18, .int v4_19, .int v4_20]))] H := hP
            have hD : va_D A [(h0, .inr (7, [.ref h1, .ref g0_machine, .ref g0_clip, .ref h3, .ref h4, .int v0_lastFill, .int v0_openedBehind, .int x_3])), (h1, .inr (9, [.ref h2, .int v1_count])), (h2, .inl (cI, 1500, .inl f2_38)), (h3, .inr (8, [.int v3_31, .int v3_32, .int v3_33, .int v3_34, .int v3_35, .int v3_36])), (h4, .inr (8, [.int v4_15, .int v4_16, .int v4_17, .int v4_18, .int v4_19, .int v4_20]))] := hD
            refine lv_iconst (v := 1) hx hb dX8_joinsNext_120 (by decide) ?_
            have h9 := Option.some.inj hM
            subst h9
            exact W.zret (v := 1) hx hb hr (zb_n (Or.inr rfl)) (fun t ht hW => QMz_mk (Or.inr rfl) (by rw [ht]; exact hP) (va_K.moved hW.alike hK) hD (hS.F ht)) hS.2.2 dX8_joinsNext_121
          · have hM := if_t c_30 hM
            refine lv_iconst (v := 0) hx hb dX8_joinsNext_90 (by decide) ?_
            have h9 := Option.some.inj hM
            subst h9
            exact W.zret (v := 0) hx hb hr (zb_n (Or.inl rfl)) (fun t ht hW => QMz_mk (Or.inl rfl) (by rw [ht]; exact hP) (va_K.moved hW.alike hK) hD (hS.F ht)) hS.2.2 dX8_joinsNext_91
    · have hM := if_f c_7 hM
      refine lv_iconst (v := 0) hx hb dX8_joinsNext_30 (by decide) ?_
      have h9 := Option.some.inj hM
      subst h9
      exact W.zret (v := 0) hx hb hr (zb_n (Or.inl rfl)) (fun t ht hW => QMz_mk (Or.inl rfl) (by rw [ht]; exact hP) (va_K.moved hW.alike hK) hD (hS.F ht)) hS.2.2 dX8_joinsNext_31
theorem dX8_isBroughtBackUnused_0 : decode cX8_isBroughtBackUnused 0 = .ok (.aload_n 0, 1) := by decide +kernel
theorem dX8_isBroughtBackUnused_1 : decode cX8_isBroughtBackUnused 1 = .ok (.getfield 28, 3) := by decide +kernel
theorem dX8_isBroughtBackUnused_4 : decode cX8_isBroughtBackUnused 4 = .ok (.iload_n 1, 1) := by decide +kernel
theorem dX8_isBroughtBackUnused_5 : decode cX8_isBroughtBackUnused 5 = .ok (.sipush 1014, 3) := by decide +kernel
theorem dX8_isBroughtBackUnused_8 : decode cX8_isBroughtBackUnused 8 = .ok (.invokevirtual 106, 3) := by decide +kernel
theorem dX8_isBroughtBackUnused_11 : decode cX8_isBroughtBackUnused 11 = .ok (.istore_n 2, 1) := by decide +kernel
theorem dX8_isBroughtBackUnused_12 : decode cX8_isBroughtBackUnused 12 = .ok (.iload_n 2, 1) := by decide +kernel
theorem dX8_isBroughtBackUnused_13 : decode cX8_isBroughtBackUnused 13 = .ok (.iconst 2, 1) := by decide +kernel
theorem dX8_isBroughtBackUnused_14 : decode cX8_isBroughtBackUnused 14 = .ok (.if_icmp .eq 7, 3) := by decide +kernel
theorem dX8_isBroughtBackUnused_17 : decode cX8_isBroughtBackUnused 17 = .ok (.iload_n 2, 1) := by decide +kernel
theorem dX8_isBroughtBackUnused_18 : decode cX8_isBroughtBackUnused 18 = .ok (.ifCond .ne 7, 3) := by decide +kernel
theorem dX8_isBroughtBackUnused_21 : decode cX8_isBroughtBackUnused 21 = .ok (.iconst 1, 1) := by decide +kernel
theorem dX8_isBroughtBackUnused_22 : decode cX8_isBroughtBackUnused 22 = .ok (.goto 4, 3) := by decide +kernel
theorem dX8_isBroughtBackUnused_25 : decode cX8_isBroughtBackUnused 25 = .ok (.iconst 0, 1) := by decide +kernel
theorem dX8_isBroughtBackUnused_26 : decode cX8_isBroughtBackUnused 26 = .ok (.ireturn, 1) := by decide +kernel
abbrev rm_X8_isBroughtBackUnused : Room := { frames := 3, cells := 0, slots := 0, locals := 67 }
def w_X8_isBroughtBackUnused : List Cond := Cond.code yX8_isBroughtBackUnused cX8_isBroughtBackUnused 3 (some .boolean) :: uw
set_option maxHeartbeats 4000000 in
set_option maxRecDepth 100000 in
theorem c_X8_isBroughtBackUnused (l : Launch) (dC : Nat → ClassId) (dI : Nat → Nat → Nat) (cI cZ cO : ClassId) (tL sz : Nat) (h0 : Nat) (h1 : Nat) (h2 : Nat) (g0_machine : Nat) (g0_clip : Nat) (g0_table : Nat) (g0_next : Nat) (v0_lastFill : Int32) (v0_openedBehind : Int32) (v0_joinedAt : Int32) (v1_count : Int32) (f2 : Nat → Int32) (p1 : Int32) (res : Int32) (hM : m_X8_isBroughtBackUnused v1_count f2 p1 = some res) : Met l yX8_isBroughtBackUnused w_X8_isBroughtBackUnused rm_X8_isBroughtBackUnused (PCx [.ref h0, .int p1] (dC, dI) [(cI, .int), (cZ, .boolean), (cO, .object "ListPainter$Settings")] sz tL [(h0, .inr (7, [.ref h1, .ref g0_machine, .ref g0_clip, .ref g0_table, .ref g0_next, .int v0_lastFill, .int v0_openedBehind, .int v0_joinedAt])), (h1, .inr (9, [.ref h2, .int v1_count])), (h2, .inl (cI, 1500, .inl f2))]) (QMz res (dC, dI) [(cI, .int), (cZ, .boolean), (cO, .object "ListPainter$Settings")] (va_A [(h0, .inr (7, [.ref h1, .ref g0_machine, .ref g0_clip, .ref g0_table, .ref g0_next, .int v0_lastFill, .int v0_openedBehind, .int v0_joinedAt])), (h1, .inr (9, [.ref h2, .int v1_count])), (h2, .inl (cI, 1500, .inl f2))] sz) [(h0, .inr (7, [.ref h1, .ref g0_machine, .ref g0_clip, .ref g0_table, .ref g0_next, .int v0_lastFill, .int v0_openedBehind, .int v0_joinedAt])), (h1, .inr (9, [.ref h2, .int v1_count])), (h2, .inl (cI, 1500, .inl f2))]) 0 0 (va_A [(h0, .inr (7, [.ref h1, .ref g0_machine, .ref g0_clip, .ref g0_table, .ref g0_next, .int v0_lastFill, .int v0_openedBehind, .int v0_joinedAt])), (h1, .inr (9, [.ref h2, .int v1_count])), (h2, .inl (cI, 1500, .inl f2))] sz) := by
  refine Met.ofW (cc := cX8_isBroughtBackUnused) (maxL := 3) (ret := (some .boolean)) (by decide) rfl ?_
  intro p e s m args below meth c s₁ B hml hv
  obtain ⟨rfl, hsz, hP, hK, hD0, hG⟩ := hv
  have hx := B.exec
  have hb := B.bytes
  have hr := B.returns
  have hu : ∀ w ∈ uw, w.before ([.ref h0, .int p1] : List Value).toArray s = true := fun w h => atoms_spec (ws := w_X8_isBroughtBackUnused) B.pre w (List.mem_cons_of_mem _ h)
  have hown : s.vm.findClass RX8 = some m.cls := findClass_of_methodNamed B.named
  have hlocks := B.notSynchronized
  subst hsz
  have hD := hD0.self (sz := s.heap.size)
  generalize hAe : va_A [(h0, .inr (7, [.ref h1, .ref g0_machine, .ref g0_clip, .ref g0_table, .ref g0_next, .int v0_lastFill, .int v0_openedBehind, .int v0_joinedAt])), (h1, .inr (9, [.ref h2, .int v1_count])), (h2, .inl (cI, 1500, .inl f2))] s.heap.size = A at hD hG ⊢
  have hA : ∀ q : Nat, s.heap.size ≤ q → A q := fun q h => by rw [← hAe]; exact Or.inr h
  have hS : va_S A s.heap s.heap [] := va_S.rf
  have hP : va_P (dC, dI) vwCl [(h0, .inr (7, [.ref h1, .ref g0_machine, .ref g0_clip, .ref g0_table, .ref g0_next, .int v0_lastFill, .int v0_openedBehind, .int v0_joinedAt])), (h1, .inr (9, [.ref h2, .int v1_count])), (h2, .inl (cI, 1500, .inl f2))] s.heap := hP
  have hl := lv_entry ([.ref h0, .int p1]) (n := 3) (Nat.le_of_ble_eq_true rfl)
  rw [lg_entry_eq]
  generalize (lg_sl ([.ref h0, .int p1]) ++ List.replicate (3 - (lg_sl ([.ref h0, .int p1])).length) Slot.unset).toArray = ls at hl ⊢
  have hl : lv_has ls 3 [(0, .ref h0), (1, .int p1)] := hl
  rw [m_X8_isBroughtBackUnused] at hM
  suffices hgo : ∀ (H : Heap) (locs : List Loc), va_P (dC, dI) vwCl [(h0, .inr (7, [.ref h1, .ref g0_machine, .ref g0_clip, .ref g0_table, .ref g0_next, .int v0_lastFill, .int v0_openedBehind, .int v0_joinedAt])), (h1, .inr (9, [.ref h2, .int v1_count])), (h2, .inl (cI, 1500, .inl f2))] H → va_D A [(h0, .inr (7, [.ref h1, .ref g0_machine, .ref g0_clip, .ref g0_table, .ref g0_next, .int v0_lastFill, .int v0_openedBehind, .int v0_joinedAt])), (h1, .inr (9, [.ref h2, .int v1_count])), (h2, .inl (cI, 1500, .inl f2))] → va_S A s.heap H locs → W p l e (headSpec w_X8_isBroughtBackUnused rm_X8_isBroughtBackUnused).room s m ([.ref h0, .int p1] : List Value).toArray below meth c H locs 0 0 (MQ below (QMz res (dC, dI) [(cI, .int), (cZ, .boolean), (cO, .object "ListPainter$Settings")] A [(h0, .inr (7, [.ref h1, .ref g0_machine, .ref g0_clip, .ref g0_table, .ref g0_next, .int v0_lastFill, .int v0_openedBehind, .int v0_joinedAt])), (h1, .inr (9, [.ref h2, .int v1_count])), (h2, .inl (cI, 1500, .inl f2))]) ([.ref h0, .int p1] : List Value).toArray s 0 0 A) (F0 m 0 ls []) from hgo _ _ hP hD hS
  intro H locs hP hD hS
  refine lv_aload_n hx hb dX8_isBroughtBackUnused_0 rfl (lv_at hl 0 rfl) ?_
  refine va_get (D := (dC, dI)) (ci := 7) (v := .ref h1) (C := RX8) (T := TX8) (N := 8) hx hb hu inX8 hown hK hP 0 rfl rfl 0 (by decide) (hu _ kw_583) (fun _ h9 => h9) rfl dX8_isBroughtBackUnused_1 ?_
  refine lv_iload_n hx hb dX8_isBroughtBackUnused_4 rfl (lv_at hl 1 rfl) ?_
  refine lv_sipush (v := 1014) hx hb dX8_isBroughtBackUnused_5 (by decide) ?_
  obtain ⟨r_1, hm_2, hM⟩ := bd1_u hM
  refine cVi (r := r_1) (As := [.int p1, .int 1014]) (rest := []) ⟨hx, hb, hml, hown, hu⟩ (c_X10_firstBehind l dC dI cI cZ cO tL H.size h1 h2 v1_count f2 p1 1014 r_1 hm_2) (cwV 2 hu (gV kw_585 kw_586 kw_587 kw_5 kw_588) rfl rfl rfl (by decide +kernel) ⟨Nat.le_of_ble_eq_true rfl, Nat.le_of_ble_eq_true rfl⟩) hP hD hS hA hK hG [1, 2] (by decide) rfl [none, some 0, some 1] 2 rfl (by decide +kernel) rfl 9 1 rfl rfl rfl rfl hl.1 rfl (Nat.le_of_ble_eq_true rfl) dX8_isBroughtBackUnused_8 (Nat.zero_le _) (Nat.zero_le _) (fun H locs hP hD hS => ?_)
  have hP : va_P (dC, dI) vwCl [(h0, .inr (7, [.ref h1, .ref g0_machine, .ref g0_clip, .ref g0_table, .ref g0_next, .int v0_lastFill, .int v0_openedBehind, .int v0_joinedAt])), (h1, .inr (9, [.ref h2, .int v1_count])), (h2, .inl (cI, 1500, .inl f2))] H := hP
  have hD : va_D A [(h0, .inr (7, [.ref h1, .ref g0_machine, .ref g0_clip, .ref g0_table, .ref g0_next, .int v0_lastFill, .int v0_openedBehind, .int v0_joinedAt])), (h1, .inr (9, [.ref h2, .int v1_count])), (h2, .inl (cI, 1500, .inl f2))] := hD
  refine lv_istore_n (lv' := [(2, .int r_1), (0, .ref h0), (1, .int p1)]) hx hb dX8_isBroughtBackUnused_11 rfl hl (by decide) rfl (fun ls hl => ?_)
  refine lv_iload_n hx hb dX8_isBroughtBackUnused_12 rfl (lv_at hl 0 rfl) ?_
  refine lv_iconst (v := 2) hx hb dX8_isBroughtBackUnused_13 (by decide) ?_
  refine lv_icmp_eq (tgt := 21) hx hb dX8_isBroughtBackUnused_14 (by decide) (fun c_3 => ?_) (fun c_3 => ?_)
  · have hM := if_t c_3 hM
    refine lv_iconst (v := 1) hx hb dX8_isBroughtBackUnused_21 (by decide) ?_
    refine lv_goto (tgt := 26) hx hb dX8_isBroughtBackUnused_22 (by decide) ?_
    have h9 := Option.some.inj hM
    subst h9
    exact W.zret (v := 1) hx hb hr (zb_n (Or.inr rfl)) (fun t ht hW => QMz_mk (Or.inr rfl) (by rw [ht]; exact hP) (va_K.moved hW.alike hK) hD (hS.F ht)) hS.2.2 dX8_isBroughtBackUnused_26
  · have hM := if_f c_3 hM
    refine lv_iload_n hx hb dX8_isBroughtBackUnused_17 rfl (lv_at hl 0 rfl) ?_
    refine lv_if_ne (tgt := 25) hx hb dX8_isBroughtBackUnused_18 (by decide) (fun c_4 => ?_) (fun c_4 => ?_)
    · have hM := if_f c_4 hM
      refine lv_iconst (v := 0) hx hb dX8_isBroughtBackUnused_25 (by decide) ?_
      have h9 := Option.some.inj hM
      subst h9
      exact W.zret (v := 0) hx hb hr (zb_n (Or.inl rfl)) (fun t ht hW => QMz_mk (Or.inl rfl) (by rw [ht]; exact hP) (va_K.moved hW.alike hK) hD (hS.F ht)) hS.2.2 dX8_isBroughtBackUnused_26
    · have hM := if_t c_4 hM
      refine lv_iconst (v := 1) hx hb dX8_isBroughtBackUnused_21 (by decide) ?_
      refine lv_goto (tgt := 26) hx hb dX8_isBroughtBackUnused_22 (by decide) ?_
      have h9 := Option.some.inj hM
      subst h9
      exact W.zret (v := 1) hx hb hr (zb_n (Or.inr rfl)) (fun t ht hW => QMz_mk (Or.inr rfl) (by rw [ht]; exact hP) (va_K.moved hW.alike hK) hD (hS.F ht)) hS.2.2 dX8_isBroughtBackUnused_26
theorem dX8_isEmptySave_0 : decode cX8_isEmptySave 0 = .ok (.iload_n 2, 1) := by decide +kernel
theorem dX8_isEmptySave_1 : decode cX8_isEmptySave 1 = .ok (.iconst 1, 1) := by decide +kernel
theorem dX8_isEmptySave_2 : decode cX8_isEmptySave 2 = .ok (.if_icmp .ne 21, 3) := by decide +kernel
theorem dX8_isEmptySave_5 : decode cX8_isEmptySave 5 = .ok (.aload_n 0, 1) := by decide +kernel
theorem dX8_isEmptySave_6 : decode cX8_isEmptySave 6 = .ok (.getfield 28, 3) := by decide +kernel
theorem dX8_isEmptySave_9 : decode cX8_isEmptySave 9 = .ok (.iload_n 1, 1) := by decide +kernel
theorem dX8_isEmptySave_10 : decode cX8_isEmptySave 10 = .ok (.iconst 1, 1) := by decide +kernel
theorem dX8_isEmptySave_11 : decode cX8_isEmptySave 11 = .ok (.iadd, 1) := by decide +kernel
theorem dX8_isEmptySave_12 : decode cX8_isEmptySave 12 = .ok (.invokevirtual 67, 3) := by decide +kernel
theorem dX8_isEmptySave_15 : decode cX8_isEmptySave 15 = .ok (.iconst 2, 1) := by decide +kernel
theorem dX8_isEmptySave_16 : decode cX8_isEmptySave 16 = .ok (.if_icmp .ne 7, 3) := by decide +kernel
theorem dX8_isEmptySave_19 : decode cX8_isEmptySave 19 = .ok (.iconst 1, 1) := by decide +kernel
theorem dX8_isEmptySave_20 : decode cX8_isEmptySave 20 = .ok (.goto 4, 3) := by decide +kernel
theorem dX8_isEmptySave_23 : decode cX8_isEmptySave 23 = .ok (.iconst 0, 1) := by decide +kernel
theorem dX8_isEmptySave_24 : decode cX8_isEmptySave 24 = .ok (.ireturn, 1) := by decide +kernel
abbrev rm_X8_isEmptySave : Room := { frames := 1, cells := 0, slots := 0, locals := 21 }
def w_X8_isEmptySave : List Cond := Cond.code yX8_isEmptySave cX8_isEmptySave 3 (some .boolean) :: uw
set_option maxHeartbeats 4000000 in
set_option maxRecDepth 100000 in
theorem c_X8_isEmptySave (l : Launch) (dC : Nat → ClassId) (dI : Nat → Nat → Nat) (cI cZ cO : ClassId) (tL sz : Nat) (h0 : Nat) (h1 : Nat) (h2 : Nat) (g0_machine : Nat) (g0_clip : Nat) (g0_table : Nat) (g0_next : Nat) (v0_lastFill : Int32) (v0_openedBehind : Int32) (v0_joinedAt : Int32) (v1_count : Int32) (f2 : Nat → Int32) (p1 : Int32) (p2 : Int32) (res : Int32) (hM : m_X8_isEmptySave v1_count f2 p1 p2 = some res) : Met l yX8_isEmptySave w_X8_isEmptySave rm_X8_isEmptySave (PCx [.ref h0, .int p1, .int p2] (dC, dI) [(cI, .int), (cZ, .boolean), (cO, .object "ListPainter$Settings")] sz tL [(h0, .inr (7, [.ref h1, .ref g0_machine, .ref g0_clip, .ref g0_table, .ref g0_next, .int v0_lastFill, .int v0_openedBehind, .int v0_joinedAt])), (h1, .inr (9, [.ref h2, .int v1_count])), (h2, .inl (cI, 1500, .inl f2))]) (QMz res (dC, dI) [(cI, .int), (cZ, .boolean), (cO, .object "ListPainter$Settings")] (va_A [(h0, .inr (7, [.ref h1, .ref g0_machine, .ref g0_clip, .ref g0_table, .ref g0_next, .int v0_lastFill, .int v0_openedBehind, .int v0_joinedAt])), (h1, .inr (9, [.ref h2, .int v1_count])), (h2, .inl (cI, 1500, .inl f2))] sz) [(h0, .inr (7, [.ref h1, .ref g0_machine, .ref g0_clip, .ref g0_table, .ref g0_next, .int v0_lastFill, .int v0_openedBehind, .int v0_joinedAt])), (h1, .inr (9, [.ref h2, .int v1_count])), (h2, .inl (cI, 1500, .inl f2))]) 0 0 (va_A [(h0, .inr (7, [.ref h1, .ref g0_machine, .ref g0_clip, .ref g0_table, .ref g0_next, .int v0_lastFill, .int v0_openedBehind, .int v0_joinedAt])), (h1, .inr (9, [.ref h2, .int v1_count])), (h2, .inl (cI, 1500, .inl f2))] sz) := by
  refine Met.ofW (cc := cX8_isEmptySave) (maxL := 3) (ret := (some .boolean)) (by decide) rfl ?_
  intro p e s m args below meth c s₁ B hml hv
  obtain ⟨rfl, hsz, hP, hK, hD0, hG⟩ := hv
  have hx := B.exec
  have hb := B.bytes
  have hr := B.returns
  have hu : ∀ w ∈ uw, w.before ([.ref h0, .int p1, .int p2] : List Value).toArray s = true := fun w h => atoms_spec (ws := w_X8_isEmptySave) B.pre w (List.mem_cons_of_mem _ h)
  have hown : s.vm.findClass RX8 = some m.cls := findClass_of_methodNamed B.named
  have hlocks := B.notSynchronized
  subst hsz
  have hD := hD0.self (sz := s.heap.size)
  generalize hAe : va_A [(h0, .inr (7, [.ref h1, .ref g0_machine, .ref g0_clip, .ref g0_table, .ref g0_next, .int v0_lastFill, .int v0_openedBehind, .int v0_joinedAt])), (h1, .inr (9, [.ref h2, .int v1_count])), (h2, .inl (cI, 1500, .inl f2))] s.heap.size = A at hD hG ⊢
  have hA : ∀ q : Nat, s.heap.size ≤ q → A q := fun q h => by rw [← hAe]; exact Or.inr h
  have hS : va_S A s.heap s.heap [] := va_S.rf
  have hP : va_P (dC, dI) vwCl [(h0, .inr (7, [.ref h1, .ref g0_machine, .ref g0_clip, .ref g0_table, .ref g0_next, .int v0_lastFill, .int v0_openedBehind, .int v0_joinedAt])), (h1, .inr (9, [.ref h2, .int v1_count])), (h2, .inl (cI, 1500, .inl f2))] s.heap := hP
  have hl := lv_entry ([.ref h0, .int p1, .int p2]) (n := 3) (Nat.le_of_ble_eq_true rfl)
  rw [lg_entry_eq]
  generalize (lg_sl ([.ref h0, .int p1, .int p2]) ++ List.replicate (3 - (lg_sl ([.ref h0, .int p1, .int p2])).length) Slot.unset).toArray = ls at hl ⊢
  have hl : lv_has ls 3 [(0, .ref h0), (1, .int p1), (2, .int p2)] := hl
  rw [m_X8_isEmptySave] at hM
  suffices hgo : ∀ (H : Heap) (locs : List Loc), va_P (dC, dI) vwCl [(h0, .inr (7, [.ref h1, .ref g0_machine, .ref g0_clip, .ref g0_table, .ref g0_next, .int v0_lastFill, .int v0_openedBehind, .int v0_joinedAt])), (h1, .inr (9, [.ref h2, .int v1_count])), (h2, .inl (cI, 1500, .inl f2))] H → va_D A [(h0, .inr (7, [.ref h1, .ref g0_machine, .ref g0_clip, .ref g0_table, .ref g0_next, .int v0_lastFill, .int v0_openedBehind, .int v0_joinedAt])), (h1, .inr (9, [.ref h2, .int v1_count])), (h2, .inl (cI, 1500, .inl f2))] → va_S A s.heap H locs → W p l e (headSpec w_X8_isEmptySave rm_X8_isEmptySave).room s m ([.ref h0, .int p1, .int p2] : List Value).toArray below meth c H locs 0 0 (MQ below (QMz res (dC, dI) [(cI, .int), (cZ, .boolean), (cO, .object "ListPainter$Settings")] A [(h0, .inr (7, [.ref h1, .ref g0_machine, .ref g0_clip, .ref g0_table, .ref g0_next, .int v0_lastFill, .int v0_openedBehind, .int v0_joinedAt])), (h1, .inr (9, [.ref h2, .int v1_count])), (h2, .inl (cI, 1500, .inl f2))]) ([.ref h0, .int p1, .int p2] : List Value).toArray s 0 0 A) (F0 m 0 ls []) from hgo _ _ hP hD hS
  intro H locs hP hD hS
  refine lv_iload_n hx hb dX8_isEmptySave_0 rfl (lv_at hl 2 rfl) ?_
  refine lv_iconst (v := 1) hx hb dX8_isEmptySave_1 (by decide) ?_
  refine lv_icmp_ne (tgt := 23) hx hb dX8_isEmptySave_2 (by decide) (fun c_1 => ?_) (fun c_1 => ?_)
  · have hM := if_f c_1 hM
    refine lv_iconst (v := 0) hx hb dX8_isEmptySave_23 (by decide) ?_
    have h9 := Option.some.inj hM
    subst h9
    exact W.zret (v := 0) hx hb hr (zb_n (Or.inl rfl)) (fun t ht hW => QMz_mk (Or.inl rfl) (by rw [ht]; exact hP) (va_K.moved hW.alike hK) hD (hS.F ht)) hS.2.2 dX8_isEmptySave_24
  · have hM := if_t c_1 hM
    refine lv_aload_n hx hb dX8_isEmptySave_5 rfl (lv_at hl 0 rfl) ?_
    refine va_get (D := (dC, dI)) (ci := 7) (v := .ref h1) (C := RX8) (T := TX8) (N := 8) hx hb hu inX8 hown hK hP 0 rfl rfl 0 (by decide) (hu _ kw_583) (fun _ h9 => h9) rfl dX8_isEmptySave_6 ?_
    refine lv_iload_n hx hb dX8_isEmptySave_9 rfl (lv_at hl 1 rfl) ?_
    refine lv_iconst (v := 1) hx hb dX8_isEmptySave_10 (by decide) ?_
    refine lv_iadd hx hb dX8_isEmptySave_11 ?_
    obtain ⟨r_2, hm_3, hM⟩ := bd1_u hM
    refine cVi (r := r_2) (As := [.int (p1 + 1)]) (rest := []) ⟨hx, hb, hml, hown, hu⟩ (c_X10_word l dC dI cI cZ cO tL H.size h1 h2 v1_count f2 (p1 + 1) r_2 hm_3) (cwV 1 hu (gV kw_584 kw_3 kw_4 kw_5 kw_6) rfl rfl rfl (by decide +kernel) ⟨Nat.le_of_ble_eq_true rfl, Nat.le_of_ble_eq_true rfl⟩) hP hD hS hA hK hG [1, 2] (by decide) rfl [none, some 0, some 1] 2 rfl (by decide +kernel) rfl 9 1 rfl rfl rfl rfl hl.1 rfl (Nat.le_of_ble_eq_true rfl) dX8_isEmptySave_12 (Nat.zero_le _) (Nat.zero_le _) (fun H locs hP hD hS => ?_)
    have hP : va_P (dC, dI) vwCl [(h0, .inr (7, [.ref h1, .ref g0_machine, .ref g0_clip, .ref g0_table, .ref g0_next, .int v0_lastFill, .int v0_openedBehind, .int v0_joinedAt])), (h1, .inr (9, [.ref h2, .int v1_count])), (h2, .inl (cI, 1500, .inl f2))] H := hP
    have hD : va_D A [(h0, .inr (7, [.ref h1, .ref g0_machine, .ref g0_clip, .ref g0_table, .ref g0_next, .int v0_lastFill, .int v0_openedBehind, .int v0_joinedAt])), (h1, .inr (9, [.ref h2, .int v1_count])), (h2, .inl (cI, 1500, .inl f2))] := hD
    refine lv_iconst (v := 2) hx hb dX8_isEmptySave_15 (by decide) ?_
    refine lv_icmp_ne (tgt := 23) hx hb dX8_isEmptySave_16 (by decide) (fun c_4 => ?_) (fun c_4 => ?_)
    · have hM := if_f c_4 hM
      refine lv_iconst (v := 0) hx hb dX8_isEmptySave_23 (by decide) ?_
      have h9 := Option.some.inj hM
      subst h9
      exact W.zret (v := 0) hx hb hr (zb_n (Or.inl rfl)) (fun t ht hW => QMz_mk (Or.inl rfl) (by rw [ht]; exact hP) (va_K.moved hW.alike hK) hD (hS.F ht)) hS.2.2 dX8_isEmptySave_24
    · have hM := if_t c_4 hM
      refine lv_iconst (v := 1) hx hb dX8_isEmptySave_19 (by decide) ?_
      refine lv_goto (tgt := 24) hx hb dX8_isEmptySave_20 (by decide) ?_
      have h9 := Option.some.inj hM
      subst h9
      exact W.zret (v := 1) hx hb hr (zb_n (Or.inr rfl)) (fun t ht hW => QMz_mk (Or.inr rfl) (by rw [ht]; exact hP) (va_K.moved hW.alike hK) hD (hS.F ht)) hS.2.2 dX8_isEmptySave_24
theorem dX8_goes_0 : decode cX8_goes 0 = .ok (.iload_n 1, 1) := by decide +kernel
theorem dX8_goes_1 : decode cX8_goes 1 = .ok (.tableswitch 238 0 7 #[47, 69, 104, 137, 161, 168, 188, 212], 47) := by decide +kernel
theorem dX8_goes_48 : decode cX8_goes 48 = .ok (.iload_n 2, 1) := by decide +kernel
theorem dX8_goes_49 : decode cX8_goes 49 = .ok (.aload_n 0, 1) := by decide +kernel
theorem dX8_goes_50 : decode cX8_goes 50 = .ok (.getfield 55, 3) := by decide +kernel
theorem dX8_goes_53 : decode cX8_goes 53 = .ok (.if_icmp .le 15, 3) := by decide +kernel
theorem dX8_goes_56 : decode cX8_goes 56 = .ok (.aload_n 0, 1) := by decide +kernel
theorem dX8_goes_57 : decode cX8_goes 57 = .ok (.iload_n 3, 1) := by decide +kernel
theorem dX8_goes_58 : decode cX8_goes 58 = .ok (.invokevirtual 85, 3) := by decide +kernel
theorem dX8_goes_61 : decode cX8_goes 61 = .ok (.ifCond .eq 7, 3) := by decide +kernel
theorem dX8_goes_64 : decode cX8_goes 64 = .ok (.iconst 1, 1) := by decide +kernel
theorem dX8_goes_65 : decode cX8_goes 65 = .ok (.goto 4, 3) := by decide +kernel
theorem dX8_goes_68 : decode cX8_goes 68 = .ok (.iconst 0, 1) := by decide +kernel
theorem dX8_goes_69 : decode cX8_goes 69 = .ok (.ireturn, 1) := by decide +kernel
theorem dX8_goes_70 : decode cX8_goes 70 = .ok (.iload_n 3, 1) := by decide +kernel
theorem dX8_goes_71 : decode cX8_goes 71 = .ok (.bipush 9, 2) := by decide +kernel
theorem dX8_goes_73 : decode cX8_goes 73 = .ok (.if_icmp .ne 30, 3) := by decide +kernel
theorem dX8_goes_76 : decode cX8_goes 76 = .ok (.aload_n 0, 1) := by decide +kernel
theorem dX8_goes_77 : decode cX8_goes 77 = .ok (.getfield 32, 3) := by decide +kernel
theorem dX8_goes_80 : decode cX8_goes 80 = .ok (.getfield 89, 3) := by decide +kernel
theorem dX8_goes_83 : decode cX8_goes 83 = .ok (.aload_n 0, 1) := by decide +kernel
theorem dX8_goes_84 : decode cX8_goes 84 = .ok (.getfield 32, 3) := by decide +kernel
theorem dX8_goes_87 : decode cX8_goes 87 = .ok (.getfield 93, 3) := by decide +kernel
theorem dX8_goes_90 : decode cX8_goes 90 = .ok (.getfield 97, 3) := by decide +kernel
theorem dX8_goes_93 : decode cX8_goes 93 = .ok (.invokevirtual 100, 3) := by decide +kernel
theorem dX8_goes_96 : decode cX8_goes 96 = .ok (.ifCond .eq 7, 3) := by decide +kernel
theorem dX8_goes_99 : decode cX8_goes 99 = .ok (.iconst 1, 1) := by decide +kernel
theorem dX8_goes_100 : decode cX8_goes 100 = .ok (.goto 4, 3) := by decide +kernel
theorem dX8_goes_103 : decode cX8_goes 103 = .ok (.iconst 0, 1) := by decide +kernel
theorem dX8_goes_104 : decode cX8_goes 104 = .ok (.ireturn, 1) := by decide +kernel
theorem dX8_goes_105 : decode cX8_goes 105 = .ok (.iload_n 3, 1) := by decide +kernel
theorem dX8_goes_106 : decode cX8_goes 106 = .ok (.iconst 4, 1) := by decide +kernel
theorem dX8_goes_107 : decode cX8_goes 107 = .ok (.if_icmp .lt 29, 3) := by decide +kernel
theorem dX8_goes_110 : decode cX8_goes 110 = .ok (.iload_n 3, 1) := by decide +kernel
theorem dX8_goes_111 : decode cX8_goes 111 = .ok (.bipush 8, 2) := by decide +kernel
theorem dX8_goes_113 : decode cX8_goes 113 = .ok (.if_icmp .gt 23, 3) := by decide +kernel
theorem dX8_goes_116 : decode cX8_goes 116 = .ok (.aload_n 0, 1) := by decide +kernel
theorem dX8_goes_117 : decode cX8_goes 117 = .ok (.getfield 28, 3) := by decide +kernel
theorem dX8_goes_120 : decode cX8_goes 120 = .ok (.iload_n 2, 1) := by decide +kernel
theorem dX8_goes_121 : decode cX8_goes 121 = .ok (.sipush 520, 3) := by decide +kernel
theorem dX8_goes_124 : decode cX8_goes 124 = .ok (.invokevirtual 106, 3) := by decide +kernel
theorem dX8_goes_127 : decode cX8_goes 127 = .ok (.bipush 9, 2) := by decide +kernel
theorem dX8_goes_129 : decode cX8_goes 129 = .ok (.if_icmp .eq 7, 3) := by decide +kernel
theorem dX8_goes_132 : decode cX8_goes 132 = .ok (.iconst 1, 1) := by decide +kernel
theorem dX8_goes_133 : decode cX8_goes 133 = .ok (.goto 4, 3) := by decide +kernel
theorem dX8_goes_136 : decode cX8_goes 136 = .ok (.iconst 0, 1) := by decide +kernel
theorem dX8_goes_137 : decode cX8_goes 137 = .ok (.ireturn, 1) := by decide +kernel
theorem dX8_goes_138 : decode cX8_goes 138 = .ok (.iload_n 3, 1) := by decide +kernel
theorem dX8_goes_139 : decode cX8_goes 139 = .ok (.iconst 3, 1) := by decide +kernel
theorem dX8_goes_140 : decode cX8_goes 140 = .ok (.if_icmp .ne 20, 3) := by decide +kernel
theorem dX8_goes_143 : decode cX8_goes 143 = .ok (.aload_n 0, 1) := by decide +kernel
theorem dX8_goes_144 : decode cX8_goes 144 = .ok (.getfield 32, 3) := by decide +kernel
theorem dX8_goes_147 : decode cX8_goes 147 = .ok (.getfield 89, 3) := by decide +kernel
theorem dX8_goes_150 : decode cX8_goes 150 = .ok (.invokevirtual 110, 3) := by decide +kernel
theorem dX8_goes_153 : decode cX8_goes 153 = .ok (.ifCond .ne 7, 3) := by decide +kernel
theorem dX8_goes_156 : decode cX8_goes 156 = .ok (.iconst 1, 1) := by decide +kernel
theorem dX8_goes_157 : decode cX8_goes 157 = .ok (.goto 4, 3) := by decide +kernel
theorem dX8_goes_160 : decode cX8_goes 160 = .ok (.iconst 0, 1) := by decide +kernel
theorem dX8_goes_161 : decode cX8_goes 161 = .ok (.ireturn, 1) := by decide +kernel
theorem dX8_goes_162 : decode cX8_goes 162 = .ok (.aload_n 0, 1) := by decide +kernel
theorem dX8_goes_163 : decode cX8_goes 163 = .ok (.iload_n 2, 1) := by decide +kernel
theorem dX8_goes_164 : decode cX8_goes 164 = .ok (.iload_n 3, 1) := by decide +kernel
theorem dX8_goes_165 : decode cX8_goes 165 = .ok (.invokevirtual 114, 3) := by decide +kernel
theorem dX8_goes_168 : decode cX8_goes 168 = .ok (.ireturn, 1) := by decide +kernel
theorem dX8_goes_169 : decode cX8_goes 169 = .ok (.iload_n 3, 1) := by decide +kernel
theorem dX8_goes_170 : decode cX8_goes 170 = .ok (.bipush 13, 2) := by decide +kernel
theorem dX8_goes_172 : decode cX8_goes 172 = .ok (.if_icmp .ne 15, 3) := by decide +kernel
theorem dX8_goes_175 : decode cX8_goes 175 = .ok (.aload_n 0, 1) := by decide +kernel
theorem dX8_goes_176 : decode cX8_goes 176 = .ok (.iload_n 2, 1) := by decide +kernel
theorem dX8_goes_177 : decode cX8_goes 177 = .ok (.invokevirtual 118, 3) := by decide +kernel
theorem dX8_goes_180 : decode cX8_goes 180 = .ok (.ifCond .eq 7, 3) := by decide +kernel
theorem dX8_goes_183 : decode cX8_goes 183 = .ok (.iconst 1, 1) := by decide +kernel
theorem dX8_goes_184 : decode cX8_goes 184 = .ok (.goto 4, 3) := by decide +kernel
theorem dX8_goes_187 : decode cX8_goes 187 = .ok (.iconst 0, 1) := by decide +kernel
theorem dX8_goes_188 : decode cX8_goes 188 = .ok (.ireturn, 1) := by decide +kernel
theorem dX8_goes_189 : decode cX8_goes 189 = .ok (.aload_n 0, 1) := by decide +kernel
theorem dX8_goes_190 : decode cX8_goes 190 = .ok (.iload_n 2, 1) := by decide +kernel
theorem dX8_goes_191 : decode cX8_goes 191 = .ok (.iload_n 3, 1) := by decide +kernel
theorem dX8_goes_192 : decode cX8_goes 192 = .ok (.invokevirtual 121, 3) := by decide +kernel
theorem dX8_goes_195 : decode cX8_goes 195 = .ok (.ifCond .ne 12, 3) := by decide +kernel
theorem dX8_goes_198 : decode cX8_goes 198 = .ok (.aload_n 0, 1) := by decide +kernel
theorem dX8_goes_199 : decode cX8_goes 199 = .ok (.iload_n 2, 1) := by decide +kernel
theorem dX8_goes_200 : decode cX8_goes 200 = .ok (.iload_n 3, 1) := by decide +kernel
theorem dX8_goes_201 : decode cX8_goes 201 = .ok (.invokevirtual 124, 3) := by decide +kernel
theorem dX8_goes_204 : decode cX8_goes 204 = .ok (.ifCond .eq 7, 3) := by decide +kernel
theorem dX8_goes_207 : decode cX8_goes 207 = .ok (.iconst 1, 1) := by decide +kernel
theorem dX8_goes_208 : decode cX8_goes 208 = .ok (.goto 4, 3) := by decide +kernel
theorem dX8_goes_211 : decode cX8_goes 211 = .ok (.iconst 0, 1) := by decide +kernel
theorem dX8_goes_212 : decode cX8_goes 212 = .ok (.ireturn, 1) := by decide +kernel
theorem dX8_goes_213 : decode cX8_goes 213 = .ok (.iload_n 3, 1) := by decide +kernel
theorem dX8_goes_214 : decode cX8_goes 214 = .ok (.bipush 12, 2) := by decide +kernel
theorem dX8_goes_216 : decode cX8_goes 216 = .ok (.if_icmp .lt 21, 3) := by decide +kernel
theorem dX8_goes_219 : decode cX8_goes 219 = .ok (.iload_n 3, 1) := by decide +kernel
theorem dX8_goes_220 : decode cX8_goes 220 = .ok (.bipush 14, 2) := by decide +kernel
theorem dX8_goes_222 : decode cX8_goes 222 = .ok (.if_icmp .gt 15, 3) := by decide +kernel
theorem dX8_goes_225 : decode cX8_goes 225 = .ok (.aload_n 0, 1) := by decide +kernel
theorem dX8_goes_226 : decode cX8_goes 226 = .ok (.iload_n 2, 1) := by decide +kernel
theorem dX8_goes_227 : decode cX8_goes 227 = .ok (.invokevirtual 127, 3) := by decide +kernel
theorem dX8_goes_230 : decode cX8_goes 230 = .ok (.ifCond .eq 7, 3) := by decide +kernel
theorem dX8_goes_233 : decode cX8_goes 233 = .ok (.iconst 1, 1) := by decide +kernel
theorem dX8_goes_234 : decode cX8_goes 234 = .ok (.goto 4, 3) := by decide +kernel
theorem dX8_goes_237 : decode cX8_goes 237 = .ok (.iconst 0, 1) := by decide +kernel
theorem dX8_goes_238 : decode cX8_goes 238 = .ok (.ireturn, 1) := by decide +kernel
theorem dX8_goes_239 : decode cX8_goes 239 = .ok (.aload_n 0, 1) := by decide +kernel
theorem dX8_goes_240 : decode cX8_goes 240 = .ok (.iload_n 2, 1) := by decide +kernel
theorem dX8_goes_241 : decode cX8_goes 241 = .ok (.iload_n 3, 1) := by decide +kernel
theorem dX8_goes_242 : decode cX8_goes 242 = .ok (.invokevirtual 130, 3) := by decide +kernel
theorem dX8_goes_245 : decode cX8_goes 245 = .ok (.ireturn, 1) := by decide +kernel
abbrev rm_X8_goes : Room := { frames := 4, cells := 0, slots := 0, locals := 91 }
def w_X8_goes : List Cond := Cond.code yX8_goes cX8_goes 4 (some .boolean) :: uw
set_option maxHeartbeats 4000000 in
set_option maxRecDepth 100000 in
theorem c_X8_goes (l : Launch) (dC : Nat → ClassId) (dI : Nat → Nat → Nat) (cI cZ cO : ClassId) (tL sz : Nat) (h0 : Nat) (h1 : Nat) (h2 : Nat) (h3 : Nat) (h4 : Nat) (h5 : Nat) (h6 : Nat) (h7 : Nat) (h8 : Nat) (h9 : Nat) (h10 : Nat) (g5_sheet : Nat) (g5_filler : Nat) (g5_nextTable : Nat) (g5_saved : Nat) (g10_xs : Nat) (g10_ys : Nat) (g10_begins : Nat) (v0_lastFill : Int32) (v0_openedBehind : Int32) (v0_joinedAt : Int32) (v1_count : Int32) (f2 : Nat → Int32) (v3_a : Int32) (v3_b : Int32) (v3_c : Int32) (v3_d : Int32) (v3_e : Int32) (v3_f : Int32) (v4_a : Int32) (v4_b : Int32) (v4_c : Int32) (v4_d : Int32) (v4_e : Int32) (v4_f : Int32) (v5_open : Int32) (v5_place : Int32) (v5_fills : Int32) (v5_painted : Int32) (v6_colour : Int32) (v6_way : Int32) (v7_a : Int32) (v7_b : Int32) (v7_c : Int32) (v7_d : Int32) (v7_e : Int32) (v7_f : Int32) (v8_x : Int32) (v8_y : Int32) (v8_endX : Int32) (v8_endY : Int32) (v9_x : Int32) (v9_y : Int32) (v9_endX : Int32) (v9_endY : Int32) (v10_points : Int32) (v10_lines : Int32) (v10_first : Int32) (v10_firstToldX : Int32) (v10_firstToldY : Int32) (v10_lastToldX : Int32) (v10_lastToldY : Int32) (v10_leastX : Int32) (v10_leastY : Int32) (v10_greatestY : Int32) (p1 : Int32) (p2 : Int32) (p3 : Int32) (res : Int32 × Int32 × Int32 × (Nat → Int32) × Int32 × Int32 × Int32 × Int32 × Int32 × Int32 × Int32 × Int32 × Int32 × Int32 × Int32 × Int32 × Int32 × Int32 × Int32 × Int32) (hM : m_X8_goes v0_lastFill v0_openedBehind v0_joinedAt v1_count f2 v3_a v3_b v3_c v3_d v3_e v3_f v4_a v4_b v4_c v4_d v4_e v4_f v6_colour v6_way v7_a v7_b v7_c v7_d v7_e v7_f v8_x v8_y v8_endX v8_endY v9_x v9_y v9_endX v9_endY v10_points v10_leastX v10_leastY v10_greatestY p1 p2 p3 = some res) : Met l yX8_goes w_X8_goes rm_X8_goes (PCx [.ref h0, .int p1, .int p2, .int p3] (dC, dI) [(cI, .int), (cZ, .boolean), (cO, .object "ListPainter$Settings")] sz tL [(h0, .inr (7, [.ref h1, .ref h5, .ref h8, .ref h3, .ref h4, .int v0_lastFill, .int v0_openedBehind, .int v0_joinedAt])), (h1, .inr (9, [.ref h2, .int v1_count])), (h2, .inl (cI, 1500, .inl f2)), (h3, .inr (8, [.int v3_a, .int v3_b, .int v3_c, .int v3_d, .int v3_e, .int v3_f])), (h4, .inr (8, [.int v4_a, .int v4_b, .int v4_c, .int v4_d, .int v4_e, .int v4_f])), (h5, .inr (3, [.ref g5_sheet, .ref g5_filler, .ref h10, .ref h6, .ref g5_nextTable, .ref g5_saved, .int v5_open, .int v5_place, .int v5_fills, .int v5_painted])), (h6, .inr (5, [.ref h7, .ref h9, .int v6_colour, .int v6_way])), (h7, .inr (8, [.int v7_a, .int v7_b, .int v7_c, .int v7_d, .int v7_e, .int v7_f])), (h8, .inr (1, [.int v8_x, .int v8_y, .int v8_endX, .int v8_endY])), (h9, .inr (1, [.int v9_x, .int v9_y, .int v9_endX, .int v9_endY])), (h10, .inr (4, [.ref g10_xs, .ref g10_ys, .ref g10_begins, .int v10_points, .int v10_lines, .int v10_first, .int v10_firstToldX, .int v10_firstToldY, .int v10_lastToldX, .int v10_lastToldY, .int v10_leastX, .int v10_leastY, .int v10_greatestY]))]) (QMz (res.1) (dC, dI) [(cI, .int), (cZ, .boolean), (cO, .object "ListPainter$Settings")] (va_A [(h0, .inr (7, [.ref h1, .ref h5, .ref h8, .ref h3, .ref h4, .int v0_lastFill, .int v0_openedBehind, .int v0_joinedAt])), (h1, .inr (9, [.ref h2, .int v1_count])), (h2, .inl (cI, 1500, .inl f2)), (h3, .inr (8, [.int v3_a, .int v3_b, .int v3_c, .int v3_d, .int v3_e, .int v3_f])), (h4, .inr (8, [.int v4_a, .int v4_b, .int v4_c, .int v4_d, .int v4_e, .int v4_f])), (h5, .inr (3, [.ref g5_sheet, .ref g5_filler, .ref h10, .ref h6, .ref g5_nextTable, .ref g5_saved, .int v5_open, .int v5_place, .int v5_fills, .int v5_painted])), (h6, .inr (5, [.ref h7, .ref h9, .int v6_colour, .int v6_way])), (h7, .inr (8, [.int v7_a, .int v7_b, .int v7_c, .int v7_d, .int v7_e, .int v7_f])), (h8, .inr (1, [.int v8_x, .int v8_y, .int v8_endX, .int v8_endY])), (h9, .inr (1, [.int v9_x, .int v9_y, .int v9_endX, .int v9_endY])), (h10, .inr (4, [.ref g10_xs, .ref g10_ys, .ref g10_begins, .int v10_points, .int v10_lines, .int v10_first, .int v10_firstToldX, .int v10_firstToldY, .int v10_lastToldX, .int v10_lastToldY, .int v10_leastX, .int v10_leastY, .int v10_greatestY]))] sz) [(h0, .inr (7, [.ref h1, .ref h5, .ref h8, .ref h3, .ref h4, .int v0_lastFill, .int (res.2.1), .int (res.2.2.1)])), (h1, .inr (9, [.ref h2, .int v1_count])), (h2, .inl (cI, 1500, .inl (res.2.2.2.1))), (h3, .inr (8, [.int (res.2.2.2.2.1), .int (res.2.2.2.2.2.1), .int (res.2.2.2.2.2.2.1), .int (res.2.2.2.2.2.2.2.1), .int (res.2.2.2.2.2.2.2.2.1), .int (res.2.2.2.2.2.2.2.2.2.1)])), (h4, .inr (8, [.int (res.2.2.2.2.2.2.2.2.2.2.1), .int (res.2.2.2.2.2.2.2.2.2.2.2.1), .int (res.2.2.2.2.2.2.2.2.2.2.2.2.1), .int (res.2.2.2.2.2.2.2.2.2.2.2.2.2.1), .int (res.2.2.2.2.2.2.2.2.2.2.2.2.2.2.1), .int (res.2.2.2.2.2.2.2.2.2.2.2.2.2.2.2.1)])), (h5, .inr (3, [.ref g5_sheet, .ref g5_filler, .ref h10, .ref h6, .ref g5_nextTable, .ref g5_saved, .int v5_open, .int v5_place, .int v5_fills, .int v5_painted])), (h6, .inr (5, [.ref h7, .ref h9, .int v6_colour, .int v6_way])), (h7, .inr (8, [.int v7_a, .int v7_b, .int v7_c, .int v7_d, .int v7_e, .int v7_f])), (h8, .inr (1, [.int (res.2.2.2.2.2.2.2.2.2.2.2.2.2.2.2.2.1), .int (res.2.2.2.2.2.2.2.2.2.2.2.2.2.2.2.2.2.1), .int (res.2.2.2.2.2.2.2.2.2.2.2.2.2.2.2.2.2.2.1), .int (res.2.2.2.2.2.2.2.2.2.2.2.2.2.2.2.2.2.2.2)])), (h9, .inr (1, [.int v9_x, .int v9_y, .int v9_endX, .int v9_endY])), (h10, .inr (4, [.ref g10_xs, .ref g10_ys, .ref g10_begins, .int v10_points, .int v10_lines, .int v10_first, .int v10_firstToldX, .int v10_firstToldY, .int v10_lastToldX, .int v10_lastToldY, .int v10_leastX, .int v10_leastY, .int v10_greatestY]))]) 0 0 (va_A [(h0, .inr (7, [.ref h1, .ref h5, .ref h8, .ref h3, .ref h4, .int v0_lastFill, .int v0_openedBehind, .int v0_joinedAt])), (h1, .inr (9, [.ref h2, .int v1_count])), (h2, .inl (cI, 1500, .inl f2)), (h3, .inr (8, [.int v3_a, .int v3_b, .int v3_c, .int v3_d, .int v3_e, .int v3_f])), (h4, .inr (8, [.int v4_a, .int v4_b, .int v4_c, .int v4_d, .int v4_e, .int v4_f])), (h5, .inr (3, [.ref g5_sheet, .ref g5_filler, .ref h10, .ref h6, .ref g5_nextTable, .ref g5_saved, .int v5_open, .int v5_place, .int v5_fills, .int v5_painted])), (h6, .inr (5, [.ref h7, .ref h9, .int v6_colour, .int v6_way])), (h7, .inr (8, [.int v7_a, .int v7_b, .int v7_c, .int v7_d, .int v7_e, .int v7_f])), (h8, .inr (1, [.int v8_x, .int v8_y, .int v8_endX, .int v8_endY])), (h9, .inr (1, [.int v9_x, .int v9_y, .int v9_endX, .int v9_endY])), (h10, .inr (4, [.ref g10_xs, .ref g10_ys, .ref g10_begins, .int v10_points, .int v10_lines, .int v10_first, .int v10_firstToldX, .int v10_firstToldY, .int v10_lastToldX, .int v10_lastToldY, .int v10_leastX, .int v10_leastY, .int v10_greatestY]))] sz) := by
  refine Met.ofW (cc := cX8_goes) (maxL := 4) (ret := (some .boolean)) (by decide) rfl ?_
  intro p e s m args below meth c s₁ B hml hv
  obtain ⟨rfl, hsz, hP, hK, hD0, hG⟩ := hv
  have hx := B.exec
  have hb := B.bytes
  have hr := B.returns
  have hu : ∀ w ∈ uw, w.before ([.ref h0, .int p1, .int p2, .int p3] : List Value).toArray s = true := fun w h => atoms_spec (ws := w_X8_goes) B.pre w (List.mem_cons_of_mem _ h)
  have hown : s.vm.findClass RX8 = some m.cls := findClass_of_methodNamed B.named
  have hlocks := B.notSynchronized
  subst hsz
  have hD := hD0.self (sz := s.heap.size)
  generalize hAe : va_A [(h0, .inr (7, [.ref h1, .ref h5, .ref h8, .ref h3, .ref h4, .int v0_lastFill, .int v0_openedBehind, .int v0_joinedAt])), (h1, .inr (9, [.ref h2, .int v1_count])), (h2, .inl (cI, 1500, .inl f2)), (h3, .inr (8, [.int v3_a, .int v3_b, .int v3_c, .int v3_d, .int v3_e, .int v3_f])), (h4, .inr (8, [.int v4_a, .int v4_b, .int v4_c, .int v4_d, .int v4_e, .int v4_f])), (h5, .inr (3, [.ref g5_sheet, .ref g5_filler, .ref h10, .ref h6, .ref g5_nextTable, .ref g5_saved, .int v5_open, .int v5_place, .int v5_fills, .int v5_painted])), (h6, .inr (5, [.ref h7, .ref h9, .int v6_colour, .int v6_way])), (h7, .inr (8, [.int v7_a, .int v7_b, .int v7_c, .int v7_d, .int v7_e, .int v7_f])), (h8, .inr (1, [.int v8_x, .int v8_y, .int v8_endX, .int v8_endY])), (h9, .inr (1, [.int v9_x, .int v9_y, .int v9_endX, .int v9_endY])), (h10, .inr (4, [.ref g10_xs, .ref g10_ys, .ref g10_begins, .int v10_points, .int v10_lines, .int v10_first, .int v10_firstToldX, .int v10_firstToldY, .int v10_lastToldX, .int v10_lastToldY, .int v10_leastX, .int v10_leastY, .int v10_greatestY]))] s.heap.size = A at hD hG ⊢
  have hA : ∀ q : Nat, s.heap.size ≤ q → A q := fun q h => by rw [← hAe]; exact Or.inr h
  have hS : va_S A s.heap s.heap [] := va_S.rf
  have hP : va_P (dC, dI) vwCl [(h0, .inr (7, [.ref h1, .ref h5, .ref h8, .ref h3, .ref h4, .int v0_lastFill, .int v0_openedBehind, .int v0_joinedAt])), (h1, .inr (9, [.ref h2, .int v1_count])), (h2, .inl (cI, 1500, .inl f2)), (h3, .inr (8, [.int v3_a, .int v3_b, .int v3_c, .int v3_d, .int v3_e, .int v3_f])), (h4, .inr (8, [.int v4_a, .int v4_b, .int v4_c, .int v4_d, .int v4_e, .int v4_f])), (h5, .inr (3, [.ref g5_sheet, .ref g5_filler, .ref h10, .ref h6, .ref g5_nextTable, .ref g5_saved, .int v5_open, .int v5_place, .int v5_fills, .int v5_painted])), (h6, .inr (5, [.ref h7, .ref h9, .int v6_colour, .int v6_way])), (h7, .inr (8, [.int v7_a, .int v7_b, .int v7_c, .int v7_d, .int v7_e, .int v7_f])), (h8, .inr (1, [.int v8_x, .int v8_y, .int v8_endX, .int v8_endY])), (h9, .inr (1, [.int v9_x, .int v9_y, .int v9_endX, .int v9_endY])), (h10, .inr (4, [.ref g10_xs, .ref g10_ys, .ref g10_begins, .int v10_points, .int v10_lines, .int v10_first, .int v10_firstToldX, .int v10_firstToldY, .int v10_lastToldX, .int v10_lastToldY, .int v10_leastX, .int v10_leastY, .int v10_greatestY]))] s.heap := hP
  have hl := lv_entry ([.ref h0, .int p1, .int p2, .int p3]) (n := 4) (Nat.le_of_ble_eq_true rfl)
  rw [lg_entry_eq]
  generalize (lg_sl ([.ref h0, .int p1, .int p2, .int p3]) ++ List.replicate (4 - (lg_sl ([.ref h0, .int p1, .int p2, .int p3])).length) Slot.unset).toArray = ls at hl ⊢
  have hl : lv_has ls 4 [(0, .ref h0), (1, .int p1), (2, .int p2), (3, .int p3)] := hl
  rw [m_X8_goes] at hM
  suffices hgo : ∀ (H : Heap) (locs : List Loc), va_P (dC, dI) vwCl [(h0, .inr (7, [.ref h1, .ref h5, .ref h8, .ref h3, .ref h4, .int v0_lastFill, .int v0_openedBehind, .int v0_joinedAt])), (h1, .inr (9, [.ref h2, .int v1_count])), (h2, .inl (cI, 1500, .inl f2)), (h3, .inr (8, [.int v3_a, .int v3_b, .int v3_c, .int v3_d, .int v3_e, .int v3_f])), (h4, .inr (8, [.int v4_a, .int v4_b, .int v4_c, .int v4_d, .int v4_e, .int v4_f])), (h5, .inr (3, [.ref g5_sheet, .ref g5_filler, .ref h10, .ref h6, .ref g5_nextTable, .ref g5_saved, .int v5_open, .int v5_place, .int v5_fills, .int v5_painted])), (h6, .inr (5, [.ref h7, .ref h9, .int v6_colour, .int v6_way])), (h7, .inr (8, [.int v7_a, .int v7_b, .int v7_c, .int v7_d, .int v7_e, .int v7_f])), (h8, .inr (1, [.int v8_x, .int v8_y, .int v8_endX, .int v8_endY])), (h9, .inr (1, [.int v9_x, .int v9_y, .int v9_endX, .int v9_endY])), (h10, .inr (4, [.ref g10_xs, .ref g10_ys, .ref g10_begins, .int v10_points, .int v10_lines, .int v10_first, .int v10_firstToldX, .int v10_firstToldY, .int v10_lastToldX, .int v10_lastToldY, .int v10_leastX, .int v10_leastY, .int v10_greatestY]))] H → va_D A [(h0, .inr (7, [.ref h1, .ref h5, .ref h8, .ref h3, .ref h4, .int v0_lastFill, .int v0_openedBehind, .int v0_joinedAt])), (h1, .inr (9, [.ref h2, .int v1_count])), (h2, .inl (cI, 1500, .inl f2)), (h3, .inr (8, [.int v3_a, .int v3_b, .int v3_c, .int v3_d, .int v3_e, .int v3_f])), (h4, .inr (8, [.int v4_a, .int v4_b, .int v4_c, .int v4_d, .int v4_e, .int v4_f])), (h5, .inr (3, [.ref g5_sheet, .ref g5_filler, .ref h10, .ref h6, .ref g5_nextTable, .ref g5_saved, .int v5_open, .int v5_place, .int v5_fills, .int v5_painted])), (h6, .inr (5, [.ref h7, .ref h9, .int v6_colour, .int v6_way])), (h7, .inr (8, [.int v7_a, .int v7_b, .int v7_c, .int v7_d, .int v7_e, .int v7_f])), (h8, .inr (1, [.int v8_x, .int v8_y, .int v8_endX, .int v8_endY])), (h9, .inr (1, [.int v9_x, .int v9_y, .int v9_endX, .int v9_endY])), (h10, .inr (4, [.ref g10_xs, .ref g10_ys, .ref g10_begins, .int v10_points, .int v10_lines, .int v10_first, .int v10_firstToldX, .int v10_firstToldY, .int v10_lastToldX, .int v10_lastToldY, .int v10_leastX, .int v10_leastY, .int v10_greatestY]))] → va_S A s.heap H locs → W p l e (headSpec w_X8_goes rm_X8_goes).room s m ([.ref h0, .int p1, .int p2, .int p3] : List Value).toArray below meth c H locs 0 0 (MQ below (QMz (res.1) (dC, dI) [(cI, .int), (cZ, .boolean), (cO, .object "ListPainter$Settings")] A [(h0, .inr (7, [.ref h1, .ref h5, .ref h8, .ref h3, .ref h4, .int v0_lastFill, .int (res.2.1), .int (res.2.2.1)])), (h1, .inr (9, [.ref h2, .int v1_count])), (h2, .inl (cI, 1500, .inl (res.2.2.2.1))), (h3, .inr (8, [.int (res.2.2.2.2.1), .int (res.2.2.2.2.2.1), .int (res.2.2.2.2.2.2.1), .int (res.2.2.2.2.2.2.2.1), .int (res.2.2.2.2.2.2.2.2.1), .int (res.2.2.2.2.2.2.2.2.2.1)])), (h4, .inr (8, [.int (res.2.2.2.2.2.2.2.2.2.2.1), .int (res.2.2.2.2.2.2.2.2.2.2.2.1), .int (res.2.2.2.2.2.2.2.2.2.2.2.2.1), .int (res.2.2.2.2.2.2.2.2.2.2.2.2.2.1), .int (res.2.2.2.2.2.2.2.2.2.2.2.2.2.2.1), .int (res.2.2.2.2.2.2.2.2.2.2.2.2.2.2.2.1)])), (h5, .inr (3, [.ref g5_sheet, .ref g5_filler, .ref h10, .ref h6, .ref g5_nextTable, .ref g5_saved, .int v5_open, .int v5_place, .int v5_fills, .int v5_painted])), (h6, .inr (5, [.ref h7, .ref h9, .int v6_colour, .int v6_way])), (h7, .inr (8, [.int v7_a, .int v7_b, .int v7_c, .int v7_d, .int v7_e, .int v7_f])), (h8, .inr (1, [.int (res.2.2.2.2.2.2.2.2.2.2.2.2.2.2.2.2.1), .int (res.2.2.2.2.2.2.2.2.2.2.2.2.2.2.2.2.2.1), .int (res.2.2.2.2.2.2.2.2.2.2.2.2.2.2.2.2.2.2.1), .int (res.2.2.2.2.2.2.2.2.2.2.2.2.2.2.2.2.2.2.2)])), (h9, .inr (1, [.int v9_x, .int v9_y, .int v9_endX, .int v9_endY])), (h10, .inr (4, [.ref g10_xs, .ref g10_ys, .ref g10_begins, .int v10_points, .int v10_lines, .int v10_first, .int v10_firstToldX, .int v10_firstToldY, .int v10_lastToldX, .int v10_lastToldY, .int v10_leastX, .int v10_leastY, .int v10_greatestY]))]) ([.ref h0, .int p1, .int p2, .int p3] : List Value).toArray s 0 0 A) (F0 m 0 ls []) from hgo _ _ hP hD hS
  intro H locs hP hD hS
  refine lv_iload_n hx hb dX8_goes_0 rfl (lv_at hl 1 rfl) ?_
  by_cases c1_0 : p1 = 0
  · have hM := if_t c1_0 hM
    refine lv_tableIn (tgt := 48) hx hb dX8_goes_1 (by rw [c1_0]; decide) (by rw [c1_0]; decide) (by rw [c1_0]; rfl) (by decide) ?_
    refine lv_iload_n hx hb dX8_goes_48 rfl (lv_at hl 2 rfl) ?_
    refine lv_aload_n hx hb dX8_goes_49 rfl (lv_at hl 0 rfl) ?_
    refine va_get (D := (dC, dI)) (ci := 7) (v := .int v0_lastFill) (C := RX8) (T := TX8) (N := 8) hx hb hu inX8 hown hK hP 0 rfl rfl 5 (by decide) (hu _ kw_626) (fun _ h9 => h9) rfl dX8_goes_50 ?_
    refine lv_icmp_le (tgt := 68) hx hb dX8_goes_53 (by decide) (fun c_2 => ?_) (fun c_2 => ?_)
    · have hM := if_t c_2 hM
      refine lv_iconst (v := 0) hx hb dX8_goes_68 (by decide) ?_
      have h9 := Option.some.inj hM
      subst h9
      exact W.zret (v := 0) hx hb hr (zb_n (Or.inl rfl)) (fun t ht hW => QMz_mk (Or.inl rfl) (by rw [ht]; exact hP) (va_K.moved hW.alike hK) hD (hS.F ht)) hS.2.2 dX8_goes_69
    · have hM := if_f c_2 hM
      refine lv_aload_n hx hb dX8_goes_56 rfl (lv_at hl 0 rfl) ?_
      refine lv_iload_n hx hb dX8_goes_57 rfl (lv_at hl 3 rfl) ?_
      obtain ⟨r_3, v0_4, hm_5, hM⟩ := bd2_u hM
      refine cVz (r := r_3) (As := [.int p3]) (rest := []) ⟨hx, hb, hml, hown, hu⟩ (c_X8_goesBehindFills l dC dI cI cZ cO tL H.size h0 h1 h5 h8 h3 h4 v0_lastFill v0_openedBehind v0_joinedAt p3 (r_3, v0_4) hm_5) (cwV 1 hu (gV kw_627 kw_628 kw_629 kw_630 kw_631) rfl rfl rfl (by decide +kernel) ⟨Nat.le_of_ble_eq_true rfl, Nat.le_of_ble_eq_true rfl⟩) hP hD hS hA hK hG [0] (by decide) rfl [some 0, none, none, none, none, none, none, none, none, none, none] 1 rfl (by decide +kernel) rfl 7 0 rfl rfl rfl rfl hl.1 rfl (Nat.le_of_ble_eq_true rfl) dX8_goes_58 (Nat.zero_le _) (Nat.zero_le _) (fun H locs hz_r_3 hP hD hS => ?_)
      have hP : va_P (dC, dI) vwCl [(h0, .inr (7, [.ref h1, .ref h5, .ref h8, .ref h3, .ref h4, .int v0_lastFill, .int v0_4, .int v0_joinedAt])), (h1, .inr (9, [.ref h2, .int v1_count])), (h2, .inl (cI, 1500, .inl f2)), (h3, .inr (8, [.int v3_a, .int v3_b, .int v3_c, .int v3_d, .int v3_e, .int v3_f])), (h4, .inr (8, [.int v4_a, .int v4_b, .int v4_c, .int v4_d, .int v4_e, .int v4_f])), (h5, .inr (3, [.ref g5_sheet, .ref g5_filler, .ref h10, .ref h6, .ref g5_nextTable, .ref g5_saved, .int v5_open, .int v5_place, .int v5_fills, .int v5_painted])), (h6, .inr (5, [.ref h7, .ref h9, .int v6_colour, .int v6_way])), (h7, .inr (8, [.int v7_a, .int v7_b, .int v7_c, .int v7_d, .int v7_e, .int v7_f])), (h8, .inr (1, [.int v8_x, .int v8_y, .int v8_endX, .int v8_endY])), (h9, .inr (1, [.int v9_x, .int v9_y, .int v9_endX, .int v9_endY])), (h10, .inr (4, [.ref g10_xs, .ref g10_ys, .ref g10_begins, .int v10_points, .int v10_lines, .int v10_first, .int v10_firstToldX, .int v10_firstToldY, .int v10_lastToldX, .int v10_lastToldY, .int v10_leastX, .int v10_leastY, .int v10_greatestY]))] H := hP
      have hD : va_D A [(h0, .inr (7, [.ref h1, .ref h5, .ref h8, .ref h3, .ref h4, .int v0_lastFill, .int v0_4, .int v0_joinedAt])), (h1, .inr (9, [.ref h2, .int v1_count])), (h2, .inl (cI, 1500, .inl f2)), (h3, .inr (8, [.int v3_a, .int v3_b, .int v3_c, .int v3_d, .int v3_e, .int v3_f])), (h4, .inr (8, [.int v4_a, .int v4_b, .int v4_c, .int v4_d, .int v4_e, .int v4_f])), (h5, .inr (3, [.ref g5_sheet, .ref g5_filler, .ref h10, .ref h6, .ref g5_nextTable, .ref g5_saved, .int v5_open, .int v5_place, .int v5_fills, .int v5_painted])), (h6, .inr (5, [.ref h7, .ref h9, .int v6_colour, .int v6_way])), (h7, .inr (8, [.int v7_a, .int v7_b, .int v7_c, .int v7_d, .int v7_e, .int v7_f])), (h8, .inr (1, [.int v8_x, .int v8_y, .int v8_endX, .int v8_endY])), (h9, .inr (1, [.int v9_x, .int v9_y, .int v9_endX, .int v9_endY])), (h10, .inr (4, [.ref g10_xs, .ref g10_ys, .ref g10_begins, .int v10_points, .int v10_lines, .int v10_first, .int v10_firstToldX, .int v10_firstToldY, .int v10_lastToldX, .int v10_lastToldY, .int v10_leastX, .int v10_leastY, .int v10_greatestY]))] := hD
      refine lv_if_eq (tgt := 68) hx hb dX8_goes_61 (by decide) (fun c_6 => ?_) (fun c_6 => ?_)
      · have hM := if_t c_6 hM
        refine lv_iconst (v := 0) hx hb dX8_goes_68 (by decide) ?_
        have h9 := Option.some.inj hM
        subst h9
        exact W.zret (v := 0) hx hb hr (zb_n (Or.inl rfl)) (fun t ht hW => QMz_mk (Or.inl rfl) (by rw [ht]; exact hP) (va_K.moved hW.alike hK) hD (hS.F ht)) hS.2.2 dX8_goes_69
      · have hM := if_f c_6 hM
        refine lv_iconst (v := 1) hx hb dX8_goes_64 (by decide) ?_
        refine lv_goto (tgt := 69) hx hb dX8_goes_65 (by decide) ?_
        have h9 := Option.some.inj hM
        subst h9
        exact W.zret (v := 1) hx hb hr (zb_n (Or.inr rfl)) (fun t ht hW => QMz_mk (Or.inr rfl) (by rw [ht]; exact hP) (va_K.moved hW.alike hK) hD (hS.F ht)) hS.2.2 dX8_goes_69
  · have hM := if_f c1_0 hM
    by_cases c1_1 : p1 = 1
    · have hM := if_t c1_1 hM
      refine lv_tableIn (tgt := 70) hx hb dX8_goes_1 (by rw [c1_1]; decide) (by rw [c1_1]; decide) (by rw [c1_1]; rfl) (by decide) ?_
      refine lv_iload_n hx hb dX8_goes_70 rfl (lv_at hl 3 rfl) ?_
      refine lv_bipush (v := 9) hx hb dX8_goes_71 (by decide) ?_
      refine lv_icmp_ne (tgt := 103) hx hb dX8_goes_73 (by decide) (fun c_7 => ?_) (fun c_7 => ?_)
      · have hM := if_f c_7 hM
        refine lv_iconst (v := 0) hx hb dX8_goes_103 (by decide) ?_
        have h9 := Option.some.inj hM
        subst h9
        exact W.zret (v := 0) hx hb hr (zb_n (Or.inl rfl)) (fun t ht hW => QMz_mk (Or.inl rfl) (by rw [ht]; exact hP) (va_K.moved hW.alike hK) hD (hS.F ht)) hS.2.2 dX8_goes_104
      · have hM := if_t c_7 hM
        refine lv_aload_n hx hb dX8_goes_76 rfl (lv_at hl 0 rfl) ?_
        refine va_get (D := (dC, dI)) (ci := 7) (v := .ref h5) (C := RX8) (T := TX8) (N := 8) hx hb hu inX8 hown hK hP 0 rfl rfl 1 (by decide) (hu _ kw_589) (fun _ h9 => h9) rfl dX8_goes_77 ?_
        refine va_getN (D := (dC, dI)) (ci := 3) (v := .ref h10) (C := RX3) (T := TX3) (N := 10) hx hb hu inX3 hown hK hP 5 rfl rfl 2 (by decide) (gX_nest hG 258 kw_632 rfl) (fun _ h9 => h9) rfl dX8_goes_80 ?_
        refine lv_aload_n hx hb dX8_goes_83 rfl (lv_at hl 0 rfl) ?_
        refine va_get (D := (dC, dI)) (ci := 7) (v := .ref h5) (C := RX8) (T := TX8) (N := 8) hx hb hu inX8 hown hK hP 0 rfl rfl 1 (by decide) (hu _ kw_589) (fun _ h9 => h9) rfl dX8_goes_84 ?_
        refine va_getN (D := (dC, dI)) (ci := 3) (v := .ref h6) (C := RX3) (T := TX3) (N := 10) hx hb hu inX3 hown hK hP 5 rfl rfl 3 (by decide) (gX_nest hG 260 kw_590 rfl) (fun _ h9 => h9) rfl dX8_goes_87 ?_
        refine va_getN (D := (dC, dI)) (ci := 5) (v := .ref h9) (C := RX6) (T := TX6) (N := 4) hx hb hu inX6 hown hK hP 6 rfl rfl 1 (by decide) (gX_nest hG 233 kw_594 rfl) (fun _ h9 => h9) rfl dX8_goes_90 ?_
        obtain ⟨r_8, hm_9, hM⟩ := bd1_u hM
        refine cVz (r := r_8) (As := [.ref h9]) (rest := []) ⟨hx, hb, hml, hown, hu⟩ (c_X5_misses l dC dI cI cZ cO tL H.size h10 h9 g10_xs g10_ys g10_begins v10_points v10_lines v10_first v10_firstToldX v10_firstToldY v10_lastToldX v10_lastToldY v10_leastX v10_leastY v10_greatestY v9_x v9_y v9_endX v9_endY r_8 hm_9) (cwV 1 hu (gV kw_633 kw_634 kw_635 kw_134 kw_636) rfl rfl rfl (by decide +kernel) ⟨Nat.le_of_ble_eq_true rfl, Nat.le_of_ble_eq_true rfl⟩) hP hD hS hA hK hG [10, 9] (by decide) rfl [none, none, none, none, none, none, none, none, none, some 1, some 0] 2 rfl (by decide +kernel) rfl 4 10 rfl rfl rfl rfl hl.1 rfl (Nat.le_of_ble_eq_true rfl) dX8_goes_93 (Nat.zero_le _) (Nat.zero_le _) (fun H locs hz_r_8 hP hD hS => ?_)
        have hP : va_P (dC, dI) vwCl [(h0, .inr (7, [.ref h1, .ref h5, .ref h8, .ref h3, .ref h4, .int v0_lastFill, .int v0_openedBehind, .int v0_joinedAt])), (h1, .inr (9, [.ref h2, .int v1_count])), (h2, .inl (cI, 1500, .inl f2)), (h3, .inr (8, [.int v3_a, .int v3_b, .int v3_c, .int v3_d, .int v3_e, .int v3_f])), (h4, .inr (8, [.int v4_a, .int v4_b, .int v4_c, .int v4_d, .int v4_e, .int v4_f])), (h5, .inr (3, [.ref g5_sheet, .ref g5_filler, .ref h10, .ref h6, .ref g5_nextTable, .ref g5_saved, .int v5_open, .int v5_place, .int v5_fills, .int v5_painted])), (h6, .inr (5, [.ref h7, .ref h9, .int v6_colour, .int v6_way])), (h7, .inr (8, [.int v7_a, .int v7_b, .int v7_c, .int v7_d, .int v7_e, .int v7_f])), (h8, .inr (1, [.int v8_x, .int v8_y, .int v8_endX, .int v8_endY])), (h9, .inr (1, [.int v9_x, .int v9_y, .int v9_endX, .int v9_endY])), (h10, .inr (4, [.ref g10_xs, .ref g10_ys, .ref g10_begins, .int v10_points, .int v10_lines, .int v10_first, .int v10_firstToldX, .int v10_firstToldY, .int v10_lastToldX, .int v10_lastToldY, .int v10_leastX, .int v10_leastY, .int v10_greatestY]))] H := hP
        have hD : va_D A [(h0, .inr (7, [.ref h1, .ref h5, .ref h8, .ref h3, .ref h4, .int v0_lastFill, .int v0_openedBehind, .int v0_joinedAt])), (h1, .inr (9, [.ref h2, .int v1_count])), (h2, .inl (cI, 1500, .inl f2)), (h3, .inr (8, [.int v3_a, .int v3_b, .int v3_c, .int v3_d, .int v3_e, .int v3_f])), (h4, .inr (8, [.int v4_a, .int v4_b, .int v4_c, .int v4_d, .int v4_e, .int v4_f])), (h5, .inr (3, [.ref g5_sheet, .ref g5_filler, .ref h10, .ref h6, .ref g5_nextTable, .ref g5_saved, .int v5_open, .int v5_place, .int v5_fills, .int v5_painted])), (h6, .inr (5, [.ref h7, .ref h9, .int v6_colour, .int v6_way])), (h7, .inr (8, [.int v7_a, .int v7_b, .int v7_c, .int v7_d, .int v7_e, .int v7_f])), (h8, .inr (1, [.int v8_x, .int v8_y, .int v8_endX, .int v8_endY])), (h9, .inr (1, [.int v9_x, .int v9_y, .int v9_endX, .int v9_endY])), (h10, .inr (4, [.ref g10_xs, .ref g10_ys, .ref g10_begins, .int v10_points, .int v10_lines, .int v10_first, .int v10_firstToldX, .int v10_firstToldY, .int v10_lastToldX, .int v10_lastToldY, .int v10_leastX, .int v10_leastY, .int v10_greatestY]))] := hD
        refine lv_if_eq (tgt := 103) hx hb dX8_goes_96 (by decide) (fun c_10 => ?_) (fun c_10 => ?_)
        · have hM := if_t c_10 hM
          refine lv_iconst (v := 0) hx hb dX8_goes_103 (by decide) ?_
          have h9 := Option.some.inj hM
          subst h9
          exact W.zret (v := 0) hx hb hr (zb_n (Or.inl rfl)) (fun t ht hW => QMz_mk (Or.inl rfl) (by rw [ht]; exact hP) (va_K.moved hW.alike hK) hD (hS.F ht)) hS.2.2 dX8_goes_104
        · have hM := if_f c_10 hM
          refine lv_iconst (v := 1) hx hb dX8_goes_99 (by decide) ?_
          refine lv_goto (tgt := 104) hx hb dX8_goes_100 (by decide) ?_
          have h9 := Option.some.inj hM
          subst h9
          exact W.zret (v := 1) hx hb hr (zb_n (Or.inr rfl)) (fun t ht hW => QMz_mk (Or.inr rfl) (by rw [ht]; exact hP) (va_K.moved hW.alike hK) hD (hS.F ht)) hS.2.2 dX8_goes_104
    · have hM := if_f c1_1 hM
      by_cases c1_2 : p1 = 2
      · have hM := if_t c1_2 hM
        refine lv_tableIn (tgt := 105) hx hb dX8_goes_1 (by rw [c1_2]; decide) (by rw [c1_2]; decide) (by rw [c1_2]; rfl) (by decide) ?_
        refine lv_iload_n hx hb dX8_goes_105 rfl (lv_at hl 3 rfl) ?_
        refine lv_iconst (v := 4) hx hb dX8_goes_106 (by decide) ?_
        refine lv_icmp_lt (tgt := 136) hx hb dX8_goes_107 (by decide) (fun c_11 => ?_) (fun c_11 => ?_)
        · have hM := if_t c_11 hM
          refine lv_iconst (v := 0) hx hb dX8_goes_136 (by decide) ?_
          have h9 := Option.some.inj hM
          subst h9
          exact W.zret (v := 0) hx hb hr (zb_n (Or.inl rfl)) (fun t ht hW => QMz_mk (Or.inl rfl) (by rw [ht]; exact hP) (va_K.moved hW.alike hK) hD (hS.F ht)) hS.2.2 dX8_goes_137
        · have hM := if_f c_11 hM
          refine lv_iload_n hx hb dX8_goes_110 rfl (lv_at hl 3 rfl) ?_
          refine lv_bipush (v := 8) hx hb dX8_goes_111 (by decide) ?_
          refine lv_icmp_gt (tgt := 136) hx hb dX8_goes_113 (by decide) (fun c_12 => ?_) (fun c_12 => ?_)
          · have hM := if_t c_12 hM
            refine lv_iconst (v := 0) hx hb dX8_goes_136 (by decide) ?_
            have h9 := Option.some.inj hM
            subst h9
            exact W.zret (v := 0) hx hb hr (zb_n (Or.inl rfl)) (fun t ht hW => QMz_mk (Or.inl rfl) (by rw [ht]; exact hP) (va_K.moved hW.alike hK) hD (hS.F ht)) hS.2.2 dX8_goes_137
          · have hM := if_f c_12 hM
            refine lv_aload_n hx hb dX8_goes_116 rfl (lv_at hl 0 rfl) ?_
            refine va_get (D := (dC, dI)) (ci := 7) (v := .ref h1) (C := RX8) (T := TX8) (N := 8) hx hb hu inX8 hown hK hP 0 rfl rfl 0 (by decide) (hu _ kw_583) (fun _ h9 => h9) rfl dX8_goes_117 ?_
            refine lv_iload_n hx hb dX8_goes_120 rfl (lv_at hl 2 rfl) ?_
            refine lv_sipush (v := 520) hx hb dX8_goes_121 (by decide) ?_
            obtain ⟨r_13, hm_14, hM⟩ := bd1_u hM
            refine cVi (r := r_13) (As := [.int p2, .int 520]) (rest := []) ⟨hx, hb, hml, hown, hu⟩ (c_X10_firstBehind l dC dI cI cZ cO tL H.size h1 h2 v1_count f2 p2 520 r_13 hm_14) (cwV 2 hu (gV kw_585 kw_586 kw_587 kw_5 kw_588) rfl rfl rfl (by decide +kernel) ⟨Nat.le_of_ble_eq_true rfl, Nat.le_of_ble_eq_true rfl⟩) hP hD hS hA hK hG [1, 2] (by decide) rfl [none, some 0, some 1, none, none, none, none, none, none, none, none] 2 rfl (by decide +kernel) rfl 9 1 rfl rfl rfl rfl hl.1 rfl (Nat.le_of_ble_eq_true rfl) dX8_goes_124 (Nat.zero_le _) (Nat.zero_le _) (fun H locs hP hD hS => ?_)
            have hP : va_P (dC, dI) vwCl [(h0, .inr (7, [.ref h1, .ref h5, .ref h8, .ref h3, .ref h4, .int v0_lastFill, .int v0_openedBehind, .int v0_joinedAt])), (h1, .inr (9, [.ref h2, .int v1_count])), (h2, .inl (cI, 1500, .inl f2)), (h3, .inr (8, [.int v3_a, .int v3_b, .int v3_c, .int v3_d, .int v3_e, .int v3_f])), (h4, .inr (8, [.int v4_a, .int v4_b, .int v4_c, .int v4_d, .int v4_e, .int v4_f])), (h5, .inr (3, [.ref g5_sheet, .ref g5_filler, .ref h10, .ref h6, .ref g5_nextTable, .ref g5_saved, .int v5_open, .int v5_place, .int v5_fills, .int v5_painted])), (h6, .inr (5, [.ref h7, .ref h9, .int v6_colour, .int v6_way])), (h7, .inr (8, [.int v7_a, .int v7_b, .int v7_c, .int v7_d, .int v7_e, .int v7_f])), (h8, .inr (1, [.int v8_x, .int v8_y, .int v8_endX, .int v8_endY])), (h9, .inr (1, [.int v9_x, .int v9_y, .int v9_endX, .int v9_endY])), (h10, .inr (4, [.ref g10_xs, .ref g10_ys, .ref g10_begins, .int v10_points, .int v10_lines, .int v10_first, .int v10_firstToldX, .int v10_firstToldY, .int v10_lastToldX, .int v10_lastToldY, .int v10_leastX, .int v10_leastY, .int v10_greatestY]))] H := hP
            have hD : va_D A [(h0, .inr (7, [.ref h1, .ref h5, .ref h8, .ref h3, .ref h4, .int v0_lastFill, .int v0_openedBehind, .int v0_joinedAt])), (h1, .inr (9, [.ref h2, .int v1_count])), (h2, .inl (cI, 1500, .inl f2)), (h3, .inr (8, [.int v3_a, .int v3_b, .int v3_c, .int v3_d, .int v3_e, .int v3_f])), (h4, .inr (8, [.int v4_a, .int v4_b, .int v4_c, .int v4_d, .int v4_e, .int v4_f])), (h5, .inr (3, [.ref g5_sheet, .ref g5_filler, .ref h10, .ref h6, .ref g5_nextTable, .ref g5_saved, .int v5_open, .int v5_place, .int v5_fills, .int v5_painted])), (h6, .inr (5, [.ref h7, .ref h9, .int v6_colour, .int v6_way])), (h7, .inr (8, [.int v7_a, .int v7_b, .int v7_c, .int v7_d, .int v7_e, .int v7_f])), (h8, .inr (1, [.int v8_x, .int v8_y, .int v8_endX, .int v8_endY])), (h9, .inr (1, [.int v9_x, .int v9_y, .int v9_endX, .int v9_endY])), (h10, .inr (4, [.ref g10_xs, .ref g10_ys, .ref g10_begins, .int v10_points, .int v10_lines, .int v10_first, .int v10_firstToldX, .int v10_firstToldY, .int v10_lastToldX, .int v10_lastToldY, .int v10_leastX, .int v10_leastY, .int v10_greatestY]))] := hD
            refine lv_bipush (v := 9) hx hb dX8_goes_127 (by decide) ?_
            refine lv_icmp_eq (tgt := 136) hx hb dX8_goes_129 (by decide) (fun c_15 => ?_) (fun c_15 => ?_)
            · have hM := if_t c_15 hM
              refine lv_iconst (v := 0) hx hb dX8_goes_136 (by decide) ?_
              have h9 := Option.some.inj hM
              subst h9
              exact W.zret (v := 0) hx hb hr (zb_n (Or.inl rfl)) (fun t ht hW => QMz_mk (Or.inl rfl) (by rw [ht]; exact hP) (va_K.moved hW.alike hK) hD (hS.F ht)) hS.2.2 dX8_goes_137
            · have hM := if_f c_15 hM
              refine lv_iconst (v := 1) hx hb dX8_goes_132 (by decide) ?_
              refine lv_goto (tgt := 137) hx hb dX8_goes_133 (by decide) ?_
              have h9 := Option.some.inj hM
              subst h9
              exact W.zret (v := 1) hx hb hr (zb_n (Or.inr rfl)) (fun t ht hW => QMz_mk (Or.inr rfl) (by rw [ht]; exact hP) (va_K.moved hW.alike hK) hD (hS.F ht)) hS.2.2 dX8_goes_137
      · have hM := if_f c1_2 hM
        by_cases c1_3 : p1 = 3
        · have hM := if_t c1_3 hM
          refine lv_tableIn (tgt := 138) hx hb dX8_goes_1 (by rw [c1_3]; decide) (by rw [c1_3]; decide) (by rw [c1_3]; rfl) (by decide) ?_
          refine lv_iload_n hx hb dX8_goes_138 rfl (lv_at hl 3 rfl) ?_
          refine lv_iconst (v := 3) hx hb dX8_goes_139 (by decide) ?_
          refine lv_icmp_ne (tgt := 160) hx hb dX8_goes_140 (by decide) (fun c_16 => ?_) (fun c_16 => ?_)
          · have hM := if_f c_16 hM
            refine lv_iconst (v := 0) hx hb dX8_goes_160 (by decide) ?_
            have h9 := Option.some.inj hM
            subst h9
            exact W.zret (v := 0) hx hb hr (zb_n (Or.inl rfl)) (fun t ht hW => QMz_mk (Or.inl rfl) (by rw [ht]; exact hP) (va_K.moved hW.alike hK) hD (hS.F ht)) hS.2.2 dX8_goes_161
          · have hM := if_t c_16 hM
            refine lv_aload_n hx hb dX8_goes_143 rfl (lv_at hl 0 rfl) ?_
            refine va_get (D := (dC, dI)) (ci := 7) (v := .ref h5) (C := RX8) (T := TX8) (N := 8) hx hb hu inX8 hown hK hP 0 rfl rfl 1 (by decide) (hu _ kw_589) (fun _ h9 => h9) rfl dX8_goes_144 ?_
            refine va_getN (D := (dC, dI)) (ci := 3) (v := .ref h10) (C := RX3) (T := TX3) (N := 10) hx hb hu inX3 hown hK hP 5 rfl rfl 2 (by decide) (gX_nest hG 258 kw_632 rfl) (fun _ h9 => h9) rfl dX8_goes_147 ?_
            obtain ⟨r_17, hm_18, hM⟩ := bd1_u hM
            refine cVz (r := r_17) (As := []) (rest := []) ⟨hx, hb, hml, hown, hu⟩ (c_X5_isBegun l dC dI cI cZ cO tL H.size h10 g10_xs g10_ys g10_begins v10_points v10_lines v10_first v10_firstToldX v10_firstToldY v10_lastToldX v10_lastToldY v10_leastX v10_leastY v10_greatestY r_17 hm_18) (cwV 0 hu (gV kw_637 kw_638 kw_639 kw_134 kw_640) rfl rfl rfl (by decide +kernel) ⟨Nat.le_of_ble_eq_true rfl, Nat.le_of_ble_eq_true rfl⟩) hP hD hS hA hK hG [10] (by decide) rfl [none, none, none, none, none, none, none, none, none, none, some 0] 1 rfl (by decide +kernel) rfl 4 10 rfl rfl rfl rfl hl.1 rfl (Nat.le_of_ble_eq_true rfl) dX8_goes_150 (Nat.zero_le _) (Nat.zero_le _) (fun H locs hz_r_17 hP hD hS => ?_)
            have hP : va_P (dC, dI) vwCl [(h0, .inr (7, [.ref h1, .ref h5, .ref h8, .ref h3, .ref h4, .int v0_lastFill, .int v0_openedBehind, .int v0_joinedAt])), (h1, .inr (9, [.ref h2, .int v1_count])), (h2, .inl (cI, 1500, .inl f2)), (h3, .inr (8, [.int v3_a, .int v3_b, .int v3_c, .int v3_d, .int v3_e, .int v3_f])), (h4, .inr (8, [.int v4_a, .int v4_b, .int v4_c, .int v4_d, .int v4_e, .int v4_f])), (h5, .inr (3, [.ref g5_sheet, .ref g5_filler, .ref h10, .ref h6, .ref g5_nextTable, .ref g5_saved, .int v5_open, .int v5_place, .int v5_fills, .int v5_painted])), (h6, .inr (5, [.ref h7, .ref h9, .int v6_colour, .int v6_way])), (h7, .inr (8, [.int v7_a, .int v7_b, .int v7_c, .int v7_d, .int v7_e, .int v7_f])), (h8, .inr (1, [.int v8_x, .int v8_y, .int v8_endX, .int v8_endY])), (h9, .inr (1, [.int v9_x, .int v9_y, .int v9_endX, .int v9_endY])), (h10, .inr (4, [.ref g10_xs, .ref g10_ys, .ref g10_begins, .int v10_points, .int v10_lines, .int v10_first, .int v10_firstToldX, .int v10_firstToldY, .int v10_lastToldX, .int v10_lastToldY, .int v10_leastX, .int v10_leastY, .int v10_greatestY]))] H := hP
            have hD : va_D A [(h0, .inr (7, [.ref h1, .ref h5, .ref h8, .ref h3, .ref h4, .int v0_lastFill, .int v0_openedBehind, .int v0_joinedAt])), (h1, .inr (9, [.ref h2, .int v1_count])), (h2, .inl (cI, 1500, .inl f2)), (h3, .inr (8, [.int v3_a, .int v3_b, .int v3_c, .int v3_d, .int v3_e, .int v3_f])), (h4, .inr (8, [.int v4_a, .int v4_b, .int v4_c, .int v4_d, .int v4_e, .int v4_f])), (h5, .inr (3, [.ref g5_sheet, .ref g5_filler, .ref h10, .ref h6, .ref g5_nextTable, .ref g5_saved, .int v5_open, .int v5_place, .int v5_fills, .int v5_painted])), (h6, .inr (5, [.ref h7, .ref h9, .int v6_colour, .int v6_way])), (h7, .inr (8, [.int v7_a, .int v7_b, .int v7_c, .int v7_d, .int v7_e, .int v7_f])), (h8, .inr (1, [.int v8_x, .int v8_y, .int v8_endX, .int v8_endY])), (h9, .inr (1, [.int v9_x, .int v9_y, .int v9_endX, .int v9_endY])), (h10, .inr (4, [.ref g10_xs, .ref g10_ys, .ref g10_begins, .int v10_points, .int v10_lines, .int v10_first, .int v10_firstToldX, .int v10_firstToldY, .int v10_lastToldX, .int v10_lastToldY, .int v10_leastX, .int v10_leastY, .int v10_greatestY]))] := hD
            refine lv_if_ne (tgt := 160) hx hb dX8_goes_153 (by decide) (fun c_19 => ?_) (fun c_19 => ?_)
            · have hM := if_f c_19 hM
              refine lv_iconst (v := 0) hx hb dX8_goes_160 (by decide) ?_
              have h9 := Option.some.inj hM
              subst h9
              exact W.zret (v := 0) hx hb hr (zb_n (Or.inl rfl)) (fun t ht hW => QMz_mk (Or.inl rfl) (by rw [ht]; exact hP) (va_K.moved hW.alike hK) hD (hS.F ht)) hS.2.2 dX8_goes_161
            · have hM := if_t c_19 hM
              refine lv_iconst (v := 1) hx hb dX8_goes_156 (by decide) ?_
              refine lv_goto (tgt := 161) hx hb dX8_goes_157 (by decide) ?_
              have h9 := Option.some.inj hM
              subst h9
              exact W.zret (v := 1) hx hb hr (zb_n (Or.inr rfl)) (fun t ht hW => QMz_mk (Or.inr rfl) (by rw [ht]; exact hP) (va_K.moved hW.alike hK) hD (hS.F ht)) hS.2.2 dX8_goes_161
        · have hM := if_f c1_3 hM
          by_cases c1_4 : p1 = 4
          · have hM := if_t c1_4 hM
            refine lv_tableIn (tgt := 162) hx hb dX8_goes_1 (by rw [c1_4]; decide) (by rw [c1_4]; decide) (by rw [c1_4]; rfl) (by decide) ?_
            refine lv_aload_n hx hb dX8_goes_162 rfl (lv_at hl 0 rfl) ?_
            refine lv_iload_n hx hb dX8_goes_163 rfl (lv_at hl 2 rfl) ?_
            refine lv_iload_n hx hb dX8_goes_164 rfl (lv_at hl 3 rfl) ?_
            obtain ⟨r_20, hm_21, hM⟩ := bd1_u hM
            refine cVz (r := r_20) (As := [.int p2, .int p3]) (rest := []) ⟨hx, hb, hml, hown, hu⟩ (c_X8_isIdlePaint l dC dI cI cZ cO tL H.size h0 h5 h6 h1 h2 h8 h3 h4 g5_sheet g5_filler h10 g5_nextTable g5_saved h7 h9 v0_lastFill v0_openedBehind v0_joinedAt v5_open v5_place v5_fills v5_painted v6_colour v6_way v1_count f2 p2 p3 r_20 hm_21) (cwV 2 hu (gV kw_641 kw_642 kw_643 kw_630 kw_644) rfl rfl rfl (by decide +kernel) ⟨Nat.le_of_ble_eq_true rfl, Nat.le_of_ble_eq_true rfl⟩) hP hD hS hA hK hG [0, 5, 6, 1, 2] (by decide) rfl [some 0, some 3, some 4, none, none, some 1, some 2, none, none, none, none] 5 rfl (by decide +kernel) rfl 7 0 rfl rfl rfl rfl hl.1 rfl (Nat.le_of_ble_eq_true rfl) dX8_goes_165 (Nat.zero_le _) (Nat.zero_le _) (fun H locs hz_r_20 hP hD hS => ?_)
            have hP : va_P (dC, dI) vwCl [(h0, .inr (7, [.ref h1, .ref h5, .ref h8, .ref h3, .ref h4, .int v0_lastFill, .int v0_openedBehind, .int v0_joinedAt])), (h1, .inr (9, [.ref h2, .int v1_count])), (h2, .inl (cI, 1500, .inl f2)), (h3, .inr (8, [.int v3_a, .int v3_b, .int v3_c, .int v3_d, .int v3_e, .int v3_f])), (h4, .inr (8, [.int v4_a, .int v4_b, .int v4_c, .int v4_d, .int v4_e, .int v4_f])), (h5, .inr (3, [.ref g5_sheet, .ref g5_filler, .ref h10, .ref h6, .ref g5_nextTable, .ref g5_saved, .int v5_open, .int v5_place, .int v5_fills, .int v5_painted])), (h6, .inr (5, [.ref h7, .ref h9, .int v6_colour, .int v6_way])), (h7, .inr (8, [.int v7_a, .int v7_b, .int v7_c, .int v7_d, .int v7_e, .int v7_f])), (h8, .inr (1, [.int v8_x, .int v8_y, .int v8_endX, .int v8_endY])), (h9, .inr (1, [.int v9_x, .int v9_y, .int v9_endX, .int v9_endY])), (h10, .inr (4, [.ref g10_xs, .ref g10_ys, .ref g10_begins, .int v10_points, .int v10_lines, .int v10_first, .int v10_firstToldX, .int v10_firstToldY, .int v10_lastToldX, .int v10_lastToldY, .int v10_leastX, .int v10_leastY, .int v10_greatestY]))] H := hP
            have hD : va_D A [(h0, .inr (7, [.ref h1, .ref h5, .ref h8, .ref h3, .ref h4, .int v0_lastFill, .int v0_openedBehind, .int v0_joinedAt])), (h1, .inr (9, [.ref h2, .int v1_count])), (h2, .inl (cI, 1500, .inl f2)), (h3, .inr (8, [.int v3_a, .int v3_b, .int v3_c, .int v3_d, .int v3_e, .int v3_f])), (h4, .inr (8, [.int v4_a, .int v4_b, .int v4_c, .int v4_d, .int v4_e, .int v4_f])), (h5, .inr (3, [.ref g5_sheet, .ref g5_filler, .ref h10, .ref h6, .ref g5_nextTable, .ref g5_saved, .int v5_open, .int v5_place, .int v5_fills, .int v5_painted])), (h6, .inr (5, [.ref h7, .ref h9, .int v6_colour, .int v6_way])), (h7, .inr (8, [.int v7_a, .int v7_b, .int v7_c, .int v7_d, .int v7_e, .int v7_f])), (h8, .inr (1, [.int v8_x, .int v8_y, .int v8_endX, .int v8_endY])), (h9, .inr (1, [.int v9_x, .int v9_y, .int v9_endX, .int v9_endY])), (h10, .inr (4, [.ref g10_xs, .ref g10_ys, .ref g10_begins, .int v10_points, .int v10_lines, .int v10_first, .int v10_firstToldX, .int v10_firstToldY, .int v10_lastToldX, .int v10_lastToldY, .int v10_leastX, .int v10_leastY, .int v10_greatestY]))] := hD
            have h9 := Option.some.inj hM
            subst h9
            exact W.zret (v := r_20) hx hb hr (zb_n hz_r_20) (fun t ht hW => QMz_mk hz_r_20 (by rw [ht]; exact hP) (va_K.moved hW.alike hK) hD (hS.F ht)) hS.2.2 dX8_goes_168
          · have hM := if_f c1_4 hM
            by_cases c1_5 : p1 = 5
            · have hM := if_t c1_5 hM
              refine lv_tableIn (tgt := 169) hx hb dX8_goes_1 (by rw [c1_5]; decide) (by rw [c1_5]; decide) (by rw [c1_5]; rfl) (by decide) ?_
              refine lv_iload_n hx hb dX8_goes_169 rfl (lv_at hl 3 rfl) ?_
              refine lv_bipush (v := 13) hx hb dX8_goes_170 (by decide) ?_
              refine lv_icmp_ne (tgt := 187) hx hb dX8_goes_172 (by decide) (fun c_22 => ?_) (fun c_22 => ?_)
              · have hM := if_f c_22 hM
                refine lv_iconst (v := 0) hx hb dX8_goes_187 (by decide) ?_
                have h9 := Option.some.inj hM
                subst h9
                exact W.zret (v := 0) hx hb hr (zb_n (Or.inl rfl)) (fun t ht hW => QMz_mk (Or.inl rfl) (by rw [ht]; exact hP) (va_K.moved hW.alike hK) hD (hS.F ht)) hS.2.2 dX8_goes_188
              · have hM := if_t c_22 hM
                refine lv_aload_n hx hb dX8_goes_175 rfl (lv_at hl 0 rfl) ?_
                refine lv_iload_n hx hb dX8_goes_176 rfl (lv_at hl 2 rfl) ?_
                obtain ⟨r_23, v8_24, v8_25, v8_26, v8_27, hm_28, hM⟩ := bd5_u hM
                refine cVz (r := r_23) (As := [.int p2]) (rest := []) ⟨hx, hb, hml, hown, hu⟩ (c_X8_isIdleClip l dC dI cI cZ cO tL H.size h0 h5 h6 h8 h9 h1 h2 h3 h4 g5_sheet g5_filler h10 g5_nextTable g5_saved h7 v0_lastFill v0_openedBehind v0_joinedAt v5_open v5_place v5_fills v5_painted v6_colour v6_way v8_x v8_y v8_endX v8_endY v9_x v9_y v9_endX v9_endY v1_count f2 p2 (r_23, v8_24, v8_25, v8_26, v8_27) hm_28) (cwV 1 hu (gV kw_645 kw_646 kw_647 kw_630 kw_648) rfl rfl rfl (by decide +kernel) ⟨Nat.le_of_ble_eq_true rfl, Nat.le_of_ble_eq_true rfl⟩) hP hD hS hA hK hG [0, 5, 6, 8, 9, 1, 2] (by decide) rfl [some 0, some 5, some 6, none, none, some 1, some 2, none, some 3, some 4, none] 7 rfl (by decide +kernel) rfl 7 0 rfl rfl rfl rfl hl.1 rfl (Nat.le_of_ble_eq_true rfl) dX8_goes_177 (Nat.zero_le _) (Nat.zero_le _) (fun H locs hz_r_23 hP hD hS => ?_)
                have hP : va_P (dC, dI) vwCl [(h0, .inr (7, [.ref h1, .ref h5, .ref h8, .ref h3, .ref h4, .int v0_lastFill, .int v0_openedBehind, .int v0_joinedAt])), (h1, .inr (9, [.ref h2, .int v1_count])), (h2, .inl (cI, 1500, .inl f2)), (h3, .inr (8, [.int v3_a, .int v3_b, .int v3_c, .int v3_d, .int v3_e, .int v3_f])), (h4, .inr (8, [.int v4_a, .int v4_b, .int v4_c, .int v4_d, .int v4_e, .int v4_f])), (h5, .inr (3, [.ref g5_sheet, .ref g5_filler, .ref h10, .ref h6, .ref g5_nextTable, .ref g5_saved, .int v5_open, .int v5_place, .int v5_fills, .int v5_painted])), (h6, .inr (5, [.ref h7, .ref h9, .int v6_colour, .int v6_way])), (h7, .inr (8, [.int v7_a, .int v7_b, .int v7_c, .int v7_d, .int v7_e, .int v7_f])), (h8, .inr (1, [.int v8_24, .int v8_25, .int v8_26, .int v8_27])), (h9, .inr (1, [.int v9_x, .int v9_y, .int v9_endX, .int v9_endY])), (h10, .inr (4, [.ref g10_xs, .ref g10_ys, .ref g10_begins, .int v10_points, .int v10_lines, .int v10_first, .int v10_firstToldX, .int v10_firstToldY, .int v10_lastToldX, .int v10_lastToldY, .int v10_leastX, .int v10_leastY, .int v10_greatestY]))] H := hP
                have hD : va_D A [(h0, .inr (7, [.ref h1, .ref h5, .ref h8, .ref h3, .ref h4, .int v0_lastFill, .int v0_openedBehind, .int v0_joinedAt])), (h1, .inr (9, [.ref h2, .int v1_count])), (h2, .inl (cI, 1500, .inl f2)), (h3, .inr (8, [.int v3_a, .int v3_b, .int v3_c, .int v3_d, .int v3_e, .int v3_f])), (h4, .inr (8, [.int v4_a, .int v4_b, .int v4_c, .int v4_d, .int v4_e, .int v4_f])), (h5, .inr (3, [.ref g5_sheet, .ref g5_filler, .ref h10, .ref h6, .ref g5_nextTable, .ref g5_saved, .int v5_open, .int v5_place, .int v5_fills, .int v5_painted])), (h6, .inr (5, [.ref h7, .ref h9, .int v6_colour, .int v6_way])), (h7, .inr (8, [.int v7_a, .int v7_b, .int v7_c, .int v7_d, .int v7_e, .int v7_f])), (h8, .inr (1, [.int v8_24, .int v8_25, .int v8_26, .int v8_27])), (h9, .inr (1, [.int v9_x, .int v9_y, .int v9_endX, .int v9_endY])), (h10, .inr (4, [.ref g10_xs, .ref g10_ys, .ref g10_begins, .int v10_points, .int v10_lines, .int v10_first, .int v10_firstToldX, .int v10_firstToldY, .int v10_lastToldX, .int v10_lastToldY, .int v10_leastX, .int v10_leastY, .int v10_greatestY]))] := hD
                refine lv_if_eq (tgt := 187) hx hb dX8_goes_180 (by decide) (fun c_29 => ?_) (fun c_29 => ?_)
                · have hM := if_t c_29 hM
                  refine lv_iconst (v := 0) hx hb dX8_goes_187 (by decide) ?_
                  have h9 := Option.some.inj hM
                  subst h9
                  exact W.zret (v := 0) hx hb hr (zb_n (Or.inl rfl)) (fun t ht hW => QMz_mk (Or.inl rfl) (by rw [ht]; exact hP) (va_K.moved hW.alike hK) hD (hS.F ht)) hS.2.2 dX8_goes_188
                · have hM := if_f c_29 hM
                  refine lv_iconst (v := 1) hx hb dX8_goes_183 (by decide) ?_
                  refine lv_goto (tgt := 188) hx hb dX8_goes_184 (by decide) ?_
                  have h9 := Option.some.inj hM
                  subst h9
                  exact W.zret (v := 1) hx hb hr (zb_n (Or.inr rfl)) (fun t ht hW => QMz_mk (Or.inr rfl) (by rw [ht]; exact hP) (va_K.moved hW.alike hK) hD (hS.F ht)) hS.2.2 dX8_goes_188
            · have hM := if_f c1_5 hM
              by_cases c1_6 : p1 = 6
              · have hM := if_t c1_6 hM
                refine lv_tableIn (tgt := 189) hx hb dX8_goes_1 (by rw [c1_6]; decide) (by rw [c1_6]; decide) (by rw [c1_6]; rfl) (by decide) ?_
                refine lv_aload_n hx hb dX8_goes_189 rfl (lv_at hl 0 rfl) ?_
                refine lv_iload_n hx hb dX8_goes_190 rfl (lv_at hl 2 rfl) ?_
                refine lv_iload_n hx hb dX8_goes_191 rfl (lv_at hl 3 rfl) ?_
                obtain ⟨r_30, v3_31, v3_32, v3_33, v3_34, v3_35, v3_36, v4_37, v4_38, v4_39, v4_40, v4_41, v4_42, hm_43, hM⟩ := bd13_u hM
                refine cVz (r := r_30) (As := [.int p2, .int p3]) (rest := []) ⟨hx, hb, hml, hown, hu⟩ (c_X8_isIdleTable l dC dI cI cZ cO tL H.size h0 h3 h4 h1 h2 h5 h6 h7 h8 g5_sheet g5_filler h10 g5_nextTable g5_saved h9 v0_lastFill v0_openedBehind v0_joinedAt v3_a v3_b v3_c v3_d v3_e v3_f v4_a v4_b v4_c v4_d v4_e v4_f v1_count f2 v5_open v5_place v5_fills v5_painted v6_colour v6_way v7_a v7_b v7_c v7_d v7_e v7_f p2 p3 (r_30, v3_31, v3_32, v3_33, v3_34, v3_35, v3_36, v4_37, v4_38, v4_39, v4_40, v4_41, v4_42) hm_43) (cwV 2 hu (gV kw_649 kw_650 kw_651 kw_630 kw_652) rfl rfl rfl (by decide +kernel) ⟨Nat.le_of_ble_eq_true rfl, Nat.le_of_ble_eq_true rfl⟩) hP hD hS hA hK hG [0, 3, 4, 1, 2, 5, 6, 7] (by decide) rfl [some 0, some 3, some 4, some 1, some 2, some 5, some 6, some 7, none, none, none] 8 rfl (by decide +kernel) rfl 7 0 rfl rfl rfl rfl hl.1 rfl (Nat.le_of_ble_eq_true rfl) dX8_goes_192 (Nat.zero_le _) (Nat.zero_le _) (fun H locs hz_r_30 hP hD hS => ?_)
                have hP : va_P (dC, dI) vwCl [(h0, .inr (7, [.ref h1, .ref h5, .ref h8, .ref h3, .ref h4, .int v0_lastFill, .int v0_openedBehind, .int v0_joinedAt])), (h1, .inr (9, [.ref h2, .int v1_count])), (h2, .inl (cI, 1500, .inl f2)), (h3, .inr (8, [.int v3_31, .int v3_32, .int v3_33, .int v3_34, .int v3_35, .int v3_36])), (h4, .inr (8, [.int v4_37, .int v4_38, .int v4_39, .int v4_40, .int v4_41, .int v4_42])), (h5, .inr (3, [.ref g5_sheet, .ref g5_filler, .ref h10, .ref h6, .ref g5_nextTable, .ref g5_saved, .int v5_open, .int v5_place, .int v5_fills, .int v5_painted])), (h6, .inr (5, [.ref h7, .ref h9, .int v6_colour, .int v6_way])), (h7, .inr (8, [.int v7_a, .int v7_b, .int v7_c, .int v7_d, .int v7_e, .int v7_f])), (h8, .inr (1, [.int v8_x, .int v8_y, .int v8_endX, .int v8_endY])), (h9, .inr (1, [.int v9_x, .int v9_y, .int v9_endX, .int v9_endY])), (h10, .inr (4, [.ref g10_xs, .ref g10_ys, .ref g10_begins, .int v10_points, .int v10_lines, .int v10_first, .int v10_firstToldX, .int v10_firstToldY, .int v10_lastToldX, .int v10_lastToldY, .int v10_leastX, .int v10_leastY, .int v10_greatestY]))] H := hP
                have hD : va_D A [(h0, .inr (7, [.ref h1, .ref h5, .ref h8, .ref h3, .ref h4, .int v0_lastFill, .int v0_openedBehind, .int v0_joinedAt])), (h1, .inr (9, [.ref h2, .int v1_count])), (h2, .inl (cI, 1500, .inl f2)), (h3, .inr (8, [.int v3_31, .int v3_32, .int v3_33, .int v3_34, .int v3_35, .int v3_36])), (h4, .inr (8, [.int v4_37, .int v4_38, .int v4_39, .int v4_40, .int v4_41, .int v4_42])), (h5, .inr (3, [.ref g5_sheet, .ref g5_filler, .ref h10, .ref h6, .ref g5_nextTable, .ref g5_saved, .int v5_open, .int v5_place, .int v5_fills, .int v5_painted])), (h6, .inr (5, [.ref h7, .ref h9, .int v6_colour, .int v6_way])), (h7, .inr (8, [.int v7_a, .int v7_b, .int v7_c, .int v7_d, .int v7_e, .int v7_f])), (h8, .inr (1, [.int v8_x, .int v8_y, .int v8_endX, .int v8_endY])), (h9, .inr (1, [.int v9_x, .int v9_y, .int v9_endX, .int v9_endY])), (h10, .inr (4, [.ref g10_xs, .ref g10_ys, .ref g10_begins, .int v10_points, .int v10_lines, .int v10_first, .int v10_firstToldX, .int v10_firstToldY, .int v10_lastToldX, .int v10_lastToldY, .int v10_leastX, .int v10_leastY, .int v10_greatestY]))] := hD
                refine lv_if_ne (tgt := 207) hx hb dX8_goes_195 (by decide) (fun c_44 => ?_) (fun c_44 => ?_)
                · have hM := if_f c_44 hM
                  refine lv_iconst (v := 1) hx hb dX8_goes_207 (by decide) ?_
                  refine lv_goto (tgt := 212) hx hb dX8_goes_208 (by decide) ?_
                  have h9 := Option.some.inj hM
                  subst h9
                  exact W.zret (v := 1) hx hb hr (zb_n (Or.inr rfl)) (fun t ht hW => QMz_mk (Or.inr rfl) (by rw [ht]; exact hP) (va_K.moved hW.alike hK) hD (hS.F ht)) hS.2.2 dX8_goes_212
                · have hM := if_t c_44 hM
                  refine lv_aload_n hx hb dX8_goes_198 rfl (lv_at hl 0 rfl) ?_
                  refine lv_iload_n hx hb dX8_goes_199 rfl (lv_at hl 2 rfl) ?_
                  refine lv_iload_n hx hb dX8_goes_200 rfl (lv_at hl 3 rfl) ?_
                  obtain ⟨r_45, v0_46, f2_47, v3_48, v3_49, v3_50, v3_51, v3_52, v3_53, v4_54, v4_55, v4_56, v4_57, v4_58, v4_59, hm_60, hM⟩ := bd15_u hM
                  refine cVz (r := r_45) (As := [.int p2, .int p3]) (rest := []) ⟨hx, hb, hml, hown, hu⟩ (c_X8_joinsNext l dC dI cI cZ cO tL H.size h0 h1 h2 h3 h4 h5 h8 v0_lastFill v0_openedBehind v0_joinedAt v1_count f2 v3_31 v3_32 v3_33 v3_34 v3_35 v3_36 v4_37 v4_38 v4_39 v4_40 v4_41 v4_42 p2 p3 (r_45, v0_46, f2_47, v3_48, v3_49, v3_50, v3_51, v3_52, v3_53, v4_54, v4_55, v4_56, v4_57, v4_58, v4_59) hm_60) (cwV 2 hu (gV kw_653 kw_654 kw_655 kw_630 kw_656) rfl rfl rfl (by decide +kernel) ⟨Nat.le_of_ble_eq_true rfl, Nat.le_of_ble_eq_true rfl⟩) hP hD hS hA hK hG [0, 1, 2, 3, 4] (by decide) rfl [some 0, some 1, some 2, some 3, some 4, none, none, none, none, none, none] 5 rfl (by decide +kernel) rfl 7 0 rfl rfl rfl rfl hl.1 rfl (Nat.le_of_ble_eq_true rfl) dX8_goes_201 (Nat.zero_le _) (Nat.zero_le _) (fun H locs hz_r_45 hP hD hS => ?_)
                  have hP : va_P (dC, dI) vwCl [(h0, .inr (7, [.ref h1, .ref h5, .ref h8, .ref h3, .ref h4, .int v0_lastFill, .int v0_openedBehind, .int v0_46])), (h1, .inr (9, [.ref h2, .int v1_count])), (h2, .inl (cI, 1500, .inl f2_47)), (h3, .inr (8, [.int v3_48, .int v3_49, .int v3_50, .int v3_51, .int v3_52, .int v3_53])), (h4, .inr (8, [.int v4_54, .int v4_55, .int v4_56, .int v4_57, .int v4_58, .int v4_59])), (h5, .inr (3, [.ref g5_sheet, .ref g5_filler, .ref h10, .ref h6, .ref g5_nextTable, .ref g5_saved, .int v5_open, .int v5_place, .int v5_fills, .int v5_painted])), (h6, .inr (5, [.ref h7, .ref h9, .int v6_colour, .int v6_way])), (h7, .inr (8, [.int v7_a, .int v7_b, .int v7_c, .int v7_d, .int v7_e, .int v7_f])), (h8, .inr (1, [.int v8_x, .int v8_y, .int v8_endX, .int v8_endY])), (h9, .inr (1, [.int v9_x, .int v9_y, .int v9_endX, .int v9_endY])), (h10, .inr (4, [.ref g10_xs, .ref g10_ys, .ref g10_begins, .int v10_points, .int v10_lines, .int v10_first, .int v10_firstToldX, .int v10_firstToldY, .int v10_lastToldX, .int v10_lastToldY, .int v10_leastX, .int v10_leastY, .int v10_greatestY]))] H := hP
                  have hD : va_D A [(h0, .inr (7, [.ref h1, .ref h5, .ref h8, .ref h3, .ref h4, .int v0_lastFill, .int v0_openedBehind, .int v0_46])), (h1, .inr (9, [.ref h2, .int v1_count])), (h2, .inl (cI, 1500, .inl f2_47)), (h3, .inr (8, [.int v3_48, .int v3_49, .int v3_50, .int v3_51, .int v3_52, .int v3_53])), (h4, .inr (8, [.int v4_54, .int v4_55, .int v4_56, .int v4_57, .int v4_58, .int v4_59])), (h5, .inr (3, [.ref g5_sheet, .ref g5_filler, .ref h10, .ref h6, .ref g5_nextTable, .ref g5_saved, .int v5_open, .int v5_place, .int v5_fills, .int v5_painted])), (h6, .inr (5, [.ref h7, .ref h9, .int v6_colour, .int v6_way])), (h7, .inr (8, [.int v7_a, .int v7_b, .int v7_c, .int v7_d, .int v7_e, .int v7_f])), (h8, .inr (1, [.int v8_x, .int v8_y, .int v8_endX, .int v8_endY])), (h9, .inr (1, [.int v9_x, .int v9_y, .int v9_endX, .int v9_endY])), (h10, .inr (4, [.ref g10_xs, .ref g10_ys, .ref g10_begins, .int v10_points, .int v10_lines, .int v10_first, .int v10_firstToldX, .int v10_firstToldY, .int v10_lastToldX, .int v10_lastToldY, .int v10_leastX, .int v10_leastY, .int v10_greatestY]))] := hD
                  refine lv_if_eq (tgt := 211) hx hb dX8_goes_204 (by decide) (fun c_61 => ?_) (fun c_61 => ?_)
                  · have hM := if_t c_61 hM
                    refine lv_iconst (v := 0) hx hb dX8_goes_211 (by decide) ?_
                    have h9 := Option.some.inj hM
                    subst h9
                    exact W.zret (v := 0) hx hb hr (zb_n (Or.inl rfl)) (fun t ht hW => QMz_mk (Or.inl rfl) (by rw [ht]; exact hP) (va_K.moved hW.alike hK) hD (hS.F ht)) hS.2.2 dX8_goes_212
                  · have hM := if_f c_61 hM
                    refine lv_iconst (v := 1) hx hb dX8_goes_207 (by decide) ?_
                    refine lv_goto (tgt := 212) hx hb dX8_goes_208 (by decide) ?_
                    have h9 := Option.some.inj hM
                    subst h9
                    exact W.zret (v := 1) hx hb hr (zb_n (Or.inr rfl)) (fun t ht hW => QMz_mk (Or.inr rfl) (by rw [ht]; exact hP) (va_K.moved hW.alike hK) hD (hS.F ht)) hS.2.2 dX8_goes_212
              · have hM := if_f c1_6 hM
                by_cases c1_7 : p1 = 7
                · have hM := if_t c1_7 hM
                  refine lv_tableIn (tgt := 213) hx hb dX8_goes_1 (by rw [c1_7]; decide) (by rw [c1_7]; decide) (by rw [c1_7]; rfl) (by decide) ?_
                  refine lv_iload_n hx hb dX8_goes_213 rfl (lv_at hl 3 rfl) ?_
                  refine lv_bipush (v := 12) hx hb dX8_goes_214 (by decide) ?_
                  refine lv_icmp_lt (tgt := 237) hx hb dX8_goes_216 (by decide) (fun c_62 => ?_) (fun c_62 => ?_)
                  · have hM := if_t c_62 hM
                    refine lv_iconst (v := 0) hx hb dX8_goes_237 (by decide) ?_
                    have h9 := Option.some.inj hM
                    subst h9
                    exact W.zret (v := 0) hx hb hr (zb_n (Or.inl rfl)) (fun t ht hW => QMz_mk (Or.inl rfl) (by rw [ht]; exact hP) (va_K.moved hW.alike hK) hD (hS.F ht)) hS.2.2 dX8_goes_238
                  · have hM := if_f c_62 hM
                    refine lv_iload_n hx hb dX8_goes_219 rfl (lv_at hl 3 rfl) ?_
                    refine lv_bipush (v := 14) hx hb dX8_goes_220 (by decide) ?_
                    refine lv_icmp_gt (tgt := 237) hx hb dX8_goes_222 (by decide) (fun c_63 => ?_) (fun c_63 => ?_)
                    · have hM := if_t c_63 hM
                      refine lv_iconst (v := 0) hx hb dX8_goes_237 (by decide) ?_
                      have h9 := Option.some.inj hM
                      subst h9
                      exact W.zret (v := 0) hx hb hr (zb_n (Or.inl rfl)) (fun t ht hW => QMz_mk (Or.inl rfl) (by rw [ht]; exact hP) (va_K.moved hW.alike hK) hD (hS.F ht)) hS.2.2 dX8_goes_238
                    · have hM := if_f c_63 hM
                      refine lv_aload_n hx hb dX8_goes_225 rfl (lv_at hl 0 rfl) ?_
                      refine lv_iload_n hx hb dX8_goes_226 rfl (lv_at hl 2 rfl) ?_
                      obtain ⟨r_64, hm_65, hM⟩ := bd1_u hM
                      refine cVz (r := r_64) (As := [.int p2]) (rest := []) ⟨hx, hb, hml, hown, hu⟩ (c_X8_isBroughtBackUnused l dC dI cI cZ cO tL H.size h0 h1 h2 h5 h8 h3 h4 v0_lastFill v0_openedBehind v0_joinedAt v1_count f2 p2 r_64 hm_65) (cwV 1 hu (gV kw_657 kw_658 kw_659 kw_630 kw_660) rfl rfl rfl (by decide +kernel) ⟨Nat.le_of_ble_eq_true rfl, Nat.le_of_ble_eq_true rfl⟩) hP hD hS hA hK hG [0, 1, 2] (by decide) rfl [some 0, some 1, some 2, none, none, none, none, none, none, none, none] 3 rfl (by decide +kernel) rfl 7 0 rfl rfl rfl rfl hl.1 rfl (Nat.le_of_ble_eq_true rfl) dX8_goes_227 (Nat.zero_le _) (Nat.zero_le _) (fun H locs hz_r_64 hP hD hS => ?_)
                      have hP : va_P (dC, dI) vwCl [(h0, .inr (7, [.ref h1, .ref h5, .ref h8, .ref h3, .ref h4, .int v0_lastFill, .int v0_openedBehind, .int v0_joinedAt])), (h1, .inr (9, [.ref h2, .int v1_count])), (h2, .inl (cI, 1500, .inl f2)), (h3, .inr (8, [.int v3_a, .int v3_b, .int v3_c, .int v3_d, .int v3_e, .int v3_f])), (h4, .inr (8, [.int v4_a, .int v4_b, .int v4_c, .int v4_d, .int v4_e, .int v4_f])), (h5, .inr (3, [.ref g5_sheet, .ref g5_filler, .ref h10, .ref h6, .ref g5_nextTable, .ref g5_saved, .int v5_open, .int v5_place, .int v5_fills, .int v5_painted])), (h6, .inr (5, [.ref h7, .ref h9, .int v6_colour, .int v6_way])), (h7, .inr (8, [.int v7_a, .int v7_b, .int v7_c, .int v7_d, .int v7_e, .int v7_f])), (h8, .inr (1, [.int v8_x, .int v8_y, .int v8_endX, .int v8_endY])), (h9, .inr (1, [.int v9_x, .int v9_y, .int v9_endX, .int v9_endY])), (h10, .inr (4, [.ref g10_xs, .ref g10_ys, .ref g10_begins, .int v10_points, .int v10_lines, .int v10_first, .int v10_firstToldX, .int v10_firstToldY, .int v10_lastToldX, .int v10_lastToldY, .int v10_leastX, .int v10_leastY, .int v10_greatestY]))] H := hP
                      have hD : va_D A [(h0, .inr (7, [.ref h1, .ref h5, .ref h8, .ref h3, .ref h4, .int v0_lastFill, .int v0_openedBehind, .int v0_joinedAt])), (h1, .inr (9, [.ref h2, .int v1_count])), (h2, .inl (cI, 1500, .inl f2)), (h3, .inr (8, [.int v3_a, .int v3_b, .int v3_c, .int v3_d, .int v3_e, .int v3_f])), (h4, .inr (8, [.int v4_a, .int v4_b, .int v4_c, .int v4_d, .int v4_e, .int v4_f])), (h5, .inr (3, [.ref g5_sheet, .ref g5_filler, .ref h10, .ref h6, .ref g5_nextTable, .ref g5_saved, .int v5_open, .int v5_place, .int v5_fills, .int v5_painted])), (h6, .inr (5, [.ref h7, .ref h9, .int v6_colour, .int v6_way])), (h7, .inr (8, [.int v7_a, .int v7_b, .int v7_c, .int v7_d, .int v7_e, .int v7_f])), (h8, .inr (1, [.int v8_x, .int v8_y, .int v8_endX, .int v8_endY])), (h9, .inr (1, [.int v9_x, .int v9_y, .int v9_endX, .int v9_endY])), (h10, .inr (4, [.ref g10_xs, .ref g10_ys, .ref g10_begins, .int v10_points, .int v10_lines, .int v10_first, .int v10_firstToldX, .int v10_firstToldY, .int v10_lastToldX, .int v10_lastToldY, .int v10_leastX, .int v10_leastY, .int v10_greatestY]))] := hD
                      refine lv_if_eq (tgt := 237) hx hb dX8_goes_230 (by decide) (fun c_66 => ?_) (fun c_66 => ?_)
                      · have hM := if_t c_66 hM
                        refine lv_iconst (v := 0) hx hb dX8_goes_237 (by decide) ?_
                        have h9 := Option.some.inj hM
                        subst h9
                        exact W.zret (v := 0) hx hb hr (zb_n (Or.inl rfl)) (fun t ht hW => QMz_mk (Or.inl rfl) (by rw [ht]; exact hP) (va_K.moved hW.alike hK) hD (hS.F ht)) hS.2.2 dX8_goes_238
                      · have hM := if_f c_66 hM
                        refine lv_iconst (v := 1) hx hb dX8_goes_233 (by decide) ?_
                        refine lv_goto (tgt := 238) hx hb dX8_goes_234 (by decide) ?_
                        have h9 := Option.some.inj hM
                        subst h9
                        exact W.zret (v := 1) hx hb hr (zb_n (Or.inr rfl)) (fun t ht hW => QMz_mk (Or.inr rfl) (by rw [ht]; exact hP) (va_K.moved hW.alike hK) hD (hS.F ht)) hS.2.2 dX8_goes_238
                · have hM := if_f c1_7 hM
                  refine lv_tableOut (tgt := 239) hx hb dX8_goes_1 (by have := lv_neT (a := 0) c1_0 rfl; have := lv_neT (a := 1) c1_1 rfl; have := lv_neT (a := 2) c1_2 rfl; have := lv_neT (a := 3) c1_3 rfl; have := lv_neT (a := 4) c1_4 rfl; have := lv_neT (a := 5) c1_5 rfl; have := lv_neT (a := 6) c1_6 rfl; have := lv_neT (a := 7) c1_7 rfl; omega) (by decide) ?_
                  refine lv_aload_n hx hb dX8_goes_239 rfl (lv_at hl 0 rfl) ?_
                  refine lv_iload_n hx hb dX8_goes_240 rfl (lv_at hl 2 rfl) ?_
                  refine lv_iload_n hx hb dX8_goes_241 rfl (lv_at hl 3 rfl) ?_
                  obtain ⟨r_67, hm_68, hM⟩ := bd1_u hM
                  refine cVz (r := r_67) (As := [.int p2, .int p3]) (rest := []) ⟨hx, hb, hml, hown, hu⟩ (c_X8_isEmptySave l dC dI cI cZ cO tL H.size h0 h1 h2 h5 h8 h3 h4 v0_lastFill v0_openedBehind v0_joinedAt v1_count f2 p2 p3 r_67 hm_68) (cwV 2 hu (gV kw_661 kw_662 kw_663 kw_630 kw_664) rfl rfl rfl (by decide +kernel) ⟨Nat.le_of_ble_eq_true rfl, Nat.le_of_ble_eq_true rfl⟩) hP hD hS hA hK hG [0, 1, 2] (by decide) rfl [some 0, some 1, some 2, none, none, none, none, none, none, none, none] 3 rfl (by decide +kernel) rfl 7 0 rfl rfl rfl rfl hl.1 rfl (Nat.le_of_ble_eq_true rfl) dX8_goes_242 (Nat.zero_le _) (Nat.zero_le _) (fun H locs hz_r_67 hP hD hS => ?_)
                  have hP : va_P (dC, dI) vwCl [(h0, .inr (7, [.ref h1, .ref h5, .ref h8, .ref h3, .ref h4, .int v0_lastFill, .int v0_openedBehind, .int v0_joinedAt])), (h1, .inr (9, [.ref h2, .int v1_count])), (h2, .inl (cI, 1500, .inl f2)), (h3, .inr (8, [.int v3_a, .int v3_b, .int v3_c, .int v3_d, .int v3_e, .int v3_f])), (h4, .inr (8, [.int v4_a, .int v4_b, .int v4_c, .int v4_d, .int v4_e, .int v4_f])), (h5, .inr (3, [.ref g5_sheet, .ref g5_filler, .ref h10, .ref h6, .ref g5_nextTable, .ref g5_saved, .int v5_open, .int v5_place, .int v5_fills, .int v5_painted])), (h6, .inr (5, [.ref h7, .ref h9, .int v6_colour, .int v6_way])), (h7, .inr (8, [.int v7_a, .int v7_b, .int v7_c, .int v7_d, .int v7_e, .int v7_f])), (h8, .inr (1, [.int v8_x, .int v8_y, .int v8_endX, .int v8_endY])), (h9, .inr (1, [.int v9_x, .int v9_y, .int v9_endX, .int v9_endY])), (h10, .inr (4, [.ref g10_xs, .ref g10_ys, .ref g10_begins, .int v10_points, .int v10_lines, .int v10_first, .int v10_firstToldX, .int v10_firstToldY, .int v10_lastToldX, .int v10_lastToldY, .int v10_leastX, .int v10_leastY, .int v10_greatestY]))] H := hP
                  have hD : va_D A [(h0, .inr (7, [.ref h1, .ref h5, .ref h8, .ref h3, .ref h4, .int v0_lastFill, .int v0_openedBehind, .int v0_joinedAt])), (h1, .inr (9, [.ref h2, .int v1_count])), (h2, .inl (cI, 1500, .inl f2)), (h3, .inr (8, [.int v3_a, .int v3_b, .int v3_c, .int v3_d, .int v3_e, .int v3_f])), (h4, .inr (8, [.int v4_a, .int v4_b, .int v4_c, .int v4_d, .int v4_e, .int v4_f])), (h5, .inr (3, [.ref g5_sheet, .ref g5_filler, .ref h10, .ref h6, .ref g5_nextTable, .ref g5_saved, .int v5_open, .int v5_place, .int v5_fills, .int v5_painted])), (h6, .inr (5, [.ref h7, .ref h9, .int v6_colour, .int v6_way])), (h7, .inr (8, [.int v7_a, .int v7_b, .int v7_c, .int v7_d, .int v7_e, .int v7_f])), (h8, .inr (1, [.int v8_x, .int v8_y, .int v8_endX, .int v8_endY])), (h9, .inr (1, [.int v9_x, .int v9_y, .int v9_endX, .int v9_endY])), (h10, .inr (4, [.ref g10_xs, .ref g10_ys, .ref g10_begins, .int v10_points, .int v10_lines, .int v10_first, .int v10_firstToldX, .int v10_firstToldY, .int v10_lastToldX, .int v10_lastToldY, .int v10_leastX, .int v10_leastY, .int v10_greatestY]))] := hD
                  have h9 := Option.some.inj hM
                  subst h9
                  exact W.zret (v := r_67) hx hb hr (zb_n hz_r_67) (fun t ht hW => QMz_mk hz_r_67 (by rw [ht]; exact hP) (va_K.moved hW.alike hK) hD (hS.F ht)) hS.2.2 dX8_goes_245
