theorem dX10_hasRoom_0 : decode cX10_hasRoom 0 = .ok (.iload_n 1, 1) := by decide +kernel
theorem dX10_hasRoom_1 : decode cX10_hasRoom 1 = .ok (.sipush 1500, 3) := by decide +kernel
theorem dX10_hasRoom_4 : decode cX10_hasRoom 4 = .ok (.aload_n 0, 1) := by decide +kernel
theorem dX10_hasRoom_5 : decode cX10_hasRoom 5 = .ok (.getfield 15, 3) := by decide +kernel
theorem dX10_hasRoom_8 : decode cX10_hasRoom 8 = .ok (.isub, 1) := by decide +kernel
theorem dX10_hasRoom_9 : decode cX10_hasRoom 9 = .ok (.if_icmp .gt 7, 3) := by decide +kernel
theorem dX10_hasRoom_12 : decode cX10_hasRoom 12 = .ok (.iconst 1, 1) := by decide +kernel
theorem dX10_hasRoom_13 : decode cX10_hasRoom 13 = .ok (.goto 4, 3) := by decide +kernel
theorem dX10_hasRoom_16 : decode cX10_hasRoom 16 = .ok (.iconst 0, 1) := by decide +kernel
theorem dX10_hasRoom_17 : decode cX10_hasRoom 17 = .ok (.ireturn, 1) := by decide +kernel
abbrev rm_X10_hasRoom : Room := { frames := 0, cells := 0, slots := 0, locals := 0 }
def w_X10_hasRoom : List Cond := Cond.code yX10_hasRoom cX10_hasRoom 2 (some .boolean) :: uw
set_option maxHeartbeats 4000000 in
set_option maxRecDepth 100000 in
theorem c_X10_hasRoom (l : Launch) (dC : Nat → ClassId) (dI : Nat → Nat → Nat) (cI cZ cO : ClassId) (tL sz : Nat) (h0 : Nat) (g0_row : Nat) (v0_count : Int32) (p1 : Int32) (res : Int32) (hM : m_X10_hasRoom v0_count p1 = some res) : Met l yX10_hasRoom w_X10_hasRoom rm_X10_hasRoom (PCx [.ref h0, .int p1] (dC, dI) [(cI, .int), (cZ, .boolean), (cO, .object "ListPainter$Settings")] sz tL [(h0, .inr (9, [.ref g0_row, .int v0_count]))]) (QMz res (dC, dI) [(cI, .int), (cZ, .boolean), (cO, .object "ListPainter$Settings")] (va_A [(h0, .inr (9, [.ref g0_row, .int v0_count]))] sz) [(h0, .inr (9, [.ref g0_row, .int v0_count]))]) 0 0 (va_A [(h0, .inr (9, [.ref g0_row, .int v0_count]))] sz) := by
  refine Met.ofW (cc := cX10_hasRoom) (maxL := 2) (ret := (some .boolean)) (by decide) rfl ?_
  intro p e s m args below meth c s₁ B hml hv
  obtain ⟨rfl, hsz, hP, hK, hD0, hG⟩ := hv
  have hx := B.exec
  have hb := B.bytes
  have hr := B.returns
  have hu : ∀ w ∈ uw, w.before ([.ref h0, .int p1] : List Value).toArray s = true := fun w h => atoms_spec (ws := w_X10_hasRoom) B.pre w (List.mem_cons_of_mem _ h)
  have hown : s.vm.findClass RX10 = some m.cls := findClass_of_methodNamed B.named
  have hlocks := B.notSynchronized
  subst hsz
  have hD := hD0.self (sz := s.heap.size)
  generalize hAe : va_A [(h0, .inr (9, [.ref g0_row, .int v0_count]))] s.heap.size = A at hD hG ⊢
  have hA : ∀ q : Nat, s.heap.size ≤ q → A q := fun q h => by rw [← hAe]; exact Or.inr h
  have hS : va_S A s.heap s.heap [] := va_S.rf
  have hP : va_P (dC, dI) vwCl [(h0, .inr (9, [.ref g0_row, .int v0_count]))] s.heap := hP
  have hl := lv_entry ([.ref h0, .int p1]) (n := 2) (Nat.le_of_ble_eq_true rfl)
  rw [lg_entry_eq]
  generalize (lg_sl ([.ref h0, .int p1]) ++ List.replicate (2 - (lg_sl ([.ref h0, .int p1])).length) Slot.unset).toArray = ls at hl ⊢
  have hl : lv_has ls 2 [(0, .ref h0), (1, .int p1)] := hl
  rw [m_X10_hasRoom] at hM
  suffices hgo : ∀ (H : Heap) (locs : List Loc), va_P (dC, dI) vwCl [(h0, .inr (9, [.ref g0_row, .int v0_count]))] H → va_D A [(h0, .inr (9, [.ref g0_row, .int v0_count]))] → va_S A s.heap H locs → W p l e (headSpec w_X10_hasRoom rm_X10_hasRoom).room s m ([.ref h0, .int p1] : List Value).toArray below meth c H locs 0 0 (MQ below (QMz res (dC, dI) [(cI, .int), (cZ, .boolean), (cO, .object "ListPainter$Settings")] A [(h0, .inr (9, [.ref g0_row, .int v0_count]))]) ([.ref h0, .int p1] : List Value).toArray s 0 0 A) (F0 m 0 ls []) from hgo _ _ hP hD hS
  intro H locs hP hD hS
  refine lv_iload_n hx hb dX10_hasRoom_0 rfl (lv_at hl 1 rfl) ?_
  refine lv_sipush (v := 1500) hx hb dX10_hasRoom_1 (by decide) ?_
  refine lv_aload_n hx hb dX10_hasRoom_4 rfl (lv_at hl 0 rfl) ?_
  refine va_get (D := (dC, dI)) (ci := 9) (v := .int v0_count) (C := RX10) (T := TX10) (N := 2) hx hb hu inX10 hown hK hP 0 rfl rfl 1 (by decide) (hu _ kw_0) (fun _ h9 => h9) rfl dX10_hasRoom_5 ?_
  refine lv_isub hx hb dX10_hasRoom_8 ?_
  refine lv_icmp_gt (tgt := 16) hx hb dX10_hasRoom_9 (by decide) (fun c_1 => ?_) (fun c_1 => ?_)
  · have hM := if_t c_1 hM
    refine lv_iconst (v := 0) hx hb dX10_hasRoom_16 (by decide) ?_
    have h9 := Option.some.inj hM
    subst h9
    exact W.zret (v := 0) hx hb hr (zb_n (Or.inl rfl)) (fun t ht hW => QMz_mk (Or.inl rfl) (by rw [ht]; exact hP) (va_K.moved hW.alike hK) hD (hS.F ht)) hS.2.2 dX10_hasRoom_17
  · have hM := if_f c_1 hM
    refine lv_iconst (v := 1) hx hb dX10_hasRoom_12 (by decide) ?_
    refine lv_goto (tgt := 17) hx hb dX10_hasRoom_13 (by decide) ?_
    have h9 := Option.some.inj hM
    subst h9
    exact W.zret (v := 1) hx hb hr (zb_n (Or.inr rfl)) (fun t ht hW => QMz_mk (Or.inr rfl) (by rw [ht]; exact hP) (va_K.moved hW.alike hK) hD (hS.F ht)) hS.2.2 dX10_hasRoom_17
theorem dX10_add_0 : decode cX10_add 0 = .ok (.aload_n 0, 1) := by decide +kernel
theorem dX10_add_1 : decode cX10_add 1 = .ok (.getfield 15, 3) := by decide +kernel
theorem dX10_add_4 : decode cX10_add 4 = .ok (.sipush 1500, 3) := by decide +kernel
theorem dX10_add_7 : decode cX10_add 7 = .ok (.if_icmp .ge 23, 3) := by decide +kernel
theorem dX10_add_10 : decode cX10_add 10 = .ok (.aload_n 0, 1) := by decide +kernel
theorem dX10_add_11 : decode cX10_add 11 = .ok (.getfield 9, 3) := by decide +kernel
theorem dX10_add_14 : decode cX10_add 14 = .ok (.aload_n 0, 1) := by decide +kernel
theorem dX10_add_15 : decode cX10_add 15 = .ok (.getfield 15, 3) := by decide +kernel
theorem dX10_add_18 : decode cX10_add 18 = .ok (.iload_n 1, 1) := by decide +kernel
theorem dX10_add_19 : decode cX10_add 19 = .ok (.iastore, 1) := by decide +kernel
theorem dX10_add_20 : decode cX10_add 20 = .ok (.aload_n 0, 1) := by decide +kernel
theorem dX10_add_21 : decode cX10_add 21 = .ok (.dup, 1) := by decide +kernel
theorem dX10_add_22 : decode cX10_add 22 = .ok (.getfield 15, 3) := by decide +kernel
theorem dX10_add_25 : decode cX10_add 25 = .ok (.iconst 1, 1) := by decide +kernel
theorem dX10_add_26 : decode cX10_add 26 = .ok (.iadd, 1) := by decide +kernel
theorem dX10_add_27 : decode cX10_add 27 = .ok (.putfield 15, 3) := by decide +kernel
theorem dX10_add_30 : decode cX10_add 30 = .ok (.aload_n 0, 1) := by decide +kernel
theorem dX10_add_31 : decode cX10_add 31 = .ok (.getfield 15, 3) := by decide +kernel
theorem dX10_add_34 : decode cX10_add 34 = .ok (.ireturn, 1) := by decide +kernel
abbrev rm_X10_add : Room := { frames := 0, cells := 0, slots := 0, locals := 0 }
def w_X10_add : List Cond := Cond.code yX10_add cX10_add 2 (some .int) :: uw
set_option maxHeartbeats 4000000 in
set_option maxRecDepth 100000 in
theorem c_X10_add (l : Launch) (dC : Nat → ClassId) (dI : Nat → Nat → Nat) (cI cZ cO : ClassId) (tL sz : Nat) (h0 : Nat) (h1 : Nat) (v0_count : Int32) (f1 : Nat → Int32) (p1 : Int32) (res : Int32 × Int32 × (Nat → Int32)) (hM : m_X10_add v0_count f1 p1 = some res) : Met l yX10_add w_X10_add rm_X10_add (PCx [.ref h0, .int p1] (dC, dI) [(cI, .int), (cZ, .boolean), (cO, .object "ListPainter$Settings")] sz tL [(h0, .inr (9, [.ref h1, .int v0_count])), (h1, .inl (cI, 1500, .inl f1))]) (QMi (res.1) (dC, dI) [(cI, .int), (cZ, .boolean), (cO, .object "ListPainter$Settings")] (va_A [(h0, .inr (9, [.ref h1, .int v0_count])), (h1, .inl (cI, 1500, .inl f1))] sz) [(h0, .inr (9, [.ref h1, .int (res.2.1)])), (h1, .inl (cI, 1500, .inl (res.2.2)))]) 0 0 (va_A [(h0, .inr (9, [.ref h1, .int v0_count])), (h1, .inl (cI, 1500, .inl f1))] sz) := by
  refine Met.ofW (cc := cX10_add) (maxL := 2) (ret := (some .int)) (by decide) rfl ?_
  intro p e s m args below meth c s₁ B hml hv
  obtain ⟨rfl, hsz, hP, hK, hD0, hG⟩ := hv
  have hx := B.exec
  have hb := B.bytes
  have hr := B.returns
  have hu : ∀ w ∈ uw, w.before ([.ref h0, .int p1] : List Value).toArray s = true := fun w h => atoms_spec (ws := w_X10_add) B.pre w (List.mem_cons_of_mem _ h)
  have hown : s.vm.findClass RX10 = some m.cls := findClass_of_methodNamed B.named
  have hlocks := B.notSynchronized
  subst hsz
  have hD := hD0.self (sz := s.heap.size)
  generalize hAe : va_A [(h0, .inr (9, [.ref h1, .int v0_count])), (h1, .inl (cI, 1500, .inl f1))] s.heap.size = A at hD hG ⊢
  have hA : ∀ q : Nat, s.heap.size ≤ q → A q := fun q h => by rw [← hAe]; exact Or.inr h
  have hS : va_S A s.heap s.heap [] := va_S.rf
  have hP : va_P (dC, dI) vwCl [(h0, .inr (9, [.ref h1, .int v0_count])), (h1, .inl (cI, 1500, .inl f1))] s.heap := hP
  have hl := lv_entry ([.ref h0, .int p1]) (n := 2) (Nat.le_of_ble_eq_true rfl)
  rw [lg_entry_eq]
  generalize (lg_sl ([.ref h0, .int p1]) ++ List.replicate (2 - (lg_sl ([.ref h0, .int p1])).length) Slot.unset).toArray = ls at hl ⊢
  have hl : lv_has ls 2 [(0, .ref h0), (1, .int p1)] := hl
  rw [m_X10_add] at hM
  suffices hgo : ∀ (H : Heap) (locs : List Loc), va_P (dC, dI) vwCl [(h0, .inr (9, [.ref h1, .int v0_count])), (h1, .inl (cI, 1500, .inl f1))] H → va_D A [(h0, .inr (9, [.ref h1, .int v0_count])), (h1, .inl (cI, 1500, .inl f1))] → va_S A s.heap H locs → W p l e (headSpec w_X10_add rm_X10_add).room s m ([.ref h0, .int p1] : List Value).toArray below meth c H locs 0 0 (MQ below (QMi (res.1) (dC, dI) [(cI, .int), (cZ, .boolean), (cO, .object "ListPainter$Settings")] A [(h0, .inr (9, [.ref h1, .int (res.2.1)])), (h1, .inl (cI, 1500, .inl (res.2.2)))]) ([.ref h0, .int p1] : List Value).toArray s 0 0 A) (F0 m 0 ls []) from hgo _ _ hP hD hS
  intro H locs hP hD hS
  refine lv_aload_n hx hb dX10_add_0 rfl (lv_at hl 0 rfl) ?_
  refine va_get (D := (dC, dI)) (ci := 9) (v := .int v0_count) (C := RX10) (T := TX10) (N := 2) hx hb hu inX10 hown hK hP 0 rfl rfl 1 (by decide) (hu _ kw_0) (fun _ h9 => h9) rfl dX10_add_1 ?_
  refine lv_sipush (v := 1500) hx hb dX10_add_4 (by decide) ?_
  refine lv_icmp_ge (tgt := 30) hx hb dX10_add_7 (by decide) (fun c_1 => ?_) (fun c_1 => ?_)
  · have hM := if_t c_1 hM
    refine lv_aload_n hx hb dX10_add_30 rfl (lv_at hl 0 rfl) ?_
    refine va_get (D := (dC, dI)) (ci := 9) (v := .int v0_count) (C := RX10) (T := TX10) (N := 2) hx hb hu inX10 hown hK hP 0 rfl rfl 1 (by decide) (hu _ kw_0) (fun _ h9 => h9) rfl dX10_add_31 ?_
    have h9 := Option.some.inj hM
    subst h9
    exact W.iret (v := v0_count) hx hb hr (fun t ht hW => QMi_mk (by rw [ht]; exact hP) (va_K.moved hW.alike hK) hD (hS.F ht)) hS.2.2 dX10_add_34
  · have hM := if_f c_1 hM
    refine lv_aload_n hx hb dX10_add_10 rfl (lv_at hl 0 rfl) ?_
    refine va_get (D := (dC, dI)) (ci := 9) (v := .ref h1) (C := RX10) (T := TX10) (N := 2) hx hb hu inX10 hown hK hP 0 rfl rfl 0 (by decide) (hu _ kw_1) (fun _ h9 => h9) rfl dX10_add_11 ?_
    refine lv_aload_n hx hb dX10_add_14 rfl (lv_at hl 0 rfl) ?_
    refine va_get (D := (dC, dI)) (ci := 9) (v := .int v0_count) (C := RX10) (T := TX10) (N := 2) hx hb hu inX10 hown hK hP 0 rfl rfl 1 (by decide) (hu _ kw_0) (fun _ h9 => h9) rfl dX10_add_15 ?_
    refine lv_iload_n hx hb dX10_add_18 rfl (lv_at hl 1 rfl) ?_
    obtain ⟨g_2, hM⟩ := gd_u hM
    refine va_iast hx hb hK hP hD hS 1 0 rfl rfl (inb_v g_2) dX10_add_19 (fun H locs hP hD hS => ?_)
    obtain ⟨f1_3, ef1_3⟩ : ∃ g : Nat → Int32, g = upd f1 (v0_count : Int32).toNatClampNeg p1 := ⟨_, rfl⟩
    have hM := nm_u ef1_3 hM
    have hP : va_P (dC, dI) vwCl [(h0, .inr (9, [.ref h1, .int v0_count])), (h1, .inl (cI, 1500, .inl f1_3))] H := by rw [ef1_3]; exact hP
    have hD : va_D A [(h0, .inr (9, [.ref h1, .int v0_count])), (h1, .inl (cI, 1500, .inl f1_3))] := by rw [ef1_3]; exact hD
    refine lv_aload_n hx hb dX10_add_20 rfl (lv_at hl 0 rfl) ?_
    refine lv_dup hx hb dX10_add_21 rfl ?_
    refine va_get (D := (dC, dI)) (ci := 9) (v := .int v0_count) (C := RX10) (T := TX10) (N := 2) hx hb hu inX10 hown hK hP 0 rfl rfl 1 (by decide) (hu _ kw_0) (fun _ h9 => h9) rfl dX10_add_22 ?_
    refine lv_iconst (v := 1) hx hb dX10_add_25 (by decide) ?_
    refine lv_iadd hx hb dX10_add_26 ?_
    refine lv_topi (fun y_4 ey_4 => ?_)
    have hM := nm_u ey_4 hM
    refine va_put (D := (dC, dI)) (ci := 9) (v := .int y_4) (ty := .int) (C := RX10) (T := TX10) (N := 2) hx hb hu inX10 tyX10 tyX10_ok nmX10 hown hK hP hD hS 0 rfl rfl 1 (by decide) (hu _ kw_0) (fun _ h9 => h9) rfl (by decide +kernel) rfl rfl (Nat.le_of_ble_eq_true rfl) dX10_add_27 (fun H locs hP hD hS => ?_)
    have hP : va_P (dC, dI) vwCl [(h0, .inr (9, [.ref h1, .int y_4])), (h1, .inl (cI, 1500, .inl f1_3))] H := hP
    have hD : va_D A [(h0, .inr (9, [.ref h1, .int y_4])), (h1, .inl (cI, 1500, .inl f1_3))] := hD
    refine lv_aload_n hx hb dX10_add_30 rfl (lv_at hl 0 rfl) ?_
    refine va_get (D := (dC, dI)) (ci := 9) (v := .int y_4) (C := RX10) (T := TX10) (N := 2) hx hb hu inX10 hown hK hP 0 rfl rfl 1 (by decide) (hu _ kw_0) (fun _ h9 => h9) rfl dX10_add_31 ?_
    have h9 := Option.some.inj hM
    subst h9
    exact W.iret (v := y_4) hx hb hr (fun t ht hW => QMi_mk (by rw [ht]; exact hP) (va_K.moved hW.alike hK) hD (hS.F ht)) hS.2.2 dX10_add_34
theorem dX10_word_0 : decode cX10_word 0 = .ok (.iload_n 1, 1) := by decide +kernel
theorem dX10_word_1 : decode cX10_word 1 = .ok (.ifCond .lt 20, 3) := by decide +kernel
theorem dX10_word_4 : decode cX10_word 4 = .ok (.iload_n 1, 1) := by decide +kernel
theorem dX10_word_5 : decode cX10_word 5 = .ok (.aload_n 0, 1) := by decide +kernel
theorem dX10_word_6 : decode cX10_word 6 = .ok (.getfield 15, 3) := by decide +kernel
theorem dX10_word_9 : decode cX10_word 9 = .ok (.if_icmp .ge 12, 3) := by decide +kernel
theorem dX10_word_12 : decode cX10_word 12 = .ok (.aload_n 0, 1) := by decide +kernel
theorem dX10_word_13 : decode cX10_word 13 = .ok (.getfield 9, 3) := by decide +kernel
theorem dX10_word_16 : decode cX10_word 16 = .ok (.iload_n 1, 1) := by decide +kernel
theorem dX10_word_17 : decode cX10_word 17 = .ok (.iaload, 1) := by decide +kernel
theorem dX10_word_18 : decode cX10_word 18 = .ok (.goto 4, 3) := by decide +kernel
theorem dX10_word_21 : decode cX10_word 21 = .ok (.iconst 0, 1) := by decide +kernel
theorem dX10_word_22 : decode cX10_word 22 = .ok (.ireturn, 1) := by decide +kernel
abbrev rm_X10_word : Room := { frames := 0, cells := 0, slots := 0, locals := 0 }
def w_X10_word : List Cond := Cond.code yX10_word cX10_word 2 (some .int) :: uw
set_option maxHeartbeats 4000000 in
set_option maxRecDepth 100000 in
theorem c_X10_word (l : Launch) (dC : Nat → ClassId) (dI : Nat → Nat → Nat) (cI cZ cO : ClassId) (tL sz : Nat) (h0 : Nat) (h1 : Nat) (v0_count : Int32) (f1 : Nat → Int32) (p1 : Int32) (res : Int32) (hM : m_X10_word v0_count f1 p1 = some res) : Met l yX10_word w_X10_word rm_X10_word (PCx [.ref h0, .int p1] (dC, dI) [(cI, .int), (cZ, .boolean), (cO, .object "ListPainter$Settings")] sz tL [(h0, .inr (9, [.ref h1, .int v0_count])), (h1, .inl (cI, 1500, .inl f1))]) (QMi res (dC, dI) [(cI, .int), (cZ, .boolean), (cO, .object "ListPainter$Settings")] (va_A [(h0, .inr (9, [.ref h1, .int v0_count])), (h1, .inl (cI, 1500, .inl f1))] sz) [(h0, .inr (9, [.ref h1, .int v0_count])), (h1, .inl (cI, 1500, .inl f1))]) 0 0 (va_A [(h0, .inr (9, [.ref h1, .int v0_count])), (h1, .inl (cI, 1500, .inl f1))] sz) := by
  refine Met.ofW (cc := cX10_word) (maxL := 2) (ret := (some .int)) (by decide) rfl ?_
  intro p e s m args below meth c s₁ B hml hv
  obtain ⟨rfl, hsz, hP, hK, hD0, hG⟩ := hv
  have hx := B.exec
  have hb := B.bytes
  have hr := B.returns
  have hu : ∀ w ∈ uw, w.before ([.ref h0, .int p1] : List Value).toArray s = true := fun w h => atoms_spec (ws := w_X10_word) B.pre w (List.mem_cons_of_mem _ h)
  have hown : s.vm.findClass RX10 = some m.cls := findClass_of_methodNamed B.named
  have hlocks := B.notSynchronized
  subst hsz
  have hD := hD0.self (sz := s.heap.size)
  generalize hAe : va_A [(h0, .inr (9, [.ref h1, .int v0_count])), (h1, .inl (cI, 1500, .inl f1))] s.heap.size = A at hD hG ⊢
  have hA : ∀ q : Nat, s.heap.size ≤ q → A q := fun q h => by rw [← hAe]; exact Or.inr h
  have hS : va_S A s.heap s.heap [] := va_S.rf
  have hP : va_P (dC, dI) vwCl [(h0, .inr (9, [.ref h1, .int v0_count])), (h1, .inl (cI, 1500, .inl f1))] s.heap := hP
  have hl := lv_entry ([.ref h0, .int p1]) (n := 2) (Nat.le_of_ble_eq_true rfl)
  rw [lg_entry_eq]
  generalize (lg_sl ([.ref h0, .int p1]) ++ List.replicate (2 - (lg_sl ([.ref h0, .int p1])).length) Slot.unset).toArray = ls at hl ⊢
  have hl : lv_has ls 2 [(0, .ref h0), (1, .int p1)] := hl
  rw [m_X10_word] at hM
  suffices hgo : ∀ (H : Heap) (locs : List Loc), va_P (dC, dI) vwCl [(h0, .inr (9, [.ref h1, .int v0_count])), (h1, .inl (cI, 1500, .inl f1))] H → va_D A [(h0, .inr (9, [.ref h1, .int v0_count])), (h1, .inl (cI, 1500, .inl f1))] → va_S A s.heap H locs → W p l e (headSpec w_X10_word rm_X10_word).room s m ([.ref h0, .int p1] : List Value).toArray below meth c H locs 0 0 (MQ below (QMi res (dC, dI) [(cI, .int), (cZ, .boolean), (cO, .object "ListPainter$Settings")] A [(h0, .inr (9, [.ref h1, .int v0_count])), (h1, .inl (cI, 1500, .inl f1))]) ([.ref h0, .int p1] : List Value).toArray s 0 0 A) (F0 m 0 ls []) from hgo _ _ hP hD hS
  intro H locs hP hD hS
  refine lv_iload_n hx hb dX10_word_0 rfl (lv_at hl 1 rfl) ?_
  refine lv_if_lt (tgt := 21) hx hb dX10_word_1 (by decide) (fun c_1 => ?_) (fun c_1 => ?_)
  · have hM := if_t c_1 hM
    refine lv_iconst (v := 0) hx hb dX10_word_21 (by decide) ?_
    have h9 := Option.some.inj hM
    subst h9
    exact W.iret (v := 0) hx hb hr (fun t ht hW => QMi_mk (by rw [ht]; exact hP) (va_K.moved hW.alike hK) hD (hS.F ht)) hS.2.2 dX10_word_22
  · have hM := if_f c_1 hM
    refine lv_iload_n hx hb dX10_word_4 rfl (lv_at hl 1 rfl) ?_
    refine lv_aload_n hx hb dX10_word_5 rfl (lv_at hl 0 rfl) ?_
    refine va_get (D := (dC, dI)) (ci := 9) (v := .int v0_count) (C := RX10) (T := TX10) (N := 2) hx hb hu inX10 hown hK hP 0 rfl rfl 1 (by decide) (hu _ kw_0) (fun _ h9 => h9) rfl dX10_word_6 ?_
    refine lv_icmp_ge (tgt := 21) hx hb dX10_word_9 (by decide) (fun c_2 => ?_) (fun c_2 => ?_)
    · have hM := if_t c_2 hM
      refine lv_iconst (v := 0) hx hb dX10_word_21 (by decide) ?_
      have h9 := Option.some.inj hM
      subst h9
      exact W.iret (v := 0) hx hb hr (fun t ht hW => QMi_mk (by rw [ht]; exact hP) (va_K.moved hW.alike hK) hD (hS.F ht)) hS.2.2 dX10_word_22
    · have hM := if_f c_2 hM
      refine lv_aload_n hx hb dX10_word_12 rfl (lv_at hl 0 rfl) ?_
      refine va_get (D := (dC, dI)) (ci := 9) (v := .ref h1) (C := RX10) (T := TX10) (N := 2) hx hb hu inX10 hown hK hP 0 rfl rfl 0 (by decide) (hu _ kw_1) (fun _ h9 => h9) rfl dX10_word_13 ?_
      refine lv_iload_n hx hb dX10_word_16 rfl (lv_at hl 1 rfl) ?_
      obtain ⟨g_3, hM⟩ := gd_u hM
      refine va_iald hx hb hK hP 1 0 rfl rfl (inb_v g_3) dX10_word_17 ?_
      refine lv_topi (fun a_4 ea_4 => ?_)
      have hM := nm_u ea_4 hM
      refine lv_goto (tgt := 22) hx hb dX10_word_18 (by decide) ?_
      have h9 := Option.some.inj hM
      subst h9
      exact W.iret (v := a_4) hx hb hr (fun t ht hW => QMi_mk (by rw [ht]; exact hP) (va_K.moved hW.alike hK) hD (hS.F ht)) hS.2.2 dX10_word_22
theorem dX10_put_0 : decode cX10_put 0 = .ok (.iload_n 1, 1) := by decide +kernel
theorem dX10_put_1 : decode cX10_put 1 = .ok (.ifCond .lt 18, 3) := by decide +kernel
theorem dX10_put_4 : decode cX10_put 4 = .ok (.iload_n 1, 1) := by decide +kernel
theorem dX10_put_5 : decode cX10_put 5 = .ok (.aload_n 0, 1) := by decide +kernel
theorem dX10_put_6 : decode cX10_put 6 = .ok (.getfield 15, 3) := by decide +kernel
theorem dX10_put_9 : decode cX10_put 9 = .ok (.if_icmp .ge 10, 3) := by decide +kernel
theorem dX10_put_12 : decode cX10_put 12 = .ok (.aload_n 0, 1) := by decide +kernel
theorem dX10_put_13 : decode cX10_put 13 = .ok (.getfield 9, 3) := by decide +kernel
theorem dX10_put_16 : decode cX10_put 16 = .ok (.iload_n 1, 1) := by decide +kernel
theorem dX10_put_17 : decode cX10_put 17 = .ok (.iload_n 2, 1) := by decide +kernel
theorem dX10_put_18 : decode cX10_put 18 = .ok (.iastore, 1) := by decide +kernel
theorem dX10_put_19 : decode cX10_put 19 = .ok (.return_, 1) := by decide +kernel
abbrev rm_X10_put : Room := { frames := 0, cells := 0, slots := 0, locals := 0 }
def w_X10_put : List Cond := Cond.code yX10_put cX10_put 3 none :: uw
set_option maxHeartbeats 4000000 in
set_option maxRecDepth 100000 in
theorem c_X10_put (l : Launch) (dC : Nat → ClassId) (dI : Nat → Nat → Nat) (cI cZ cO : ClassId) (tL sz : Nat) (h0 : Nat) (h1 : Nat) (v0_count : Int32) (f1 : Nat → Int32) (p1 : Int32) (p2 : Int32) (res : (Nat → Int32)) (hM : m_X10_put v0_count f1 p1 p2 = some res) : Met l yX10_put w_X10_put rm_X10_put (PCx [.ref h0, .int p1, .int p2] (dC, dI) [(cI, .int), (cZ, .boolean), (cO, .object "ListPainter$Settings")] sz tL [(h0, .inr (9, [.ref h1, .int v0_count])), (h1, .inl (cI, 1500, .inl f1))]) (QMv (dC, dI) [(cI, .int), (cZ, .boolean), (cO, .object "ListPainter$Settings")] (va_A [(h0, .inr (9, [.ref h1, .int v0_count])), (h1, .inl (cI, 1500, .inl f1))] sz) [(h0, .inr (9, [.ref h1, .int v0_count])), (h1, .inl (cI, 1500, .inl res))]) 0 0 (va_A [(h0, .inr (9, [.ref h1, .int v0_count])), (h1, .inl (cI, 1500, .inl f1))] sz) := by
  refine Met.ofW (cc := cX10_put) (maxL := 3) (ret := none) (by decide) rfl ?_
  intro p e s m args below meth c s₁ B hml hv
  obtain ⟨rfl, hsz, hP, hK, hD0, hG⟩ := hv
  have hx := B.exec
  have hb := B.bytes
  have hr := B.returns
  have hu : ∀ w ∈ uw, w.before ([.ref h0, .int p1, .int p2] : List Value).toArray s = true := fun w h => atoms_spec (ws := w_X10_put) B.pre w (List.mem_cons_of_mem _ h)
  have hown : s.vm.findClass RX10 = some m.cls := findClass_of_methodNamed B.named
  have hlocks := B.notSynchronized
  subst hsz
  have hD := hD0.self (sz := s.heap.size)
  generalize hAe : va_A [(h0, .inr (9, [.ref h1, .int v0_count])), (h1, .inl (cI, 1500, .inl f1))] s.heap.size = A at hD hG ⊢
  have hA : ∀ q : Nat, s.heap.size ≤ q → A q := fun q h => by rw [← hAe]; exact Or.inr h
  have hS : va_S A s.heap s.heap [] := va_S.rf
  have hP : va_P (dC, dI) vwCl [(h0, .inr (9, [.ref h1, .int v0_count])), (h1, .inl (cI, 1500, .inl f1))] s.heap := hP
  have hl := lv_entry ([.ref h0, .int p1, .int p2]) (n := 3) (Nat.le_of_ble_eq_true rfl)
  rw [lg_entry_eq]
  generalize (lg_sl ([.ref h0, .int p1, .int p2]) ++ List.replicate (3 - (lg_sl ([.ref h0, .int p1, .int p2])).length) Slot.unset).toArray = ls at hl ⊢
  have hl : lv_has ls 3 [(0, .ref h0), (1, .int p1), (2, .int p2)] := hl
  rw [m_X10_put] at hM
  suffices hgo : ∀ (H : Heap) (locs : List Loc), va_P (dC, dI) vwCl [(h0, .inr (9, [.ref h1, .int v0_count])), (h1, .inl (cI, 1500, .inl f1))] H → va_D A [(h0, .inr (9, [.ref h1, .int v0_count])), (h1, .inl (cI, 1500, .inl f1))] → va_S A s.heap H locs → W p l e (headSpec w_X10_put rm_X10_put).room s m ([.ref h0, .int p1, .int p2] : List Value).toArray below meth c H locs 0 0 (MQ below (QMv (dC, dI) [(cI, .int), (cZ, .boolean), (cO, .object "ListPainter$Settings")] A [(h0, .inr (9, [.ref h1, .int v0_count])), (h1, .inl (cI, 1500, .inl res))]) ([.ref h0, .int p1, .int p2] : List Value).toArray s 0 0 A) (F0 m 0 ls []) from hgo _ _ hP hD hS
  intro H locs hP hD hS
  refine lv_iload_n hx hb dX10_put_0 rfl (lv_at hl 1 rfl) ?_
  refine lv_if_lt (tgt := 19) hx hb dX10_put_1 (by decide) (fun c_1 => ?_) (fun c_1 => ?_)
  · have hM := if_t c_1 hM
    have h9 := Option.some.inj hM
    subst h9
    exact W.vret hx hb hr (fun t ht hW => QMv_mk (by rw [ht]; exact hP) (va_K.moved hW.alike hK) hD (hS.F ht)) hS.2.2 dX10_put_19
  · have hM := if_f c_1 hM
    refine lv_iload_n hx hb dX10_put_4 rfl (lv_at hl 1 rfl) ?_
    refine lv_aload_n hx hb dX10_put_5 rfl (lv_at hl 0 rfl) ?_
    refine va_get (D := (dC, dI)) (ci := 9) (v := .int v0_count) (C := RX10) (T := TX10) (N := 2) hx hb hu inX10 hown hK hP 0 rfl rfl 1 (by decide) (hu _ kw_0) (fun _ h9 => h9) rfl dX10_put_6 ?_
    refine lv_icmp_ge (tgt := 19) hx hb dX10_put_9 (by decide) (fun c_2 => ?_) (fun c_2 => ?_)
    · have hM := if_t c_2 hM
      have h9 := Option.some.inj hM
      subst h9
      exact W.vret hx hb hr (fun t ht hW => QMv_mk (by rw [ht]; exact hP) (va_K.moved hW.alike hK) hD (hS.F ht)) hS.2.2 dX10_put_19
    · have hM := if_f c_2 hM
      refine lv_aload_n hx hb dX10_put_12 rfl (lv_at hl 0 rfl) ?_
      refine va_get (D := (dC, dI)) (ci := 9) (v := .ref h1) (C := RX10) (T := TX10) (N := 2) hx hb hu inX10 hown hK hP 0 rfl rfl 0 (by decide) (hu _ kw_1) (fun _ h9 => h9) rfl dX10_put_13 ?_
      refine lv_iload_n hx hb dX10_put_16 rfl (lv_at hl 1 rfl) ?_
      refine lv_iload_n hx hb dX10_put_17 rfl (lv_at hl 2 rfl) ?_
      obtain ⟨g_3, hM⟩ := gd_u hM
      refine va_iast hx hb hK hP hD hS 1 0 rfl rfl (inb_v g_3) dX10_put_18 (fun H locs hP hD hS => ?_)
      obtain ⟨f1_4, ef1_4⟩ : ∃ g : Nat → Int32, g = upd f1 (p1 : Int32).toNatClampNeg p2 := ⟨_, rfl⟩
      have hM := nm_u ef1_4 hM
      have hP : va_P (dC, dI) vwCl [(h0, .inr (9, [.ref h1, .int v0_count])), (h1, .inl (cI, 1500, .inl f1_4))] H := by rw [ef1_4]; exact hP
      have hD : va_D A [(h0, .inr (9, [.ref h1, .int v0_count])), (h1, .inl (cI, 1500, .inl f1_4))] := by rw [ef1_4]; exact hD
      have h9 := Option.some.inj hM
      subst h9
      exact W.vret hx hb hr (fun t ht hW => QMv_mk (by rw [ht]; exact hP) (va_K.moved hW.alike hK) hD (hS.F ht)) hS.2.2 dX10_put_19
theorem dX10_isCommand_0 : decode cX10_isCommand 0 = .ok (.iload_n 0, 1) := by decide +kernel
theorem dX10_isCommand_1 : decode cX10_isCommand 1 = .ok (.iconst 1, 1) := by decide +kernel
theorem dX10_isCommand_2 : decode cX10_isCommand 2 = .ok (.if_icmp .lt 13, 3) := by decide +kernel
theorem dX10_isCommand_5 : decode cX10_isCommand 5 = .ok (.iload_n 0, 1) := by decide +kernel
theorem dX10_isCommand_6 : decode cX10_isCommand 6 = .ok (.bipush 14, 2) := by decide +kernel
theorem dX10_isCommand_8 : decode cX10_isCommand 8 = .ok (.if_icmp .gt 7, 3) := by decide +kernel
theorem dX10_isCommand_11 : decode cX10_isCommand 11 = .ok (.iconst 1, 1) := by decide +kernel
theorem dX10_isCommand_12 : decode cX10_isCommand 12 = .ok (.goto 4, 3) := by decide +kernel
theorem dX10_isCommand_15 : decode cX10_isCommand 15 = .ok (.iconst 0, 1) := by decide +kernel
theorem dX10_isCommand_16 : decode cX10_isCommand 16 = .ok (.ireturn, 1) := by decide +kernel
abbrev rm_X10_isCommand : Room := { frames := 0, cells := 0, slots := 0, locals := 0 }
def w_X10_isCommand : List Cond := Cond.code yX10_isCommand cX10_isCommand 1 (some .boolean) :: uw
set_option maxHeartbeats 4000000 in
set_option maxRecDepth 100000 in
theorem c_X10_isCommand (l : Launch) (dC : Nat → ClassId) (dI : Nat → Nat → Nat) (cI cZ cO : ClassId) (tL sz : Nat) (p0 : Int32) (res : Int32) (hM : m_X10_isCommand p0 = some res) : Met l yX10_isCommand w_X10_isCommand rm_X10_isCommand (PCx [.int p0] (dC, dI) [(cI, .int), (cZ, .boolean), (cO, .object "ListPainter$Settings")] sz tL []) (QMz res (dC, dI) [(cI, .int), (cZ, .boolean), (cO, .object "ListPainter$Settings")] (va_A [] sz) []) 0 0 (va_A [] sz) := by
  refine Met.ofW (cc := cX10_isCommand) (maxL := 1) (ret := (some .boolean)) (by decide) rfl ?_
  intro p e s m args below meth c s₁ B hml hv
  obtain ⟨rfl, hsz, hP, hK, hD0, hG⟩ := hv
  have hx := B.exec
  have hb := B.bytes
  have hr := B.returns
  have hu : ∀ w ∈ uw, w.before ([.int p0] : List Value).toArray s = true := fun w h => atoms_spec (ws := w_X10_isCommand) B.pre w (List.mem_cons_of_mem _ h)
  have hown : s.vm.findClass RX10 = some m.cls := findClass_of_methodNamed B.named
  have hlocks := B.notSynchronized
  subst hsz
  have hD := hD0.self (sz := s.heap.size)
  generalize hAe : va_A [] s.heap.size = A at hD hG ⊢
  have hA : ∀ q : Nat, s.heap.size ≤ q → A q := fun q h => by rw [← hAe]; exact Or.inr h
  have hS : va_S A s.heap s.heap [] := va_S.rf
  have hP : va_P (dC, dI) vwCl [] s.heap := hP
  have hl := lv_entry ([.int p0]) (n := 1) (Nat.le_of_ble_eq_true rfl)
  rw [lg_entry_eq]
  generalize (lg_sl ([.int p0]) ++ List.replicate (1 - (lg_sl ([.int p0])).length) Slot.unset).toArray = ls at hl ⊢
  have hl : lv_has ls 1 [(0, .int p0)] := hl
  rw [m_X10_isCommand] at hM
  suffices hgo : ∀ (H : Heap) (locs : List Loc), va_P (dC, dI) vwCl [] H → va_D A [] → va_S A s.heap H locs → W p l e (headSpec w_X10_isCommand rm_X10_isCommand).room s m ([.int p0] : List Value).toArray below meth c H locs 0 0 (MQ below (QMz res (dC, dI) [(cI, .int), (cZ, .boolean), (cO, .object "ListPainter$Settings")] A []) ([.int p0] : List Value).toArray s 0 0 A) (F0 m 0 ls []) from hgo _ _ hP hD hS
  intro H locs hP hD hS
  refine lv_iload_n hx hb dX10_isCommand_0 rfl (lv_at hl 0 rfl) ?_
  refine lv_iconst (v := 1) hx hb dX10_isCommand_1 (by decide) ?_
  refine lv_icmp_lt (tgt := 15) hx hb dX10_isCommand_2 (by decide) (fun c_1 => ?_) (fun c_1 => ?_)
  · have hM := if_t c_1 hM
    refine lv_iconst (v := 0) hx hb dX10_isCommand_15 (by decide) ?_
    have h9 := Option.some.inj hM
    subst h9
    exact W.zret (v := 0) hx hb hr (zb_n (Or.inl rfl)) (fun t ht hW => QMz_mk (Or.inl rfl) (by rw [ht]; exact hP) (va_K.moved hW.alike hK) hD (hS.F ht)) hS.2.2 dX10_isCommand_16
  · have hM := if_f c_1 hM
    refine lv_iload_n hx hb dX10_isCommand_5 rfl (lv_at hl 0 rfl) ?_
    refine lv_bipush (v := 14) hx hb dX10_isCommand_6 (by decide) ?_
    refine lv_icmp_gt (tgt := 15) hx hb dX10_isCommand_8 (by decide) (fun c_2 => ?_) (fun c_2 => ?_)
    · have hM := if_t c_2 hM
      refine lv_iconst (v := 0) hx hb dX10_isCommand_15 (by decide) ?_
      have h9 := Option.some.inj hM
      subst h9
      exact W.zret (v := 0) hx hb hr (zb_n (Or.inl rfl)) (fun t ht hW => QMz_mk (Or.inl rfl) (by rw [ht]; exact hP) (va_K.moved hW.alike hK) hD (hS.F ht)) hS.2.2 dX10_isCommand_16
    · have hM := if_f c_2 hM
      refine lv_iconst (v := 1) hx hb dX10_isCommand_11 (by decide) ?_
      refine lv_goto (tgt := 16) hx hb dX10_isCommand_12 (by decide) ?_
      have h9 := Option.some.inj hM
      subst h9
      exact W.zret (v := 1) hx hb hr (zb_n (Or.inr rfl)) (fun t ht hW => QMz_mk (Or.inr rfl) (by rw [ht]; exact hP) (va_K.moved hW.alike hK) hD (hS.F ht)) hS.2.2 dX10_isCommand_16
theorem dX10_lengthAt_0 : decode cX10_lengthAt 0 = .ok (.aload_n 0, 1) := by decide +kernel
theorem dX10_lengthAt_1 : decode cX10_lengthAt 1 = .ok (.iload_n 1, 1) := by decide +kernel
theorem dX10_lengthAt_2 : decode cX10_lengthAt 2 = .ok (.invokevirtual 19, 3) := by decide +kernel
theorem dX10_lengthAt_5 : decode cX10_lengthAt 5 = .ok (.istore_n 2, 1) := by decide +kernel
theorem dX10_lengthAt_6 : decode cX10_lengthAt 6 = .ok (.iload_n 2, 1) := by decide +kernel
theorem dX10_lengthAt_7 : decode cX10_lengthAt 7 = .ok (.invokestatic 23, 3) := by decide +kernel
theorem dX10_lengthAt_10 : decode cX10_lengthAt 10 = .ok (.ifCond .eq 11, 3) := by decide +kernel
theorem dX10_lengthAt_13 : decode cX10_lengthAt 13 = .ok (.getstatic 27, 3) := by decide +kernel
theorem dX10_lengthAt_16 : decode cX10_lengthAt 16 = .ok (.iload_n 2, 1) := by decide +kernel
theorem dX10_lengthAt_17 : decode cX10_lengthAt 17 = .ok (.iaload, 1) := by decide +kernel
theorem dX10_lengthAt_18 : decode cX10_lengthAt 18 = .ok (.goto 4, 3) := by decide +kernel
theorem dX10_lengthAt_21 : decode cX10_lengthAt 21 = .ok (.iconst 1, 1) := by decide +kernel
theorem dX10_lengthAt_22 : decode cX10_lengthAt 22 = .ok (.ireturn, 1) := by decide +kernel
abbrev rm_X10_lengthAt : Room := { frames := 1, cells := 0, slots := 0, locals := 21 }
def w_X10_lengthAt : List Cond := Cond.code yX10_lengthAt cX10_lengthAt 3 (some .int) :: uw
set_option maxHeartbeats 4000000 in
set_option maxRecDepth 100000 in
theorem c_X10_lengthAt (l : Launch) (dC : Nat → ClassId) (dI : Nat → Nat → Nat) (cI cZ cO : ClassId) (tL sz : Nat) (h0 : Nat) (h1 : Nat) (v0_count : Int32) (f1 : Nat → Int32) (p1 : Int32) (res : Int32) (hM : m_X10_lengthAt v0_count f1 p1 = some res) : Met l yX10_lengthAt w_X10_lengthAt rm_X10_lengthAt (PCx [.ref h0, .int p1] (dC, dI) [(cI, .int), (cZ, .boolean), (cO, .object "ListPainter$Settings")] sz tL [(h0, .inr (9, [.ref h1, .int v0_count])), (h1, .inl (cI, 1500, .inl f1))]) (QMi res (dC, dI) [(cI, .int), (cZ, .boolean), (cO, .object "ListPainter$Settings")] (va_A [(h0, .inr (9, [.ref h1, .int v0_count])), (h1, .inl (cI, 1500, .inl f1))] sz) [(h0, .inr (9, [.ref h1, .int v0_count])), (h1, .inl (cI, 1500, .inl f1))]) 0 0 (va_A [(h0, .inr (9, [.ref h1, .int v0_count])), (h1, .inl (cI, 1500, .inl f1))] sz) := by
  refine Met.ofW (cc := cX10_lengthAt) (maxL := 3) (ret := (some .int)) (by decide) rfl ?_
  intro p e s m args below meth c s₁ B hml hv
  obtain ⟨rfl, hsz, hP, hK, hD0, hG⟩ := hv
  have hx := B.exec
  have hb := B.bytes
  have hr := B.returns
  have hu : ∀ w ∈ uw, w.before ([.ref h0, .int p1] : List Value).toArray s = true := fun w h => atoms_spec (ws := w_X10_lengthAt) B.pre w (List.mem_cons_of_mem _ h)
  have hown : s.vm.findClass RX10 = some m.cls := findClass_of_methodNamed B.named
  have hlocks := B.notSynchronized
  subst hsz
  have hD := hD0.self (sz := s.heap.size)
  generalize hAe : va_A [(h0, .inr (9, [.ref h1, .int v0_count])), (h1, .inl (cI, 1500, .inl f1))] s.heap.size = A at hD hG ⊢
  have hA : ∀ q : Nat, s.heap.size ≤ q → A q := fun q h => by rw [← hAe]; exact Or.inr h
  have hS : va_S A s.heap s.heap [] := va_S.rf
  have hP : va_P (dC, dI) vwCl [(h0, .inr (9, [.ref h1, .int v0_count])), (h1, .inl (cI, 1500, .inl f1))] s.heap := hP
  have hl := lv_entry ([.ref h0, .int p1]) (n := 3) (Nat.le_of_ble_eq_true rfl)
  rw [lg_entry_eq]
  generalize (lg_sl ([.ref h0, .int p1]) ++ List.replicate (3 - (lg_sl ([.ref h0, .int p1])).length) Slot.unset).toArray = ls at hl ⊢
  have hl : lv_has ls 3 [(0, .ref h0), (1, .int p1)] := hl
  rw [m_X10_lengthAt] at hM
  suffices hgo : ∀ (H : Heap) (locs : List Loc), va_P (dC, dI) vwCl [(h0, .inr (9, [.ref h1, .int v0_count])), (h1, .inl (cI, 1500, .inl f1))] H → va_D A [(h0, .inr (9, [.ref h1, .int v0_count])), (h1, .inl (cI, 1500, .inl f1))] → va_S A s.heap H locs → W p l e (headSpec w_X10_lengthAt rm_X10_lengthAt).room s m ([.ref h0, .int p1] : List Value).toArray below meth c H locs 0 0 (MQ below (QMi res (dC, dI) [(cI, .int), (cZ, .boolean), (cO, .object "ListPainter$Settings")] A [(h0, .inr (9, [.ref h1, .int v0_count])), (h1, .inl (cI, 1500, .inl f1))]) ([.ref h0, .int p1] : List Value).toArray s 0 0 A) (F0 m 0 ls []) from hgo _ _ hP hD hS
  intro H locs hP hD hS
  refine lv_aload_n hx hb dX10_lengthAt_0 rfl (lv_at hl 0 rfl) ?_
  refine lv_iload_n hx hb dX10_lengthAt_1 rfl (lv_at hl 1 rfl) ?_
  obtain ⟨r_1, hm_2, hM⟩ := bd1_u hM
  refine cVi (r := r_1) (As := [.int p1]) (rest := []) ⟨hx, hb, hml, hown, hu⟩ (c_X10_word l dC dI cI cZ cO tL H.size h0 h1 v0_count f1 p1 r_1 hm_2) (cwV 1 hu (gV kw_2 kw_3 kw_4 kw_5 kw_6) rfl rfl rfl (by decide +kernel) ⟨Nat.le_of_ble_eq_true rfl, Nat.le_of_ble_eq_true rfl⟩) hP hD hS hA hK hG [0, 1] (by decide) rfl [some 0, some 1] 2 rfl (by decide +kernel) rfl 9 0 rfl rfl rfl rfl hl.1 rfl (Nat.le_of_ble_eq_true rfl) dX10_lengthAt_2 (Nat.zero_le _) (Nat.zero_le _) (fun H locs hP hD hS => ?_)
  have hP : va_P (dC, dI) vwCl [(h0, .inr (9, [.ref h1, .int v0_count])), (h1, .inl (cI, 1500, .inl f1))] H := hP
  have hD : va_D A [(h0, .inr (9, [.ref h1, .int v0_count])), (h1, .inl (cI, 1500, .inl f1))] := hD
  refine lv_istore_n (lv' := [(2, .int r_1), (0, .ref h0), (1, .int p1)]) hx hb dX10_lengthAt_5 rfl hl (by decide) rfl (fun ls hl => ?_)
  refine lv_iload_n hx hb dX10_lengthAt_6 rfl (lv_at hl 0 rfl) ?_
  obtain ⟨r_3, hm_4, hM⟩ := bd1_u hM
  refine cSz (r := r_3) (As := [.int r_1]) (rest := []) ⟨hx, hb, hml, hown, hu⟩ (c_X10_isCommand l dC dI cI cZ cO tL H.size r_1 r_3 hm_4) (va_cwS 1 hu (gS kw_7 kw_8 kw_5 kw_9) rfl rfl rfl (by decide +kernel) ⟨Nat.le_of_ble_eq_true rfl, Nat.le_of_ble_eq_true rfl⟩) hP hD hS hA hK hG [] (by decide) rfl [none, none] 0 rfl (by decide +kernel) rfl rfl hl.1 rfl (Nat.le_of_ble_eq_true rfl) dX10_lengthAt_7 (Nat.zero_le _) (Nat.zero_le _) (fun H locs hz_r_3 hP hD hS => ?_)
  have hP : va_P (dC, dI) vwCl [(h0, .inr (9, [.ref h1, .int v0_count])), (h1, .inl (cI, 1500, .inl f1))] H := hP
  have hD : va_D A [(h0, .inr (9, [.ref h1, .int v0_count])), (h1, .inl (cI, 1500, .inl f1))] := hD
  refine lv_if_eq (tgt := 21) hx hb dX10_lengthAt_10 (by decide) (fun c_5 => ?_) (fun c_5 => ?_)
  · have hM := if_t c_5 hM
    refine lv_iconst (v := 1) hx hb dX10_lengthAt_21 (by decide) ?_
    have h9 := Option.some.inj hM
    subst h9
    exact W.iret (v := 1) hx hb hr (fun t ht hW => QMi_mk (by rw [ht]; exact hP) (va_K.moved hW.alike hK) hD (hS.F ht)) hS.2.2 dX10_lengthAt_22
  · have hM := if_f c_5 hM
    refine va_getsN hx hb hG.2.1 hS hown (gX_nest hG 406 kw_10 rfl) (fun _ h9 => h9) dX10_lengthAt_13 ?_
    refine lv_iload_n hx hb dX10_lengthAt_16 rfl (lv_at hl 0 rfl) ?_
    obtain ⟨g_6, hM⟩ := gd_u hM
    refine va_ti hx hb hG.2.2.1 hS (inb_v g_6) rfl dX10_lengthAt_17 ?_
    refine lv_topi (fun a_7 ea_7 => ?_)
    have hM := nm_u ea_7 hM
    refine lv_goto (tgt := 22) hx hb dX10_lengthAt_18 (by decide) ?_
    have h9 := Option.some.inj hM
    subst h9
    exact W.iret (v := a_7) hx hb hr (fun t ht hW => QMi_mk (by rw [ht]; exact hP) (va_K.moved hW.alike hK) hD (hS.F ht)) hS.2.2 dX10_lengthAt_22
theorem dX10_cutTo_0 : decode cX10_cutTo 0 = .ok (.iload_n 1, 1) := by decide +kernel
theorem dX10_cutTo_1 : decode cX10_cutTo 1 = .ok (.ifCond .lt 16, 3) := by decide +kernel
theorem dX10_cutTo_4 : decode cX10_cutTo 4 = .ok (.iload_n 1, 1) := by decide +kernel
theorem dX10_cutTo_5 : decode cX10_cutTo 5 = .ok (.aload_n 0, 1) := by decide +kernel
theorem dX10_cutTo_6 : decode cX10_cutTo 6 = .ok (.getfield 15, 3) := by decide +kernel
theorem dX10_cutTo_9 : decode cX10_cutTo 9 = .ok (.if_icmp .ge 8, 3) := by decide +kernel
theorem dX10_cutTo_12 : decode cX10_cutTo 12 = .ok (.aload_n 0, 1) := by decide +kernel
theorem dX10_cutTo_13 : decode cX10_cutTo 13 = .ok (.iload_n 1, 1) := by decide +kernel
theorem dX10_cutTo_14 : decode cX10_cutTo 14 = .ok (.putfield 15, 3) := by decide +kernel
theorem dX10_cutTo_17 : decode cX10_cutTo 17 = .ok (.return_, 1) := by decide +kernel
abbrev rm_X10_cutTo : Room := { frames := 0, cells := 0, slots := 0, locals := 0 }
def w_X10_cutTo : List Cond := Cond.code yX10_cutTo cX10_cutTo 2 none :: uw
set_option maxHeartbeats 4000000 in
set_option maxRecDepth 100000 in
theorem c_X10_cutTo (l : Launch) (dC : Nat → ClassId) (dI : Nat → Nat → Nat) (cI cZ cO : ClassId) (tL sz : Nat) (h0 : Nat) (g0_row : Nat) (v0_count : Int32) (p1 : Int32) (res : Int32) (hM : m_X10_cutTo v0_count p1 = some res) : Met l yX10_cutTo w_X10_cutTo rm_X10_cutTo (PCx [.ref h0, .int p1] (dC, dI) [(cI, .int), (cZ, .boolean), (cO, .object "ListPainter$Settings")] sz tL [(h0, .inr (9, [.ref g0_row, .int v0_count]))]) (QMv (dC, dI) [(cI, .int), (cZ, .boolean), (cO, .object "ListPainter$Settings")] (va_A [(h0, .inr (9, [.ref g0_row, .int v0_count]))] sz) [(h0, .inr (9, [.ref g0_row, .int res]))]) 0 0 (va_A [(h0, .inr (9, [.ref g0_row, .int v0_count]))] sz) := by
  refine Met.ofW (cc := cX10_cutTo) (maxL := 2) (ret := none) (by decide) rfl ?_
  intro p e s m args below meth c s₁ B hml hv
  obtain ⟨rfl, hsz, hP, hK, hD0, hG⟩ := hv
  have hx := B.exec
  have hb := B.bytes
  have hr := B.returns
  have hu : ∀ w ∈ uw, w.before ([.ref h0, .int p1] : List Value).toArray s = true := fun w h => atoms_spec (ws := w_X10_cutTo) B.pre w (List.mem_cons_of_mem _ h)
  have hown : s.vm.findClass RX10 = some m.cls := findClass_of_methodNamed B.named
  have hlocks := B.notSynchronized
  subst hsz
  have hD := hD0.self (sz := s.heap.size)
  generalize hAe : va_A [(h0, .inr (9, [.ref g0_row, .int v0_count]))] s.heap.size = A at hD hG ⊢
  have hA : ∀ q : Nat, s.heap.size ≤ q → A q := fun q h => by rw [← hAe]; exact Or.inr h
  have hS : va_S A s.heap s.heap [] := va_S.rf
  have hP : va_P (dC, dI) vwCl [(h0, .inr (9, [.ref g0_row, .int v0_count]))] s.heap := hP
  have hl := lv_entry ([.ref h0, .int p1]) (n := 2) (Nat.le_of_ble_eq_true rfl)
  rw [lg_entry_eq]
  generalize (lg_sl ([.ref h0, .int p1]) ++ List.replicate (2 - (lg_sl ([.ref h0, .int p1])).length) Slot.unset).toArray = ls at hl ⊢
  have hl : lv_has ls 2 [(0, .ref h0), (1, .int p1)] := hl
  rw [m_X10_cutTo] at hM
  suffices hgo : ∀ (H : Heap) (locs : List Loc), va_P (dC, dI) vwCl [(h0, .inr (9, [.ref g0_row, .int v0_count]))] H → va_D A [(h0, .inr (9, [.ref g0_row, .int v0_count]))] → va_S A s.heap H locs → W p l e (headSpec w_X10_cutTo rm_X10_cutTo).room s m ([.ref h0, .int p1] : List Value).toArray below meth c H locs 0 0 (MQ below (QMv (dC, dI) [(cI, .int), (cZ, .boolean), (cO, .object "ListPainter$Settings")] A [(h0, .inr (9, [.ref g0_row, .int res]))]) ([.ref h0, .int p1] : List Value).toArray s 0 0 A) (F0 m 0 ls []) from hgo _ _ hP hD hS
  intro H locs hP hD hS
  refine lv_iload_n hx hb dX10_cutTo_0 rfl (lv_at hl 1 rfl) ?_
  refine lv_if_lt (tgt := 17) hx hb dX10_cutTo_1 (by decide) (fun c_1 => ?_) (fun c_1 => ?_)
  · have hM := if_t c_1 hM
    have h9 := Option.some.inj hM
    subst h9
    exact W.vret hx hb hr (fun t ht hW => QMv_mk (by rw [ht]; exact hP) (va_K.moved hW.alike hK) hD (hS.F ht)) hS.2.2 dX10_cutTo_17
  · have hM := if_f c_1 hM
    refine lv_iload_n hx hb dX10_cutTo_4 rfl (lv_at hl 1 rfl) ?_
    refine lv_aload_n hx hb dX10_cutTo_5 rfl (lv_at hl 0 rfl) ?_
    refine va_get (D := (dC, dI)) (ci := 9) (v := .int v0_count) (C := RX10) (T := TX10) (N := 2) hx hb hu inX10 hown hK hP 0 rfl rfl 1 (by decide) (hu _ kw_0) (fun _ h9 => h9) rfl dX10_cutTo_6 ?_
    refine lv_icmp_ge (tgt := 17) hx hb dX10_cutTo_9 (by decide) (fun c_2 => ?_) (fun c_2 => ?_)
    · have hM := if_t c_2 hM
      have h9 := Option.some.inj hM
      subst h9
      exact W.vret hx hb hr (fun t ht hW => QMv_mk (by rw [ht]; exact hP) (va_K.moved hW.alike hK) hD (hS.F ht)) hS.2.2 dX10_cutTo_17
    · have hM := if_f c_2 hM
      refine lv_aload_n hx hb dX10_cutTo_12 rfl (lv_at hl 0 rfl) ?_
      refine lv_iload_n hx hb dX10_cutTo_13 rfl (lv_at hl 1 rfl) ?_
      refine va_put (D := (dC, dI)) (ci := 9) (v := .int p1) (ty := .int) (C := RX10) (T := TX10) (N := 2) hx hb hu inX10 tyX10 tyX10_ok nmX10 hown hK hP hD hS 0 rfl rfl 1 (by decide) (hu _ kw_0) (fun _ h9 => h9) rfl (by decide +kernel) rfl rfl (Nat.le_of_ble_eq_true rfl) dX10_cutTo_14 (fun H locs hP hD hS => ?_)
      have hP : va_P (dC, dI) vwCl [(h0, .inr (9, [.ref g0_row, .int p1]))] H := hP
      have hD : va_D A [(h0, .inr (9, [.ref g0_row, .int p1]))] := hD
      have h9 := Option.some.inj hM
      subst h9
      exact W.vret hx hb hr (fun t ht hW => QMv_mk (by rw [ht]; exact hP) (va_K.moved hW.alike hK) hD (hS.F ht)) hS.2.2 dX10_cutTo_17
theorem dX10_moveDown_0 : decode cX10_moveDown 0 = .ok (.iconst 0, 1) := by decide +kernel
theorem dX10_moveDown_1 : decode cX10_moveDown 1 = .ok (.istore 4, 2) := by decide +kernel
theorem dX10_moveDown_3 : decode cX10_moveDown 3 = .ok (.iload 4, 2) := by decide +kernel
theorem dX10_moveDown_5 : decode cX10_moveDown 5 = .ok (.iload_n 3, 1) := by decide +kernel
theorem dX10_moveDown_6 : decode cX10_moveDown 6 = .ok (.if_icmp .ge 30, 3) := by decide +kernel
theorem dX10_moveDown_9 : decode cX10_moveDown 9 = .ok (.iload_n 2, 1) := by decide +kernel
theorem dX10_moveDown_10 : decode cX10_moveDown 10 = .ok (.iload_n 1, 1) := by decide +kernel
theorem dX10_moveDown_11 : decode cX10_moveDown 11 = .ok (.if_icmp .ge 25, 3) := by decide +kernel
theorem dX10_moveDown_14 : decode cX10_moveDown 14 = .ok (.aload_n 0, 1) := by decide +kernel
theorem dX10_moveDown_15 : decode cX10_moveDown 15 = .ok (.iload_n 2, 1) := by decide +kernel
theorem dX10_moveDown_16 : decode cX10_moveDown 16 = .ok (.iload 4, 2) := by decide +kernel
theorem dX10_moveDown_18 : decode cX10_moveDown 18 = .ok (.iadd, 1) := by decide +kernel
theorem dX10_moveDown_19 : decode cX10_moveDown 19 = .ok (.aload_n 0, 1) := by decide +kernel
theorem dX10_moveDown_20 : decode cX10_moveDown 20 = .ok (.iload_n 1, 1) := by decide +kernel
theorem dX10_moveDown_21 : decode cX10_moveDown 21 = .ok (.iload 4, 2) := by decide +kernel
theorem dX10_moveDown_23 : decode cX10_moveDown 23 = .ok (.iadd, 1) := by decide +kernel
theorem dX10_moveDown_24 : decode cX10_moveDown 24 = .ok (.invokevirtual 19, 3) := by decide +kernel
theorem dX10_moveDown_27 : decode cX10_moveDown 27 = .ok (.invokevirtual 36, 3) := by decide +kernel
theorem dX10_moveDown_30 : decode cX10_moveDown 30 = .ok (.iinc 4 1, 3) := by decide +kernel
theorem dX10_moveDown_33 : decode cX10_moveDown 33 = .ok (.goto (-30), 3) := by decide +kernel
theorem dX10_moveDown_36 : decode cX10_moveDown 36 = .ok (.return_, 1) := by decide +kernel
abbrev rm_X10_moveDown : Room := { frames := 1, cells := 0, slots := 0, locals := 22 }
def w_X10_moveDown : List Cond := Cond.code yX10_moveDown cX10_moveDown 5 none :: uw
set_option maxHeartbeats 4000000 in
set_option maxRecDepth 100000 in
theorem c_X10_moveDown (l : Launch) (dC : Nat → ClassId) (dI : Nat → Nat → Nat) (cI cZ cO : ClassId) (tL sz : Nat) (h0 : Nat) (h1 : Nat) (v0_count : Int32) (f1 : Nat → Int32) (p1 : Int32) (p2 : Int32) (p3 : Int32) (res : (Nat → Int32)) (hM : m_X10_moveDown v0_count f1 p1 p2 p3 = some res) : Met l yX10_moveDown w_X10_moveDown rm_X10_moveDown (PCx [.ref h0, .int p1, .int p2, .int p3] (dC, dI) [(cI, .int), (cZ, .boolean), (cO, .object "ListPainter$Settings")] sz tL [(h0, .inr (9, [.ref h1, .int v0_count])), (h1, .inl (cI, 1500, .inl f1))]) (QMv (dC, dI) [(cI, .int), (cZ, .boolean), (cO, .object "ListPainter$Settings")] (va_A [(h0, .inr (9, [.ref h1, .int v0_count])), (h1, .inl (cI, 1500, .inl f1))] sz) [(h0, .inr (9, [.ref h1, .int v0_count])), (h1, .inl (cI, 1500, .inl res))]) 0 0 (va_A [(h0, .inr (9, [.ref h1, .int v0_count])), (h1, .inl (cI, 1500, .inl f1))] sz) := by
  refine Met.ofW (cc := cX10_moveDown) (maxL := 5) (ret := none) (by decide) rfl ?_
  intro p e s m args below meth c s₁ B hml hv
  obtain ⟨rfl, hsz, hP, hK, hD0, hG⟩ := hv
  have hx := B.exec
  have hb := B.bytes
  have hr := B.returns
  have hu : ∀ w ∈ uw, w.before ([.ref h0, .int p1, .int p2, .int p3] : List Value).toArray s = true := fun w h => atoms_spec (ws := w_X10_moveDown) B.pre w (List.mem_cons_of_mem _ h)
  have hown : s.vm.findClass RX10 = some m.cls := findClass_of_methodNamed B.named
  have hlocks := B.notSynchronized
  subst hsz
  have hD := hD0.self (sz := s.heap.size)
  generalize hAe : va_A [(h0, .inr (9, [.ref h1, .int v0_count])), (h1, .inl (cI, 1500, .inl f1))] s.heap.size = A at hD hG ⊢
  have hA : ∀ q : Nat, s.heap.size ≤ q → A q := fun q h => by rw [← hAe]; exact Or.inr h
  have hS : va_S A s.heap s.heap [] := va_S.rf
  have hP : va_P (dC, dI) vwCl [(h0, .inr (9, [.ref h1, .int v0_count])), (h1, .inl (cI, 1500, .inl f1))] s.heap := hP
  have hl := lv_entry ([.ref h0, .int p1, .int p2, .int p3]) (n := 5) (Nat.le_of_ble_eq_true rfl)
  rw [lg_entry_eq]
  generalize (lg_sl ([.ref h0, .int p1, .int p2, .int p3]) ++ List.replicate (5 - (lg_sl ([.ref h0, .int p1, .int p2, .int p3])).length) Slot.unset).toArray = ls at hl ⊢
  have hl : lv_has ls 5 [(0, .ref h0), (1, .int p1), (2, .int p2), (3, .int p3)] := hl
  rw [m_X10_moveDown] at hM
  suffices hgo : ∀ (H : Heap) (locs : List Loc), va_P (dC, dI) vwCl [(h0, .inr (9, [.ref h1, .int v0_count])), (h1, .inl (cI, 1500, .inl f1))] H → va_D A [(h0, .inr (9, [.ref h1, .int v0_count])), (h1, .inl (cI, 1500, .inl f1))] → va_S A s.heap H locs → W p l e (headSpec w_X10_moveDown rm_X10_moveDown).room s m ([.ref h0, .int p1, .int p2, .int p3] : List Value).toArray below meth c H locs 0 0 (MQ below (QMv (dC, dI) [(cI, .int), (cZ, .boolean), (cO, .object "ListPainter$Settings")] A [(h0, .inr (9, [.ref h1, .int v0_count])), (h1, .inl (cI, 1500, .inl res))]) ([.ref h0, .int p1, .int p2, .int p3] : List Value).toArray s 0 0 A) (F0 m 0 ls []) from hgo _ _ hP hD hS
  intro H locs hP hD hS
  refine lv_iconst (v := 0) hx hb dX10_moveDown_0 (by decide) ?_
  refine lv_istore (lv' := [(4, .int 0), (0, .ref h0), (1, .int p1), (2, .int p2), (3, .int p3)]) hx hb dX10_moveDown_1 hl (by decide) rfl (fun ls hl => ?_)
  have hL3_3 : ∀ (n : Nat) (l4_1 : Int32) (f1_2 : Nat → Int32) , ∀ (H : Heap) (locs : List Loc) (ls : Array Slot), va_P (dC, dI) vwCl [(h0, .inr (9, [.ref h1, .int v0_count])), (h1, .inl (cI, 1500, .inl f1_2))] H → va_D A [(h0, .inr (9, [.ref h1, .int v0_count])), (h1, .inl (cI, 1500, .inl f1_2))] → va_S A s.heap H locs → lv_has ls 5 [(0, .ref h0), (1, .int p1), (2, .int p2), (3, .int p3), (4, .int l4_1)] → lp_X10_moveDown_3 p3 p1 p2 v0_count n l4_1 f1_2 = some res → W p l e (headSpec w_X10_moveDown rm_X10_moveDown).room s m ([.ref h0, .int p1, .int p2, .int p3] : List Value).toArray below meth c H locs 0 0 (MQ below (QMv (dC, dI) [(cI, .int), (cZ, .boolean), (cO, .object "ListPainter$Settings")] A [(h0, .inr (9, [.ref h1, .int v0_count])), (h1, .inl (cI, 1500, .inl res))]) ([.ref h0, .int p1, .int p2, .int p3] : List Value).toArray s 0 0 A) (F0 m 3 ls []) := by
    intro n
    induction n with
    | zero =>
      intro l4_1 f1_2 H locs ls hP hD hS hl hM
      rw [lp_X10_moveDown_3] at hM
      exact lp0 hM
    | succ n3_3 ih3_3 =>
      intro l4_1 f1_2 H locs ls hP hD hS hl hM
      rw [lp_X10_moveDown_3] at hM
      refine lv_iload hx hb dX10_moveDown_3 (lv_at hl 4 rfl) ?_
      refine lv_iload_n hx hb dX10_moveDown_5 rfl (lv_at hl 3 rfl) ?_
      refine lv_icmp_ge (tgt := 36) hx hb dX10_moveDown_6 (by decide) (fun c_4 => ?_) (fun c_4 => ?_)
      · have hM := if_t c_4 hM
        have h9 := Option.some.inj hM
        subst h9
        exact W.vret hx hb hr (fun t ht hW => QMv_mk (by rw [ht]; exact hP) (va_K.moved hW.alike hK) hD (hS.F ht)) hS.2.2 dX10_moveDown_36
      · have hM := if_f c_4 hM
        refine lv_iload_n hx hb dX10_moveDown_9 rfl (lv_at hl 2 rfl) ?_
        refine lv_iload_n hx hb dX10_moveDown_10 rfl (lv_at hl 1 rfl) ?_
        refine lv_icmp_ge (tgt := 36) hx hb dX10_moveDown_11 (by decide) (fun c_5 => ?_) (fun c_5 => ?_)
        · have hM := if_t c_5 hM
          have h9 := Option.some.inj hM
          subst h9
          exact W.vret hx hb hr (fun t ht hW => QMv_mk (by rw [ht]; exact hP) (va_K.moved hW.alike hK) hD (hS.F ht)) hS.2.2 dX10_moveDown_36
        · have hM := if_f c_5 hM
          refine lv_aload_n hx hb dX10_moveDown_14 rfl (lv_at hl 0 rfl) ?_
          refine lv_iload_n hx hb dX10_moveDown_15 rfl (lv_at hl 2 rfl) ?_
          refine lv_iload hx hb dX10_moveDown_16 (lv_at hl 4 rfl) ?_
          refine lv_iadd hx hb dX10_moveDown_18 ?_
          refine lv_aload_n hx hb dX10_moveDown_19 rfl (lv_at hl 0 rfl) ?_
          refine lv_iload_n hx hb dX10_moveDown_20 rfl (lv_at hl 1 rfl) ?_
          refine lv_iload hx hb dX10_moveDown_21 (lv_at hl 4 rfl) ?_
          refine lv_iadd hx hb dX10_moveDown_23 ?_
          obtain ⟨r_6, hm_7, hM⟩ := bd1_u hM
          refine cVi (r := r_6) (As := [.int (p1 + l4_1)]) (rest := [.int (p2 + l4_1), .ref h0]) ⟨hx, hb, hml, hown, hu⟩ (c_X10_word l dC dI cI cZ cO tL H.size h0 h1 v0_count f1_2 (p1 + l4_1) r_6 hm_7) (cwV 1 hu (gV kw_2 kw_3 kw_4 kw_5 kw_6) rfl rfl rfl (by decide +kernel) ⟨Nat.le_of_ble_eq_true rfl, Nat.le_of_ble_eq_true rfl⟩) hP hD hS hA hK hG [0, 1] (by decide) rfl [some 0, some 1] 2 rfl (by decide +kernel) rfl 9 0 rfl rfl rfl rfl hl.1 rfl (Nat.le_of_ble_eq_true rfl) dX10_moveDown_24 (Nat.zero_le _) (Nat.zero_le _) (fun H locs hP hD hS => ?_)
          have hP : va_P (dC, dI) vwCl [(h0, .inr (9, [.ref h1, .int v0_count])), (h1, .inl (cI, 1500, .inl f1_2))] H := hP
          have hD : va_D A [(h0, .inr (9, [.ref h1, .int v0_count])), (h1, .inl (cI, 1500, .inl f1_2))] := hD
          obtain ⟨f1_8, hm_9, hM⟩ := bd1_u hM
          refine cVv (As := [.int (p2 + l4_1), .int r_6]) (rest := []) ⟨hx, hb, hml, hown, hu⟩ (c_X10_put l dC dI cI cZ cO tL H.size h0 h1 v0_count f1_2 (p2 + l4_1) r_6 f1_8 hm_9) (cwV 2 hu (gV kw_11 kw_12 kw_13 kw_5 kw_14) rfl rfl rfl (by decide +kernel) ⟨Nat.le_of_ble_eq_true rfl, Nat.le_of_ble_eq_true rfl⟩) hP hD hS hA hK hG [0, 1] (by decide) rfl [some 0, some 1] 2 rfl (by decide +kernel) rfl 9 0 rfl rfl rfl rfl hl.1 rfl (Nat.le_of_ble_eq_true rfl) dX10_moveDown_27 (Nat.zero_le _) (Nat.zero_le _) (fun H locs hP hD hS => ?_)
          have hP : va_P (dC, dI) vwCl [(h0, .inr (9, [.ref h1, .int v0_count])), (h1, .inl (cI, 1500, .inl f1_8))] H := hP
          have hD : va_D A [(h0, .inr (9, [.ref h1, .int v0_count])), (h1, .inl (cI, 1500, .inl f1_8))] := hD
          obtain ⟨x_10, ex_10⟩ : ∃ y : Int32, y = l4_1 + 1 := ⟨_, rfl⟩
          have hM := nm_u ex_10 hM
          refine lv_iinc (v := x_10) (lv' := [(4, .int x_10), (0, .ref h0), (1, .int p1), (2, .int p2), (3, .int p3)]) hx hb dX10_moveDown_30 hl (k := 4) rfl (by rw [ex_10]; rfl) (by decide) rfl (fun ls hl => ?_)
          refine lv_goto (tgt := 3) hx hb dX10_moveDown_33 (by decide) ?_
          exact ih3_3 x_10 f1_8 H locs ls hP hD hS (lv_sub hl [1, 2, 3, 4, 0] rfl) hM
  exact hL3_3 FU 0 f1 H locs ls hP hD hS (lv_sub hl [1, 2, 3, 4, 0] rfl) hM
theorem dX10_lastFill_0 : decode cX10_lastFill 0 = .ok (.iconst (-1), 1) := by decide +kernel
theorem dX10_lastFill_1 : decode cX10_lastFill 1 = .ok (.istore_n 1, 1) := by decide +kernel
theorem dX10_lastFill_2 : decode cX10_lastFill 2 = .ok (.iconst 0, 1) := by decide +kernel
theorem dX10_lastFill_3 : decode cX10_lastFill 3 = .ok (.istore_n 2, 1) := by decide +kernel
theorem dX10_lastFill_4 : decode cX10_lastFill 4 = .ok (.iload_n 2, 1) := by decide +kernel
theorem dX10_lastFill_5 : decode cX10_lastFill 5 = .ok (.aload_n 0, 1) := by decide +kernel
theorem dX10_lastFill_6 : decode cX10_lastFill 6 = .ok (.getfield 15, 3) := by decide +kernel
theorem dX10_lastFill_9 : decode cX10_lastFill 9 = .ok (.if_icmp .ge 27, 3) := by decide +kernel
theorem dX10_lastFill_12 : decode cX10_lastFill 12 = .ok (.aload_n 0, 1) := by decide +kernel
theorem dX10_lastFill_13 : decode cX10_lastFill 13 = .ok (.getfield 9, 3) := by decide +kernel
theorem dX10_lastFill_16 : decode cX10_lastFill 16 = .ok (.iload_n 2, 1) := by decide +kernel
theorem dX10_lastFill_17 : decode cX10_lastFill 17 = .ok (.iaload, 1) := by decide +kernel
theorem dX10_lastFill_18 : decode cX10_lastFill 18 = .ok (.bipush 9, 2) := by decide +kernel
theorem dX10_lastFill_20 : decode cX10_lastFill 20 = .ok (.if_icmp .ne 5, 3) := by decide +kernel
theorem dX10_lastFill_23 : decode cX10_lastFill 23 = .ok (.iload_n 2, 1) := by decide +kernel
theorem dX10_lastFill_24 : decode cX10_lastFill 24 = .ok (.istore_n 1, 1) := by decide +kernel
theorem dX10_lastFill_25 : decode cX10_lastFill 25 = .ok (.iload_n 2, 1) := by decide +kernel
theorem dX10_lastFill_26 : decode cX10_lastFill 26 = .ok (.aload_n 0, 1) := by decide +kernel
theorem dX10_lastFill_27 : decode cX10_lastFill 27 = .ok (.iload_n 2, 1) := by decide +kernel
theorem dX10_lastFill_28 : decode cX10_lastFill 28 = .ok (.invokevirtual 40, 3) := by decide +kernel
theorem dX10_lastFill_31 : decode cX10_lastFill 31 = .ok (.iadd, 1) := by decide +kernel
theorem dX10_lastFill_32 : decode cX10_lastFill 32 = .ok (.istore_n 2, 1) := by decide +kernel
theorem dX10_lastFill_33 : decode cX10_lastFill 33 = .ok (.goto (-29), 3) := by decide +kernel
theorem dX10_lastFill_36 : decode cX10_lastFill 36 = .ok (.iload_n 1, 1) := by decide +kernel
theorem dX10_lastFill_37 : decode cX10_lastFill 37 = .ok (.ireturn, 1) := by decide +kernel
abbrev rm_X10_lastFill : Room := { frames := 2, cells := 0, slots := 0, locals := 43 }
def w_X10_lastFill : List Cond := Cond.code yX10_lastFill cX10_lastFill 3 (some .int) :: uw
set_option maxHeartbeats 4000000 in
set_option maxRecDepth 100000 in
theorem c_X10_lastFill (l : Launch) (dC : Nat → ClassId) (dI : Nat → Nat → Nat) (cI cZ cO : ClassId) (tL sz : Nat) (h0 : Nat) (h1 : Nat) (v0_count : Int32) (f1 : Nat → Int32) (res : Int32) (hM : m_X10_lastFill v0_count f1 = some res) : Met l yX10_lastFill w_X10_lastFill rm_X10_lastFill (PCx [.ref h0] (dC, dI) [(cI, .int), (cZ, .boolean), (cO, .object "ListPainter$Settings")] sz tL [(h0, .inr (9, [.ref h1, .int v0_count])), (h1, .inl (cI, 1500, .inl f1))]) (QMi res (dC, dI) [(cI, .int), (cZ, .boolean), (cO, .object "ListPainter$Settings")] (va_A [(h0, .inr (9, [.ref h1, .int v0_count])), (h1, .inl (cI, 1500, .inl f1))] sz) [(h0, .inr (9, [.ref h1, .int v0_count])), (h1, .inl (cI, 1500, .inl f1))]) 0 0 (va_A [(h0, .inr (9, [.ref h1, .int v0_count])), (h1, .inl (cI, 1500, .inl f1))] sz) := by
  refine Met.ofW (cc := cX10_lastFill) (maxL := 3) (ret := (some .int)) (by decide) rfl ?_
  intro p e s m args below meth c s₁ B hml hv
  obtain ⟨rfl, hsz, hP, hK, hD0, hG⟩ := hv
  have hx := B.exec
  have hb := B.bytes
  have hr := B.returns
  have hu : ∀ w ∈ uw, w.before ([.ref h0] : List Value).toArray s = true := fun w h => atoms_spec (ws := w_X10_lastFill) B.pre w (List.mem_cons_of_mem _ h)
  have hown : s.vm.findClass RX10 = some m.cls := findClass_of_methodNamed B.named
  have hlocks := B.notSynchronized
  subst hsz
  have hD := hD0.self (sz := s.heap.size)
  generalize hAe : va_A [(h0, .inr (9, [.ref h1, .int v0_count])), (h1, .inl (cI, 1500, .inl f1))] s.heap.size = A at hD hG ⊢
  have hA : ∀ q : Nat, s.heap.size ≤ q → A q := fun q h => by rw [← hAe]; exact Or.inr h
  have hS : va_S A s.heap s.heap [] := va_S.rf
  have hP : va_P (dC, dI) vwCl [(h0, .inr (9, [.ref h1, .int v0_count])), (h1, .inl (cI, 1500, .inl f1))] s.heap := hP
  have hl := lv_entry ([.ref h0]) (n := 3) (Nat.le_of_ble_eq_true rfl)
  rw [lg_entry_eq]
  generalize (lg_sl ([.ref h0]) ++ List.replicate (3 - (lg_sl ([.ref h0])).length) Slot.unset).toArray = ls at hl ⊢
  have hl : lv_has ls 3 [(0, .ref h0)] := hl
  rw [m_X10_lastFill] at hM
  suffices hgo : ∀ (H : Heap) (locs : List Loc), va_P (dC, dI) vwCl [(h0, .inr (9, [.ref h1, .int v0_count])), (h1, .inl (cI, 1500, .inl f1))] H → va_D A [(h0, .inr (9, [.ref h1, .int v0_count])), (h1, .inl (cI, 1500, .inl f1))] → va_S A s.heap H locs → W p l e (headSpec w_X10_lastFill rm_X10_lastFill).room s m ([.ref h0] : List Value).toArray below meth c H locs 0 0 (MQ below (QMi res (dC, dI) [(cI, .int), (cZ, .boolean), (cO, .object "ListPainter$Settings")] A [(h0, .inr (9, [.ref h1, .int v0_count])), (h1, .inl (cI, 1500, .inl f1))]) ([.ref h0] : List Value).toArray s 0 0 A) (F0 m 0 ls []) from hgo _ _ hP hD hS
  intro H locs hP hD hS
  refine lv_iconst (v := (-1)) hx hb dX10_lastFill_0 (by decide) ?_
  refine lv_istore_n (lv' := [(1, .int (-1)), (0, .ref h0)]) hx hb dX10_lastFill_1 rfl hl (by decide) rfl (fun ls hl => ?_)
  refine lv_iconst (v := 0) hx hb dX10_lastFill_2 (by decide) ?_
  refine lv_istore_n (lv' := [(2, .int 0), (1, .int (-1)), (0, .ref h0)]) hx hb dX10_lastFill_3 rfl hl (by decide) rfl (fun ls hl => ?_)
  have hL4_3 : ∀ (n : Nat) (l1_1 : Int32) (l2_2 : Int32) , ∀ (H : Heap) (locs : List Loc) (ls : Array Slot), va_P (dC, dI) vwCl [(h0, .inr (9, [.ref h1, .int v0_count])), (h1, .inl (cI, 1500, .inl f1))] H → va_D A [(h0, .inr (9, [.ref h1, .int v0_count])), (h1, .inl (cI, 1500, .inl f1))] → va_S A s.heap H locs → lv_has ls 3 [(0, .ref h0), (1, .int l1_1), (2, .int l2_2)] → lp_X10_lastFill_4 v0_count f1 n l1_1 l2_2 = some res → W p l e (headSpec w_X10_lastFill rm_X10_lastFill).room s m ([.ref h0] : List Value).toArray below meth c H locs 0 0 (MQ below (QMi res (dC, dI) [(cI, .int), (cZ, .boolean), (cO, .object "ListPainter$Settings")] A [(h0, .inr (9, [.ref h1, .int v0_count])), (h1, .inl (cI, 1500, .inl f1))]) ([.ref h0] : List Value).toArray s 0 0 A) (F0 m 4 ls []) := by
    intro n
    induction n with
    | zero =>
      intro l1_1 l2_2 H locs ls hP hD hS hl hM
      rw [lp_X10_lastFill_4] at hM
      exact lp0 hM
    | succ n4_3 ih4_3 =>
      intro l1_1 l2_2 H locs ls hP hD hS hl hM
      rw [lp_X10_lastFill_4] at hM
      refine lv_iload_n hx hb dX10_lastFill_4 rfl (lv_at hl 2 rfl) ?_
      refine lv_aload_n hx hb dX10_lastFill_5 rfl (lv_at hl 0 rfl) ?_
      refine va_get (D := (dC, dI)) (ci := 9) (v := .int v0_count) (C := RX10) (T := TX10) (N := 2) hx hb hu inX10 hown hK hP 0 rfl rfl 1 (by decide) (hu _ kw_0) (fun _ h9 => h9) rfl dX10_lastFill_6 ?_
      refine lv_icmp_ge (tgt := 36) hx hb dX10_lastFill_9 (by decide) (fun c_4 => ?_) (fun c_4 => ?_)
      · have hM := if_t c_4 hM
        refine lv_iload_n hx hb dX10_lastFill_36 rfl (lv_at hl 1 rfl) ?_
        have h9 := Option.some.inj hM
        subst h9
        exact W.iret (v := l1_1) hx hb hr (fun t ht hW => QMi_mk (by rw [ht]; exact hP) (va_K.moved hW.alike hK) hD (hS.F ht)) hS.2.2 dX10_lastFill_37
      · have hM := if_f c_4 hM
        refine lv_aload_n hx hb dX10_lastFill_12 rfl (lv_at hl 0 rfl) ?_
        refine va_get (D := (dC, dI)) (ci := 9) (v := .ref h1) (C := RX10) (T := TX10) (N := 2) hx hb hu inX10 hown hK hP 0 rfl rfl 0 (by decide) (hu _ kw_1) (fun _ h9 => h9) rfl dX10_lastFill_13 ?_
        refine lv_iload_n hx hb dX10_lastFill_16 rfl (lv_at hl 2 rfl) ?_
        obtain ⟨g_5, hM⟩ := gd_u hM
        refine va_iald hx hb hK hP 1 0 rfl rfl (inb_v g_5) dX10_lastFill_17 ?_
        refine lv_topi (fun a_6 ea_6 => ?_)
        have hM := nm_u ea_6 hM
        refine lv_bipush (v := 9) hx hb dX10_lastFill_18 (by decide) ?_
        obtain ⟨K25_8, eK25_8, hM⟩ := jn_u hM
        have hJ25_8 : ∀ (l1_7 : Int32) , ∀ (H : Heap) (locs : List Loc) (ls : Array Slot), va_P (dC, dI) vwCl [(h0, .inr (9, [.ref h1, .int v0_count])), (h1, .inl (cI, 1500, .inl f1))] H → va_D A [(h0, .inr (9, [.ref h1, .int v0_count])), (h1, .inl (cI, 1500, .inl f1))] → va_S A s.heap H locs → lv_has ls 3 [(0, .ref h0), (1, .int l1_7), (2, .int l2_2)] → K25_8 l1_7 = some res → W p l e (headSpec w_X10_lastFill rm_X10_lastFill).room s m ([.ref h0] : List Value).toArray below meth c H locs 0 0 (MQ below (QMi res (dC, dI) [(cI, .int), (cZ, .boolean), (cO, .object "ListPainter$Settings")] A [(h0, .inr (9, [.ref h1, .int v0_count])), (h1, .inl (cI, 1500, .inl f1))]) ([.ref h0] : List Value).toArray s 0 0 A) (F0 m 25 ls []) := by
          intro l1_7 H locs ls hP hD hS hl hM
          have hM := ja1 eK25_8 hM
          refine lv_iload_n hx hb dX10_lastFill_25 rfl (lv_at hl 2 rfl) ?_
          refine lv_aload_n hx hb dX10_lastFill_26 rfl (lv_at hl 0 rfl) ?_
          refine lv_iload_n hx hb dX10_lastFill_27 rfl (lv_at hl 2 rfl) ?_
          obtain ⟨r_9, hm_10, hM⟩ := bd1_u hM
          refine cVi (r := r_9) (As := [.int l2_2]) (rest := [.int l2_2]) ⟨hx, hb, hml, hown, hu⟩ (c_X10_lengthAt l dC dI cI cZ cO tL H.size h0 h1 v0_count f1 l2_2 r_9 hm_10) (cwV 1 hu (gV kw_15 kw_16 kw_17 kw_5 kw_18) rfl rfl rfl (by decide +kernel) ⟨Nat.le_of_ble_eq_true rfl, Nat.le_of_ble_eq_true rfl⟩) hP hD hS hA hK hG [0, 1] (by decide) rfl [some 0, some 1] 2 rfl (by decide +kernel) rfl 9 0 rfl rfl rfl rfl hl.1 rfl (Nat.le_of_ble_eq_true rfl) dX10_lastFill_28 (Nat.zero_le _) (Nat.zero_le _) (fun H locs hP hD hS => ?_)
          have hP : va_P (dC, dI) vwCl [(h0, .inr (9, [.ref h1, .int v0_count])), (h1, .inl (cI, 1500, .inl f1))] H := hP
          have hD : va_D A [(h0, .inr (9, [.ref h1, .int v0_count])), (h1, .inl (cI, 1500, .inl f1))] := hD
          refine lv_iadd hx hb dX10_lastFill_31 ?_
          refine lv_topi (fun x_11 ex_11 => ?_)
          have hM := nm_u ex_11 hM
          refine lv_istore_n (lv' := [(2, .int x_11), (0, .ref h0), (1, .int l1_7)]) hx hb dX10_lastFill_32 rfl hl (by decide) rfl (fun ls hl => ?_)
          refine lv_goto (tgt := 4) hx hb dX10_lastFill_33 (by decide) ?_
          exact ih4_3 l1_7 x_11 H locs ls hP hD hS (lv_sub hl [1, 2, 0] rfl) hM
        refine lv_icmp_ne (tgt := 25) hx hb dX10_lastFill_20 (by decide) (fun c_12 => ?_) (fun c_12 => ?_)
        · have hM := if_f c_12 hM
          exact hJ25_8 l1_1 H locs ls hP hD hS (lv_sub hl [0, 1, 2] rfl) hM
        · have hM := if_t c_12 hM
          refine lv_iload_n hx hb dX10_lastFill_23 rfl (lv_at hl 2 rfl) ?_
          refine lv_istore_n (lv' := [(1, .int l2_2), (0, .ref h0), (2, .int l2_2)]) hx hb dX10_lastFill_24 rfl hl (by decide) rfl (fun ls hl => ?_)
          exact hJ25_8 l2_2 H locs ls hP hD hS (lv_sub hl [1, 0, 2] rfl) hM
  exact hL4_3 FU (-1) 0 H locs ls hP hD hS (lv_sub hl [2, 1, 0] rfl) hM
theorem dX10_firstBehind_0 : decode cX10_firstBehind 0 = .ok (.iload_n 1, 1) := by decide +kernel
theorem dX10_firstBehind_1 : decode cX10_firstBehind 1 = .ok (.aload_n 0, 1) := by decide +kernel
theorem dX10_firstBehind_2 : decode cX10_firstBehind 2 = .ok (.iload_n 1, 1) := by decide +kernel
theorem dX10_firstBehind_3 : decode cX10_firstBehind 3 = .ok (.invokevirtual 40, 3) := by decide +kernel
theorem dX10_firstBehind_6 : decode cX10_firstBehind 6 = .ok (.iadd, 1) := by decide +kernel
theorem dX10_firstBehind_7 : decode cX10_firstBehind 7 = .ok (.istore_n 3, 1) := by decide +kernel
theorem dX10_firstBehind_8 : decode cX10_firstBehind 8 = .ok (.iload_n 3, 1) := by decide +kernel
theorem dX10_firstBehind_9 : decode cX10_firstBehind 9 = .ok (.aload_n 0, 1) := by decide +kernel
theorem dX10_firstBehind_10 : decode cX10_firstBehind 10 = .ok (.getfield 15, 3) := by decide +kernel
theorem dX10_firstBehind_13 : decode cX10_firstBehind 13 = .ok (.if_icmp .ge 33, 3) := by decide +kernel
theorem dX10_firstBehind_16 : decode cX10_firstBehind 16 = .ok (.aload_n 0, 1) := by decide +kernel
theorem dX10_firstBehind_17 : decode cX10_firstBehind 17 = .ok (.iload_n 3, 1) := by decide +kernel
theorem dX10_firstBehind_18 : decode cX10_firstBehind 18 = .ok (.invokevirtual 19, 3) := by decide +kernel
theorem dX10_firstBehind_21 : decode cX10_firstBehind 21 = .ok (.istore 4, 2) := by decide +kernel
theorem dX10_firstBehind_23 : decode cX10_firstBehind 23 = .ok (.iload_n 2, 1) := by decide +kernel
theorem dX10_firstBehind_24 : decode cX10_firstBehind 24 = .ok (.iconst 1, 1) := by decide +kernel
theorem dX10_firstBehind_25 : decode cX10_firstBehind 25 = .ok (.iload 4, 2) := by decide +kernel
theorem dX10_firstBehind_27 : decode cX10_firstBehind 27 = .ok (.ishl, 1) := by decide +kernel
theorem dX10_firstBehind_28 : decode cX10_firstBehind 28 = .ok (.iand, 1) := by decide +kernel
theorem dX10_firstBehind_29 : decode cX10_firstBehind 29 = .ok (.ifCond .eq 6, 3) := by decide +kernel
theorem dX10_firstBehind_32 : decode cX10_firstBehind 32 = .ok (.iload 4, 2) := by decide +kernel
theorem dX10_firstBehind_34 : decode cX10_firstBehind 34 = .ok (.ireturn, 1) := by decide +kernel
theorem dX10_firstBehind_35 : decode cX10_firstBehind 35 = .ok (.iload_n 3, 1) := by decide +kernel
theorem dX10_firstBehind_36 : decode cX10_firstBehind 36 = .ok (.aload_n 0, 1) := by decide +kernel
theorem dX10_firstBehind_37 : decode cX10_firstBehind 37 = .ok (.iload_n 3, 1) := by decide +kernel
theorem dX10_firstBehind_38 : decode cX10_firstBehind 38 = .ok (.invokevirtual 40, 3) := by decide +kernel
theorem dX10_firstBehind_41 : decode cX10_firstBehind 41 = .ok (.iadd, 1) := by decide +kernel
theorem dX10_firstBehind_42 : decode cX10_firstBehind 42 = .ok (.istore_n 3, 1) := by decide +kernel
theorem dX10_firstBehind_43 : decode cX10_firstBehind 43 = .ok (.goto (-35), 3) := by decide +kernel
theorem dX10_firstBehind_46 : decode cX10_firstBehind 46 = .ok (.iconst 0, 1) := by decide +kernel
theorem dX10_firstBehind_47 : decode cX10_firstBehind 47 = .ok (.ireturn, 1) := by decide +kernel
abbrev rm_X10_firstBehind : Room := { frames := 2, cells := 0, slots := 0, locals := 43 }
def w_X10_firstBehind : List Cond := Cond.code yX10_firstBehind cX10_firstBehind 5 (some .int) :: uw
set_option maxHeartbeats 4000000 in
set_option maxRecDepth 100000 in
theorem c_X10_firstBehind (l : Launch) (dC : Nat → ClassId) (dI : Nat → Nat → Nat) (cI cZ cO : ClassId) (tL sz : Nat) (h0 : Nat) (h1 : Nat) (v0_count : Int32) (f1 : Nat → Int32) (p1 : Int32) (p2 : Int32) (res : Int32) (hM : m_X10_firstBehind v0_count f1 p1 p2 = some res) : Met l yX10_firstBehind w_X10_firstBehind rm_X10_firstBehind (PCx [.ref h0, .int p1, .int p2] (dC, dI) [(cI, .int), (cZ, .boolean), (cO, .object "ListPainter$Settings")] sz tL [(h0, .inr (9, [.ref h1, .int v0_count])), (h1, .inl (cI, 1500, .inl f1))]) (QMi res (dC, dI) [(cI, .int), (cZ, .boolean), (cO, .object "ListPainter$Settings")] (va_A [(h0, .inr (9, [.ref h1, .int v0_count])), (h1, .inl (cI, 1500, .inl f1))] sz) [(h0, .inr (9, [.ref h1, .int v0_count])), (h1, .inl (cI, 1500, .inl f1))]) 0 0 (va_A [(h0, .inr (9, [.ref h1, .int v0_count])), (h1, .inl (cI, 1500, .inl f1))] sz) := by
  refine Met.ofW (cc := cX10_firstBehind) (maxL := 5) (ret := (some .int)) (by decide) rfl ?_
  intro p e s m args below meth c s₁ B hml hv
  obtain ⟨rfl, hsz, hP, hK, hD0, hG⟩ := hv
  have hx := B.exec
  have hb := B.bytes
  have hr := B.returns
  have hu : ∀ w ∈ uw, w.before ([.ref h0, .int p1, .int p2] : List Value).toArray s = true := fun w h => atoms_spec (ws := w_X10_firstBehind) B.pre w (List.mem_cons_of_mem _ h)
  have hown : s.vm.findClass RX10 = some m.cls := findClass_of_methodNamed B.named
  have hlocks := B.notSynchronized
  subst hsz
  have hD := hD0.self (sz := s.heap.size)
  generalize hAe : va_A [(h0, .inr (9, [.ref h1, .int v0_count])), (h1, .inl (cI, 1500, .inl f1))] s.heap.size = A at hD hG ⊢
  have hA : ∀ q : Nat, s.heap.size ≤ q → A q := fun q h => by rw [← hAe]; exact Or.inr h
  have hS : va_S A s.heap s.heap [] := va_S.rf
  have hP : va_P (dC, dI) vwCl [(h0, .inr (9, [.ref h1, .int v0_count])), (h1, .inl (cI, 1500, .inl f1))] s.heap := hP
  have hl := lv_entry ([.ref h0, .int p1, .int p2]) (n := 5) (Nat.le_of_ble_eq_true rfl)
  rw [lg_entry_eq]
  generalize (lg_sl ([.ref h0, .int p1, .int p2]) ++ List.replicate (5 - (lg_sl ([.ref h0, .int p1, .int p2])).length) Slot.unset).toArray = ls at hl ⊢
  have hl : lv_has ls 5 [(0, .ref h0), (1, .int p1), (2, .int p2)] := hl
  rw [m_X10_firstBehind] at hM
  suffices hgo : ∀ (H : Heap) (locs : List Loc), va_P (dC, dI) vwCl [(h0, .inr (9, [.ref h1, .int v0_count])), (h1, .inl (cI, 1500, .inl f1))] H → va_D A [(h0, .inr (9, [.ref h1, .int v0_count])), (h1, .inl (cI, 1500, .inl f1))] → va_S A s.heap H locs → W p l e (headSpec w_X10_firstBehind rm_X10_firstBehind).room s m ([.ref h0, .int p1, .int p2] : List Value).toArray below meth c H locs 0 0 (MQ below (QMi res (dC, dI) [(cI, .int), (cZ, .boolean), (cO, .object "ListPainter$Settings")] A [(h0, .inr (9, [.ref h1, .int v0_count])), (h1, .inl (cI, 1500, .inl f1))]) ([.ref h0, .int p1, .int p2] : List Value).toArray s 0 0 A) (F0 m 0 ls []) from hgo _ _ hP hD hS
  intro H locs hP hD hS
  refine lv_iload_n hx hb dX10_firstBehind_0 rfl (lv_at hl 1 rfl) ?_
  refine lv_aload_n hx hb dX10_firstBehind_1 rfl (lv_at hl 0 rfl) ?_
  refine lv_iload_n hx hb dX10_firstBehind_2 rfl (lv_at hl 1 rfl) ?_
  obtain ⟨r_1, hm_2, hM⟩ := bd1_u hM
  refine cVi (r := r_1) (As := [.int p1]) (rest := [.int p1]) ⟨hx, hb, hml, hown, hu⟩ (c_X10_lengthAt l dC dI cI cZ cO tL H.size h0 h1 v0_count f1 p1 r_1 hm_2) (cwV 1 hu (gV kw_15 kw_16 kw_17 kw_5 kw_18) rfl rfl rfl (by decide +kernel) ⟨Nat.le_of_ble_eq_true rfl, Nat.le_of_ble_eq_true rfl⟩) hP hD hS hA hK hG [0, 1] (by decide) rfl [some 0, some 1] 2 rfl (by decide +kernel) rfl 9 0 rfl rfl rfl rfl hl.1 rfl (Nat.le_of_ble_eq_true rfl) dX10_firstBehind_3 (Nat.zero_le _) (Nat.zero_le _) (fun H locs hP hD hS => ?_)
  have hP : va_P (dC, dI) vwCl [(h0, .inr (9, [.ref h1, .int v0_count])), (h1, .inl (cI, 1500, .inl f1))] H := hP
  have hD : va_D A [(h0, .inr (9, [.ref h1, .int v0_count])), (h1, .inl (cI, 1500, .inl f1))] := hD
  refine lv_iadd hx hb dX10_firstBehind_6 ?_
  refine lv_topi (fun x_3 ex_3 => ?_)
  have hM := nm_u ex_3 hM
  refine lv_istore_n (lv' := [(3, .int x_3), (0, .ref h0), (1, .int p1), (2, .int p2)]) hx hb dX10_firstBehind_7 rfl hl (by decide) rfl (fun ls hl => ?_)
  have hL8_5 : ∀ (n : Nat) (l3_4 : Int32) , ∀ (H : Heap) (locs : List Loc) (ls : Array Slot), va_P (dC, dI) vwCl [(h0, .inr (9, [.ref h1, .int v0_count])), (h1, .inl (cI, 1500, .inl f1))] H → va_D A [(h0, .inr (9, [.ref h1, .int v0_count])), (h1, .inl (cI, 1500, .inl f1))] → va_S A s.heap H locs → lv_has ls 5 [(0, .ref h0), (2, .int p2), (3, .int l3_4)] → lp_X10_firstBehind_8 v0_count f1 p2 n l3_4 = some res → W p l e (headSpec w_X10_firstBehind rm_X10_firstBehind).room s m ([.ref h0, .int p1, .int p2] : List Value).toArray below meth c H locs 0 0 (MQ below (QMi res (dC, dI) [(cI, .int), (cZ, .boolean), (cO, .object "ListPainter$Settings")] A [(h0, .inr (9, [.ref h1, .int v0_count])), (h1, .inl (cI, 1500, .inl f1))]) ([.ref h0, .int p1, .int p2] : List Value).toArray s 0 0 A) (F0 m 8 ls []) := by
    intro n
    induction n with
    | zero =>
      intro l3_4 H locs ls hP hD hS hl hM
      rw [lp_X10_firstBehind_8] at hM
      exact lp0 hM
    | succ n8_5 ih8_5 =>
      intro l3_4 H locs ls hP hD hS hl hM
      rw [lp_X10_firstBehind_8] at hM
      refine lv_iload_n hx hb dX10_firstBehind_8 rfl (lv_at hl 2 rfl) ?_
      refine lv_aload_n hx hb dX10_firstBehind_9 rfl (lv_at hl 0 rfl) ?_
      refine va_get (D := (dC, dI)) (ci := 9) (v := .int v0_count) (C := RX10) (T := TX10) (N := 2) hx hb hu inX10 hown hK hP 0 rfl rfl 1 (by decide) (hu _ kw_0) (fun _ h9 => h9) rfl dX10_firstBehind_10 ?_
      refine lv_icmp_ge (tgt := 46) hx hb dX10_firstBehind_13 (by decide) (fun c_6 => ?_) (fun c_6 => ?_)
      · have hM := if_t c_6 hM
        refine lv_iconst (v := 0) hx hb dX10_firstBehind_46 (by decide) ?_
        have h9 := Option.some.inj hM
        subst h9
        exact W.iret (v := 0) hx hb hr (fun t ht hW => QMi_mk (by rw [ht]; exact hP) (va_K.moved hW.alike hK) hD (hS.F ht)) hS.2.2 dX10_firstBehind_47
      · have hM := if_f c_6 hM
        refine lv_aload_n hx hb dX10_firstBehind_16 rfl (lv_at hl 0 rfl) ?_
        refine lv_iload_n hx hb dX10_firstBehind_17 rfl (lv_at hl 2 rfl) ?_
        obtain ⟨r_7, hm_8, hM⟩ := bd1_u hM
        refine cVi (r := r_7) (As := [.int l3_4]) (rest := []) ⟨hx, hb, hml, hown, hu⟩ (c_X10_word l dC dI cI cZ cO tL H.size h0 h1 v0_count f1 l3_4 r_7 hm_8) (cwV 1 hu (gV kw_2 kw_3 kw_4 kw_5 kw_6) rfl rfl rfl (by decide +kernel) ⟨Nat.le_of_ble_eq_true rfl, Nat.le_of_ble_eq_true rfl⟩) hP hD hS hA hK hG [0, 1] (by decide) rfl [some 0, some 1] 2 rfl (by decide +kernel) rfl 9 0 rfl rfl rfl rfl hl.1 rfl (Nat.le_of_ble_eq_true rfl) dX10_firstBehind_18 (Nat.zero_le _) (Nat.zero_le _) (fun H locs hP hD hS => ?_)
        have hP : va_P (dC, dI) vwCl [(h0, .inr (9, [.ref h1, .int v0_count])), (h1, .inl (cI, 1500, .inl f1))] H := hP
        have hD : va_D A [(h0, .inr (9, [.ref h1, .int v0_count])), (h1, .inl (cI, 1500, .inl f1))] := hD
        refine lv_istore (lv' := [(4, .int r_7), (0, .ref h0), (2, .int p2), (3, .int l3_4)]) hx hb dX10_firstBehind_21 hl (by decide) rfl (fun ls hl => ?_)
        refine lv_iload_n hx hb dX10_firstBehind_23 rfl (lv_at hl 2 rfl) ?_
        refine lv_iconst (v := 1) hx hb dX10_firstBehind_24 (by decide) ?_
        refine lv_iload hx hb dX10_firstBehind_25 (lv_at hl 0 rfl) ?_
        refine lv_ishl hx hb dX10_firstBehind_27 ?_
        refine lv_iand hx hb dX10_firstBehind_28 ?_
        refine lv_if_eq (tgt := 35) hx hb dX10_firstBehind_29 (by decide) (fun c_9 => ?_) (fun c_9 => ?_)
        · have hM := if_t c_9 hM
          refine lv_iload_n hx hb dX10_firstBehind_35 rfl (lv_at hl 3 rfl) ?_
          refine lv_aload_n hx hb dX10_firstBehind_36 rfl (lv_at hl 1 rfl) ?_
          refine lv_iload_n hx hb dX10_firstBehind_37 rfl (lv_at hl 3 rfl) ?_
          obtain ⟨r_10, hm_11, hM⟩ := bd1_u hM
          refine cVi (r := r_10) (As := [.int l3_4]) (rest := [.int l3_4]) ⟨hx, hb, hml, hown, hu⟩ (c_X10_lengthAt l dC dI cI cZ cO tL H.size h0 h1 v0_count f1 l3_4 r_10 hm_11) (cwV 1 hu (gV kw_15 kw_16 kw_17 kw_5 kw_18) rfl rfl rfl (by decide +kernel) ⟨Nat.le_of_ble_eq_true rfl, Nat.le_of_ble_eq_true rfl⟩) hP hD hS hA hK hG [0, 1] (by decide) rfl [some 0, some 1] 2 rfl (by decide +kernel) rfl 9 0 rfl rfl rfl rfl hl.1 rfl (Nat.le_of_ble_eq_true rfl) dX10_firstBehind_38 (Nat.zero_le _) (Nat.zero_le _) (fun H locs hP hD hS => ?_)
          have hP : va_P (dC, dI) vwCl [(h0, .inr (9, [.ref h1, .int v0_count])), (h1, .inl (cI, 1500, .inl f1))] H := hP
          have hD : va_D A [(h0, .inr (9, [.ref h1, .int v0_count])), (h1, .inl (cI, 1500, .inl f1))] := hD
          refine lv_iadd hx hb dX10_firstBehind_41 ?_
          refine lv_topi (fun x_12 ex_12 => ?_)
          have hM := nm_u ex_12 hM
          refine lv_istore_n (lv' := [(3, .int x_12), (4, .int r_7), (0, .ref h0), (2, .int p2)]) hx hb dX10_firstBehind_42 rfl hl (by decide) rfl (fun ls hl => ?_)
          refine lv_goto (tgt := 8) hx hb dX10_firstBehind_43 (by decide) ?_
          exact ih8_5 x_12 H locs ls hP hD hS (lv_sub hl [2, 3, 0] rfl) hM
        · have hM := if_f c_9 hM
          refine lv_iload hx hb dX10_firstBehind_32 (lv_at hl 0 rfl) ?_
          have h9 := Option.some.inj hM
          subst h9
          exact W.iret (v := r_7) hx hb hr (fun t ht hW => QMi_mk (by rw [ht]; exact hP) (va_K.moved hW.alike hK) hD (hS.F ht)) hS.2.2 dX10_firstBehind_34
  exact hL8_5 FU x_3 H locs ls hP hD hS (lv_sub hl [1, 3, 0] rfl) hM
theorem dX10_copyFrom_0 : decode cX10_copyFrom 0 = .ok (.aload_n 1, 1) := by decide +kernel
theorem dX10_copyFrom_1 : decode cX10_copyFrom 1 = .ok (.getfield 9, 3) := by decide +kernel
theorem dX10_copyFrom_4 : decode cX10_copyFrom 4 = .ok (.iconst 0, 1) := by decide +kernel
theorem dX10_copyFrom_5 : decode cX10_copyFrom 5 = .ok (.aload_n 0, 1) := by decide +kernel
theorem dX10_copyFrom_6 : decode cX10_copyFrom 6 = .ok (.getfield 9, 3) := by decide +kernel
theorem dX10_copyFrom_9 : decode cX10_copyFrom 9 = .ok (.iconst 0, 1) := by decide +kernel
theorem dX10_copyFrom_10 : decode cX10_copyFrom 10 = .ok (.aload_n 1, 1) := by decide +kernel
theorem dX10_copyFrom_11 : decode cX10_copyFrom 11 = .ok (.getfield 15, 3) := by decide +kernel
theorem dX10_copyFrom_14 : decode cX10_copyFrom 14 = .ok (.invokestatic 30, 3) := by decide +kernel
theorem dX10_copyFrom_17 : decode cX10_copyFrom 17 = .ok (.aload_n 0, 1) := by decide +kernel
theorem dX10_copyFrom_18 : decode cX10_copyFrom 18 = .ok (.aload_n 1, 1) := by decide +kernel
theorem dX10_copyFrom_19 : decode cX10_copyFrom 19 = .ok (.getfield 15, 3) := by decide +kernel
theorem dX10_copyFrom_22 : decode cX10_copyFrom 22 = .ok (.putfield 15, 3) := by decide +kernel
theorem dX10_copyFrom_25 : decode cX10_copyFrom 25 = .ok (.return_, 1) := by decide +kernel
abbrev rm_X10_copyFrom : Room := { frames := 1, cells := 0, slots := 0, locals := 60 }
def w_X10_copyFrom : List Cond := Cond.code yX10_copyFrom cX10_copyFrom 2 none :: uw
set_option maxHeartbeats 4000000 in
set_option maxRecDepth 100000 in
theorem c_X10_copyFrom (l : Launch) (dC : Nat → ClassId) (dI : Nat → Nat → Nat) (cI cZ cO : ClassId) (tL sz : Nat) (h0 : Nat) (h1 : Nat) (h2 : Nat) (h3 : Nat) (v0_count : Int32) (v1_count : Int32) (f2 : Nat → Int32) (f3 : Nat → Int32) (res : Int32 × (Nat → Int32)) (hM : m_X10_copyFrom v0_count v1_count f2 f3 = some res) : Met l yX10_copyFrom w_X10_copyFrom rm_X10_copyFrom (PCx [.ref h1, .ref h0] (dC, dI) [(cI, .int), (cZ, .boolean), (cO, .object "ListPainter$Settings")] sz tL [(h0, .inr (9, [.ref h2, .int v0_count])), (h1, .inr (9, [.ref h3, .int v1_count])), (h2, .inl (cI, 1500, .inl f2)), (h3, .inl (cI, 1500, .inl f3))]) (QMv (dC, dI) [(cI, .int), (cZ, .boolean), (cO, .object "ListPainter$Settings")] (va_A [(h0, .inr (9, [.ref h2, .int v0_count])), (h1, .inr (9, [.ref h3, .int v1_count])), (h2, .inl (cI, 1500, .inl f2)), (h3, .inl (cI, 1500, .inl f3))] sz) [(h0, .inr (9, [.ref h2, .int v0_count])), (h1, .inr (9, [.ref h3, .int (res.1)])), (h2, .inl (cI, 1500, .inl f2)), (h3, .inl (cI, 1500, .inl (res.2)))]) 0 0 (va_A [(h0, .inr (9, [.ref h2, .int v0_count])), (h1, .inr (9, [.ref h3, .int v1_count])), (h2, .inl (cI, 1500, .inl f2)), (h3, .inl (cI, 1500, .inl f3))] sz) := by
  refine Met.ofW (cc := cX10_copyFrom) (maxL := 2) (ret := none) (by decide) rfl ?_
  intro p e s m args below meth c s₁ B hml hv
  obtain ⟨rfl, hsz, hP, hK, hD0, hG⟩ := hv
  have hx := B.exec
  have hb := B.bytes
  have hr := B.returns
  have hu : ∀ w ∈ uw, w.before ([.ref h1, .ref h0] : List Value).toArray s = true := fun w h => atoms_spec (ws := w_X10_copyFrom) B.pre w (List.mem_cons_of_mem _ h)
  have hown : s.vm.findClass RX10 = some m.cls := findClass_of_methodNamed B.named
  have hlocks := B.notSynchronized
  subst hsz
  have hD := hD0.self (sz := s.heap.size)
  generalize hAe : va_A [(h0, .inr (9, [.ref h2, .int v0_count])), (h1, .inr (9, [.ref h3, .int v1_count])), (h2, .inl (cI, 1500, .inl f2)), (h3, .inl (cI, 1500, .inl f3))] s.heap.size = A at hD hG ⊢
  have hA : ∀ q : Nat, s.heap.size ≤ q → A q := fun q h => by rw [← hAe]; exact Or.inr h
  have hS : va_S A s.heap s.heap [] := va_S.rf
  have hP : va_P (dC, dI) vwCl [(h0, .inr (9, [.ref h2, .int v0_count])), (h1, .inr (9, [.ref h3, .int v1_count])), (h2, .inl (cI, 1500, .inl f2)), (h3, .inl (cI, 1500, .inl f3))] s.heap := hP
  have hl := lv_entry ([.ref h1, .ref h0]) (n := 2) (Nat.le_of_ble_eq_true rfl)
  rw [lg_entry_eq]
  generalize (lg_sl ([.ref h1, .ref h0]) ++ List.replicate (2 - (lg_sl ([.ref h1, .ref h0])).length) Slot.unset).toArray = ls at hl ⊢
  have hl : lv_has ls 2 [(0, .ref h1), (1, .ref h0)] := hl
  rw [m_X10_copyFrom] at hM
  suffices hgo : ∀ (H : Heap) (locs : List Loc), va_P (dC, dI) vwCl [(h0, .inr (9, [.ref h2, .int v0_count])), (h1, .inr (9, [.ref h3, .int v1_count])), (h2, .inl (cI, 1500, .inl f2)), (h3, .inl (cI, 1500, .inl f3))] H → va_D A [(h0, .inr (9, [.ref h2, .int v0_count])), (h1, .inr (9, [.ref h3, .int v1_count])), (h2, .inl (cI, 1500, .inl f2)), (h3, .inl (cI, 1500, .inl f3))] → va_S A s.heap H locs → W p l e (headSpec w_X10_copyFrom rm_X10_copyFrom).room s m ([.ref h1, .ref h0] : List Value).toArray below meth c H locs 0 0 (MQ below (QMv (dC, dI) [(cI, .int), (cZ, .boolean), (cO, .object "ListPainter$Settings")] A [(h0, .inr (9, [.ref h2, .int v0_count])), (h1, .inr (9, [.ref h3, .int (res.1)])), (h2, .inl (cI, 1500, .inl f2)), (h3, .inl (cI, 1500, .inl (res.2)))]) ([.ref h1, .ref h0] : List Value).toArray s 0 0 A) (F0 m 0 ls []) from hgo _ _ hP hD hS
  intro H locs hP hD hS
  refine lv_aload_n hx hb dX10_copyFrom_0 rfl (lv_at hl 1 rfl) ?_
  refine va_get (D := (dC, dI)) (ci := 9) (v := .ref h2) (C := RX10) (T := TX10) (N := 2) hx hb hu inX10 hown hK hP 0 rfl rfl 0 (by decide) (hu _ kw_1) (fun _ h9 => h9) rfl dX10_copyFrom_1 ?_
  refine lv_iconst (v := 0) hx hb dX10_copyFrom_4 (by decide) ?_
  refine lv_aload_n hx hb dX10_copyFrom_5 rfl (lv_at hl 0 rfl) ?_
  refine va_get (D := (dC, dI)) (ci := 9) (v := .ref h3) (C := RX10) (T := TX10) (N := 2) hx hb hu inX10 hown hK hP 1 rfl rfl 0 (by decide) (hu _ kw_1) (fun _ h9 => h9) rfl dX10_copyFrom_6 ?_
  refine lv_iconst (v := 0) hx hb dX10_copyFrom_9 (by decide) ?_
  refine lv_aload_n hx hb dX10_copyFrom_10 rfl (lv_at hl 1 rfl) ?_
  refine va_get (D := (dC, dI)) (ci := 9) (v := .int v0_count) (C := RX10) (T := TX10) (N := 2) hx hb hu inX10 hown hK hP 0 rfl rfl 1 (by decide) (hu _ kw_0) (fun _ h9 => h9) rfl dX10_copyFrom_11 ?_
  obtain ⟨g_1, hM⟩ := gd_u hM
  obtain ⟨q1_, q2_, q3_, q4_, q5_⟩ := acp_v g_1
  refine va_copyi hx hb (hml.trans hl.1.symm) hown (hu _ kw_19) (hu _ kw_20) (hu _ kw_21) (hu _ kw_22) hK hP hD hS 2 3 0 0 rfl rfl rfl rfl rfl q1_ q2_ q3_ q4_ q5_ (fun _ _ => rfl) (Nat.le_of_ble_eq_true rfl) (Nat.le_of_ble_eq_true rfl) dX10_copyFrom_14 (fun H locs hP hD hS => ?_)
  obtain ⟨f3_2, ef3_2⟩ : ∃ g : Nat → Int32, g = va_cpy f2 f3 (0 : Int32).toNatClampNeg (0 : Int32).toNatClampNeg (v0_count : Int32).toNatClampNeg := ⟨_, rfl⟩
  have hM := nm_u ef3_2 hM
  have hP : va_P (dC, dI) vwCl [(h0, .inr (9, [.ref h2, .int v0_count])), (h1, .inr (9, [.ref h3, .int v1_count])), (h2, .inl (cI, 1500, .inl f2)), (h3, .inl (cI, 1500, .inl f3_2))] H := by rw [ef3_2]; exact hP
  have hD : va_D A [(h0, .inr (9, [.ref h2, .int v0_count])), (h1, .inr (9, [.ref h3, .int v1_count])), (h2, .inl (cI, 1500, .inl f2)), (h3, .inl (cI, 1500, .inl f3_2))] := by rw [ef3_2]; exact hD
  refine lv_aload_n hx hb dX10_copyFrom_17 rfl (lv_at hl 0 rfl) ?_
  refine lv_aload_n hx hb dX10_copyFrom_18 rfl (lv_at hl 1 rfl) ?_
  refine va_get (D := (dC, dI)) (ci := 9) (v := .int v0_count) (C := RX10) (T := TX10) (N := 2) hx hb hu inX10 hown hK hP 0 rfl rfl 1 (by decide) (hu _ kw_0) (fun _ h9 => h9) rfl dX10_copyFrom_19 ?_
  refine va_put (D := (dC, dI)) (ci := 9) (v := .int v0_count) (ty := .int) (C := RX10) (T := TX10) (N := 2) hx hb hu inX10 tyX10 tyX10_ok nmX10 hown hK hP hD hS 1 rfl rfl 1 (by decide) (hu _ kw_0) (fun _ h9 => h9) rfl (by decide +kernel) rfl rfl (Nat.le_of_ble_eq_true rfl) dX10_copyFrom_22 (fun H locs hP hD hS => ?_)
  have hP : va_P (dC, dI) vwCl [(h0, .inr (9, [.ref h2, .int v0_count])), (h1, .inr (9, [.ref h3, .int v0_count])), (h2, .inl (cI, 1500, .inl f2)), (h3, .inl (cI, 1500, .inl f3_2))] H := hP
  have hD : va_D A [(h0, .inr (9, [.ref h2, .int v0_count])), (h1, .inr (9, [.ref h3, .int v0_count])), (h2, .inl (cI, 1500, .inl f2)), (h3, .inl (cI, 1500, .inl f3_2))] := hD
  have h9 := Option.some.inj hM
  subst h9
  exact W.vret hx hb hr (fun t ht hW => QMv_mk (by rw [ht]; exact hP) (va_K.moved hW.alike hK) hD (hS.F ht)) hS.2.2 dX10_copyFrom_25
