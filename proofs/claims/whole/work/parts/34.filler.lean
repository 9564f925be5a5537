theorem dJ9_floorDiv_f86c9_0 : decode cJ9_floorDiv_f86c9 0 = .ok (.lload_n 0, 1) := by decide +kernel
theorem dJ9_floorDiv_f86c9_1 : decode cJ9_floorDiv_f86c9 1 = .ok (.lload_n 2, 1) := by decide +kernel
theorem dJ9_floorDiv_f86c9_2 : decode cJ9_floorDiv_f86c9 2 = .ok (.ldiv, 1) := by decide +kernel
theorem dJ9_floorDiv_f86c9_3 : decode cJ9_floorDiv_f86c9 3 = .ok (.lstore 4, 2) := by decide +kernel
theorem dJ9_floorDiv_f86c9_5 : decode cJ9_floorDiv_f86c9 5 = .ok (.lload_n 0, 1) := by decide +kernel
theorem dJ9_floorDiv_f86c9_6 : decode cJ9_floorDiv_f86c9 6 = .ok (.lload_n 2, 1) := by decide +kernel
theorem dJ9_floorDiv_f86c9_7 : decode cJ9_floorDiv_f86c9 7 = .ok (.lxor, 1) := by decide +kernel
theorem dJ9_floorDiv_f86c9_8 : decode cJ9_floorDiv_f86c9 8 = .ok (.lconst 0, 1) := by decide +kernel
theorem dJ9_floorDiv_f86c9_9 : decode cJ9_floorDiv_f86c9 9 = .ok (.lcmp, 1) := by decide +kernel
theorem dJ9_floorDiv_f86c9_10 : decode cJ9_floorDiv_f86c9 10 = .ok (.ifCond .ge 17, 3) := by decide +kernel
theorem dJ9_floorDiv_f86c9_13 : decode cJ9_floorDiv_f86c9 13 = .ok (.lload 4, 2) := by decide +kernel
theorem dJ9_floorDiv_f86c9_15 : decode cJ9_floorDiv_f86c9 15 = .ok (.lload_n 2, 1) := by decide +kernel
theorem dJ9_floorDiv_f86c9_16 : decode cJ9_floorDiv_f86c9 16 = .ok (.lmul, 1) := by decide +kernel
theorem dJ9_floorDiv_f86c9_17 : decode cJ9_floorDiv_f86c9 17 = .ok (.lload_n 0, 1) := by decide +kernel
theorem dJ9_floorDiv_f86c9_18 : decode cJ9_floorDiv_f86c9 18 = .ok (.lcmp, 1) := by decide +kernel
theorem dJ9_floorDiv_f86c9_19 : decode cJ9_floorDiv_f86c9 19 = .ok (.ifCond .eq 8, 3) := by decide +kernel
theorem dJ9_floorDiv_f86c9_22 : decode cJ9_floorDiv_f86c9 22 = .ok (.lload 4, 2) := by decide +kernel
theorem dJ9_floorDiv_f86c9_24 : decode cJ9_floorDiv_f86c9 24 = .ok (.lconst 1, 1) := by decide +kernel
theorem dJ9_floorDiv_f86c9_25 : decode cJ9_floorDiv_f86c9 25 = .ok (.lsub, 1) := by decide +kernel
theorem dJ9_floorDiv_f86c9_26 : decode cJ9_floorDiv_f86c9 26 = .ok (.lreturn, 1) := by decide +kernel
theorem dJ9_floorDiv_f86c9_27 : decode cJ9_floorDiv_f86c9 27 = .ok (.lload 4, 2) := by decide +kernel
theorem dJ9_floorDiv_f86c9_29 : decode cJ9_floorDiv_f86c9 29 = .ok (.lreturn, 1) := by decide +kernel
abbrev rm_J9_floorDiv_f86c9 : Room := { frames := 0, cells := 0, slots := 0, locals := 0 }
def w_J9_floorDiv_f86c9 : List Cond := Cond.code yJ9_floorDiv_f86c9 cJ9_floorDiv_f86c9 6 (some .long) :: uw
set_option maxHeartbeats 4000000 in
set_option maxRecDepth 100000 in
theorem c_J9_floorDiv_f86c9 (l : Launch) (dC : Nat → ClassId) (dI : Nat → Nat → Nat) (cI cZ cO : ClassId) (tL sz : Nat) (p0 : Int64) (p1 : Int64) (res : Int64) (hM : m_J9_floorDiv_f86c9 p0 p1 = some res) : Met l yJ9_floorDiv_f86c9 w_J9_floorDiv_f86c9 rm_J9_floorDiv_f86c9 (PCx [.long p0, .long p1] (dC, dI) [(cI, .int), (cZ, .boolean), (cO, .object "ListPainter$Settings")] sz tL []) (QMl res (dC, dI) [(cI, .int), (cZ, .boolean), (cO, .object "ListPainter$Settings")] (va_A [] sz) []) 0 0 (va_A [] sz) := by
  refine va_MetF (cc := cJ9_floorDiv_f86c9) (maxL := 6) (ret := (some .long)) (by decide +kernel) rfl ?_
  intro p e s m args below meth c s₁ B hml hv
  obtain ⟨rfl, hsz, hP, hK, hD0, hG⟩ := hv
  have hx := B.exec
  have hb := B.bytes
  have hr := B.returns
  have hu : ∀ w ∈ uw, w.before ([.long p0, .long p1] : List Value).toArray s = true := fun w h => atoms_spec (ws := w_J9_floorDiv_f86c9) B.pre w (List.mem_cons_of_mem _ h)
  have hown : s.vm.findClass RJ9 = some m.cls := findClass_of_methodNamed B.named
  have hlocks := B.notSynchronized
  subst hsz
  have hD := hD0.self (sz := s.heap.size)
  generalize hAe : va_A [] s.heap.size = A at hD hG ⊢
  have hA : ∀ q : Nat, s.heap.size ≤ q → A q := fun q h => by rw [← hAe]; exact Or.inr h
  have hS : va_S A s.heap s.heap [] := va_S.rf
  have hP : va_P (dC, dI) vwCl [] s.heap := hP
  have hl := lv_entry ([.long p0, .long p1]) (n := 6) (Nat.le_of_ble_eq_true rfl)
  rw [lg_entry_eq]
  generalize (lg_sl ([.long p0, .long p1]) ++ List.replicate (6 - (lg_sl ([.long p0, .long p1])).length) Slot.unset).toArray = ls at hl ⊢
  have hl : lv_has ls 6 [(0, .long p0), (2, .long p1)] := hl
  rw [m_J9_floorDiv_f86c9] at hM
  suffices hgo : ∀ (H : Heap) (locs : List Loc), va_P (dC, dI) vwCl [] H → va_D A [] → va_S A s.heap H locs → W p l e (headSpec w_J9_floorDiv_f86c9 rm_J9_floorDiv_f86c9).room s m ([.long p0, .long p1] : List Value).toArray below meth c H locs 0 0 (MQ below (QMl res (dC, dI) [(cI, .int), (cZ, .boolean), (cO, .object "ListPainter$Settings")] A []) ([.long p0, .long p1] : List Value).toArray s 0 0 A) (F0 m 0 ls []) from hgo _ _ hP hD hS
  intro H locs hP hD hS
  refine lv_lload_n hx hb dJ9_floorDiv_f86c9_0 rfl (lv_at hl 0 rfl) ?_
  refine lv_lload_n hx hb dJ9_floorDiv_f86c9_1 rfl (lv_at hl 1 rfl) ?_
  obtain ⟨g_1, hM⟩ := gd_u hM
  refine lv_ldiv hx hb dJ9_floorDiv_f86c9_2 (nzl_v g_1) ?_
  refine lv_topl (fun x_2 ex_2 => ?_)
  have hM := nm_u ex_2 hM
  refine lv_lstore (lv' := [(4, .long x_2), (0, .long p0), (2, .long p1)]) hx hb dJ9_floorDiv_f86c9_3 hl (by decide) rfl (fun ls hl => ?_)
  refine lv_lload_n hx hb dJ9_floorDiv_f86c9_5 rfl (lv_at hl 1 rfl) ?_
  refine lv_lload_n hx hb dJ9_floorDiv_f86c9_6 rfl (lv_at hl 2 rfl) ?_
  refine lv_lxor hx hb dJ9_floorDiv_f86c9_7 ?_
  refine lv_lconst (v := 0) hx hb dJ9_floorDiv_f86c9_8 (by decide) ?_
  refine W.lcmp hx hb dJ9_floorDiv_f86c9_9 ?_
  refine lv_if_ge (tgt := 27) hx hb dJ9_floorDiv_f86c9_10 (by decide) (fun c_3 => ?_) (fun c_3 => ?_)
  · have hM := if_t c_3 hM
    refine lv_lload hx hb dJ9_floorDiv_f86c9_27 (lv_at hl 0 rfl) ?_
    have h9 := Option.some.inj hM
    subst h9
    exact W.lret (v := x_2) hx hb hr (fun t ht hW => QMl_mk (by rw [ht]; exact hP) (va_K.moved hW.alike hK) hD (hS.F ht)) hS.2.2 dJ9_floorDiv_f86c9_29
  · have hM := if_f c_3 hM
    refine lv_lload hx hb dJ9_floorDiv_f86c9_13 (lv_at hl 0 rfl) ?_
    refine lv_lload_n hx hb dJ9_floorDiv_f86c9_15 rfl (lv_at hl 2 rfl) ?_
    refine lv_lmul hx hb dJ9_floorDiv_f86c9_16 ?_
    refine lv_lload_n hx hb dJ9_floorDiv_f86c9_17 rfl (lv_at hl 1 rfl) ?_
    refine W.lcmp hx hb dJ9_floorDiv_f86c9_18 ?_
    refine lv_if_eq (tgt := 27) hx hb dJ9_floorDiv_f86c9_19 (by decide) (fun c_4 => ?_) (fun c_4 => ?_)
    · have hM := if_t c_4 hM
      refine lv_lload hx hb dJ9_floorDiv_f86c9_27 (lv_at hl 0 rfl) ?_
      have h9 := Option.some.inj hM
      subst h9
      exact W.lret (v := x_2) hx hb hr (fun t ht hW => QMl_mk (by rw [ht]; exact hP) (va_K.moved hW.alike hK) hD (hS.F ht)) hS.2.2 dJ9_floorDiv_f86c9_29
    · have hM := if_f c_4 hM
      refine lv_lload hx hb dJ9_floorDiv_f86c9_22 (lv_at hl 0 rfl) ?_
      refine lv_lconst (v := 1) hx hb dJ9_floorDiv_f86c9_24 (by decide) ?_
      refine lv_lsub hx hb dJ9_floorDiv_f86c9_25 ?_
      have h9 := Option.some.inj hM
      subst h9
      exact W.lret (v := (x_2 - 1)) hx hb hr (fun t ht hW => QMl_mk (by rw [ht]; exact hP) (va_K.moved hW.alike hK) hD (hS.F ht)) hS.2.2 dJ9_floorDiv_f86c9_26
theorem dX2_firstColumn_0 : decode cX2_firstColumn 0 = .ok (.aload_n 0, 1) := by decide +kernel
theorem dX2_firstColumn_1 : decode cX2_firstColumn 1 = .ok (.getfield 55, 3) := by decide +kernel
theorem dX2_firstColumn_4 : decode cX2_firstColumn 4 = .ok (.iload_n 2, 1) := by decide +kernel
theorem dX2_firstColumn_5 : decode cX2_firstColumn 5 = .ok (.iaload, 1) := by decide +kernel
theorem dX2_firstColumn_6 : decode cX2_firstColumn 6 = .ok (.i2l, 1) := by decide +kernel
theorem dX2_firstColumn_7 : decode cX2_firstColumn 7 = .ok (.aload_n 0, 1) := by decide +kernel
theorem dX2_firstColumn_8 : decode cX2_firstColumn 8 = .ok (.getfield 55, 3) := by decide +kernel
theorem dX2_firstColumn_11 : decode cX2_firstColumn 11 = .ok (.iload_n 1, 1) := by decide +kernel
theorem dX2_firstColumn_12 : decode cX2_firstColumn 12 = .ok (.iaload, 1) := by decide +kernel
theorem dX2_firstColumn_13 : decode cX2_firstColumn 13 = .ok (.i2l, 1) := by decide +kernel
theorem dX2_firstColumn_14 : decode cX2_firstColumn 14 = .ok (.lsub, 1) := by decide +kernel
theorem dX2_firstColumn_15 : decode cX2_firstColumn 15 = .ok (.lstore 4, 2) := by decide +kernel
theorem dX2_firstColumn_17 : decode cX2_firstColumn 17 = .ok (.lload 4, 2) := by decide +kernel
theorem dX2_firstColumn_19 : decode cX2_firstColumn 19 = .ok (.lconst 0, 1) := by decide +kernel
theorem dX2_firstColumn_20 : decode cX2_firstColumn 20 = .ok (.lcmp, 1) := by decide +kernel
theorem dX2_firstColumn_21 : decode cX2_firstColumn 21 = .ok (.ifCond .gt 6, 3) := by decide +kernel
theorem dX2_firstColumn_24 : decode cX2_firstColumn 24 = .ok (.bipush 32, 2) := by decide +kernel
theorem dX2_firstColumn_26 : decode cX2_firstColumn 26 = .ok (.ireturn, 1) := by decide +kernel
theorem dX2_firstColumn_27 : decode cX2_firstColumn 27 = .ok (.aload_n 0, 1) := by decide +kernel
theorem dX2_firstColumn_28 : decode cX2_firstColumn 28 = .ok (.getfield 84, 3) := by decide +kernel
theorem dX2_firstColumn_31 : decode cX2_firstColumn 31 = .ok (.iload_n 2, 1) := by decide +kernel
theorem dX2_firstColumn_32 : decode cX2_firstColumn 32 = .ok (.iaload, 1) := by decide +kernel
theorem dX2_firstColumn_33 : decode cX2_firstColumn 33 = .ok (.i2l, 1) := by decide +kernel
theorem dX2_firstColumn_34 : decode cX2_firstColumn 34 = .ok (.aload_n 0, 1) := by decide +kernel
theorem dX2_firstColumn_35 : decode cX2_firstColumn 35 = .ok (.getfield 84, 3) := by decide +kernel
theorem dX2_firstColumn_38 : decode cX2_firstColumn 38 = .ok (.iload_n 1, 1) := by decide +kernel
theorem dX2_firstColumn_39 : decode cX2_firstColumn 39 = .ok (.iaload, 1) := by decide +kernel
theorem dX2_firstColumn_40 : decode cX2_firstColumn 40 = .ok (.i2l, 1) := by decide +kernel
theorem dX2_firstColumn_41 : decode cX2_firstColumn 41 = .ok (.lsub, 1) := by decide +kernel
theorem dX2_firstColumn_42 : decode cX2_firstColumn 42 = .ok (.lstore 6, 2) := by decide +kernel
theorem dX2_firstColumn_44 : decode cX2_firstColumn 44 = .ok (.iload_n 3, 1) := by decide +kernel
theorem dX2_firstColumn_45 : decode cX2_firstColumn 45 = .ok (.i2l, 1) := by decide +kernel
theorem dX2_firstColumn_46 : decode cX2_firstColumn 46 = .ok (.ldc2_w 87, 3) := by decide +kernel
theorem dX2_firstColumn_49 : decode cX2_firstColumn 49 = .ok (.lmul, 1) := by decide +kernel
theorem dX2_firstColumn_50 : decode cX2_firstColumn 50 = .ok (.ldc2_w 89, 3) := by decide +kernel
theorem dX2_firstColumn_53 : decode cX2_firstColumn 53 = .ok (.ladd, 1) := by decide +kernel
theorem dX2_firstColumn_54 : decode cX2_firstColumn 54 = .ok (.aload_n 0, 1) := by decide +kernel
theorem dX2_firstColumn_55 : decode cX2_firstColumn 55 = .ok (.getfield 55, 3) := by decide +kernel
theorem dX2_firstColumn_58 : decode cX2_firstColumn 58 = .ok (.iload_n 1, 1) := by decide +kernel
theorem dX2_firstColumn_59 : decode cX2_firstColumn 59 = .ok (.iaload, 1) := by decide +kernel
theorem dX2_firstColumn_60 : decode cX2_firstColumn 60 = .ok (.i2l, 1) := by decide +kernel
theorem dX2_firstColumn_61 : decode cX2_firstColumn 61 = .ok (.lsub, 1) := by decide +kernel
theorem dX2_firstColumn_62 : decode cX2_firstColumn 62 = .ok (.lstore 8, 2) := by decide +kernel
theorem dX2_firstColumn_64 : decode cX2_firstColumn 64 = .ok (.aload_n 0, 1) := by decide +kernel
theorem dX2_firstColumn_65 : decode cX2_firstColumn 65 = .ok (.getfield 84, 3) := by decide +kernel
theorem dX2_firstColumn_68 : decode cX2_firstColumn 68 = .ok (.iload_n 1, 1) := by decide +kernel
theorem dX2_firstColumn_69 : decode cX2_firstColumn 69 = .ok (.iaload, 1) := by decide +kernel
theorem dX2_firstColumn_70 : decode cX2_firstColumn 70 = .ok (.i2l, 1) := by decide +kernel
theorem dX2_firstColumn_71 : decode cX2_firstColumn 71 = .ok (.lload 8, 2) := by decide +kernel
theorem dX2_firstColumn_73 : decode cX2_firstColumn 73 = .ok (.lload 6, 2) := by decide +kernel
theorem dX2_firstColumn_75 : decode cX2_firstColumn 75 = .ok (.lmul, 1) := by decide +kernel
theorem dX2_firstColumn_76 : decode cX2_firstColumn 76 = .ok (.lneg, 1) := by decide +kernel
theorem dX2_firstColumn_77 : decode cX2_firstColumn 77 = .ok (.lload 4, 2) := by decide +kernel
theorem dX2_firstColumn_79 : decode cX2_firstColumn 79 = .ok (.invokestatic 91, 3) := by decide +kernel
theorem dX2_firstColumn_82 : decode cX2_firstColumn 82 = .ok (.lsub, 1) := by decide +kernel
theorem dX2_firstColumn_83 : decode cX2_firstColumn 83 = .ok (.lstore 10, 2) := by decide +kernel
theorem dX2_firstColumn_85 : decode cX2_firstColumn 85 = .ok (.lload 10, 2) := by decide +kernel
theorem dX2_firstColumn_87 : decode cX2_firstColumn 87 = .ok (.l2i, 1) := by decide +kernel
theorem dX2_firstColumn_88 : decode cX2_firstColumn 88 = .ok (.invokestatic 58, 3) := by decide +kernel
theorem dX2_firstColumn_91 : decode cX2_firstColumn 91 = .ok (.ireturn, 1) := by decide +kernel
abbrev rm_X2_firstColumn : Room := { frames := 1, cells := 0, slots := 0, locals := 25 }
def w_X2_firstColumn : List Cond := Cond.code yX2_firstColumn cX2_firstColumn 12 (some .int) :: uw
set_option maxHeartbeats 4000000 in
set_option maxRecDepth 100000 in
theorem c_X2_firstColumn (l : Launch) (dC : Nat → ClassId) (dI : Nat → Nat → Nat) (cI cZ cO : ClassId) (tL sz : Nat) (h0 : Nat) (h1 : Nat) (h2 : Nat) (g0_begins : Nat) (v0_points : Int32) (v0_lines : Int32) (v0_first : Int32) (v0_firstToldX : Int32) (v0_firstToldY : Int32) (v0_lastToldX : Int32) (v0_lastToldY : Int32) (v0_leastX : Int32) (v0_leastY : Int32) (v0_greatestY : Int32) (f1 : Nat → Int32) (f2 : Nat → Int32) (p1 : Int32) (p2 : Int32) (p3 : Int32) (res : Int32) (hM : m_X2_firstColumn f1 f2 p1 p2 p3 = some res) : Met l yX2_firstColumn w_X2_firstColumn rm_X2_firstColumn (PCx [.ref h0, .int p1, .int p2, .int p3] (dC, dI) [(cI, .int), (cZ, .boolean), (cO, .object "ListPainter$Settings")] sz tL [(h0, .inr (4, [.ref h2, .ref h1, .ref g0_begins, .int v0_points, .int v0_lines, .int v0_first, .int v0_firstToldX, .int v0_firstToldY, .int v0_lastToldX, .int v0_lastToldY, .int v0_leastX, .int v0_leastY, .int v0_greatestY])), (h1, .inl (cI, 800, .inl f1)), (h2, .inl (cI, 800, .inl f2))]) (QMi res (dC, dI) [(cI, .int), (cZ, .boolean), (cO, .object "ListPainter$Settings")] (va_A [(h0, .inr (4, [.ref h2, .ref h1, .ref g0_begins, .int v0_points, .int v0_lines, .int v0_first, .int v0_firstToldX, .int v0_firstToldY, .int v0_lastToldX, .int v0_lastToldY, .int v0_leastX, .int v0_leastY, .int v0_greatestY])), (h1, .inl (cI, 800, .inl f1)), (h2, .inl (cI, 800, .inl f2))] sz) [(h0, .inr (4, [.ref h2, .ref h1, .ref g0_begins, .int v0_points, .int v0_lines, .int v0_first, .int v0_firstToldX, .int v0_firstToldY, .int v0_lastToldX, .int v0_lastToldY, .int v0_leastX, .int v0_leastY, .int v0_greatestY])), (h1, .inl (cI, 800, .inl f1)), (h2, .inl (cI, 800, .inl f2))]) 0 0 (va_A [(h0, .inr (4, [.ref h2, .ref h1, .ref g0_begins, .int v0_points, .int v0_lines, .int v0_first, .int v0_firstToldX, .int v0_firstToldY, .int v0_lastToldX, .int v0_lastToldY, .int v0_leastX, .int v0_leastY, .int v0_greatestY])), (h1, .inl (cI, 800, .inl f1)), (h2, .inl (cI, 800, .inl f2))] sz) := by
  refine Met.ofW (cc := cX2_firstColumn) (maxL := 12) (ret := (some .int)) (by decide) rfl ?_
  intro p e s m args below meth c s₁ B hml hv
  obtain ⟨rfl, hsz, hP, hK, hD0, hG⟩ := hv
  have hx := B.exec
  have hb := B.bytes
  have hr := B.returns
  have hu : ∀ w ∈ uw, w.before ([.ref h0, .int p1, .int p2, .int p3] : List Value).toArray s = true := fun w h => atoms_spec (ws := w_X2_firstColumn) B.pre w (List.mem_cons_of_mem _ h)
  have hown : s.vm.findClass RX2 = some m.cls := findClass_of_methodNamed B.named
  have hlocks := B.notSynchronized
  subst hsz
  have hD := hD0.self (sz := s.heap.size)
  generalize hAe : va_A [(h0, .inr (4, [.ref h2, .ref h1, .ref g0_begins, .int v0_points, .int v0_lines, .int v0_first, .int v0_firstToldX, .int v0_firstToldY, .int v0_lastToldX, .int v0_lastToldY, .int v0_leastX, .int v0_leastY, .int v0_greatestY])), (h1, .inl (cI, 800, .inl f1)), (h2, .inl (cI, 800, .inl f2))] s.heap.size = A at hD hG ⊢
  have hA : ∀ q : Nat, s.heap.size ≤ q → A q := fun q h => by rw [← hAe]; exact Or.inr h
  have hS : va_S A s.heap s.heap [] := va_S.rf
  have hP : va_P (dC, dI) vwCl [(h0, .inr (4, [.ref h2, .ref h1, .ref g0_begins, .int v0_points, .int v0_lines, .int v0_first, .int v0_firstToldX, .int v0_firstToldY, .int v0_lastToldX, .int v0_lastToldY, .int v0_leastX, .int v0_leastY, .int v0_greatestY])), (h1, .inl (cI, 800, .inl f1)), (h2, .inl (cI, 800, .inl f2))] s.heap := hP
  have hl := lv_entry ([.ref h0, .int p1, .int p2, .int p3]) (n := 12) (Nat.le_of_ble_eq_true rfl)
  rw [lg_entry_eq]
  generalize (lg_sl ([.ref h0, .int p1, .int p2, .int p3]) ++ List.replicate (12 - (lg_sl ([.ref h0, .int p1, .int p2, .int p3])).length) Slot.unset).toArray = ls at hl ⊢
  have hl : lv_has ls 12 [(0, .ref h0), (1, .int p1), (2, .int p2), (3, .int p3)] := hl
  rw [m_X2_firstColumn] at hM
  suffices hgo : ∀ (H : Heap) (locs : List Loc), va_P (dC, dI) vwCl [(h0, .inr (4, [.ref h2, .ref h1, .ref g0_begins, .int v0_points, .int v0_lines, .int v0_first, .int v0_firstToldX, .int v0_firstToldY, .int v0_lastToldX, .int v0_lastToldY, .int v0_leastX, .int v0_leastY, .int v0_greatestY])), (h1, .inl (cI, 800, .inl f1)), (h2, .inl (cI, 800, .inl f2))] H → va_D A [(h0, .inr (4, [.ref h2, .ref h1, .ref g0_begins, .int v0_points, .int v0_lines, .int v0_first, .int v0_firstToldX, .int v0_firstToldY, .int v0_lastToldX, .int v0_lastToldY, .int v0_leastX, .int v0_leastY, .int v0_greatestY])), (h1, .inl (cI, 800, .inl f1)), (h2, .inl (cI, 800, .inl f2))] → va_S A s.heap H locs → W p l e (headSpec w_X2_firstColumn rm_X2_firstColumn).room s m ([.ref h0, .int p1, .int p2, .int p3] : List Value).toArray below meth c H locs 0 0 (MQ below (QMi res (dC, dI) [(cI, .int), (cZ, .boolean), (cO, .object "ListPainter$Settings")] A [(h0, .inr (4, [.ref h2, .ref h1, .ref g0_begins, .int v0_points, .int v0_lines, .int v0_first, .int v0_firstToldX, .int v0_firstToldY, .int v0_lastToldX, .int v0_lastToldY, .int v0_leastX, .int v0_leastY, .int v0_greatestY])), (h1, .inl (cI, 800, .inl f1)), (h2, .inl (cI, 800, .inl f2))]) ([.ref h0, .int p1, .int p2, .int p3] : List Value).toArray s 0 0 A) (F0 m 0 ls []) from hgo _ _ hP hD hS
  intro H locs hP hD hS
  refine lv_aload_n hx hb dX2_firstColumn_0 rfl (lv_at hl 0 rfl) ?_
  refine va_getN (D := (dC, dI)) (ci := 4) (v := .ref h1) (C := RX5) (T := TX5) (N := 13) hx hb hu inX5 hown hK hP 0 rfl rfl 1 (by decide) (gX_nest hG 118 kw_160 rfl) (fun _ h9 => h9) rfl dX2_firstColumn_1 ?_
  refine lv_iload_n hx hb dX2_firstColumn_4 rfl (lv_at hl 2 rfl) ?_
  obtain ⟨g_1, hM⟩ := gd_u hM
  refine va_iald hx hb hK hP 1 0 rfl rfl (inb_v g_1) dX2_firstColumn_5 ?_
  refine lv_topi (fun a_2 ea_2 => ?_)
  have hM := nm_u ea_2 hM
  refine lv_i2l (v := ((a_2 : Int32).toInt64)) hx hb dX2_firstColumn_6 rfl ?_
  refine lv_aload_n hx hb dX2_firstColumn_7 rfl (lv_at hl 0 rfl) ?_
  refine va_getN (D := (dC, dI)) (ci := 4) (v := .ref h1) (C := RX5) (T := TX5) (N := 13) hx hb hu inX5 hown hK hP 0 rfl rfl 1 (by decide) (gX_nest hG 118 kw_160 rfl) (fun _ h9 => h9) rfl dX2_firstColumn_8 ?_
  refine lv_iload_n hx hb dX2_firstColumn_11 rfl (lv_at hl 1 rfl) ?_
  obtain ⟨g_3, hM⟩ := gd_u hM
  refine va_iald hx hb hK hP 1 0 rfl rfl (inb_v g_3) dX2_firstColumn_12 ?_
  refine lv_topi (fun a_4 ea_4 => ?_)
  have hM := nm_u ea_4 hM
  refine lv_i2l (v := ((a_4 : Int32).toInt64)) hx hb dX2_firstColumn_13 rfl ?_
  refine lv_lsub hx hb dX2_firstColumn_14 ?_
  refine lv_topl (fun x_5 ex_5 => ?_)
  have hM := nm_u ex_5 hM
  refine lv_lstore (lv' := [(4, .long x_5), (0, .ref h0), (1, .int p1), (2, .int p2), (3, .int p3)]) hx hb dX2_firstColumn_15 hl (by decide) rfl (fun ls hl => ?_)
  refine lv_lload hx hb dX2_firstColumn_17 (lv_at hl 0 rfl) ?_
  refine lv_lconst (v := 0) hx hb dX2_firstColumn_19 (by decide) ?_
  refine W.lcmp hx hb dX2_firstColumn_20 ?_
  refine lv_if_gt (tgt := 27) hx hb dX2_firstColumn_21 (by decide) (fun c_6 => ?_) (fun c_6 => ?_)
  · have hM := if_t c_6 hM
    refine lv_aload_n hx hb dX2_firstColumn_27 rfl (lv_at hl 1 rfl) ?_
    refine va_getN (D := (dC, dI)) (ci := 4) (v := .ref h2) (C := RX5) (T := TX5) (N := 13) hx hb hu inX5 hown hK hP 0 rfl rfl 0 (by decide) (gX_nest hG 116 kw_161 rfl) (fun _ h9 => h9) rfl dX2_firstColumn_28 ?_
    refine lv_iload_n hx hb dX2_firstColumn_31 rfl (lv_at hl 3 rfl) ?_
    obtain ⟨g_7, hM⟩ := gd_u hM
    refine va_iald hx hb hK hP 2 0 rfl rfl (inb_v g_7) dX2_firstColumn_32 ?_
    refine lv_topi (fun a_8 ea_8 => ?_)
    have hM := nm_u ea_8 hM
    refine lv_i2l (v := ((a_8 : Int32).toInt64)) hx hb dX2_firstColumn_33 rfl ?_
    refine lv_aload_n hx hb dX2_firstColumn_34 rfl (lv_at hl 1 rfl) ?_
    refine va_getN (D := (dC, dI)) (ci := 4) (v := .ref h2) (C := RX5) (T := TX5) (N := 13) hx hb hu inX5 hown hK hP 0 rfl rfl 0 (by decide) (gX_nest hG 116 kw_161 rfl) (fun _ h9 => h9) rfl dX2_firstColumn_35 ?_
    refine lv_iload_n hx hb dX2_firstColumn_38 rfl (lv_at hl 2 rfl) ?_
    obtain ⟨g_9, hM⟩ := gd_u hM
    refine va_iald hx hb hK hP 2 0 rfl rfl (inb_v g_9) dX2_firstColumn_39 ?_
    refine lv_topi (fun a_10 ea_10 => ?_)
    have hM := nm_u ea_10 hM
    refine lv_i2l (v := ((a_10 : Int32).toInt64)) hx hb dX2_firstColumn_40 rfl ?_
    refine lv_lsub hx hb dX2_firstColumn_41 ?_
    refine lv_topl (fun x_11 ex_11 => ?_)
    have hM := nm_u ex_11 hM
    refine lv_lstore (lv' := [(6, .long x_11), (4, .long x_5), (0, .ref h0), (1, .int p1), (2, .int p2), (3, .int p3)]) hx hb dX2_firstColumn_42 hl (by decide) rfl (fun ls hl => ?_)
    refine lv_iload_n hx hb dX2_firstColumn_44 rfl (lv_at hl 5 rfl) ?_
    refine lv_i2l (v := ((p3 : Int32).toInt64)) hx hb dX2_firstColumn_45 rfl ?_
    refine lv_ldc2 (v := 65536) hx hb hown (hu _ kw_162) dX2_firstColumn_46 ?_
    refine lv_lmul hx hb dX2_firstColumn_49 ?_
    refine lv_ldc2 (v := 32768) hx hb hown (hu _ kw_163) dX2_firstColumn_50 ?_
    refine lv_ladd hx hb dX2_firstColumn_53 ?_
    refine lv_aload_n hx hb dX2_firstColumn_54 rfl (lv_at hl 2 rfl) ?_
    refine va_getN (D := (dC, dI)) (ci := 4) (v := .ref h1) (C := RX5) (T := TX5) (N := 13) hx hb hu inX5 hown hK hP 0 rfl rfl 1 (by decide) (gX_nest hG 118 kw_160 rfl) (fun _ h9 => h9) rfl dX2_firstColumn_55 ?_
    refine lv_iload_n hx hb dX2_firstColumn_58 rfl (lv_at hl 3 rfl) ?_
    obtain ⟨g_12, hM⟩ := gd_u hM
    refine va_iald hx hb hK hP 1 0 rfl rfl (inb_v g_12) dX2_firstColumn_59 ?_
    refine lv_topi (fun a_13 ea_13 => ?_)
    have hM := nm_u ea_13 hM
    refine lv_i2l (v := ((a_13 : Int32).toInt64)) hx hb dX2_firstColumn_60 rfl ?_
    refine lv_lsub hx hb dX2_firstColumn_61 ?_
    refine lv_topl (fun x_14 ex_14 => ?_)
    have hM := nm_u ex_14 hM
    refine lv_lstore (lv' := [(8, .long x_14), (6, .long x_11), (4, .long x_5), (0, .ref h0), (1, .int p1), (2, .int p2), (3, .int p3)]) hx hb dX2_firstColumn_62 hl (by decide) rfl (fun ls hl => ?_)
    refine lv_aload_n hx hb dX2_firstColumn_64 rfl (lv_at hl 3 rfl) ?_
    refine va_getN (D := (dC, dI)) (ci := 4) (v := .ref h2) (C := RX5) (T := TX5) (N := 13) hx hb hu inX5 hown hK hP 0 rfl rfl 0 (by decide) (gX_nest hG 116 kw_161 rfl) (fun _ h9 => h9) rfl dX2_firstColumn_65 ?_
    refine lv_iload_n hx hb dX2_firstColumn_68 rfl (lv_at hl 4 rfl) ?_
    obtain ⟨g_15, hM⟩ := gd_u hM
    refine va_iald hx hb hK hP 2 0 rfl rfl (inb_v g_15) dX2_firstColumn_69 ?_
    refine lv_topi (fun a_16 ea_16 => ?_)
    have hM := nm_u ea_16 hM
    refine lv_i2l (v := ((a_16 : Int32).toInt64)) hx hb dX2_firstColumn_70 rfl ?_
    refine lv_lload hx hb dX2_firstColumn_71 (lv_at hl 0 rfl) ?_
    refine lv_lload hx hb dX2_firstColumn_73 (lv_at hl 1 rfl) ?_
    refine lv_lmul hx hb dX2_firstColumn_75 ?_
    refine lv_lneg hx hb dX2_firstColumn_76 ?_
    refine lv_lload hx hb dX2_firstColumn_77 (lv_at hl 2 rfl) ?_
    obtain ⟨r_17, hm_18, hM⟩ := bd1_u hM
    refine cSl (r := r_17) (As := [.long (-(x_14 * x_11)), .long x_5]) (rest := [.long ((a_16 : Int32).toInt64)]) ⟨hx, hb, hml, hown, hu⟩ (c_J9_floorDiv_f86c9 l dC dI cI cZ cO tL H.size (-(x_14 * x_11)) x_5 r_17 hm_18) (va_cwS 2 hu (gS kw_164 kw_165 kw_60 kw_166) rfl rfl rfl (by decide +kernel) ⟨Nat.le_of_ble_eq_true rfl, Nat.le_of_ble_eq_true rfl⟩) hP hD hS hA hK hG [] (by decide) rfl [none, none, none] 0 rfl (by decide +kernel) rfl rfl hl.1 rfl (Nat.le_of_ble_eq_true rfl) dX2_firstColumn_79 (Nat.zero_le _) (Nat.zero_le _) (fun H locs hP hD hS => ?_)
    have hP : va_P (dC, dI) vwCl [(h0, .inr (4, [.ref h2, .ref h1, .ref g0_begins, .int v0_points, .int v0_lines, .int v0_first, .int v0_firstToldX, .int v0_firstToldY, .int v0_lastToldX, .int v0_lastToldY, .int v0_leastX, .int v0_leastY, .int v0_greatestY])), (h1, .inl (cI, 800, .inl f1)), (h2, .inl (cI, 800, .inl f2))] H := hP
    have hD : va_D A [(h0, .inr (4, [.ref h2, .ref h1, .ref g0_begins, .int v0_points, .int v0_lines, .int v0_first, .int v0_firstToldX, .int v0_firstToldY, .int v0_lastToldX, .int v0_lastToldY, .int v0_leastX, .int v0_leastY, .int v0_greatestY])), (h1, .inl (cI, 800, .inl f1)), (h2, .inl (cI, 800, .inl f2))] := hD
    refine lv_lsub hx hb dX2_firstColumn_82 ?_
    refine lv_topl (fun x_19 ex_19 => ?_)
    have hM := nm_u ex_19 hM
    refine lv_lstore (lv' := [(10, .long x_19), (8, .long x_14), (6, .long x_11), (4, .long x_5), (0, .ref h0), (1, .int p1), (2, .int p2), (3, .int p3)]) hx hb dX2_firstColumn_83 hl (by decide) rfl (fun ls hl => ?_)
    refine lv_lload hx hb dX2_firstColumn_85 (lv_at hl 0 rfl) ?_
    refine lv_l2i (v := ((x_19 : Int64).toInt32)) hx hb dX2_firstColumn_87 rfl ?_
    obtain ⟨r_20, hm_21, hM⟩ := bd1_u hM
    refine cSi (r := r_20) (As := [.int ((x_19 : Int64).toInt32)]) (rest := []) ⟨hx, hb, hml, hown, hu⟩ (c_X2_firstMiddle l dC dI cI cZ cO tL H.size ((x_19 : Int64).toInt32) r_20 hm_21) (va_cwS 1 hu (gS kw_167 kw_155 kw_156 kw_157) rfl rfl rfl (by decide +kernel) ⟨Nat.le_of_ble_eq_true rfl, Nat.le_of_ble_eq_true rfl⟩) hP hD hS hA hK hG [] (by decide) rfl [none, none, none] 0 rfl (by decide +kernel) rfl rfl hl.1 rfl (Nat.le_of_ble_eq_true rfl) dX2_firstColumn_88 (Nat.zero_le _) (Nat.zero_le _) (fun H locs hP hD hS => ?_)
    have hP : va_P (dC, dI) vwCl [(h0, .inr (4, [.ref h2, .ref h1, .ref g0_begins, .int v0_points, .int v0_lines, .int v0_first, .int v0_firstToldX, .int v0_firstToldY, .int v0_lastToldX, .int v0_lastToldY, .int v0_leastX, .int v0_leastY, .int v0_greatestY])), (h1, .inl (cI, 800, .inl f1)), (h2, .inl (cI, 800, .inl f2))] H := hP
    have hD : va_D A [(h0, .inr (4, [.ref h2, .ref h1, .ref g0_begins, .int v0_points, .int v0_lines, .int v0_first, .int v0_firstToldX, .int v0_firstToldY, .int v0_lastToldX, .int v0_lastToldY, .int v0_leastX, .int v0_leastY, .int v0_greatestY])), (h1, .inl (cI, 800, .inl f1)), (h2, .inl (cI, 800, .inl f2))] := hD
    have h9 := Option.some.inj hM
    subst h9
    exact W.iret (v := r_20) hx hb hr (fun t ht hW => QMi_mk (by rw [ht]; exact hP) (va_K.moved hW.alike hK) hD (hS.F ht)) hS.2.2 dX2_firstColumn_91
  · have hM := if_f c_6 hM
    refine lv_bipush (v := 32) hx hb dX2_firstColumn_24 (by decide) ?_
    have h9 := Option.some.inj hM
    subst h9
    exact W.iret (v := 32) hx hb hr (fun t ht hW => QMi_mk (by rw [ht]; exact hP) (va_K.moved hW.alike hK) hD (hS.F ht)) hS.2.2 dX2_firstColumn_26
theorem dX2_change_0 : decode cX2_change 0 = .ok (.iload_n 1, 1) := by decide +kernel
theorem dX2_change_1 : decode cX2_change 1 = .ok (.bipush 32, 2) := by decide +kernel
theorem dX2_change_3 : decode cX2_change 3 = .ok (.imul, 1) := by decide +kernel
theorem dX2_change_4 : decode cX2_change 4 = .ok (.iload_n 2, 1) := by decide +kernel
theorem dX2_change_5 : decode cX2_change 5 = .ok (.iadd, 1) := by decide +kernel
theorem dX2_change_6 : decode cX2_change 6 = .ok (.istore 4, 2) := by decide +kernel
theorem dX2_change_8 : decode cX2_change 8 = .ok (.iload 4, 2) := by decide +kernel
theorem dX2_change_10 : decode cX2_change 10 = .ok (.ifCond .lt 24, 3) := by decide +kernel
theorem dX2_change_13 : decode cX2_change 13 = .ok (.iload 4, 2) := by decide +kernel
theorem dX2_change_15 : decode cX2_change 15 = .ok (.aload_n 0, 1) := by decide +kernel
theorem dX2_change_16 : decode cX2_change 16 = .ok (.getfield 9, 3) := by decide +kernel
theorem dX2_change_19 : decode cX2_change 19 = .ok (.arraylength, 1) := by decide +kernel
theorem dX2_change_20 : decode cX2_change 20 = .ok (.if_icmp .ge 14, 3) := by decide +kernel
theorem dX2_change_23 : decode cX2_change 23 = .ok (.aload_n 0, 1) := by decide +kernel
theorem dX2_change_24 : decode cX2_change 24 = .ok (.getfield 9, 3) := by decide +kernel
theorem dX2_change_27 : decode cX2_change 27 = .ok (.iload 4, 2) := by decide +kernel
theorem dX2_change_29 : decode cX2_change 29 = .ok (.dup2, 1) := by decide +kernel
theorem dX2_change_30 : decode cX2_change 30 = .ok (.iaload, 1) := by decide +kernel
theorem dX2_change_31 : decode cX2_change 31 = .ok (.iload_n 3, 1) := by decide +kernel
theorem dX2_change_32 : decode cX2_change 32 = .ok (.iadd, 1) := by decide +kernel
theorem dX2_change_33 : decode cX2_change 33 = .ok (.iastore, 1) := by decide +kernel
theorem dX2_change_34 : decode cX2_change 34 = .ok (.return_, 1) := by decide +kernel
abbrev rm_X2_change : Room := { frames := 0, cells := 0, slots := 0, locals := 0 }
def w_X2_change : List Cond := Cond.code yX2_change cX2_change 5 none :: uw
set_option maxHeartbeats 4000000 in
set_option maxRecDepth 100000 in
theorem c_X2_change (l : Launch) (dC : Nat → ClassId) (dI : Nat → Nat → Nat) (cI cZ cO : ClassId) (tL sz : Nat) (h0 : Nat) (h1 : Nat) (g0_sheet : Nat) (f1 : Nat → Int32) (p1 : Int32) (p2 : Int32) (p3 : Int32) (res : (Nat → Int32)) (hM : m_X2_change f1 p1 p2 p3 = some res) : Met l yX2_change w_X2_change rm_X2_change (PCx [.ref h0, .int p1, .int p2, .int p3] (dC, dI) [(cI, .int), (cZ, .boolean), (cO, .object "ListPainter$Settings")] sz tL [(h0, .inr (2, [.ref g0_sheet, .ref h1])), (h1, .inl (cI, 1024, .inl f1))]) (QMv (dC, dI) [(cI, .int), (cZ, .boolean), (cO, .object "ListPainter$Settings")] (va_A [(h0, .inr (2, [.ref g0_sheet, .ref h1])), (h1, .inl (cI, 1024, .inl f1))] sz) [(h0, .inr (2, [.ref g0_sheet, .ref h1])), (h1, .inl (cI, 1024, .inl res))]) 0 0 (va_A [(h0, .inr (2, [.ref g0_sheet, .ref h1])), (h1, .inl (cI, 1024, .inl f1))] sz) := by
  refine Met.ofW (cc := cX2_change) (maxL := 5) (ret := none) (by decide) rfl ?_
  intro p e s m args below meth c s₁ B hml hv
  obtain ⟨rfl, hsz, hP, hK, hD0, hG⟩ := hv
  have hx := B.exec
  have hb := B.bytes
  have hr := B.returns
  have hu : ∀ w ∈ uw, w.before ([.ref h0, .int p1, .int p2, .int p3] : List Value).toArray s = true := fun w h => atoms_spec (ws := w_X2_change) B.pre w (List.mem_cons_of_mem _ h)
  have hown : s.vm.findClass RX2 = some m.cls := findClass_of_methodNamed B.named
  have hlocks := B.notSynchronized
  subst hsz
  have hD := hD0.self (sz := s.heap.size)
  generalize hAe : va_A [(h0, .inr (2, [.ref g0_sheet, .ref h1])), (h1, .inl (cI, 1024, .inl f1))] s.heap.size = A at hD hG ⊢
  have hA : ∀ q : Nat, s.heap.size ≤ q → A q := fun q h => by rw [← hAe]; exact Or.inr h
  have hS : va_S A s.heap s.heap [] := va_S.rf
  have hP : va_P (dC, dI) vwCl [(h0, .inr (2, [.ref g0_sheet, .ref h1])), (h1, .inl (cI, 1024, .inl f1))] s.heap := hP
  have hl := lv_entry ([.ref h0, .int p1, .int p2, .int p3]) (n := 5) (Nat.le_of_ble_eq_true rfl)
  rw [lg_entry_eq]
  generalize (lg_sl ([.ref h0, .int p1, .int p2, .int p3]) ++ List.replicate (5 - (lg_sl ([.ref h0, .int p1, .int p2, .int p3])).length) Slot.unset).toArray = ls at hl ⊢
  have hl : lv_has ls 5 [(0, .ref h0), (1, .int p1), (2, .int p2), (3, .int p3)] := hl
  rw [m_X2_change] at hM
  suffices hgo : ∀ (H : Heap) (locs : List Loc), va_P (dC, dI) vwCl [(h0, .inr (2, [.ref g0_sheet, .ref h1])), (h1, .inl (cI, 1024, .inl f1))] H → va_D A [(h0, .inr (2, [.ref g0_sheet, .ref h1])), (h1, .inl (cI, 1024, .inl f1))] → va_S A s.heap H locs → W p l e (headSpec w_X2_change rm_X2_change).room s m ([.ref h0, .int p1, .int p2, .int p3] : List Value).toArray below meth c H locs 0 0 (MQ below (QMv (dC, dI) [(cI, .int), (cZ, .boolean), (cO, .object "ListPainter$Settings")] A [(h0, .inr (2, [.ref g0_sheet, .ref h1])), (h1, .inl (cI, 1024, .inl res))]) ([.ref h0, .int p1, .int p2, .int p3] : List Value).toArray s 0 0 A) (F0 m 0 ls []) from hgo _ _ hP hD hS
  intro H locs hP hD hS
  refine lv_iload_n hx hb dX2_change_0 rfl (lv_at hl 1 rfl) ?_
  refine lv_bipush (v := 32) hx hb dX2_change_1 (by decide) ?_
  refine lv_imul hx hb dX2_change_3 ?_
  refine lv_iload_n hx hb dX2_change_4 rfl (lv_at hl 2 rfl) ?_
  refine lv_iadd hx hb dX2_change_5 ?_
  refine lv_topi (fun x_1 ex_1 => ?_)
  have hM := nm_u ex_1 hM
  refine lv_istore (lv' := [(4, .int x_1), (0, .ref h0), (1, .int p1), (2, .int p2), (3, .int p3)]) hx hb dX2_change_6 hl (by decide) rfl (fun ls hl => ?_)
  refine lv_iload hx hb dX2_change_8 (lv_at hl 0 rfl) ?_
  refine lv_if_lt (tgt := 34) hx hb dX2_change_10 (by decide) (fun c_2 => ?_) (fun c_2 => ?_)
  · have hM := if_t c_2 hM
    have h9 := Option.some.inj hM
    subst h9
    exact W.vret hx hb hr (fun t ht hW => QMv_mk (by rw [ht]; exact hP) (va_K.moved hW.alike hK) hD (hS.F ht)) hS.2.2 dX2_change_34
  · have hM := if_f c_2 hM
    refine lv_iload hx hb dX2_change_13 (lv_at hl 0 rfl) ?_
    refine lv_aload_n hx hb dX2_change_15 rfl (lv_at hl 1 rfl) ?_
    refine va_get (D := (dC, dI)) (ci := 2) (v := .ref h1) (C := RX2) (T := TX2) (N := 2) hx hb hu inX2 hown hK hP 0 rfl rfl 1 (by decide) (hu _ kw_168) (fun _ h9 => h9) rfl dX2_change_16 ?_
    refine va_alen hx hb hK hP 1 0 rfl rfl (v := Int32.ofNat 1024) rfl dX2_change_19 ?_
    refine lv_icmp_ge (tgt := 34) hx hb dX2_change_20 (by decide) (fun c_3 => ?_) (fun c_3 => ?_)
    · have hM := if_t c_3 hM
      have h9 := Option.some.inj hM
      subst h9
      exact W.vret hx hb hr (fun t ht hW => QMv_mk (by rw [ht]; exact hP) (va_K.moved hW.alike hK) hD (hS.F ht)) hS.2.2 dX2_change_34
    · have hM := if_f c_3 hM
      refine lv_aload_n hx hb dX2_change_23 rfl (lv_at hl 1 rfl) ?_
      refine va_get (D := (dC, dI)) (ci := 2) (v := .ref h1) (C := RX2) (T := TX2) (N := 2) hx hb hu inX2 hown hK hP 0 rfl rfl 1 (by decide) (hu _ kw_168) (fun _ h9 => h9) rfl dX2_change_24 ?_
      refine lv_iload hx hb dX2_change_27 (lv_at hl 0 rfl) ?_
      refine lv_dup2_11 hx hb dX2_change_29 rfl rfl ?_
      obtain ⟨g_4, hM⟩ := gd_u hM
      refine va_iald hx hb hK hP 1 0 rfl rfl (inb_v g_4) dX2_change_30 ?_
      refine lv_topi (fun a_5 ea_5 => ?_)
      have hM := nm_u ea_5 hM
      refine lv_iload_n hx hb dX2_change_31 rfl (lv_at hl 4 rfl) ?_
      refine lv_iadd hx hb dX2_change_32 ?_
      refine lv_topi (fun y_6 ey_6 => ?_)
      have hM := nm_u ey_6 hM
      obtain ⟨g_7, hM⟩ := gd_u hM
      refine va_iast hx hb hK hP hD hS 1 0 rfl rfl (inb_v g_7) dX2_change_33 (fun H locs hP hD hS => ?_)
      obtain ⟨f1_8, ef1_8⟩ : ∃ g : Nat → Int32, g = upd f1 (x_1 : Int32).toNatClampNeg y_6 := ⟨_, rfl⟩
      have hM := nm_u ef1_8 hM
      have hP : va_P (dC, dI) vwCl [(h0, .inr (2, [.ref g0_sheet, .ref h1])), (h1, .inl (cI, 1024, .inl f1_8))] H := by rw [ef1_8]; exact hP
      have hD : va_D A [(h0, .inr (2, [.ref g0_sheet, .ref h1])), (h1, .inl (cI, 1024, .inl f1_8))] := by rw [ef1_8]; exact hD
      have h9 := Option.some.inj hM
      subst h9
      exact W.vret hx hb hr (fun t ht hW => QMv_mk (by rw [ht]; exact hP) (va_K.moved hW.alike hK) hD (hS.F ht)) hS.2.2 dX2_change_34
theorem dX2_addLine_0 : decode cX2_addLine 0 = .ok (.aload_n 1, 1) := by decide +kernel
theorem dX2_addLine_1 : decode cX2_addLine 1 = .ok (.getfield 55, 3) := by decide +kernel
theorem dX2_addLine_4 : decode cX2_addLine 4 = .ok (.iload_n 2, 1) := by decide +kernel
theorem dX2_addLine_5 : decode cX2_addLine 5 = .ok (.iaload, 1) := by decide +kernel
theorem dX2_addLine_6 : decode cX2_addLine 6 = .ok (.aload_n 1, 1) := by decide +kernel
theorem dX2_addLine_7 : decode cX2_addLine 7 = .ok (.getfield 55, 3) := by decide +kernel
theorem dX2_addLine_10 : decode cX2_addLine 10 = .ok (.iload_n 3, 1) := by decide +kernel
theorem dX2_addLine_11 : decode cX2_addLine 11 = .ok (.iaload, 1) := by decide +kernel
theorem dX2_addLine_12 : decode cX2_addLine 12 = .ok (.if_icmp .ge 7, 3) := by decide +kernel
theorem dX2_addLine_15 : decode cX2_addLine 15 = .ok (.iconst 1, 1) := by decide +kernel
theorem dX2_addLine_16 : decode cX2_addLine 16 = .ok (.goto 4, 3) := by decide +kernel
theorem dX2_addLine_19 : decode cX2_addLine 19 = .ok (.iconst 0, 1) := by decide +kernel
theorem dX2_addLine_20 : decode cX2_addLine 20 = .ok (.istore 5, 2) := by decide +kernel
theorem dX2_addLine_22 : decode cX2_addLine 22 = .ok (.iload 5, 2) := by decide +kernel
theorem dX2_addLine_24 : decode cX2_addLine 24 = .ok (.ifCond .eq 7, 3) := by decide +kernel
theorem dX2_addLine_27 : decode cX2_addLine 27 = .ok (.iload_n 2, 1) := by decide +kernel
theorem dX2_addLine_28 : decode cX2_addLine 28 = .ok (.goto 4, 3) := by decide +kernel
theorem dX2_addLine_31 : decode cX2_addLine 31 = .ok (.iload_n 3, 1) := by decide +kernel
theorem dX2_addLine_32 : decode cX2_addLine 32 = .ok (.istore 6, 2) := by decide +kernel
theorem dX2_addLine_34 : decode cX2_addLine 34 = .ok (.iload 5, 2) := by decide +kernel
theorem dX2_addLine_36 : decode cX2_addLine 36 = .ok (.ifCond .eq 7, 3) := by decide +kernel
theorem dX2_addLine_39 : decode cX2_addLine 39 = .ok (.iload_n 3, 1) := by decide +kernel
theorem dX2_addLine_40 : decode cX2_addLine 40 = .ok (.goto 4, 3) := by decide +kernel
theorem dX2_addLine_43 : decode cX2_addLine 43 = .ok (.iload_n 2, 1) := by decide +kernel
theorem dX2_addLine_44 : decode cX2_addLine 44 = .ok (.istore 7, 2) := by decide +kernel
theorem dX2_addLine_46 : decode cX2_addLine 46 = .ok (.aload 4, 2) := by decide +kernel
theorem dX2_addLine_48 : decode cX2_addLine 48 = .ok (.getfield 43, 3) := by decide +kernel
theorem dX2_addLine_51 : decode cX2_addLine 51 = .ok (.aload_n 1, 1) := by decide +kernel
theorem dX2_addLine_52 : decode cX2_addLine 52 = .ok (.getfield 55, 3) := by decide +kernel
theorem dX2_addLine_55 : decode cX2_addLine 55 = .ok (.iload 6, 2) := by decide +kernel
theorem dX2_addLine_57 : decode cX2_addLine 57 = .ok (.iaload, 1) := by decide +kernel
theorem dX2_addLine_58 : decode cX2_addLine 58 = .ok (.invokestatic 58, 3) := by decide +kernel
theorem dX2_addLine_61 : decode cX2_addLine 61 = .ok (.invokestatic 62, 3) := by decide +kernel
theorem dX2_addLine_64 : decode cX2_addLine 64 = .ok (.istore 8, 2) := by decide +kernel
theorem dX2_addLine_66 : decode cX2_addLine 66 = .ok (.aload 4, 2) := by decide +kernel
theorem dX2_addLine_68 : decode cX2_addLine 68 = .ok (.getfield 48, 3) := by decide +kernel
theorem dX2_addLine_71 : decode cX2_addLine 71 = .ok (.aload_n 1, 1) := by decide +kernel
theorem dX2_addLine_72 : decode cX2_addLine 72 = .ok (.getfield 55, 3) := by decide +kernel
theorem dX2_addLine_75 : decode cX2_addLine 75 = .ok (.iload 7, 2) := by decide +kernel
theorem dX2_addLine_77 : decode cX2_addLine 77 = .ok (.iaload, 1) := by decide +kernel
theorem dX2_addLine_78 : decode cX2_addLine 78 = .ok (.invokestatic 58, 3) := by decide +kernel
theorem dX2_addLine_81 : decode cX2_addLine 81 = .ok (.invokestatic 67, 3) := by decide +kernel
theorem dX2_addLine_84 : decode cX2_addLine 84 = .ok (.istore 9, 2) := by decide +kernel
theorem dX2_addLine_86 : decode cX2_addLine 86 = .ok (.iload 8, 2) := by decide +kernel
theorem dX2_addLine_88 : decode cX2_addLine 88 = .ok (.istore 10, 2) := by decide +kernel
theorem dX2_addLine_90 : decode cX2_addLine 90 = .ok (.iload 10, 2) := by decide +kernel
theorem dX2_addLine_92 : decode cX2_addLine 92 = .ok (.iload 9, 2) := by decide +kernel
theorem dX2_addLine_94 : decode cX2_addLine 94 = .ok (.if_icmp .ge 57, 3) := by decide +kernel
theorem dX2_addLine_97 : decode cX2_addLine 97 = .ok (.aload 4, 2) := by decide +kernel
theorem dX2_addLine_99 : decode cX2_addLine 99 = .ok (.getfield 70, 3) := by decide +kernel
theorem dX2_addLine_102 : decode cX2_addLine 102 = .ok (.aload_n 1, 1) := by decide +kernel
theorem dX2_addLine_103 : decode cX2_addLine 103 = .ok (.iload 6, 2) := by decide +kernel
theorem dX2_addLine_105 : decode cX2_addLine 105 = .ok (.iload 7, 2) := by decide +kernel
theorem dX2_addLine_107 : decode cX2_addLine 107 = .ok (.iload 10, 2) := by decide +kernel
theorem dX2_addLine_109 : decode cX2_addLine 109 = .ok (.invokestatic 73, 3) := by decide +kernel
theorem dX2_addLine_112 : decode cX2_addLine 112 = .ok (.invokestatic 62, 3) := by decide +kernel
theorem dX2_addLine_115 : decode cX2_addLine 115 = .ok (.istore 11, 2) := by decide +kernel
theorem dX2_addLine_117 : decode cX2_addLine 117 = .ok (.iload 11, 2) := by decide +kernel
theorem dX2_addLine_119 : decode cX2_addLine 119 = .ok (.aload 4, 2) := by decide +kernel
theorem dX2_addLine_121 : decode cX2_addLine 121 = .ok (.getfield 77, 3) := by decide +kernel
theorem dX2_addLine_124 : decode cX2_addLine 124 = .ok (.if_icmp .ge 21, 3) := by decide +kernel
theorem dX2_addLine_127 : decode cX2_addLine 127 = .ok (.aload_n 0, 1) := by decide +kernel
theorem dX2_addLine_128 : decode cX2_addLine 128 = .ok (.iload 10, 2) := by decide +kernel
theorem dX2_addLine_130 : decode cX2_addLine 130 = .ok (.iload 11, 2) := by decide +kernel
theorem dX2_addLine_132 : decode cX2_addLine 132 = .ok (.iload 5, 2) := by decide +kernel
theorem dX2_addLine_134 : decode cX2_addLine 134 = .ok (.ifCond .eq 7, 3) := by decide +kernel
theorem dX2_addLine_137 : decode cX2_addLine 137 = .ok (.iconst 1, 1) := by decide +kernel
theorem dX2_addLine_138 : decode cX2_addLine 138 = .ok (.goto 4, 3) := by decide +kernel
theorem dX2_addLine_141 : decode cX2_addLine 141 = .ok (.iconst (-1), 1) := by decide +kernel
theorem dX2_addLine_142 : decode cX2_addLine 142 = .ok (.invokevirtual 80, 3) := by decide +kernel
theorem dX2_addLine_145 : decode cX2_addLine 145 = .ok (.iinc 10 1, 3) := by decide +kernel
theorem dX2_addLine_148 : decode cX2_addLine 148 = .ok (.goto (-58), 3) := by decide +kernel
theorem dX2_addLine_151 : decode cX2_addLine 151 = .ok (.return_, 1) := by decide +kernel
abbrev rm_X2_addLine : Room := { frames := 2, cells := 0, slots := 0, locals := 56 }
def w_X2_addLine : List Cond := Cond.code yX2_addLine cX2_addLine 12 none :: uw
set_option maxHeartbeats 4000000 in
set_option maxRecDepth 100000 in
theorem c_X2_addLine (l : Launch) (dC : Nat → ClassId) (dI : Nat → Nat → Nat) (cI cZ cO : ClassId) (tL sz : Nat) (h0 : Nat) (h1 : Nat) (h2 : Nat) (h3 : Nat) (h4 : Nat) (h5 : Nat) (g0_begins : Nat) (g4_sheet : Nat) (v0_points : Int32) (v0_lines : Int32) (v0_first : Int32) (v0_firstToldX : Int32) (v0_firstToldY : Int32) (v0_lastToldX : Int32) (v0_lastToldY : Int32) (v0_leastX : Int32) (v0_leastY : Int32) (v0_greatestY : Int32) (f1 : Nat → Int32) (v2_x : Int32) (v2_y : Int32) (v2_endX : Int32) (v2_endY : Int32) (f3 : Nat → Int32) (f5 : Nat → Int32) (p2 : Int32) (p3 : Int32) (res : (Nat → Int32)) (hM : m_X2_addLine f1 v2_x v2_y v2_endX v2_endY f3 f5 p2 p3 = some res) : Met l yX2_addLine w_X2_addLine rm_X2_addLine (PCx [.ref h4, .ref h0, .int p2, .int p3, .ref h2] (dC, dI) [(cI, .int), (cZ, .boolean), (cO, .object "ListPainter$Settings")] sz tL [(h0, .inr (4, [.ref h3, .ref h1, .ref g0_begins, .int v0_points, .int v0_lines, .int v0_first, .int v0_firstToldX, .int v0_firstToldY, .int v0_lastToldX, .int v0_lastToldY, .int v0_leastX, .int v0_leastY, .int v0_greatestY])), (h1, .inl (cI, 800, .inl f1)), (h2, .inr (1, [.int v2_x, .int v2_y, .int v2_endX, .int v2_endY])), (h3, .inl (cI, 800, .inl f3)), (h4, .inr (2, [.ref g4_sheet, .ref h5])), (h5, .inl (cI, 1024, .inl f5))]) (QMv (dC, dI) [(cI, .int), (cZ, .boolean), (cO, .object "ListPainter$Settings")] (va_A [(h0, .inr (4, [.ref h3, .ref h1, .ref g0_begins, .int v0_points, .int v0_lines, .int v0_first, .int v0_firstToldX, .int v0_firstToldY, .int v0_lastToldX, .int v0_lastToldY, .int v0_leastX, .int v0_leastY, .int v0_greatestY])), (h1, .inl (cI, 800, .inl f1)), (h2, .inr (1, [.int v2_x, .int v2_y, .int v2_endX, .int v2_endY])), (h3, .inl (cI, 800, .inl f3)), (h4, .inr (2, [.ref g4_sheet, .ref h5])), (h5, .inl (cI, 1024, .inl f5))] sz) [(h0, .inr (4, [.ref h3, .ref h1, .ref g0_begins, .int v0_points, .int v0_lines, .int v0_first, .int v0_firstToldX, .int v0_firstToldY, .int v0_lastToldX, .int v0_lastToldY, .int v0_leastX, .int v0_leastY, .int v0_greatestY])), (h1, .inl (cI, 800, .inl f1)), (h2, .inr (1, [.int v2_x, .int v2_y, .int v2_endX, .int v2_endY])), (h3, .inl (cI, 800, .inl f3)), (h4, .inr (2, [.ref g4_sheet, .ref h5])), (h5, .inl (cI, 1024, .inl res))]) 0 0 (va_A [(h0, .inr (4, [.ref h3, .ref h1, .ref g0_begins, .int v0_points, .int v0_lines, .int v0_first, .int v0_firstToldX, .int v0_firstToldY, .int v0_lastToldX, .int v0_lastToldY, .int v0_leastX, .int v0_leastY, .int v0_greatestY])), (h1, .inl (cI, 800, .inl f1)), (h2, .inr (1, [.int v2_x, .int v2_y, .int v2_endX, .int v2_endY])), (h3, .inl (cI, 800, .inl f3)), (h4, .inr (2, [.ref g4_sheet, .ref h5])), (h5, .inl (cI, 1024, .inl f5))] sz) := by
  refine Met.ofW (cc := cX2_addLine) (maxL := 12) (ret := none) (by decide) rfl ?_
  intro p e s m args below meth c s₁ B hml hv
  obtain ⟨rfl, hsz, hP, hK, hD0, hG⟩ := hv
  have hx := B.exec
  have hb := B.bytes
  have hr := B.returns
  have hu : ∀ w ∈ uw, w.before ([.ref h4, .ref h0, .int p2, .int p3, .ref h2] : List Value).toArray s = true := fun w h => atoms_spec (ws := w_X2_addLine) B.pre w (List.mem_cons_of_mem _ h)
  have hown : s.vm.findClass RX2 = some m.cls := findClass_of_methodNamed B.named
  have hlocks := B.notSynchronized
  subst hsz
  have hD := hD0.self (sz := s.heap.size)
  generalize hAe : va_A [(h0, .inr (4, [.ref h3, .ref h1, .ref g0_begins, .int v0_points, .int v0_lines, .int v0_first, .int v0_firstToldX, .int v0_firstToldY, .int v0_lastToldX, .int v0_lastToldY, .int v0_leastX, .int v0_leastY, .int v0_greatestY])), (h1, .inl (cI, 800, .inl f1)), (h2, .inr (1, [.int v2_x, .int v2_y, .int v2_endX, .int v2_endY])), (h3, .inl (cI, 800, .inl f3)), (h4, .inr (2, [.ref g4_sheet, .ref h5])), (h5, .inl (cI, 1024, .inl f5))] s.heap.size = A at hD hG ⊢
  have hA : ∀ q : Nat, s.heap.size ≤ q → A q := fun q h => by rw [← hAe]; exact Or.inr h
  have hS : va_S A s.heap s.heap [] := va_S.rf
  have hP : va_P (dC, dI) vwCl [(h0, .inr (4, [.ref h3, .ref h1, .ref g0_begins, .int v0_points, .int v0_lines, .int v0_first, .int v0_firstToldX, .int v0_firstToldY, .int v0_lastToldX, .int v0_lastToldY, .int v0_leastX, .int v0_leastY, .int v0_greatestY])), (h1, .inl (cI, 800, .inl f1)), (h2, .inr (1, [.int v2_x, .int v2_y, .int v2_endX, .int v2_endY])), (h3, .inl (cI, 800, .inl f3)), (h4, .inr (2, [.ref g4_sheet, .ref h5])), (h5, .inl (cI, 1024, .inl f5))] s.heap := hP
  have hl := lv_entry ([.ref h4, .ref h0, .int p2, .int p3, .ref h2]) (n := 12) (Nat.le_of_ble_eq_true rfl)
  rw [lg_entry_eq]
  generalize (lg_sl ([.ref h4, .ref h0, .int p2, .int p3, .ref h2]) ++ List.replicate (12 - (lg_sl ([.ref h4, .ref h0, .int p2, .int p3, .ref h2])).length) Slot.unset).toArray = ls at hl ⊢
  have hl : lv_has ls 12 [(0, .ref h4), (1, .ref h0), (2, .int p2), (3, .int p3), (4, .ref h2)] := hl
  rw [m_X2_addLine] at hM
  suffices hgo : ∀ (H : Heap) (locs : List Loc), va_P (dC, dI) vwCl [(h0, .inr (4, [.ref h3, .ref h1, .ref g0_begins, .int v0_points, .int v0_lines, .int v0_first, .int v0_firstToldX, .int v0_firstToldY, .int v0_lastToldX, .int v0_lastToldY, .int v0_leastX, .int v0_leastY, .int v0_greatestY])), (h1, .inl (cI, 800, .inl f1)), (h2, .inr (1, [.int v2_x, .int v2_y, .int v2_endX, .int v2_endY])), (h3, .inl (cI, 800, .inl f3)), (h4, .inr (2, [.ref g4_sheet, .ref h5])), (h5, .inl (cI, 1024, .inl f5))] H → va_D A [(h0, .inr (4, [.ref h3, .ref h1, .ref g0_begins, .int v0_points, .int v0_lines, .int v0_first, .int v0_firstToldX, .int v0_firstToldY, .int v0_lastToldX, .int v0_lastToldY, .int v0_leastX, .int v0_leastY, .int v0_greatestY])), (h1, .inl (cI, 800, .inl f1)), (h2, .inr (1, [.int v2_x, .int v2_y, .int v2_endX, .int v2_endY])), (h3, .inl (cI, 800, .inl f3)), (h4, .inr (2, [.ref g4_sheet, .ref h5])), (h5, .inl (cI, 1024, .inl f5))] → va_S A s.heap H locs → W p l e (headSpec w_X2_addLine rm_X2_addLine).room s m ([.ref h4, .ref h0, .int p2, .int p3, .ref h2] : List Value).toArray below meth c H locs 0 0 (MQ below (QMv (dC, dI) [(cI, .int), (cZ, .boolean), (cO, .object "ListPainter$Settings")] A [(h0, .inr (4, [.ref h3, .ref h1, .ref g0_begins, .int v0_points, .int v0_lines, .int v0_first, .int v0_firstToldX, .int v0_firstToldY, .int v0_lastToldX, .int v0_lastToldY, .int v0_leastX, .int v0_leastY, .int v0_greatestY])), (h1, .inl (cI, 800, .inl f1)), (h2, .inr (1, [.int v2_x, .int v2_y, .int v2_endX, .int v2_endY])), (h3, .inl (cI, 800, .inl f3)), (h4, .inr (2, [.ref g4_sheet, .ref h5])), (h5, .inl (cI, 1024, .inl res))]) ([.ref h4, .ref h0, .int p2, .int p3, .ref h2] : List Value).toArray s 0 0 A) (F0 m 0 ls []) from hgo _ _ hP hD hS
  intro H locs hP hD hS
  refine lv_aload_n hx hb dX2_addLine_0 rfl (lv_at hl 1 rfl) ?_
  refine va_getN (D := (dC, dI)) (ci := 4) (v := .ref h1) (C := RX5) (T := TX5) (N := 13) hx hb hu inX5 hown hK hP 0 rfl rfl 1 (by decide) (gX_nest hG 118 kw_160 rfl) (fun _ h9 => h9) rfl dX2_addLine_1 ?_
  refine lv_iload_n hx hb dX2_addLine_4 rfl (lv_at hl 2 rfl) ?_
  obtain ⟨g_1, hM⟩ := gd_u hM
  refine va_iald hx hb hK hP 1 0 rfl rfl (inb_v g_1) dX2_addLine_5 ?_
  refine lv_topi (fun a_2 ea_2 => ?_)
  have hM := nm_u ea_2 hM
  refine lv_aload_n hx hb dX2_addLine_6 rfl (lv_at hl 1 rfl) ?_
  refine va_getN (D := (dC, dI)) (ci := 4) (v := .ref h1) (C := RX5) (T := TX5) (N := 13) hx hb hu inX5 hown hK hP 0 rfl rfl 1 (by decide) (gX_nest hG 118 kw_160 rfl) (fun _ h9 => h9) rfl dX2_addLine_7 ?_
  refine lv_iload_n hx hb dX2_addLine_10 rfl (lv_at hl 3 rfl) ?_
  obtain ⟨g_3, hM⟩ := gd_u hM
  refine va_iald hx hb hK hP 1 0 rfl rfl (inb_v g_3) dX2_addLine_11 ?_
  refine lv_topi (fun a_4 ea_4 => ?_)
  have hM := nm_u ea_4 hM
  obtain ⟨K20_6, eK20_6, hM⟩ := jn_u hM
  have hJ20_6 : ∀ (s0_5 : Int32) , zb s0_5 → ∀ (H : Heap) (locs : List Loc) (ls : Array Slot), va_P (dC, dI) vwCl [(h0, .inr (4, [.ref h3, .ref h1, .ref g0_begins, .int v0_points, .int v0_lines, .int v0_first, .int v0_firstToldX, .int v0_firstToldY, .int v0_lastToldX, .int v0_lastToldY, .int v0_leastX, .int v0_leastY, .int v0_greatestY])), (h1, .inl (cI, 800, .inl f1)), (h2, .inr (1, [.int v2_x, .int v2_y, .int v2_endX, .int v2_endY])), (h3, .inl (cI, 800, .inl f3)), (h4, .inr (2, [.ref g4_sheet, .ref h5])), (h5, .inl (cI, 1024, .inl f5))] H → va_D A [(h0, .inr (4, [.ref h3, .ref h1, .ref g0_begins, .int v0_points, .int v0_lines, .int v0_first, .int v0_firstToldX, .int v0_firstToldY, .int v0_lastToldX, .int v0_lastToldY, .int v0_leastX, .int v0_leastY, .int v0_greatestY])), (h1, .inl (cI, 800, .inl f1)), (h2, .inr (1, [.int v2_x, .int v2_y, .int v2_endX, .int v2_endY])), (h3, .inl (cI, 800, .inl f3)), (h4, .inr (2, [.ref g4_sheet, .ref h5])), (h5, .inl (cI, 1024, .inl f5))] → va_S A s.heap H locs → lv_has ls 12 [(0, .ref h4), (1, .ref h0), (2, .int p2), (3, .int p3), (4, .ref h2)] → K20_6 s0_5 = some res → W p l e (headSpec w_X2_addLine rm_X2_addLine).room s m ([.ref h4, .ref h0, .int p2, .int p3, .ref h2] : List Value).toArray below meth c H locs 0 0 (MQ below (QMv (dC, dI) [(cI, .int), (cZ, .boolean), (cO, .object "ListPainter$Settings")] A [(h0, .inr (4, [.ref h3, .ref h1, .ref g0_begins, .int v0_points, .int v0_lines, .int v0_first, .int v0_firstToldX, .int v0_firstToldY, .int v0_lastToldX, .int v0_lastToldY, .int v0_leastX, .int v0_leastY, .int v0_greatestY])), (h1, .inl (cI, 800, .inl f1)), (h2, .inr (1, [.int v2_x, .int v2_y, .int v2_endX, .int v2_endY])), (h3, .inl (cI, 800, .inl f3)), (h4, .inr (2, [.ref g4_sheet, .ref h5])), (h5, .inl (cI, 1024, .inl res))]) ([.ref h4, .ref h0, .int p2, .int p3, .ref h2] : List Value).toArray s 0 0 A) (F0 m 20 ls [.int s0_5]) := by
    intro s0_5 hz_s0_5 H locs ls hP hD hS hl hM
    have hM := ja1 eK20_6 hM
    refine lv_istore (lv' := [(5, .int s0_5), (0, .ref h4), (1, .ref h0), (2, .int p2), (3, .int p3), (4, .ref h2)]) hx hb dX2_addLine_20 hl (by decide) rfl (fun ls hl => ?_)
    refine lv_iload hx hb dX2_addLine_22 (lv_at hl 0 rfl) ?_
    obtain ⟨K32_8, eK32_8, hM⟩ := jn_u hM
    have hJ32_8 : ∀ (s0_7 : Int32) , ∀ (H : Heap) (locs : List Loc) (ls : Array Slot), va_P (dC, dI) vwCl [(h0, .inr (4, [.ref h3, .ref h1, .ref g0_begins, .int v0_points, .int v0_lines, .int v0_first, .int v0_firstToldX, .int v0_firstToldY, .int v0_lastToldX, .int v0_lastToldY, .int v0_leastX, .int v0_leastY, .int v0_greatestY])), (h1, .inl (cI, 800, .inl f1)), (h2, .inr (1, [.int v2_x, .int v2_y, .int v2_endX, .int v2_endY])), (h3, .inl (cI, 800, .inl f3)), (h4, .inr (2, [.ref g4_sheet, .ref h5])), (h5, .inl (cI, 1024, .inl f5))] H → va_D A [(h0, .inr (4, [.ref h3, .ref h1, .ref g0_begins, .int v0_points, .int v0_lines, .int v0_first, .int v0_firstToldX, .int v0_firstToldY, .int v0_lastToldX, .int v0_lastToldY, .int v0_leastX, .int v0_leastY, .int v0_greatestY])), (h1, .inl (cI, 800, .inl f1)), (h2, .inr (1, [.int v2_x, .int v2_y, .int v2_endX, .int v2_endY])), (h3, .inl (cI, 800, .inl f3)), (h4, .inr (2, [.ref g4_sheet, .ref h5])), (h5, .inl (cI, 1024, .inl f5))] → va_S A s.heap H locs → lv_has ls 12 [(0, .ref h4), (1, .ref h0), (2, .int p2), (3, .int p3), (4, .ref h2), (5, .int s0_5)] → K32_8 s0_7 = some res → W p l e (headSpec w_X2_addLine rm_X2_addLine).room s m ([.ref h4, .ref h0, .int p2, .int p3, .ref h2] : List Value).toArray below meth c H locs 0 0 (MQ below (QMv (dC, dI) [(cI, .int), (cZ, .boolean), (cO, .object "ListPainter$Settings")] A [(h0, .inr (4, [.ref h3, .ref h1, .ref g0_begins, .int v0_points, .int v0_lines, .int v0_first, .int v0_firstToldX, .int v0_firstToldY, .int v0_lastToldX, .int v0_lastToldY, .int v0_leastX, .int v0_leastY, .int v0_greatestY])), (h1, .inl (cI, 800, .inl f1)), (h2, .inr (1, [.int v2_x, .int v2_y, .int v2_endX, .int v2_endY])), (h3, .inl (cI, 800, .inl f3)), (h4, .inr (2, [.ref g4_sheet, .ref h5])), (h5, .inl (cI, 1024, .inl res))]) ([.ref h4, .ref h0, .int p2, .int p3, .ref h2] : List Value).toArray s 0 0 A) (F0 m 32 ls [.int s0_7]) := by
      intro s0_7 H locs ls hP hD hS hl hM
      have hM := ja1 eK32_8 hM
      refine lv_istore (lv' := [(6, .int s0_7), (0, .ref h4), (1, .ref h0), (2, .int p2), (3, .int p3), (4, .ref h2), (5, .int s0_5)]) hx hb dX2_addLine_32 hl (by decide) rfl (fun ls hl => ?_)
      refine lv_iload hx hb dX2_addLine_34 (lv_at hl 6 rfl) ?_
      obtain ⟨K44_10, eK44_10, hM⟩ := jn_u hM
      have hJ44_10 : ∀ (s0_9 : Int32) , ∀ (H : Heap) (locs : List Loc) (ls : Array Slot), va_P (dC, dI) vwCl [(h0, .inr (4, [.ref h3, .ref h1, .ref g0_begins, .int v0_points, .int v0_lines, .int v0_first, .int v0_firstToldX, .int v0_firstToldY, .int v0_lastToldX, .int v0_lastToldY, .int v0_leastX, .int v0_leastY, .int v0_greatestY])), (h1, .inl (cI, 800, .inl f1)), (h2, .inr (1, [.int v2_x, .int v2_y, .int v2_endX, .int v2_endY])), (h3, .inl (cI, 800, .inl f3)), (h4, .inr (2, [.ref g4_sheet, .ref h5])), (h5, .inl (cI, 1024, .inl f5))] H → va_D A [(h0, .inr (4, [.ref h3, .ref h1, .ref g0_begins, .int v0_points, .int v0_lines, .int v0_first, .int v0_firstToldX, .int v0_firstToldY, .int v0_lastToldX, .int v0_lastToldY, .int v0_leastX, .int v0_leastY, .int v0_greatestY])), (h1, .inl (cI, 800, .inl f1)), (h2, .inr (1, [.int v2_x, .int v2_y, .int v2_endX, .int v2_endY])), (h3, .inl (cI, 800, .inl f3)), (h4, .inr (2, [.ref g4_sheet, .ref h5])), (h5, .inl (cI, 1024, .inl f5))] → va_S A s.heap H locs → lv_has ls 12 [(0, .ref h4), (1, .ref h0), (4, .ref h2), (5, .int s0_5), (6, .int s0_7)] → K44_10 s0_9 = some res → W p l e (headSpec w_X2_addLine rm_X2_addLine).room s m ([.ref h4, .ref h0, .int p2, .int p3, .ref h2] : List Value).toArray below meth c H locs 0 0 (MQ below (QMv (dC, dI) [(cI, .int), (cZ, .boolean), (cO, .object "ListPainter$Settings")] A [(h0, .inr (4, [.ref h3, .ref h1, .ref g0_begins, .int v0_points, .int v0_lines, .int v0_first, .int v0_firstToldX, .int v0_firstToldY, .int v0_lastToldX, .int v0_lastToldY, .int v0_leastX, .int v0_leastY, .int v0_greatestY])), (h1, .inl (cI, 800, .inl f1)), (h2, .inr (1, [.int v2_x, .int v2_y, .int v2_endX, .int v2_endY])), (h3, .inl (cI, 800, .inl f3)), (h4, .inr (2, [.ref g4_sheet, .ref h5])), (h5, .inl (cI, 1024, .inl res))]) ([.ref h4, .ref h0, .int p2, .int p3, .ref h2] : List Value).toArray s 0 0 A) (F0 m 44 ls [.int s0_9]) := by
        intro s0_9 H locs ls hP hD hS hl hM
        have hM := ja1 eK44_10 hM
        refine lv_istore (lv' := [(7, .int s0_9), (0, .ref h4), (1, .ref h0), (4, .ref h2), (5, .int s0_5), (6, .int s0_7)]) hx hb dX2_addLine_44 hl (by decide) rfl (fun ls hl => ?_)
        refine lv_aload hx hb dX2_addLine_46 (lv_at hl 3 rfl) ?_
        refine va_getN (D := (dC, dI)) (ci := 1) (v := .int v2_y) (C := RX1) (T := TX1) (N := 4) hx hb hu inX1 hown hK hP 2 rfl rfl 1 (by decide) (gX_nest hG 208 kw_169 rfl) (fun _ h9 => h9) rfl dX2_addLine_48 ?_
        refine lv_aload_n hx hb dX2_addLine_51 rfl (lv_at hl 2 rfl) ?_
        refine va_getN (D := (dC, dI)) (ci := 4) (v := .ref h1) (C := RX5) (T := TX5) (N := 13) hx hb hu inX5 hown hK hP 0 rfl rfl 1 (by decide) (gX_nest hG 118 kw_160 rfl) (fun _ h9 => h9) rfl dX2_addLine_52 ?_
        refine lv_iload hx hb dX2_addLine_55 (lv_at hl 5 rfl) ?_
        obtain ⟨g_11, hM⟩ := gd_u hM
        refine va_iald hx hb hK hP 1 0 rfl rfl (inb_v g_11) dX2_addLine_57 ?_
        refine lv_topi (fun a_12 ea_12 => ?_)
        have hM := nm_u ea_12 hM
        obtain ⟨r_13, hm_14, hM⟩ := bd1_u hM
        refine cSi (r := r_13) (As := [.int a_12]) (rest := [.int v2_y]) ⟨hx, hb, hml, hown, hu⟩ (c_X2_firstMiddle l dC dI cI cZ cO tL H.size a_12 r_13 hm_14) (va_cwS 1 hu (gS kw_167 kw_155 kw_156 kw_157) rfl rfl rfl (by decide +kernel) ⟨Nat.le_of_ble_eq_true rfl, Nat.le_of_ble_eq_true rfl⟩) hP hD hS hA hK hG [] (by decide) rfl [none, none, none, none, none, none] 0 rfl (by decide +kernel) rfl rfl hl.1 rfl (Nat.le_of_ble_eq_true rfl) dX2_addLine_58 (Nat.zero_le _) (Nat.zero_le _) (fun H locs hP hD hS => ?_)
        have hP : va_P (dC, dI) vwCl [(h0, .inr (4, [.ref h3, .ref h1, .ref g0_begins, .int v0_points, .int v0_lines, .int v0_first, .int v0_firstToldX, .int v0_firstToldY, .int v0_lastToldX, .int v0_lastToldY, .int v0_leastX, .int v0_leastY, .int v0_greatestY])), (h1, .inl (cI, 800, .inl f1)), (h2, .inr (1, [.int v2_x, .int v2_y, .int v2_endX, .int v2_endY])), (h3, .inl (cI, 800, .inl f3)), (h4, .inr (2, [.ref g4_sheet, .ref h5])), (h5, .inl (cI, 1024, .inl f5))] H := hP
        have hD : va_D A [(h0, .inr (4, [.ref h3, .ref h1, .ref g0_begins, .int v0_points, .int v0_lines, .int v0_first, .int v0_firstToldX, .int v0_firstToldY, .int v0_lastToldX, .int v0_lastToldY, .int v0_leastX, .int v0_leastY, .int v0_greatestY])), (h1, .inl (cI, 800, .inl f1)), (h2, .inr (1, [.int v2_x, .int v2_y, .int v2_endX, .int v2_endY])), (h3, .inl (cI, 800, .inl f3)), (h4, .inr (2, [.ref g4_sheet, .ref h5])), (h5, .inl (cI, 1024, .inl f5))] := hD
        refine va_mmax hx hb (hml.trans hl.1.symm) hown (hu _ kw_170) (hu _ kw_59) (hu _ kw_60) (hu _ kw_61) (Nat.le_of_ble_eq_true rfl) (Nat.le_of_ble_eq_true rfl) (Nat.zero_le _) (Nat.zero_le _) dX2_addLine_61 ?_
        refine lv_topi (fun x_15 ex_15 => ?_)
        have hM := nm_u ex_15 hM
        refine lv_istore (lv' := [(8, .int x_15), (7, .int s0_9), (0, .ref h4), (1, .ref h0), (4, .ref h2), (5, .int s0_5), (6, .int s0_7)]) hx hb dX2_addLine_64 hl (by decide) rfl (fun ls hl => ?_)
        refine lv_aload hx hb dX2_addLine_66 (lv_at hl 4 rfl) ?_
        refine va_getN (D := (dC, dI)) (ci := 1) (v := .int v2_endY) (C := RX1) (T := TX1) (N := 4) hx hb hu inX1 hown hK hP 2 rfl rfl 3 (by decide) (gX_nest hG 216 kw_171 rfl) (fun _ h9 => h9) rfl dX2_addLine_68 ?_
        refine lv_aload_n hx hb dX2_addLine_71 rfl (lv_at hl 3 rfl) ?_
        refine va_getN (D := (dC, dI)) (ci := 4) (v := .ref h1) (C := RX5) (T := TX5) (N := 13) hx hb hu inX5 hown hK hP 0 rfl rfl 1 (by decide) (gX_nest hG 118 kw_160 rfl) (fun _ h9 => h9) rfl dX2_addLine_72 ?_
        refine lv_iload hx hb dX2_addLine_75 (lv_at hl 1 rfl) ?_
        obtain ⟨g_16, hM⟩ := gd_u hM
        refine va_iald hx hb hK hP 1 0 rfl rfl (inb_v g_16) dX2_addLine_77 ?_
        refine lv_topi (fun a_17 ea_17 => ?_)
        have hM := nm_u ea_17 hM
        obtain ⟨r_18, hm_19, hM⟩ := bd1_u hM
        refine cSi (r := r_18) (As := [.int a_17]) (rest := [.int v2_endY]) ⟨hx, hb, hml, hown, hu⟩ (c_X2_firstMiddle l dC dI cI cZ cO tL H.size a_17 r_18 hm_19) (va_cwS 1 hu (gS kw_167 kw_155 kw_156 kw_157) rfl rfl rfl (by decide +kernel) ⟨Nat.le_of_ble_eq_true rfl, Nat.le_of_ble_eq_true rfl⟩) hP hD hS hA hK hG [] (by decide) rfl [none, none, none, none, none, none] 0 rfl (by decide +kernel) rfl rfl hl.1 rfl (Nat.le_of_ble_eq_true rfl) dX2_addLine_78 (Nat.zero_le _) (Nat.zero_le _) (fun H locs hP hD hS => ?_)
        have hP : va_P (dC, dI) vwCl [(h0, .inr (4, [.ref h3, .ref h1, .ref g0_begins, .int v0_points, .int v0_lines, .int v0_first, .int v0_firstToldX, .int v0_firstToldY, .int v0_lastToldX, .int v0_lastToldY, .int v0_leastX, .int v0_leastY, .int v0_greatestY])), (h1, .inl (cI, 800, .inl f1)), (h2, .inr (1, [.int v2_x, .int v2_y, .int v2_endX, .int v2_endY])), (h3, .inl (cI, 800, .inl f3)), (h4, .inr (2, [.ref g4_sheet, .ref h5])), (h5, .inl (cI, 1024, .inl f5))] H := hP
        have hD : va_D A [(h0, .inr (4, [.ref h3, .ref h1, .ref g0_begins, .int v0_points, .int v0_lines, .int v0_first, .int v0_firstToldX, .int v0_firstToldY, .int v0_lastToldX, .int v0_lastToldY, .int v0_leastX, .int v0_leastY, .int v0_greatestY])), (h1, .inl (cI, 800, .inl f1)), (h2, .inr (1, [.int v2_x, .int v2_y, .int v2_endX, .int v2_endY])), (h3, .inl (cI, 800, .inl f3)), (h4, .inr (2, [.ref g4_sheet, .ref h5])), (h5, .inl (cI, 1024, .inl f5))] := hD
        refine va_mmin hx hb (hml.trans hl.1.symm) hown (hu _ kw_172) (hu _ kw_63) (hu _ kw_60) (hu _ kw_64) (Nat.le_of_ble_eq_true rfl) (Nat.le_of_ble_eq_true rfl) (Nat.zero_le _) (Nat.zero_le _) dX2_addLine_81 ?_
        refine lv_topi (fun x_20 ex_20 => ?_)
        have hM := nm_u ex_20 hM
        refine lv_istore (lv' := [(9, .int x_20), (8, .int x_15), (7, .int s0_9), (0, .ref h4), (1, .ref h0), (4, .ref h2), (5, .int s0_5), (6, .int s0_7)]) hx hb dX2_addLine_84 hl (by decide) rfl (fun ls hl => ?_)
        refine lv_iload hx hb dX2_addLine_86 (lv_at hl 1 rfl) ?_
        refine lv_istore (lv' := [(10, .int x_15), (9, .int x_20), (8, .int x_15), (7, .int s0_9), (0, .ref h4), (1, .ref h0), (4, .ref h2), (5, .int s0_5), (6, .int s0_7)]) hx hb dX2_addLine_88 hl (by decide) rfl (fun ls hl => ?_)
        have hL90_23 : ∀ (n : Nat) (l10_21 : Int32) (f5_22 : Nat → Int32) , ∀ (H : Heap) (locs : List Loc) (ls : Array Slot), va_P (dC, dI) vwCl [(h0, .inr (4, [.ref h3, .ref h1, .ref g0_begins, .int v0_points, .int v0_lines, .int v0_first, .int v0_firstToldX, .int v0_firstToldY, .int v0_lastToldX, .int v0_lastToldY, .int v0_leastX, .int v0_leastY, .int v0_greatestY])), (h1, .inl (cI, 800, .inl f1)), (h2, .inr (1, [.int v2_x, .int v2_y, .int v2_endX, .int v2_endY])), (h3, .inl (cI, 800, .inl f3)), (h4, .inr (2, [.ref g4_sheet, .ref h5])), (h5, .inl (cI, 1024, .inl f5_22))] H → va_D A [(h0, .inr (4, [.ref h3, .ref h1, .ref g0_begins, .int v0_points, .int v0_lines, .int v0_first, .int v0_firstToldX, .int v0_firstToldY, .int v0_lastToldX, .int v0_lastToldY, .int v0_leastX, .int v0_leastY, .int v0_greatestY])), (h1, .inl (cI, 800, .inl f1)), (h2, .inr (1, [.int v2_x, .int v2_y, .int v2_endX, .int v2_endY])), (h3, .inl (cI, 800, .inl f3)), (h4, .inr (2, [.ref g4_sheet, .ref h5])), (h5, .inl (cI, 1024, .inl f5_22))] → va_S A s.heap H locs → lv_has ls 12 [(0, .ref h4), (1, .ref h0), (4, .ref h2), (5, .int s0_5), (6, .int s0_7), (7, .int s0_9), (9, .int x_20), (10, .int l10_21)] → lp_X2_addLine_90 x_20 f1 f3 s0_7 s0_9 v2_x v2_endX s0_5 n l10_21 f5_22 = some res → W p l e (headSpec w_X2_addLine rm_X2_addLine).room s m ([.ref h4, .ref h0, .int p2, .int p3, .ref h2] : List Value).toArray below meth c H locs 0 0 (MQ below (QMv (dC, dI) [(cI, .int), (cZ, .boolean), (cO, .object "ListPainter$Settings")] A [(h0, .inr (4, [.ref h3, .ref h1, .ref g0_begins, .int v0_points, .int v0_lines, .int v0_first, .int v0_firstToldX, .int v0_firstToldY, .int v0_lastToldX, .int v0_lastToldY, .int v0_leastX, .int v0_leastY, .int v0_greatestY])), (h1, .inl (cI, 800, .inl f1)), (h2, .inr (1, [.int v2_x, .int v2_y, .int v2_endX, .int v2_endY])), (h3, .inl (cI, 800, .inl f3)), (h4, .inr (2, [.ref g4_sheet, .ref h5])), (h5, .inl (cI, 1024, .inl res))]) ([.ref h4, .ref h0, .int p2, .int p3, .ref h2] : List Value).toArray s 0 0 A) (F0 m 90 ls []) := by
          intro n
          induction n with
          | zero =>
            intro l10_21 f5_22 H locs ls hP hD hS hl hM
            rw [lp_X2_addLine_90] at hM
            exact lp0 hM
          | succ n90_23 ih90_23 =>
            intro l10_21 f5_22 H locs ls hP hD hS hl hM
            rw [lp_X2_addLine_90] at hM
            refine lv_iload hx hb dX2_addLine_90 (lv_at hl 7 rfl) ?_
            refine lv_iload hx hb dX2_addLine_92 (lv_at hl 6 rfl) ?_
            refine lv_icmp_ge (tgt := 151) hx hb dX2_addLine_94 (by decide) (fun c_24 => ?_) (fun c_24 => ?_)
            · have hM := if_t c_24 hM
              have h9 := Option.some.inj hM
              subst h9
              exact W.vret hx hb hr (fun t ht hW => QMv_mk (by rw [ht]; exact hP) (va_K.moved hW.alike hK) hD (hS.F ht)) hS.2.2 dX2_addLine_151
            · have hM := if_f c_24 hM
              refine lv_aload hx hb dX2_addLine_97 (lv_at hl 2 rfl) ?_
              refine va_getN (D := (dC, dI)) (ci := 1) (v := .int v2_x) (C := RX1) (T := TX1) (N := 4) hx hb hu inX1 hown hK hP 2 rfl rfl 0 (by decide) (gX_nest hG 205 kw_173 rfl) (fun _ h9 => h9) rfl dX2_addLine_99 ?_
              refine lv_aload_n hx hb dX2_addLine_102 rfl (lv_at hl 1 rfl) ?_
              refine lv_iload hx hb dX2_addLine_103 (lv_at hl 4 rfl) ?_
              refine lv_iload hx hb dX2_addLine_105 (lv_at hl 5 rfl) ?_
              refine lv_iload hx hb dX2_addLine_107 (lv_at hl 7 rfl) ?_
              obtain ⟨r_25, hm_26, hM⟩ := bd1_u hM
              refine cSi (r := r_25) (As := [.ref h0, .int s0_7, .int s0_9, .int l10_21]) (rest := [.int v2_x]) ⟨hx, hb, hml, hown, hu⟩ (c_X2_firstColumn l dC dI cI cZ cO tL H.size h0 h1 h3 g0_begins v0_points v0_lines v0_first v0_firstToldX v0_firstToldY v0_lastToldX v0_lastToldY v0_leastX v0_leastY v0_greatestY f1 f3 s0_7 s0_9 l10_21 r_25 hm_26) (va_cwS 4 hu (gS kw_174 kw_175 kw_156 kw_176) rfl rfl rfl (by decide +kernel) ⟨Nat.le_of_ble_eq_true rfl, Nat.le_of_ble_eq_true rfl⟩) hP hD hS hA hK hG [0, 1, 3] (by decide) rfl [some 0, some 1, none, some 2, none, none] 3 rfl (by decide +kernel) rfl rfl hl.1 rfl (Nat.le_of_ble_eq_true rfl) dX2_addLine_109 (Nat.zero_le _) (Nat.zero_le _) (fun H locs hP hD hS => ?_)
              have hP : va_P (dC, dI) vwCl [(h0, .inr (4, [.ref h3, .ref h1, .ref g0_begins, .int v0_points, .int v0_lines, .int v0_first, .int v0_firstToldX, .int v0_firstToldY, .int v0_lastToldX, .int v0_lastToldY, .int v0_leastX, .int v0_leastY, .int v0_greatestY])), (h1, .inl (cI, 800, .inl f1)), (h2, .inr (1, [.int v2_x, .int v2_y, .int v2_endX, .int v2_endY])), (h3, .inl (cI, 800, .inl f3)), (h4, .inr (2, [.ref g4_sheet, .ref h5])), (h5, .inl (cI, 1024, .inl f5_22))] H := hP
              have hD : va_D A [(h0, .inr (4, [.ref h3, .ref h1, .ref g0_begins, .int v0_points, .int v0_lines, .int v0_first, .int v0_firstToldX, .int v0_firstToldY, .int v0_lastToldX, .int v0_lastToldY, .int v0_leastX, .int v0_leastY, .int v0_greatestY])), (h1, .inl (cI, 800, .inl f1)), (h2, .inr (1, [.int v2_x, .int v2_y, .int v2_endX, .int v2_endY])), (h3, .inl (cI, 800, .inl f3)), (h4, .inr (2, [.ref g4_sheet, .ref h5])), (h5, .inl (cI, 1024, .inl f5_22))] := hD
              refine va_mmax hx hb (hml.trans hl.1.symm) hown (hu _ kw_170) (hu _ kw_59) (hu _ kw_60) (hu _ kw_61) (Nat.le_of_ble_eq_true rfl) (Nat.le_of_ble_eq_true rfl) (Nat.zero_le _) (Nat.zero_le _) dX2_addLine_112 ?_
              refine lv_topi (fun x_27 ex_27 => ?_)
              have hM := nm_u ex_27 hM
              refine lv_istore (lv' := [(11, .int x_27), (0, .ref h4), (1, .ref h0), (4, .ref h2), (5, .int s0_5), (6, .int s0_7), (7, .int s0_9), (9, .int x_20), (10, .int l10_21)]) hx hb dX2_addLine_115 hl (by decide) rfl (fun ls hl => ?_)
              refine lv_iload hx hb dX2_addLine_117 (lv_at hl 0 rfl) ?_
              refine lv_aload hx hb dX2_addLine_119 (lv_at hl 3 rfl) ?_
              refine va_getN (D := (dC, dI)) (ci := 1) (v := .int v2_endX) (C := RX1) (T := TX1) (N := 4) hx hb hu inX1 hown hK hP 2 rfl rfl 2 (by decide) (gX_nest hG 212 kw_177 rfl) (fun _ h9 => h9) rfl dX2_addLine_121 ?_
              obtain ⟨K145_29, eK145_29, hM⟩ := jn_u hM
              have hJ145_29 : ∀ (f5_28 : Nat → Int32) , ∀ (H : Heap) (locs : List Loc) (ls : Array Slot), va_P (dC, dI) vwCl [(h0, .inr (4, [.ref h3, .ref h1, .ref g0_begins, .int v0_points, .int v0_lines, .int v0_first, .int v0_firstToldX, .int v0_firstToldY, .int v0_lastToldX, .int v0_lastToldY, .int v0_leastX, .int v0_leastY, .int v0_greatestY])), (h1, .inl (cI, 800, .inl f1)), (h2, .inr (1, [.int v2_x, .int v2_y, .int v2_endX, .int v2_endY])), (h3, .inl (cI, 800, .inl f3)), (h4, .inr (2, [.ref g4_sheet, .ref h5])), (h5, .inl (cI, 1024, .inl f5_28))] H → va_D A [(h0, .inr (4, [.ref h3, .ref h1, .ref g0_begins, .int v0_points, .int v0_lines, .int v0_first, .int v0_firstToldX, .int v0_firstToldY, .int v0_lastToldX, .int v0_lastToldY, .int v0_leastX, .int v0_leastY, .int v0_greatestY])), (h1, .inl (cI, 800, .inl f1)), (h2, .inr (1, [.int v2_x, .int v2_y, .int v2_endX, .int v2_endY])), (h3, .inl (cI, 800, .inl f3)), (h4, .inr (2, [.ref g4_sheet, .ref h5])), (h5, .inl (cI, 1024, .inl f5_28))] → va_S A s.heap H locs → lv_has ls 12 [(0, .ref h4), (1, .ref h0), (4, .ref h2), (5, .int s0_5), (6, .int s0_7), (7, .int s0_9), (9, .int x_20), (10, .int l10_21)] → K145_29 f5_28 = some res → W p l e (headSpec w_X2_addLine rm_X2_addLine).room s m ([.ref h4, .ref h0, .int p2, .int p3, .ref h2] : List Value).toArray below meth c H locs 0 0 (MQ below (QMv (dC, dI) [(cI, .int), (cZ, .boolean), (cO, .object "ListPainter$Settings")] A [(h0, .inr (4, [.ref h3, .ref h1, .ref g0_begins, .int v0_points, .int v0_lines, .int v0_first, .int v0_firstToldX, .int v0_firstToldY, .int v0_lastToldX, .int v0_lastToldY, .int v0_leastX, .int v0_leastY, .int v0_greatestY])), (h1, .inl (cI, 800, .inl f1)), (h2, .inr (1, [.int v2_x, .int v2_y, .int v2_endX, .int v2_endY])), (h3, .inl (cI, 800, .inl f3)), (h4, .inr (2, [.ref g4_sheet, .ref h5])), (h5, .inl (cI, 1024, .inl res))]) ([.ref h4, .ref h0, .int p2, .int p3, .ref h2] : List Value).toArray s 0 0 A) (F0 m 145 ls []) := by
                intro f5_28 H locs ls hP hD hS hl hM
                have hM := ja1 eK145_29 hM
                obtain ⟨x_30, ex_30⟩ : ∃ y : Int32, y = l10_21 + 1 := ⟨_, rfl⟩
                have hM := nm_u ex_30 hM
                refine lv_iinc (v := x_30) (lv' := [(10, .int x_30), (0, .ref h4), (1, .ref h0), (4, .ref h2), (5, .int s0_5), (6, .int s0_7), (7, .int s0_9), (9, .int x_20)]) hx hb dX2_addLine_145 hl (k := 7) rfl (by rw [ex_30]; rfl) (by decide) rfl (fun ls hl => ?_)
                refine lv_goto (tgt := 90) hx hb dX2_addLine_148 (by decide) ?_
                exact ih90_23 x_30 f5_28 H locs ls hP hD hS (lv_sub hl [1, 2, 3, 4, 5, 6, 7, 0] rfl) hM
              refine lv_icmp_ge (tgt := 145) hx hb dX2_addLine_124 (by decide) (fun c_31 => ?_) (fun c_31 => ?_)
              · have hM := if_t c_31 hM
                exact hJ145_29 f5_22 H locs ls hP hD hS (lv_sub hl [1, 2, 3, 4, 5, 6, 7, 8] rfl) hM
              · have hM := if_f c_31 hM
                refine lv_aload_n hx hb dX2_addLine_127 rfl (lv_at hl 1 rfl) ?_
                refine lv_iload hx hb dX2_addLine_128 (lv_at hl 8 rfl) ?_
                refine lv_iload hx hb dX2_addLine_130 (lv_at hl 0 rfl) ?_
                refine lv_iload hx hb dX2_addLine_132 (lv_at hl 4 rfl) ?_
                obtain ⟨K142_33, eK142_33, hM⟩ := jn_u hM
                have hJ142_33 : ∀ (s3_32 : Int32) , ∀ (H : Heap) (locs : List Loc) (ls : Array Slot), va_P (dC, dI) vwCl [(h0, .inr (4, [.ref h3, .ref h1, .ref g0_begins, .int v0_points, .int v0_lines, .int v0_first, .int v0_firstToldX, .int v0_firstToldY, .int v0_lastToldX, .int v0_lastToldY, .int v0_leastX, .int v0_leastY, .int v0_greatestY])), (h1, .inl (cI, 800, .inl f1)), (h2, .inr (1, [.int v2_x, .int v2_y, .int v2_endX, .int v2_endY])), (h3, .inl (cI, 800, .inl f3)), (h4, .inr (2, [.ref g4_sheet, .ref h5])), (h5, .inl (cI, 1024, .inl f5_22))] H → va_D A [(h0, .inr (4, [.ref h3, .ref h1, .ref g0_begins, .int v0_points, .int v0_lines, .int v0_first, .int v0_firstToldX, .int v0_firstToldY, .int v0_lastToldX, .int v0_lastToldY, .int v0_leastX, .int v0_leastY, .int v0_greatestY])), (h1, .inl (cI, 800, .inl f1)), (h2, .inr (1, [.int v2_x, .int v2_y, .int v2_endX, .int v2_endY])), (h3, .inl (cI, 800, .inl f3)), (h4, .inr (2, [.ref g4_sheet, .ref h5])), (h5, .inl (cI, 1024, .inl f5_22))] → va_S A s.heap H locs → lv_has ls 12 [(0, .ref h4), (1, .ref h0), (4, .ref h2), (5, .int s0_5), (6, .int s0_7), (7, .int s0_9), (9, .int x_20), (10, .int l10_21)] → K142_33 s3_32 = some res → W p l e (headSpec w_X2_addLine rm_X2_addLine).room s m ([.ref h4, .ref h0, .int p2, .int p3, .ref h2] : List Value).toArray below meth c H locs 0 0 (MQ below (QMv (dC, dI) [(cI, .int), (cZ, .boolean), (cO, .object "ListPainter$Settings")] A [(h0, .inr (4, [.ref h3, .ref h1, .ref g0_begins, .int v0_points, .int v0_lines, .int v0_first, .int v0_firstToldX, .int v0_firstToldY, .int v0_lastToldX, .int v0_lastToldY, .int v0_leastX, .int v0_leastY, .int v0_greatestY])), (h1, .inl (cI, 800, .inl f1)), (h2, .inr (1, [.int v2_x, .int v2_y, .int v2_endX, .int v2_endY])), (h3, .inl (cI, 800, .inl f3)), (h4, .inr (2, [.ref g4_sheet, .ref h5])), (h5, .inl (cI, 1024, .inl res))]) ([.ref h4, .ref h0, .int p2, .int p3, .ref h2] : List Value).toArray s 0 0 A) (F0 m 142 ls [.int s3_32, .int x_27, .int l10_21, .ref h4]) := by
                  intro s3_32 H locs ls hP hD hS hl hM
                  have hM := ja1 eK142_33 hM
                  obtain ⟨f5_34, hm_35, hM⟩ := bd1_u hM
                  refine cVv (As := [.int l10_21, .int x_27, .int s3_32]) (rest := []) ⟨hx, hb, hml, hown, hu⟩ (c_X2_change l dC dI cI cZ cO tL H.size h4 h5 g4_sheet f5_22 l10_21 x_27 s3_32 f5_34 hm_35) (cwV 3 hu (gV kw_178 kw_179 kw_180 kw_156 kw_181) rfl rfl rfl (by decide +kernel) ⟨Nat.le_of_ble_eq_true rfl, Nat.le_of_ble_eq_true rfl⟩) hP hD hS hA hK hG [4, 5] (by decide) rfl [none, none, none, none, some 0, some 1] 2 rfl (by decide +kernel) rfl 2 4 rfl rfl rfl rfl hl.1 rfl (Nat.le_of_ble_eq_true rfl) dX2_addLine_142 (Nat.zero_le _) (Nat.zero_le _) (fun H locs hP hD hS => ?_)
                  have hP : va_P (dC, dI) vwCl [(h0, .inr (4, [.ref h3, .ref h1, .ref g0_begins, .int v0_points, .int v0_lines, .int v0_first, .int v0_firstToldX, .int v0_firstToldY, .int v0_lastToldX, .int v0_lastToldY, .int v0_leastX, .int v0_leastY, .int v0_greatestY])), (h1, .inl (cI, 800, .inl f1)), (h2, .inr (1, [.int v2_x, .int v2_y, .int v2_endX, .int v2_endY])), (h3, .inl (cI, 800, .inl f3)), (h4, .inr (2, [.ref g4_sheet, .ref h5])), (h5, .inl (cI, 1024, .inl f5_34))] H := hP
                  have hD : va_D A [(h0, .inr (4, [.ref h3, .ref h1, .ref g0_begins, .int v0_points, .int v0_lines, .int v0_first, .int v0_firstToldX, .int v0_firstToldY, .int v0_lastToldX, .int v0_lastToldY, .int v0_leastX, .int v0_leastY, .int v0_greatestY])), (h1, .inl (cI, 800, .inl f1)), (h2, .inr (1, [.int v2_x, .int v2_y, .int v2_endX, .int v2_endY])), (h3, .inl (cI, 800, .inl f3)), (h4, .inr (2, [.ref g4_sheet, .ref h5])), (h5, .inl (cI, 1024, .inl f5_34))] := hD
                  exact hJ145_29 f5_34 H locs ls hP hD hS (lv_sub hl [0, 1, 2, 3, 4, 5, 6, 7] rfl) hM
                refine lv_if_eq (tgt := 141) hx hb dX2_addLine_134 (by decide) (fun c_36 => ?_) (fun c_36 => ?_)
                · have hM := if_t c_36 hM
                  refine lv_iconst (v := (-1)) hx hb dX2_addLine_141 (by decide) ?_
                  exact hJ142_33 (-1) H locs ls hP hD hS (lv_sub hl [1, 2, 3, 4, 5, 6, 7, 8] rfl) hM
                · have hM := if_f c_36 hM
                  refine lv_iconst (v := 1) hx hb dX2_addLine_137 (by decide) ?_
                  refine lv_goto (tgt := 142) hx hb dX2_addLine_138 (by decide) ?_
                  exact hJ142_33 1 H locs ls hP hD hS (lv_sub hl [1, 2, 3, 4, 5, 6, 7, 8] rfl) hM
        exact hL90_23 FU x_15 f5 H locs ls hP hD hS (lv_sub hl [4, 5, 6, 7, 8, 3, 1, 0] rfl) hM
      refine lv_if_eq (tgt := 43) hx hb dX2_addLine_36 (by decide) (fun c_37 => ?_) (fun c_37 => ?_)
      · have hM := if_t c_37 hM
        refine lv_iload_n hx hb dX2_addLine_43 rfl (lv_at hl 3 rfl) ?_
        exact hJ44_10 p2 H locs ls hP hD hS (lv_sub hl [1, 2, 5, 6, 0] rfl) hM
      · have hM := if_f c_37 hM
        refine lv_iload_n hx hb dX2_addLine_39 rfl (lv_at hl 4 rfl) ?_
        refine lv_goto (tgt := 44) hx hb dX2_addLine_40 (by decide) ?_
        exact hJ44_10 p3 H locs ls hP hD hS (lv_sub hl [1, 2, 5, 6, 0] rfl) hM
    refine lv_if_eq (tgt := 31) hx hb dX2_addLine_24 (by decide) (fun c_38 => ?_) (fun c_38 => ?_)
    · have hM := if_t c_38 hM
      refine lv_iload_n hx hb dX2_addLine_31 rfl (lv_at hl 4 rfl) ?_
      exact hJ32_8 p3 H locs ls hP hD hS (lv_sub hl [1, 2, 3, 4, 5, 0] rfl) hM
    · have hM := if_f c_38 hM
      refine lv_iload_n hx hb dX2_addLine_27 rfl (lv_at hl 3 rfl) ?_
      refine lv_goto (tgt := 32) hx hb dX2_addLine_28 (by decide) ?_
      exact hJ32_8 p2 H locs ls hP hD hS (lv_sub hl [1, 2, 3, 4, 5, 0] rfl) hM
  refine lv_icmp_ge (tgt := 19) hx hb dX2_addLine_12 (by decide) (fun c_39 => ?_) (fun c_39 => ?_)
  · have hM := if_t c_39 hM
    refine lv_iconst (v := 0) hx hb dX2_addLine_19 (by decide) ?_
    exact hJ20_6 0 (Or.inl rfl) H locs ls hP hD hS (lv_sub hl [0, 1, 2, 3, 4] rfl) hM
  · have hM := if_f c_39 hM
    refine lv_iconst (v := 1) hx hb dX2_addLine_15 (by decide) ?_
    refine lv_goto (tgt := 20) hx hb dX2_addLine_16 (by decide) ?_
    exact hJ20_6 1 (Or.inr rfl) H locs ls hP hD hS (lv_sub hl [0, 1, 2, 3, 4] rfl) hM
theorem dX2_takeChange_0 : decode cX2_takeChange 0 = .ok (.iload_n 1, 1) := by decide +kernel
theorem dX2_takeChange_1 : decode cX2_takeChange 1 = .ok (.bipush 32, 2) := by decide +kernel
theorem dX2_takeChange_3 : decode cX2_takeChange 3 = .ok (.imul, 1) := by decide +kernel
theorem dX2_takeChange_4 : decode cX2_takeChange 4 = .ok (.iload_n 2, 1) := by decide +kernel
theorem dX2_takeChange_5 : decode cX2_takeChange 5 = .ok (.iadd, 1) := by decide +kernel
theorem dX2_takeChange_6 : decode cX2_takeChange 6 = .ok (.istore_n 3, 1) := by decide +kernel
theorem dX2_takeChange_7 : decode cX2_takeChange 7 = .ok (.iload_n 3, 1) := by decide +kernel
theorem dX2_takeChange_8 : decode cX2_takeChange 8 = .ok (.ifCond .lt 12, 3) := by decide +kernel
theorem dX2_takeChange_11 : decode cX2_takeChange 11 = .ok (.iload_n 3, 1) := by decide +kernel
theorem dX2_takeChange_12 : decode cX2_takeChange 12 = .ok (.aload_n 0, 1) := by decide +kernel
theorem dX2_takeChange_13 : decode cX2_takeChange 13 = .ok (.getfield 9, 3) := by decide +kernel
theorem dX2_takeChange_16 : decode cX2_takeChange 16 = .ok (.arraylength, 1) := by decide +kernel
theorem dX2_takeChange_17 : decode cX2_takeChange 17 = .ok (.if_icmp .lt 5, 3) := by decide +kernel
theorem dX2_takeChange_20 : decode cX2_takeChange 20 = .ok (.iconst 0, 1) := by decide +kernel
theorem dX2_takeChange_21 : decode cX2_takeChange 21 = .ok (.ireturn, 1) := by decide +kernel
theorem dX2_takeChange_22 : decode cX2_takeChange 22 = .ok (.aload_n 0, 1) := by decide +kernel
theorem dX2_takeChange_23 : decode cX2_takeChange 23 = .ok (.getfield 9, 3) := by decide +kernel
theorem dX2_takeChange_26 : decode cX2_takeChange 26 = .ok (.iload_n 3, 1) := by decide +kernel
theorem dX2_takeChange_27 : decode cX2_takeChange 27 = .ok (.iaload, 1) := by decide +kernel
theorem dX2_takeChange_28 : decode cX2_takeChange 28 = .ok (.istore 4, 2) := by decide +kernel
theorem dX2_takeChange_30 : decode cX2_takeChange 30 = .ok (.aload_n 0, 1) := by decide +kernel
theorem dX2_takeChange_31 : decode cX2_takeChange 31 = .ok (.getfield 9, 3) := by decide +kernel
theorem dX2_takeChange_34 : decode cX2_takeChange 34 = .ok (.iload_n 3, 1) := by decide +kernel
theorem dX2_takeChange_35 : decode cX2_takeChange 35 = .ok (.iconst 0, 1) := by decide +kernel
theorem dX2_takeChange_36 : decode cX2_takeChange 36 = .ok (.iastore, 1) := by decide +kernel
theorem dX2_takeChange_37 : decode cX2_takeChange 37 = .ok (.iload 4, 2) := by decide +kernel
theorem dX2_takeChange_39 : decode cX2_takeChange 39 = .ok (.ireturn, 1) := by decide +kernel
abbrev rm_X2_takeChange : Room := { frames := 0, cells := 0, slots := 0, locals := 0 }
def w_X2_takeChange : List Cond := Cond.code yX2_takeChange cX2_takeChange 5 (some .int) :: uw
set_option maxHeartbeats 4000000 in
set_option maxRecDepth 100000 in
theorem c_X2_takeChange (l : Launch) (dC : Nat → ClassId) (dI : Nat → Nat → Nat) (cI cZ cO : ClassId) (tL sz : Nat) (h0 : Nat) (h1 : Nat) (g0_sheet : Nat) (f1 : Nat → Int32) (p1 : Int32) (p2 : Int32) (res : Int32 × (Nat → Int32)) (hM : m_X2_takeChange f1 p1 p2 = some res) : Met l yX2_takeChange w_X2_takeChange rm_X2_takeChange (PCx [.ref h0, .int p1, .int p2] (dC, dI) [(cI, .int), (cZ, .boolean), (cO, .object "ListPainter$Settings")] sz tL [(h0, .inr (2, [.ref g0_sheet, .ref h1])), (h1, .inl (cI, 1024, .inl f1))]) (QMi (res.1) (dC, dI) [(cI, .int), (cZ, .boolean), (cO, .object "ListPainter$Settings")] (va_A [(h0, .inr (2, [.ref g0_sheet, .ref h1])), (h1, .inl (cI, 1024, .inl f1))] sz) [(h0, .inr (2, [.ref g0_sheet, .ref h1])), (h1, .inl (cI, 1024, .inl (res.2)))]) 0 0 (va_A [(h0, .inr (2, [.ref g0_sheet, .ref h1])), (h1, .inl (cI, 1024, .inl f1))] sz) := by
  refine Met.ofW (cc := cX2_takeChange) (maxL := 5) (ret := (some .int)) (by decide) rfl ?_
  intro p e s m args below meth c s₁ B hml hv
  obtain ⟨rfl, hsz, hP, hK, hD0, hG⟩ := hv
  have hx := B.exec
  have hb := B.bytes
  have hr := B.returns
  have hu : ∀ w ∈ uw, w.before ([.ref h0, .int p1, .int p2] : List Value).toArray s = true := fun w h => atoms_spec (ws := w_X2_takeChange) B.pre w (List.mem_cons_of_mem _ h)
  have hown : s.vm.findClass RX2 = some m.cls := findClass_of_methodNamed B.named
  have hlocks := B.notSynchronized
  subst hsz
  have hD := hD0.self (sz := s.heap.size)
  generalize hAe : va_A [(h0, .inr (2, [.ref g0_sheet, .ref h1])), (h1, .inl (cI, 1024, .inl f1))] s.heap.size = A at hD hG ⊢
  have hA : ∀ q : Nat, s.heap.size ≤ q → A q := fun q h => by rw [← hAe]; exact Or.inr h
  have hS : va_S A s.heap s.heap [] := va_S.rf
  have hP : va_P (dC, dI) vwCl [(h0, .inr (2, [.ref g0_sheet, .ref h1])), (h1, .inl (cI, 1024, .inl f1))] s.heap := hP
  have hl := lv_entry ([.ref h0, .int p1, .int p2]) (n := 5) (Nat.le_of_ble_eq_true rfl)
  rw [lg_entry_eq]
  generalize (lg_sl ([.ref h0, .int p1, .int p2]) ++ List.replicate (5 - (lg_sl ([.ref h0, .int p1, .int p2])).length) Slot.unset).toArray = ls at hl ⊢
  have hl : lv_has ls 5 [(0, .ref h0), (1, .int p1), (2, .int p2)] := hl
  rw [m_X2_takeChange] at hM
  suffices hgo : ∀ (H : Heap) (locs : List Loc), va_P (dC, dI) vwCl [(h0, .inr (2, [.ref g0_sheet, .ref h1])), (h1, .inl (cI, 1024, .inl f1))] H → va_D A [(h0, .inr (2, [.ref g0_sheet, .ref h1])), (h1, .inl (cI, 1024, .inl f1))] → va_S A s.heap H locs → W p l e (headSpec w_X2_takeChange rm_X2_takeChange).room s m ([.ref h0, .int p1, .int p2] : List Value).toArray below meth c H locs 0 0 (MQ below (QMi (res.1) (dC, dI) [(cI, .int), (cZ, .boolean), (cO, .object "ListPainter$Settings")] A [(h0, .inr (2, [.ref g0_sheet, .ref h1])), (h1, .inl (cI, 1024, .inl (res.2)))]) ([.ref h0, .int p1, .int p2] : List Value).toArray s 0 0 A) (F0 m 0 ls []) from hgo _ _ hP hD hS
  intro H locs hP hD hS
  refine lv_iload_n hx hb dX2_takeChange_0 rfl (lv_at hl 1 rfl) ?_
  refine lv_bipush (v := 32) hx hb dX2_takeChange_1 (by decide) ?_
  refine lv_imul hx hb dX2_takeChange_3 ?_
  refine lv_iload_n hx hb dX2_takeChange_4 rfl (lv_at hl 2 rfl) ?_
  refine lv_iadd hx hb dX2_takeChange_5 ?_
  refine lv_topi (fun x_1 ex_1 => ?_)
  have hM := nm_u ex_1 hM
  refine lv_istore_n (lv' := [(3, .int x_1), (0, .ref h0), (1, .int p1), (2, .int p2)]) hx hb dX2_takeChange_6 rfl hl (by decide) rfl (fun ls hl => ?_)
  refine lv_iload_n hx hb dX2_takeChange_7 rfl (lv_at hl 0 rfl) ?_
  refine lv_if_lt (tgt := 20) hx hb dX2_takeChange_8 (by decide) (fun c_2 => ?_) (fun c_2 => ?_)
  · have hM := if_t c_2 hM
    refine lv_iconst (v := 0) hx hb dX2_takeChange_20 (by decide) ?_
    have h9 := Option.some.inj hM
    subst h9
    exact W.iret (v := 0) hx hb hr (fun t ht hW => QMi_mk (by rw [ht]; exact hP) (va_K.moved hW.alike hK) hD (hS.F ht)) hS.2.2 dX2_takeChange_21
  · have hM := if_f c_2 hM
    refine lv_iload_n hx hb dX2_takeChange_11 rfl (lv_at hl 0 rfl) ?_
    refine lv_aload_n hx hb dX2_takeChange_12 rfl (lv_at hl 1 rfl) ?_
    refine va_get (D := (dC, dI)) (ci := 2) (v := .ref h1) (C := RX2) (T := TX2) (N := 2) hx hb hu inX2 hown hK hP 0 rfl rfl 1 (by decide) (hu _ kw_168) (fun _ h9 => h9) rfl dX2_takeChange_13 ?_
    refine va_alen hx hb hK hP 1 0 rfl rfl (v := Int32.ofNat 1024) rfl dX2_takeChange_16 ?_
    refine lv_icmp_lt (tgt := 22) hx hb dX2_takeChange_17 (by decide) (fun c_3 => ?_) (fun c_3 => ?_)
    · have hM := if_t c_3 hM
      refine lv_aload_n hx hb dX2_takeChange_22 rfl (lv_at hl 1 rfl) ?_
      refine va_get (D := (dC, dI)) (ci := 2) (v := .ref h1) (C := RX2) (T := TX2) (N := 2) hx hb hu inX2 hown hK hP 0 rfl rfl 1 (by decide) (hu _ kw_168) (fun _ h9 => h9) rfl dX2_takeChange_23 ?_
      refine lv_iload_n hx hb dX2_takeChange_26 rfl (lv_at hl 0 rfl) ?_
      obtain ⟨g_4, hM⟩ := gd_u hM
      refine va_iald hx hb hK hP 1 0 rfl rfl (inb_v g_4) dX2_takeChange_27 ?_
      refine lv_topi (fun a_5 ea_5 => ?_)
      have hM := nm_u ea_5 hM
      refine lv_istore (lv' := [(4, .int a_5), (3, .int x_1), (0, .ref h0), (1, .int p1), (2, .int p2)]) hx hb dX2_takeChange_28 hl (by decide) rfl (fun ls hl => ?_)
      refine lv_aload_n hx hb dX2_takeChange_30 rfl (lv_at hl 2 rfl) ?_
      refine va_get (D := (dC, dI)) (ci := 2) (v := .ref h1) (C := RX2) (T := TX2) (N := 2) hx hb hu inX2 hown hK hP 0 rfl rfl 1 (by decide) (hu _ kw_168) (fun _ h9 => h9) rfl dX2_takeChange_31 ?_
      refine lv_iload_n hx hb dX2_takeChange_34 rfl (lv_at hl 1 rfl) ?_
      refine lv_iconst (v := 0) hx hb dX2_takeChange_35 (by decide) ?_
      obtain ⟨g_6, hM⟩ := gd_u hM
      refine va_iast hx hb hK hP hD hS 1 0 rfl rfl (inb_v g_6) dX2_takeChange_36 (fun H locs hP hD hS => ?_)
      obtain ⟨f1_7, ef1_7⟩ : ∃ g : Nat → Int32, g = upd f1 (x_1 : Int32).toNatClampNeg 0 := ⟨_, rfl⟩
      have hM := nm_u ef1_7 hM
      have hP : va_P (dC, dI) vwCl [(h0, .inr (2, [.ref g0_sheet, .ref h1])), (h1, .inl (cI, 1024, .inl f1_7))] H := by rw [ef1_7]; exact hP
      have hD : va_D A [(h0, .inr (2, [.ref g0_sheet, .ref h1])), (h1, .inl (cI, 1024, .inl f1_7))] := by rw [ef1_7]; exact hD
      refine lv_iload hx hb dX2_takeChange_37 (lv_at hl 0 rfl) ?_
      have h9 := Option.some.inj hM
      subst h9
      exact W.iret (v := a_5) hx hb hr (fun t ht hW => QMi_mk (by rw [ht]; exact hP) (va_K.moved hW.alike hK) hD (hS.F ht)) hS.2.2 dX2_takeChange_39
    · have hM := if_f c_3 hM
      refine lv_iconst (v := 0) hx hb dX2_takeChange_20 (by decide) ?_
      have h9 := Option.some.inj hM
      subst h9
      exact W.iret (v := 0) hx hb hr (fun t ht hW => QMi_mk (by rw [ht]; exact hP) (va_K.moved hW.alike hK) hD (hS.F ht)) hS.2.2 dX2_takeChange_21
theorem dX2_paintRow_0 : decode cX2_paintRow 0 = .ok (.iconst 0, 1) := by decide +kernel
theorem dX2_paintRow_1 : decode cX2_paintRow 1 = .ok (.istore 4, 2) := by decide +kernel
theorem dX2_paintRow_3 : decode cX2_paintRow 3 = .ok (.iconst 0, 1) := by decide +kernel
theorem dX2_paintRow_4 : decode cX2_paintRow 4 = .ok (.istore 5, 2) := by decide +kernel
theorem dX2_paintRow_6 : decode cX2_paintRow 6 = .ok (.aload_n 2, 1) := by decide +kernel
theorem dX2_paintRow_7 : decode cX2_paintRow 7 = .ok (.getfield 33, 3) := by decide +kernel
theorem dX2_paintRow_10 : decode cX2_paintRow 10 = .ok (.getfield 70, 3) := by decide +kernel
theorem dX2_paintRow_13 : decode cX2_paintRow 13 = .ok (.istore 6, 2) := by decide +kernel
theorem dX2_paintRow_15 : decode cX2_paintRow 15 = .ok (.iload 6, 2) := by decide +kernel
theorem dX2_paintRow_17 : decode cX2_paintRow 17 = .ok (.aload_n 2, 1) := by decide +kernel
theorem dX2_paintRow_18 : decode cX2_paintRow 18 = .ok (.getfield 33, 3) := by decide +kernel
theorem dX2_paintRow_21 : decode cX2_paintRow 21 = .ok (.getfield 77, 3) := by decide +kernel
theorem dX2_paintRow_24 : decode cX2_paintRow 24 = .ok (.if_icmp .ge 74, 3) := by decide +kernel
theorem dX2_paintRow_27 : decode cX2_paintRow 27 = .ok (.iload 5, 2) := by decide +kernel
theorem dX2_paintRow_29 : decode cX2_paintRow 29 = .ok (.aload_n 0, 1) := by decide +kernel
theorem dX2_paintRow_30 : decode cX2_paintRow 30 = .ok (.iload_n 1, 1) := by decide +kernel
theorem dX2_paintRow_31 : decode cX2_paintRow 31 = .ok (.iload 6, 2) := by decide +kernel
theorem dX2_paintRow_33 : decode cX2_paintRow 33 = .ok (.invokevirtual 96, 3) := by decide +kernel
theorem dX2_paintRow_36 : decode cX2_paintRow 36 = .ok (.iadd, 1) := by decide +kernel
theorem dX2_paintRow_37 : decode cX2_paintRow 37 = .ok (.istore 5, 2) := by decide +kernel
theorem dX2_paintRow_39 : decode cX2_paintRow 39 = .ok (.iload_n 3, 1) := by decide +kernel
theorem dX2_paintRow_40 : decode cX2_paintRow 40 = .ok (.ifCond .ne 11, 3) := by decide +kernel
theorem dX2_paintRow_43 : decode cX2_paintRow 43 = .ok (.iload 5, 2) := by decide +kernel
theorem dX2_paintRow_45 : decode cX2_paintRow 45 = .ok (.ifCond .eq 47, 3) := by decide +kernel
theorem dX2_paintRow_48 : decode cX2_paintRow 48 = .ok (.goto 10, 3) := by decide +kernel
theorem dX2_paintRow_51 : decode cX2_paintRow 51 = .ok (.iload 5, 2) := by decide +kernel
theorem dX2_paintRow_53 : decode cX2_paintRow 53 = .ok (.iconst 1, 1) := by decide +kernel
theorem dX2_paintRow_54 : decode cX2_paintRow 54 = .ok (.iand, 1) := by decide +kernel
theorem dX2_paintRow_55 : decode cX2_paintRow 55 = .ok (.ifCond .eq 37, 3) := by decide +kernel
theorem dX2_paintRow_58 : decode cX2_paintRow 58 = .ok (.aload_n 0, 1) := by decide +kernel
theorem dX2_paintRow_59 : decode cX2_paintRow 59 = .ok (.getfield 15, 3) := by decide +kernel
theorem dX2_paintRow_62 : decode cX2_paintRow 62 = .ok (.iload 6, 2) := by decide +kernel
theorem dX2_paintRow_64 : decode cX2_paintRow 64 = .ok (.iload_n 1, 1) := by decide +kernel
theorem dX2_paintRow_65 : decode cX2_paintRow 65 = .ok (.aload_n 2, 1) := by decide +kernel
theorem dX2_paintRow_66 : decode cX2_paintRow 66 = .ok (.getfield 99, 3) := by decide +kernel
theorem dX2_paintRow_69 : decode cX2_paintRow 69 = .ok (.aload_n 0, 1) := by decide +kernel
theorem dX2_paintRow_70 : decode cX2_paintRow 70 = .ok (.getfield 15, 3) := by decide +kernel
theorem dX2_paintRow_73 : decode cX2_paintRow 73 = .ok (.iload 6, 2) := by decide +kernel
theorem dX2_paintRow_75 : decode cX2_paintRow 75 = .ok (.iload_n 1, 1) := by decide +kernel
theorem dX2_paintRow_76 : decode cX2_paintRow 76 = .ok (.invokevirtual 102, 3) := by decide +kernel
theorem dX2_paintRow_79 : decode cX2_paintRow 79 = .ok (.aload_n 2, 1) := by decide +kernel
theorem dX2_paintRow_80 : decode cX2_paintRow 80 = .ok (.getfield 107, 3) := by decide +kernel
theorem dX2_paintRow_83 : decode cX2_paintRow 83 = .ok (.invokestatic 110, 3) := by decide +kernel
theorem dX2_paintRow_86 : decode cX2_paintRow 86 = .ok (.invokevirtual 116, 3) := by decide +kernel
theorem dX2_paintRow_89 : decode cX2_paintRow 89 = .ok (.iinc 4 1, 3) := by decide +kernel
theorem dX2_paintRow_92 : decode cX2_paintRow 92 = .ok (.iinc 6 1, 3) := by decide +kernel
theorem dX2_paintRow_95 : decode cX2_paintRow 95 = .ok (.goto (-80), 3) := by decide +kernel
theorem dX2_paintRow_98 : decode cX2_paintRow 98 = .ok (.iload 4, 2) := by decide +kernel
theorem dX2_paintRow_100 : decode cX2_paintRow 100 = .ok (.ireturn, 1) := by decide +kernel
abbrev rm_X2_paintRow : Room := { frames := 3, cells := 0, slots := 0, locals := 71 }
def w_X2_paintRow : List Cond := Cond.code yX2_paintRow cX2_paintRow 7 (some .int) :: uw
set_option maxHeartbeats 4000000 in
set_option maxRecDepth 100000 in
theorem c_X2_paintRow (l : Launch) (dC : Nat → ClassId) (dI : Nat → Nat → Nat) (cI cZ cO : ClassId) (tL sz : Nat) (h0 : Nat) (h1 : Nat) (h2 : Nat) (h3 : Nat) (h4 : Nat) (h5 : Nat) (g0_table : Nat) (v0_colour : Int32) (v0_way : Int32) (v1_x : Int32) (v1_y : Int32) (v1_endX : Int32) (v1_endY : Int32) (f3 : Nat → Int32) (v4_w : Int32) (v4_h : Int32) (n5 : Nat) (f5 : Nat → Int32) (p1 : Int32) (p3 : Int32) (res : Int32 × (Nat → Int32) × (Nat → Int32)) (hM : m_X2_paintRow v0_colour v0_way v1_x v1_endX f3 v4_w v4_h n5 f5 p1 p3 = some res) : Met l yX2_paintRow w_X2_paintRow rm_X2_paintRow (PCx [.ref h2, .int p1, .ref h0, .int p3] (dC, dI) [(cI, .int), (cZ, .boolean), (cO, .object "ListPainter$Settings")] sz tL [(h0, .inr (5, [.ref g0_table, .ref h1, .int v0_colour, .int v0_way])), (h1, .inr (1, [.int v1_x, .int v1_y, .int v1_endX, .int v1_endY])), (h2, .inr (2, [.ref h4, .ref h3])), (h3, .inl (cI, 1024, .inl f3)), (h4, .inr (6, [.int v4_w, .int v4_h, .ref h5])), (h5, .inl (cI, n5, .inl f5))]) (QMi (res.1) (dC, dI) [(cI, .int), (cZ, .boolean), (cO, .object "ListPainter$Settings")] (va_A [(h0, .inr (5, [.ref g0_table, .ref h1, .int v0_colour, .int v0_way])), (h1, .inr (1, [.int v1_x, .int v1_y, .int v1_endX, .int v1_endY])), (h2, .inr (2, [.ref h4, .ref h3])), (h3, .inl (cI, 1024, .inl f3)), (h4, .inr (6, [.int v4_w, .int v4_h, .ref h5])), (h5, .inl (cI, n5, .inl f5))] sz) [(h0, .inr (5, [.ref g0_table, .ref h1, .int v0_colour, .int v0_way])), (h1, .inr (1, [.int v1_x, .int v1_y, .int v1_endX, .int v1_endY])), (h2, .inr (2, [.ref h4, .ref h3])), (h3, .inl (cI, 1024, .inl (res.2.1))), (h4, .inr (6, [.int v4_w, .int v4_h, .ref h5])), (h5, .inl (cI, n5, .inl (res.2.2)))]) 0 0 (va_A [(h0, .inr (5, [.ref g0_table, .ref h1, .int v0_colour, .int v0_way])), (h1, .inr (1, [.int v1_x, .int v1_y, .int v1_endX, .int v1_endY])), (h2, .inr (2, [.ref h4, .ref h3])), (h3, .inl (cI, 1024, .inl f3)), (h4, .inr (6, [.int v4_w, .int v4_h, .ref h5])), (h5, .inl (cI, n5, .inl f5))] sz) := by
  refine Met.ofW (cc := cX2_paintRow) (maxL := 7) (ret := (some .int)) (by decide) rfl ?_
  intro p e s m args below meth c s₁ B hml hv
  obtain ⟨rfl, hsz, hP, hK, hD0, hG⟩ := hv
  have hx := B.exec
  have hb := B.bytes
  have hr := B.returns
  have hu : ∀ w ∈ uw, w.before ([.ref h2, .int p1, .ref h0, .int p3] : List Value).toArray s = true := fun w h => atoms_spec (ws := w_X2_paintRow) B.pre w (List.mem_cons_of_mem _ h)
  have hown : s.vm.findClass RX2 = some m.cls := findClass_of_methodNamed B.named
  have hlocks := B.notSynchronized
  subst hsz
  have hD := hD0.self (sz := s.heap.size)
  generalize hAe : va_A [(h0, .inr (5, [.ref g0_table, .ref h1, .int v0_colour, .int v0_way])), (h1, .inr (1, [.int v1_x, .int v1_y, .int v1_endX, .int v1_endY])), (h2, .inr (2, [.ref h4, .ref h3])), (h3, .inl (cI, 1024, .inl f3)), (h4, .inr (6, [.int v4_w, .int v4_h, .ref h5])), (h5, .inl (cI, n5, .inl f5))] s.heap.size = A at hD hG ⊢
  have hA : ∀ q : Nat, s.heap.size ≤ q → A q := fun q h => by rw [← hAe]; exact Or.inr h
  have hS : va_S A s.heap s.heap [] := va_S.rf
  have hP : va_P (dC, dI) vwCl [(h0, .inr (5, [.ref g0_table, .ref h1, .int v0_colour, .int v0_way])), (h1, .inr (1, [.int v1_x, .int v1_y, .int v1_endX, .int v1_endY])), (h2, .inr (2, [.ref h4, .ref h3])), (h3, .inl (cI, 1024, .inl f3)), (h4, .inr (6, [.int v4_w, .int v4_h, .ref h5])), (h5, .inl (cI, n5, .inl f5))] s.heap := hP
  have hl := lv_entry ([.ref h2, .int p1, .ref h0, .int p3]) (n := 7) (Nat.le_of_ble_eq_true rfl)
  rw [lg_entry_eq]
  generalize (lg_sl ([.ref h2, .int p1, .ref h0, .int p3]) ++ List.replicate (7 - (lg_sl ([.ref h2, .int p1, .ref h0, .int p3])).length) Slot.unset).toArray = ls at hl ⊢
  have hl : lv_has ls 7 [(0, .ref h2), (1, .int p1), (2, .ref h0), (3, .int p3)] := hl
  rw [m_X2_paintRow] at hM
  suffices hgo : ∀ (H : Heap) (locs : List Loc), va_P (dC, dI) vwCl [(h0, .inr (5, [.ref g0_table, .ref h1, .int v0_colour, .int v0_way])), (h1, .inr (1, [.int v1_x, .int v1_y, .int v1_endX, .int v1_endY])), (h2, .inr (2, [.ref h4, .ref h3])), (h3, .inl (cI, 1024, .inl f3)), (h4, .inr (6, [.int v4_w, .int v4_h, .ref h5])), (h5, .inl (cI, n5, .inl f5))] H → va_D A [(h0, .inr (5, [.ref g0_table, .ref h1, .int v0_colour, .int v0_way])), (h1, .inr (1, [.int v1_x, .int v1_y, .int v1_endX, .int v1_endY])), (h2, .inr (2, [.ref h4, .ref h3])), (h3, .inl (cI, 1024, .inl f3)), (h4, .inr (6, [.int v4_w, .int v4_h, .ref h5])), (h5, .inl (cI, n5, .inl f5))] → va_S A s.heap H locs → W p l e (headSpec w_X2_paintRow rm_X2_paintRow).room s m ([.ref h2, .int p1, .ref h0, .int p3] : List Value).toArray below meth c H locs 0 0 (MQ below (QMi (res.1) (dC, dI) [(cI, .int), (cZ, .boolean), (cO, .object "ListPainter$Settings")] A [(h0, .inr (5, [.ref g0_table, .ref h1, .int v0_colour, .int v0_way])), (h1, .inr (1, [.int v1_x, .int v1_y, .int v1_endX, .int v1_endY])), (h2, .inr (2, [.ref h4, .ref h3])), (h3, .inl (cI, 1024, .inl (res.2.1))), (h4, .inr (6, [.int v4_w, .int v4_h, .ref h5])), (h5, .inl (cI, n5, .inl (res.2.2)))]) ([.ref h2, .int p1, .ref h0, .int p3] : List Value).toArray s 0 0 A) (F0 m 0 ls []) from hgo _ _ hP hD hS
  intro H locs hP hD hS
  refine lv_iconst (v := 0) hx hb dX2_paintRow_0 (by decide) ?_
  refine lv_istore (lv' := [(4, .int 0), (0, .ref h2), (1, .int p1), (2, .ref h0), (3, .int p3)]) hx hb dX2_paintRow_1 hl (by decide) rfl (fun ls hl => ?_)
  refine lv_iconst (v := 0) hx hb dX2_paintRow_3 (by decide) ?_
  refine lv_istore (lv' := [(5, .int 0), (4, .int 0), (0, .ref h2), (1, .int p1), (2, .ref h0), (3, .int p3)]) hx hb dX2_paintRow_4 hl (by decide) rfl (fun ls hl => ?_)
  refine lv_aload_n hx hb dX2_paintRow_6 rfl (lv_at hl 4 rfl) ?_
  refine va_getN (D := (dC, dI)) (ci := 5) (v := .ref h1) (C := RX6) (T := TX6) (N := 4) hx hb hu inX6 hown hK hP 0 rfl rfl 1 (by decide) (gX_nest hG 232 kw_182 rfl) (fun _ h9 => h9) rfl dX2_paintRow_7 ?_
  refine va_getN (D := (dC, dI)) (ci := 1) (v := .int v1_x) (C := RX1) (T := TX1) (N := 4) hx hb hu inX1 hown hK hP 1 rfl rfl 0 (by decide) (gX_nest hG 205 kw_173 rfl) (fun _ h9 => h9) rfl dX2_paintRow_10 ?_
  refine lv_istore (lv' := [(6, .int v1_x), (5, .int 0), (4, .int 0), (0, .ref h2), (1, .int p1), (2, .ref h0), (3, .int p3)]) hx hb dX2_paintRow_13 hl (by decide) rfl (fun ls hl => ?_)
  have hL15_6 : ∀ (n : Nat) (l4_1 : Int32) (l5_2 : Int32) (l6_3 : Int32) (f3_4 : Nat → Int32) (f5_5 : Nat → Int32) , ∀ (H : Heap) (locs : List Loc) (ls : Array Slot), va_P (dC, dI) vwCl [(h0, .inr (5, [.ref g0_table, .ref h1, .int v0_colour, .int v0_way])), (h1, .inr (1, [.int v1_x, .int v1_y, .int v1_endX, .int v1_endY])), (h2, .inr (2, [.ref h4, .ref h3])), (h3, .inl (cI, 1024, .inl f3_4)), (h4, .inr (6, [.int v4_w, .int v4_h, .ref h5])), (h5, .inl (cI, n5, .inl f5_5))] H → va_D A [(h0, .inr (5, [.ref g0_table, .ref h1, .int v0_colour, .int v0_way])), (h1, .inr (1, [.int v1_x, .int v1_y, .int v1_endX, .int v1_endY])), (h2, .inr (2, [.ref h4, .ref h3])), (h3, .inl (cI, 1024, .inl f3_4)), (h4, .inr (6, [.int v4_w, .int v4_h, .ref h5])), (h5, .inl (cI, n5, .inl f5_5))] → va_S A s.heap H locs → lv_has ls 7 [(0, .ref h2), (1, .int p1), (2, .ref h0), (3, .int p3), (4, .int l4_1), (5, .int l5_2), (6, .int l6_3)] → lp_X2_paintRow_15 v1_endX p1 v4_w v4_h n5 v0_colour v0_way p3 n l4_1 l5_2 l6_3 f3_4 f5_5 = some res → W p l e (headSpec w_X2_paintRow rm_X2_paintRow).room s m ([.ref h2, .int p1, .ref h0, .int p3] : List Value).toArray below meth c H locs 0 0 (MQ below (QMi (res.1) (dC, dI) [(cI, .int), (cZ, .boolean), (cO, .object "ListPainter$Settings")] A [(h0, .inr (5, [.ref g0_table, .ref h1, .int v0_colour, .int v0_way])), (h1, .inr (1, [.int v1_x, .int v1_y, .int v1_endX, .int v1_endY])), (h2, .inr (2, [.ref h4, .ref h3])), (h3, .inl (cI, 1024, .inl (res.2.1))), (h4, .inr (6, [.int v4_w, .int v4_h, .ref h5])), (h5, .inl (cI, n5, .inl (res.2.2)))]) ([.ref h2, .int p1, .ref h0, .int p3] : List Value).toArray s 0 0 A) (F0 m 15 ls []) := by
    intro n
    induction n with
    | zero =>
      intro l4_1 l5_2 l6_3 f3_4 f5_5 H locs ls hP hD hS hl hM
      rw [lp_X2_paintRow_15] at hM
      exact lp0 hM
    | succ n15_6 ih15_6 =>
      intro l4_1 l5_2 l6_3 f3_4 f5_5 H locs ls hP hD hS hl hM
      rw [lp_X2_paintRow_15] at hM
      refine lv_iload hx hb dX2_paintRow_15 (lv_at hl 6 rfl) ?_
      refine lv_aload_n hx hb dX2_paintRow_17 rfl (lv_at hl 2 rfl) ?_
      refine va_getN (D := (dC, dI)) (ci := 5) (v := .ref h1) (C := RX6) (T := TX6) (N := 4) hx hb hu inX6 hown hK hP 0 rfl rfl 1 (by decide) (gX_nest hG 232 kw_182 rfl) (fun _ h9 => h9) rfl dX2_paintRow_18 ?_
      refine va_getN (D := (dC, dI)) (ci := 1) (v := .int v1_endX) (C := RX1) (T := TX1) (N := 4) hx hb hu inX1 hown hK hP 1 rfl rfl 2 (by decide) (gX_nest hG 212 kw_177 rfl) (fun _ h9 => h9) rfl dX2_paintRow_21 ?_
      refine lv_icmp_ge (tgt := 98) hx hb dX2_paintRow_24 (by decide) (fun c_7 => ?_) (fun c_7 => ?_)
      · have hM := if_t c_7 hM
        refine lv_iload hx hb dX2_paintRow_98 (lv_at hl 4 rfl) ?_
        have h9 := Option.some.inj hM
        subst h9
        exact W.iret (v := l4_1) hx hb hr (fun t ht hW => QMi_mk (by rw [ht]; exact hP) (va_K.moved hW.alike hK) hD (hS.F ht)) hS.2.2 dX2_paintRow_100
      · have hM := if_f c_7 hM
        refine lv_iload hx hb dX2_paintRow_27 (lv_at hl 5 rfl) ?_
        refine lv_aload_n hx hb dX2_paintRow_29 rfl (lv_at hl 0 rfl) ?_
        refine lv_iload_n hx hb dX2_paintRow_30 rfl (lv_at hl 1 rfl) ?_
        refine lv_iload hx hb dX2_paintRow_31 (lv_at hl 6 rfl) ?_
        obtain ⟨r_8, f3_9, hm_10, hM⟩ := bd2_u hM
        refine cVi (r := r_8) (As := [.int p1, .int l6_3]) (rest := [.int l5_2]) ⟨hx, hb, hml, hown, hu⟩ (c_X2_takeChange l dC dI cI cZ cO tL H.size h2 h3 h4 f3_4 p1 l6_3 (r_8, f3_9) hm_10) (cwV 2 hu (gV kw_183 kw_184 kw_185 kw_156 kw_186) rfl rfl rfl (by decide +kernel) ⟨Nat.le_of_ble_eq_true rfl, Nat.le_of_ble_eq_true rfl⟩) hP hD hS hA hK hG [2, 3] (by decide) rfl [none, none, some 0, some 1, none, none] 2 rfl (by decide +kernel) rfl 2 2 rfl rfl rfl rfl hl.1 rfl (Nat.le_of_ble_eq_true rfl) dX2_paintRow_33 (Nat.zero_le _) (Nat.zero_le _) (fun H locs hP hD hS => ?_)
        have hP : va_P (dC, dI) vwCl [(h0, .inr (5, [.ref g0_table, .ref h1, .int v0_colour, .int v0_way])), (h1, .inr (1, [.int v1_x, .int v1_y, .int v1_endX, .int v1_endY])), (h2, .inr (2, [.ref h4, .ref h3])), (h3, .inl (cI, 1024, .inl f3_9)), (h4, .inr (6, [.int v4_w, .int v4_h, .ref h5])), (h5, .inl (cI, n5, .inl f5_5))] H := hP
        have hD : va_D A [(h0, .inr (5, [.ref g0_table, .ref h1, .int v0_colour, .int v0_way])), (h1, .inr (1, [.int v1_x, .int v1_y, .int v1_endX, .int v1_endY])), (h2, .inr (2, [.ref h4, .ref h3])), (h3, .inl (cI, 1024, .inl f3_9)), (h4, .inr (6, [.int v4_w, .int v4_h, .ref h5])), (h5, .inl (cI, n5, .inl f5_5))] := hD
        refine lv_iadd hx hb dX2_paintRow_36 ?_
        refine lv_topi (fun x_11 ex_11 => ?_)
        have hM := nm_u ex_11 hM
        refine lv_istore (lv' := [(5, .int x_11), (0, .ref h2), (1, .int p1), (2, .ref h0), (3, .int p3), (4, .int l4_1), (6, .int l6_3)]) hx hb dX2_paintRow_37 hl (by decide) rfl (fun ls hl => ?_)
        refine lv_iload_n hx hb dX2_paintRow_39 rfl (lv_at hl 4 rfl) ?_
        obtain ⟨K92_14, eK92_14, hM⟩ := jn_u hM
        have hJ92_14 : ∀ (l4_12 : Int32) (f5_13 : Nat → Int32) , ∀ (H : Heap) (locs : List Loc) (ls : Array Slot), va_P (dC, dI) vwCl [(h0, .inr (5, [.ref g0_table, .ref h1, .int v0_colour, .int v0_way])), (h1, .inr (1, [.int v1_x, .int v1_y, .int v1_endX, .int v1_endY])), (h2, .inr (2, [.ref h4, .ref h3])), (h3, .inl (cI, 1024, .inl f3_9)), (h4, .inr (6, [.int v4_w, .int v4_h, .ref h5])), (h5, .inl (cI, n5, .inl f5_13))] H → va_D A [(h0, .inr (5, [.ref g0_table, .ref h1, .int v0_colour, .int v0_way])), (h1, .inr (1, [.int v1_x, .int v1_y, .int v1_endX, .int v1_endY])), (h2, .inr (2, [.ref h4, .ref h3])), (h3, .inl (cI, 1024, .inl f3_9)), (h4, .inr (6, [.int v4_w, .int v4_h, .ref h5])), (h5, .inl (cI, n5, .inl f5_13))] → va_S A s.heap H locs → lv_has ls 7 [(0, .ref h2), (1, .int p1), (2, .ref h0), (3, .int p3), (4, .int l4_12), (5, .int x_11), (6, .int l6_3)] → K92_14 l4_12 f5_13 = some res → W p l e (headSpec w_X2_paintRow rm_X2_paintRow).room s m ([.ref h2, .int p1, .ref h0, .int p3] : List Value).toArray below meth c H locs 0 0 (MQ below (QMi (res.1) (dC, dI) [(cI, .int), (cZ, .boolean), (cO, .object "ListPainter$Settings")] A [(h0, .inr (5, [.ref g0_table, .ref h1, .int v0_colour, .int v0_way])), (h1, .inr (1, [.int v1_x, .int v1_y, .int v1_endX, .int v1_endY])), (h2, .inr (2, [.ref h4, .ref h3])), (h3, .inl (cI, 1024, .inl (res.2.1))), (h4, .inr (6, [.int v4_w, .int v4_h, .ref h5])), (h5, .inl (cI, n5, .inl (res.2.2)))]) ([.ref h2, .int p1, .ref h0, .int p3] : List Value).toArray s 0 0 A) (F0 m 92 ls []) := by
          intro l4_12 f5_13 H locs ls hP hD hS hl hM
          have hM := ja2 eK92_14 hM
          obtain ⟨x_15, ex_15⟩ : ∃ y : Int32, y = l6_3 + 1 := ⟨_, rfl⟩
          have hM := nm_u ex_15 hM
          refine lv_iinc (v := x_15) (lv' := [(6, .int x_15), (0, .ref h2), (1, .int p1), (2, .ref h0), (3, .int p3), (4, .int l4_12), (5, .int x_11)]) hx hb dX2_paintRow_92 hl (k := 6) rfl (by rw [ex_15]; rfl) (by decide) rfl (fun ls hl => ?_)
          refine lv_goto (tgt := 15) hx hb dX2_paintRow_95 (by decide) ?_
          exact ih15_6 l4_12 x_11 x_15 f3_9 f5_13 H locs ls hP hD hS (lv_sub hl [1, 2, 3, 4, 5, 6, 0] rfl) hM
        obtain ⟨K58_16, eK58_16, hM⟩ := jn_u hM
        have hJ58_16 : ∀ (H : Heap) (locs : List Loc) (ls : Array Slot), va_P (dC, dI) vwCl [(h0, .inr (5, [.ref g0_table, .ref h1, .int v0_colour, .int v0_way])), (h1, .inr (1, [.int v1_x, .int v1_y, .int v1_endX, .int v1_endY])), (h2, .inr (2, [.ref h4, .ref h3])), (h3, .inl (cI, 1024, .inl f3_9)), (h4, .inr (6, [.int v4_w, .int v4_h, .ref h5])), (h5, .inl (cI, n5, .inl f5_5))] H → va_D A [(h0, .inr (5, [.ref g0_table, .ref h1, .int v0_colour, .int v0_way])), (h1, .inr (1, [.int v1_x, .int v1_y, .int v1_endX, .int v1_endY])), (h2, .inr (2, [.ref h4, .ref h3])), (h3, .inl (cI, 1024, .inl f3_9)), (h4, .inr (6, [.int v4_w, .int v4_h, .ref h5])), (h5, .inl (cI, n5, .inl f5_5))] → va_S A s.heap H locs → lv_has ls 7 [(0, .ref h2), (1, .int p1), (2, .ref h0), (3, .int p3), (4, .int l4_1), (5, .int x_11), (6, .int l6_3)] → K58_16 = some res → W p l e (headSpec w_X2_paintRow rm_X2_paintRow).room s m ([.ref h2, .int p1, .ref h0, .int p3] : List Value).toArray below meth c H locs 0 0 (MQ below (QMi (res.1) (dC, dI) [(cI, .int), (cZ, .boolean), (cO, .object "ListPainter$Settings")] A [(h0, .inr (5, [.ref g0_table, .ref h1, .int v0_colour, .int v0_way])), (h1, .inr (1, [.int v1_x, .int v1_y, .int v1_endX, .int v1_endY])), (h2, .inr (2, [.ref h4, .ref h3])), (h3, .inl (cI, 1024, .inl (res.2.1))), (h4, .inr (6, [.int v4_w, .int v4_h, .ref h5])), (h5, .inl (cI, n5, .inl (res.2.2)))]) ([.ref h2, .int p1, .ref h0, .int p3] : List Value).toArray s 0 0 A) (F0 m 58 ls []) := by
          intro H locs ls hP hD hS hl hM
          have hM := ja0 eK58_16 hM
          refine lv_aload_n hx hb dX2_paintRow_58 rfl (lv_at hl 0 rfl) ?_
          refine va_get (D := (dC, dI)) (ci := 2) (v := .ref h4) (C := RX2) (T := TX2) (N := 2) hx hb hu inX2 hown hK hP 2 rfl rfl 0 (by decide) (hu _ kw_187) (fun _ h9 => h9) rfl dX2_paintRow_59 ?_
          refine lv_iload hx hb dX2_paintRow_62 (lv_at hl 6 rfl) ?_
          refine lv_iload_n hx hb dX2_paintRow_64 rfl (lv_at hl 1 rfl) ?_
          refine lv_aload_n hx hb dX2_paintRow_65 rfl (lv_at hl 2 rfl) ?_
          refine va_getN (D := (dC, dI)) (ci := 5) (v := .int v0_colour) (C := RX6) (T := TX6) (N := 4) hx hb hu inX6 hown hK hP 0 rfl rfl 2 (by decide) (gX_nest hG 238 kw_188 rfl) (fun _ h9 => h9) rfl dX2_paintRow_66 ?_
          refine lv_aload_n hx hb dX2_paintRow_69 rfl (lv_at hl 0 rfl) ?_
          refine va_get (D := (dC, dI)) (ci := 2) (v := .ref h4) (C := RX2) (T := TX2) (N := 2) hx hb hu inX2 hown hK hP 2 rfl rfl 0 (by decide) (hu _ kw_187) (fun _ h9 => h9) rfl dX2_paintRow_70 ?_
          refine lv_iload hx hb dX2_paintRow_73 (lv_at hl 6 rfl) ?_
          refine lv_iload_n hx hb dX2_paintRow_75 rfl (lv_at hl 1 rfl) ?_
          obtain ⟨r_17, hm_18, hM⟩ := bd1_u hM
          refine cVi (r := r_17) (As := [.int l6_3, .int p1]) (rest := [.int v0_colour, .int p1, .int l6_3, .ref h4]) ⟨hx, hb, hml, hown, hu⟩ (c_X7_at l dC dI cI cZ cO tL H.size h4 h5 v4_w v4_h n5 f5_5 l6_3 p1 r_17 hm_18) (cwV 2 hu (gV kw_189 kw_190 kw_191 kw_70 kw_192) rfl rfl rfl (by decide +kernel) ⟨Nat.le_of_ble_eq_true rfl, Nat.le_of_ble_eq_true rfl⟩) hP hD hS hA hK hG [4, 5] (by decide) rfl [none, none, none, none, some 0, some 1] 2 rfl (by decide +kernel) rfl 6 4 rfl rfl rfl rfl hl.1 rfl (Nat.le_of_ble_eq_true rfl) dX2_paintRow_76 (Nat.zero_le _) (Nat.zero_le _) (fun H locs hP hD hS => ?_)
          have hP : va_P (dC, dI) vwCl [(h0, .inr (5, [.ref g0_table, .ref h1, .int v0_colour, .int v0_way])), (h1, .inr (1, [.int v1_x, .int v1_y, .int v1_endX, .int v1_endY])), (h2, .inr (2, [.ref h4, .ref h3])), (h3, .inl (cI, 1024, .inl f3_9)), (h4, .inr (6, [.int v4_w, .int v4_h, .ref h5])), (h5, .inl (cI, n5, .inl f5_5))] H := hP
          have hD : va_D A [(h0, .inr (5, [.ref g0_table, .ref h1, .int v0_colour, .int v0_way])), (h1, .inr (1, [.int v1_x, .int v1_y, .int v1_endX, .int v1_endY])), (h2, .inr (2, [.ref h4, .ref h3])), (h3, .inl (cI, 1024, .inl f3_9)), (h4, .inr (6, [.int v4_w, .int v4_h, .ref h5])), (h5, .inl (cI, n5, .inl f5_5))] := hD
          refine lv_aload_n hx hb dX2_paintRow_79 rfl (lv_at hl 2 rfl) ?_
          refine va_getN (D := (dC, dI)) (ci := 5) (v := .int v0_way) (C := RX6) (T := TX6) (N := 4) hx hb hu inX6 hown hK hP 0 rfl rfl 3 (by decide) (gX_nest hG 242 kw_193 rfl) (fun _ h9 => h9) rfl dX2_paintRow_80 ?_
          obtain ⟨r_19, hm_20, hM⟩ := bd1_u hM
          refine cSi (r := r_19) (As := [.int v0_colour, .int r_17, .int v0_way]) (rest := [.int p1, .int l6_3, .ref h4]) ⟨hx, hb, hml, hown, hu⟩ (c_X4_laid l dC dI cI cZ cO tL H.size v0_colour r_17 v0_way r_19 hm_20) (va_cwS 3 hu (gS kw_194 kw_195 kw_79 kw_196) rfl rfl rfl (by decide +kernel) ⟨Nat.le_of_ble_eq_true rfl, Nat.le_of_ble_eq_true rfl⟩) hP hD hS hA hK hG [] (by decide) rfl [none, none, none, none, none, none] 0 rfl (by decide +kernel) rfl rfl hl.1 rfl (Nat.le_of_ble_eq_true rfl) dX2_paintRow_83 (Nat.zero_le _) (Nat.zero_le _) (fun H locs hP hD hS => ?_)
          have hP : va_P (dC, dI) vwCl [(h0, .inr (5, [.ref g0_table, .ref h1, .int v0_colour, .int v0_way])), (h1, .inr (1, [.int v1_x, .int v1_y, .int v1_endX, .int v1_endY])), (h2, .inr (2, [.ref h4, .ref h3])), (h3, .inl (cI, 1024, .inl f3_9)), (h4, .inr (6, [.int v4_w, .int v4_h, .ref h5])), (h5, .inl (cI, n5, .inl f5_5))] H := hP
          have hD : va_D A [(h0, .inr (5, [.ref g0_table, .ref h1, .int v0_colour, .int v0_way])), (h1, .inr (1, [.int v1_x, .int v1_y, .int v1_endX, .int v1_endY])), (h2, .inr (2, [.ref h4, .ref h3])), (h3, .inl (cI, 1024, .inl f3_9)), (h4, .inr (6, [.int v4_w, .int v4_h, .ref h5])), (h5, .inl (cI, n5, .inl f5_5))] := hD
          obtain ⟨f5_21, hm_22, hM⟩ := bd1_u hM
          refine cVv (As := [.int l6_3, .int p1, .int r_19]) (rest := []) ⟨hx, hb, hml, hown, hu⟩ (c_X7_put l dC dI cI cZ cO tL H.size h4 h5 v4_w v4_h n5 f5_5 l6_3 p1 r_19 f5_21 hm_22) (cwV 3 hu (gV kw_197 kw_198 kw_199 kw_70 kw_200) rfl rfl rfl (by decide +kernel) ⟨Nat.le_of_ble_eq_true rfl, Nat.le_of_ble_eq_true rfl⟩) hP hD hS hA hK hG [4, 5] (by decide) rfl [none, none, none, none, some 0, some 1] 2 rfl (by decide +kernel) rfl 6 4 rfl rfl rfl rfl hl.1 rfl (Nat.le_of_ble_eq_true rfl) dX2_paintRow_86 (Nat.zero_le _) (Nat.zero_le _) (fun H locs hP hD hS => ?_)
          have hP : va_P (dC, dI) vwCl [(h0, .inr (5, [.ref g0_table, .ref h1, .int v0_colour, .int v0_way])), (h1, .inr (1, [.int v1_x, .int v1_y, .int v1_endX, .int v1_endY])), (h2, .inr (2, [.ref h4, .ref h3])), (h3, .inl (cI, 1024, .inl f3_9)), (h4, .inr (6, [.int v4_w, .int v4_h, .ref h5])), (h5, .inl (cI, n5, .inl f5_21))] H := hP
          have hD : va_D A [(h0, .inr (5, [.ref g0_table, .ref h1, .int v0_colour, .int v0_way])), (h1, .inr (1, [.int v1_x, .int v1_y, .int v1_endX, .int v1_endY])), (h2, .inr (2, [.ref h4, .ref h3])), (h3, .inl (cI, 1024, .inl f3_9)), (h4, .inr (6, [.int v4_w, .int v4_h, .ref h5])), (h5, .inl (cI, n5, .inl f5_21))] := hD
          obtain ⟨x_23, ex_23⟩ : ∃ y : Int32, y = l4_1 + 1 := ⟨_, rfl⟩
          have hM := nm_u ex_23 hM
          refine lv_iinc (v := x_23) (lv' := [(4, .int x_23), (0, .ref h2), (1, .int p1), (2, .ref h0), (3, .int p3), (5, .int x_11), (6, .int l6_3)]) hx hb dX2_paintRow_89 hl (k := 4) rfl (by rw [ex_23]; rfl) (by decide) rfl (fun ls hl => ?_)
          exact hJ92_14 x_23 f5_21 H locs ls hP hD hS (lv_sub hl [1, 2, 3, 4, 0, 5, 6] rfl) hM
        refine lv_if_ne (tgt := 51) hx hb dX2_paintRow_40 (by decide) (fun c_24 => ?_) (fun c_24 => ?_)
        · have hM := if_f c_24 hM
          refine lv_iload hx hb dX2_paintRow_51 (lv_at hl 0 rfl) ?_
          refine lv_iconst (v := 1) hx hb dX2_paintRow_53 (by decide) ?_
          refine lv_iand hx hb dX2_paintRow_54 ?_
          refine lv_if_eq (tgt := 92) hx hb dX2_paintRow_55 (by decide) (fun c_25 => ?_) (fun c_25 => ?_)
          · have hM := if_t c_25 hM
            exact hJ92_14 l4_1 f5_5 H locs ls hP hD hS (lv_sub hl [1, 2, 3, 4, 5, 0, 6] rfl) hM
          · have hM := if_f c_25 hM
            exact hJ58_16  H locs ls hP hD hS (lv_sub hl [1, 2, 3, 4, 5, 0, 6] rfl) hM
        · have hM := if_t c_24 hM
          refine lv_iload hx hb dX2_paintRow_43 (lv_at hl 0 rfl) ?_
          refine lv_if_eq (tgt := 92) hx hb dX2_paintRow_45 (by decide) (fun c_26 => ?_) (fun c_26 => ?_)
          · have hM := if_t c_26 hM
            exact hJ92_14 l4_1 f5_5 H locs ls hP hD hS (lv_sub hl [1, 2, 3, 4, 5, 0, 6] rfl) hM
          · have hM := if_f c_26 hM
            refine lv_goto (tgt := 58) hx hb dX2_paintRow_48 (by decide) ?_
            exact hJ58_16  H locs ls hP hD hS (lv_sub hl [1, 2, 3, 4, 5, 0, 6] rfl) hM
  exact hL15_6 FU 0 0 v1_x f3 f5 H locs ls hP hD hS (lv_sub hl [3, 4, 5, 6, 2, 1, 0] rfl) hM
theorem dX2_fill_0 : decode cX2_fill 0 = .ok (.iconst 0, 1) := by decide +kernel
theorem dX2_fill_1 : decode cX2_fill 1 = .ok (.istore 4, 2) := by decide +kernel
theorem dX2_fill_3 : decode cX2_fill 3 = .ok (.iconst 0, 1) := by decide +kernel
theorem dX2_fill_4 : decode cX2_fill 4 = .ok (.istore 5, 2) := by decide +kernel
theorem dX2_fill_6 : decode cX2_fill 6 = .ok (.iload 5, 2) := by decide +kernel
theorem dX2_fill_8 : decode cX2_fill 8 = .ok (.aload_n 1, 1) := by decide +kernel
theorem dX2_fill_9 : decode cX2_fill 9 = .ok (.getfield 19, 3) := by decide +kernel
theorem dX2_fill_12 : decode cX2_fill 12 = .ok (.if_icmp .ge 42, 3) := by decide +kernel
theorem dX2_fill_15 : decode cX2_fill 15 = .ok (.aload_n 1, 1) := by decide +kernel
theorem dX2_fill_16 : decode cX2_fill 16 = .ok (.getfield 25, 3) := by decide +kernel
theorem dX2_fill_19 : decode cX2_fill 19 = .ok (.iload 5, 2) := by decide +kernel
theorem dX2_fill_21 : decode cX2_fill 21 = .ok (.baload, 1) := by decide +kernel
theorem dX2_fill_22 : decode cX2_fill 22 = .ok (.ifCond .eq 7, 3) := by decide +kernel
theorem dX2_fill_25 : decode cX2_fill 25 = .ok (.iload 5, 2) := by decide +kernel
theorem dX2_fill_27 : decode cX2_fill 27 = .ok (.istore 4, 2) := by decide +kernel
theorem dX2_fill_29 : decode cX2_fill 29 = .ok (.aload_n 0, 1) := by decide +kernel
theorem dX2_fill_30 : decode cX2_fill 30 = .ok (.aload_n 1, 1) := by decide +kernel
theorem dX2_fill_31 : decode cX2_fill 31 = .ok (.iload 5, 2) := by decide +kernel
theorem dX2_fill_33 : decode cX2_fill 33 = .ok (.aload_n 1, 1) := by decide +kernel
theorem dX2_fill_34 : decode cX2_fill 34 = .ok (.iload 5, 2) := by decide +kernel
theorem dX2_fill_36 : decode cX2_fill 36 = .ok (.iload 4, 2) := by decide +kernel
theorem dX2_fill_38 : decode cX2_fill 38 = .ok (.invokevirtual 29, 3) := by decide +kernel
theorem dX2_fill_41 : decode cX2_fill 41 = .ok (.aload_n 2, 1) := by decide +kernel
theorem dX2_fill_42 : decode cX2_fill 42 = .ok (.getfield 33, 3) := by decide +kernel
theorem dX2_fill_45 : decode cX2_fill 45 = .ok (.invokevirtual 39, 3) := by decide +kernel
theorem dX2_fill_48 : decode cX2_fill 48 = .ok (.iinc 5 1, 3) := by decide +kernel
theorem dX2_fill_51 : decode cX2_fill 51 = .ok (.goto (-45), 3) := by decide +kernel
theorem dX2_fill_54 : decode cX2_fill 54 = .ok (.iconst 0, 1) := by decide +kernel
theorem dX2_fill_55 : decode cX2_fill 55 = .ok (.istore 5, 2) := by decide +kernel
theorem dX2_fill_57 : decode cX2_fill 57 = .ok (.aload_n 2, 1) := by decide +kernel
theorem dX2_fill_58 : decode cX2_fill 58 = .ok (.getfield 33, 3) := by decide +kernel
theorem dX2_fill_61 : decode cX2_fill 61 = .ok (.getfield 43, 3) := by decide +kernel
theorem dX2_fill_64 : decode cX2_fill 64 = .ok (.istore 6, 2) := by decide +kernel
theorem dX2_fill_66 : decode cX2_fill 66 = .ok (.iload 6, 2) := by decide +kernel
theorem dX2_fill_68 : decode cX2_fill 68 = .ok (.aload_n 2, 1) := by decide +kernel
theorem dX2_fill_69 : decode cX2_fill 69 = .ok (.getfield 33, 3) := by decide +kernel
theorem dX2_fill_72 : decode cX2_fill 72 = .ok (.getfield 48, 3) := by decide +kernel
theorem dX2_fill_75 : decode cX2_fill 75 = .ok (.if_icmp .ge 22, 3) := by decide +kernel
theorem dX2_fill_78 : decode cX2_fill 78 = .ok (.iload 5, 2) := by decide +kernel
theorem dX2_fill_80 : decode cX2_fill 80 = .ok (.aload_n 0, 1) := by decide +kernel
theorem dX2_fill_81 : decode cX2_fill 81 = .ok (.iload 6, 2) := by decide +kernel
theorem dX2_fill_83 : decode cX2_fill 83 = .ok (.aload_n 2, 1) := by decide +kernel
theorem dX2_fill_84 : decode cX2_fill 84 = .ok (.iload_n 3, 1) := by decide +kernel
theorem dX2_fill_85 : decode cX2_fill 85 = .ok (.invokevirtual 51, 3) := by decide +kernel
theorem dX2_fill_88 : decode cX2_fill 88 = .ok (.iadd, 1) := by decide +kernel
theorem dX2_fill_89 : decode cX2_fill 89 = .ok (.istore 5, 2) := by decide +kernel
theorem dX2_fill_91 : decode cX2_fill 91 = .ok (.iinc 6 1, 3) := by decide +kernel
theorem dX2_fill_94 : decode cX2_fill 94 = .ok (.goto (-28), 3) := by decide +kernel
theorem dX2_fill_97 : decode cX2_fill 97 = .ok (.iload 5, 2) := by decide +kernel
theorem dX2_fill_99 : decode cX2_fill 99 = .ok (.ireturn, 1) := by decide +kernel
abbrev rm_X2_fill : Room := { frames := 4, cells := 0, slots := 0, locals := 97 }
def w_X2_fill : List Cond := Cond.code yX2_fill cX2_fill 7 (some .int) :: uw
set_option maxHeartbeats 4000000 in
set_option maxRecDepth 100000 in
theorem c_X2_fill (l : Launch) (dC : Nat → ClassId) (dI : Nat → Nat → Nat) (cI cZ cO : ClassId) (tL sz : Nat) (h0 : Nat) (h1 : Nat) (h2 : Nat) (h3 : Nat) (h4 : Nat) (h5 : Nat) (h6 : Nat) (h7 : Nat) (h8 : Nat) (h9 : Nat) (g2_table : Nat) (v0_points : Int32) (v0_lines : Int32) (v0_first : Int32) (v0_firstToldX : Int32) (v0_firstToldY : Int32) (v0_lastToldX : Int32) (v0_lastToldY : Int32) (v0_leastX : Int32) (v0_leastY : Int32) (v0_greatestY : Int32) (f1 : Nat → Int32) (v2_colour : Int32) (v2_way : Int32) (f4 : Nat → Int32) (v5_x : Int32) (v5_y : Int32) (v5_endX : Int32) (v5_endY : Int32) (f6 : Nat → Int32) (f7 : Nat → Int32) (v8_w : Int32) (v8_h : Int32) (n9 : Nat) (f9 : Nat → Int32) (p3 : Int32) (res : Int32 × (Nat → Int32) × (Nat → Int32)) (hM : m_X2_fill v0_points f1 v2_colour v2_way f4 v5_x v5_y v5_endX v5_endY f6 f7 v8_w v8_h n9 f9 p3 = some res) : Met l yX2_fill w_X2_fill rm_X2_fill (PCx [.ref h3, .ref h0, .ref h2, .int p3] (dC, dI) [(cI, .int), (cZ, .boolean), (cO, .object "ListPainter$Settings")] sz tL [(h0, .inr (4, [.ref h6, .ref h4, .ref h1, .int v0_points, .int v0_lines, .int v0_first, .int v0_firstToldX, .int v0_firstToldY, .int v0_lastToldX, .int v0_lastToldY, .int v0_leastX, .int v0_leastY, .int v0_greatestY])), (h1, .inl (cZ, 800, .inl f1)), (h2, .inr (5, [.ref g2_table, .ref h5, .int v2_colour, .int v2_way])), (h3, .inr (2, [.ref h8, .ref h7])), (h4, .inl (cI, 800, .inl f4)), (h5, .inr (1, [.int v5_x, .int v5_y, .int v5_endX, .int v5_endY])), (h6, .inl (cI, 800, .inl f6)), (h7, .inl (cI, 1024, .inl f7)), (h8, .inr (6, [.int v8_w, .int v8_h, .ref h9])), (h9, .inl (cI, n9, .inl f9))]) (QMi (res.1) (dC, dI) [(cI, .int), (cZ, .boolean), (cO, .object "ListPainter$Settings")] (va_A [(h0, .inr (4, [.ref h6, .ref h4, .ref h1, .int v0_points, .int v0_lines, .int v0_first, .int v0_firstToldX, .int v0_firstToldY, .int v0_lastToldX, .int v0_lastToldY, .int v0_leastX, .int v0_leastY, .int v0_greatestY])), (h1, .inl (cZ, 800, .inl f1)), (h2, .inr (5, [.ref g2_table, .ref h5, .int v2_colour, .int v2_way])), (h3, .inr (2, [.ref h8, .ref h7])), (h4, .inl (cI, 800, .inl f4)), (h5, .inr (1, [.int v5_x, .int v5_y, .int v5_endX, .int v5_endY])), (h6, .inl (cI, 800, .inl f6)), (h7, .inl (cI, 1024, .inl f7)), (h8, .inr (6, [.int v8_w, .int v8_h, .ref h9])), (h9, .inl (cI, n9, .inl f9))] sz) [(h0, .inr (4, [.ref h6, .ref h4, .ref h1, .int v0_points, .int v0_lines, .int v0_first, .int v0_firstToldX, .int v0_firstToldY, .int v0_lastToldX, .int v0_lastToldY, .int v0_leastX, .int v0_leastY, .int v0_greatestY])), (h1, .inl (cZ, 800, .inl f1)), (h2, .inr (5, [.ref g2_table, .ref h5, .int v2_colour, .int v2_way])), (h3, .inr (2, [.ref h8, .ref h7])), (h4, .inl (cI, 800, .inl f4)), (h5, .inr (1, [.int v5_x, .int v5_y, .int v5_endX, .int v5_endY])), (h6, .inl (cI, 800, .inl f6)), (h7, .inl (cI, 1024, .inl (res.2.1))), (h8, .inr (6, [.int v8_w, .int v8_h, .ref h9])), (h9, .inl (cI, n9, .inl (res.2.2)))]) 0 0 (va_A [(h0, .inr (4, [.ref h6, .ref h4, .ref h1, .int v0_points, .int v0_lines, .int v0_first, .int v0_firstToldX, .int v0_firstToldY, .int v0_lastToldX, .int v0_lastToldY, .int v0_leastX, .int v0_leastY, .int v0_greatestY])), (h1, .inl (cZ, 800, .inl f1)), (h2, .inr (5, [.ref g2_table, .ref h5, .int v2_colour, .int v2_way])), (h3, .inr (2, [.ref h8, .ref h7])), (h4, .inl (cI, 800, .inl f4)), (h5, .inr (1, [.int v5_x, .int v5_y, .int v5_endX, .int v5_endY])), (h6, .inl (cI, 800, .inl f6)), (h7, .inl (cI, 1024, .inl f7)), (h8, .inr (6, [.int v8_w, .int v8_h, .ref h9])), (h9, .inl (cI, n9, .inl f9))] sz) := by
  refine Met.ofW (cc := cX2_fill) (maxL := 7) (ret := (some .int)) (by decide) rfl ?_
  intro p e s m args below meth c s₁ B hml hv
  obtain ⟨rfl, hsz, hP, hK, hD0, hG⟩ := hv
  have hx := B.exec
  have hb := B.bytes
  have hr := B.returns
  have hu : ∀ w ∈ uw, w.before ([.ref h3, .ref h0, .ref h2, .int p3] : List Value).toArray s = true := fun w h => atoms_spec (ws := w_X2_fill) B.pre w (List.mem_cons_of_mem _ h)
  have hown : s.vm.findClass RX2 = some m.cls := findClass_of_methodNamed B.named
  have hlocks := B.notSynchronized
  subst hsz
  have hD := hD0.self (sz := s.heap.size)
  generalize hAe : va_A [(h0, .inr (4, [.ref h6, .ref h4, .ref h1, .int v0_points, .int v0_lines, .int v0_first, .int v0_firstToldX, .int v0_firstToldY, .int v0_lastToldX, .int v0_lastToldY, .int v0_leastX, .int v0_leastY, .int v0_greatestY])), (h1, .inl (cZ, 800, .inl f1)), (h2, .inr (5, [.ref g2_table, .ref h5, .int v2_colour, .int v2_way])), (h3, .inr (2, [.ref h8, .ref h7])), (h4, .inl (cI, 800, .inl f4)), (h5, .inr (1, [.int v5_x, .int v5_y, .int v5_endX, .int v5_endY])), (h6, .inl (cI, 800, .inl f6)), (h7, .inl (cI, 1024, .inl f7)), (h8, .inr (6, [.int v8_w, .int v8_h, .ref h9])), (h9, .inl (cI, n9, .inl f9))] s.heap.size = A at hD hG ⊢
  have hA : ∀ q : Nat, s.heap.size ≤ q → A q := fun q h => by rw [← hAe]; exact Or.inr h
  have hS : va_S A s.heap s.heap [] := va_S.rf
  have hP : va_P (dC, dI) vwCl [(h0, .inr (4, [.ref h6, .ref h4, .ref h1, .int v0_points, .int v0_lines, .int v0_first, .int v0_firstToldX, .int v0_firstToldY, .int v0_lastToldX, .int v0_lastToldY, .int v0_leastX, .int v0_leastY, .int v0_greatestY])), (h1, .inl (cZ, 800, .inl f1)), (h2, .inr (5, [.ref g2_table, .ref h5, .int v2_colour, .int v2_way])), (h3, .inr (2, [.ref h8, .ref h7])), (h4, .inl (cI, 800, .inl f4)), (h5, .inr (1, [.int v5_x, .int v5_y, .int v5_endX, .int v5_endY])), (h6, .inl (cI, 800, .inl f6)), (h7, .inl (cI, 1024, .inl f7)), (h8, .inr (6, [.int v8_w, .int v8_h, .ref h9])), (h9, .inl (cI, n9, .inl f9))] s.heap := hP
  have hl := lv_entry ([.ref h3, .ref h0, .ref h2, .int p3]) (n := 7) (Nat.le_of_ble_eq_true rfl)
  rw [lg_entry_eq]
  generalize (lg_sl ([.ref h3, .ref h0, .ref h2, .int p3]) ++ List.replicate (7 - (lg_sl ([.ref h3, .ref h0, .ref h2, .int p3])).length) Slot.unset).toArray = ls at hl ⊢
  have hl : lv_has ls 7 [(0, .ref h3), (1, .ref h0), (2, .ref h2), (3, .int p3)] := hl
  rw [m_X2_fill] at hM
  suffices hgo : ∀ (H : Heap) (locs : List Loc), va_P (dC, dI) vwCl [(h0, .inr (4, [.ref h6, .ref h4, .ref h1, .int v0_points, .int v0_lines, .int v0_first, .int v0_firstToldX, .int v0_firstToldY, .int v0_lastToldX, .int v0_lastToldY, .int v0_leastX, .int v0_leastY, .int v0_greatestY])), (h1, .inl (cZ, 800, .inl f1)), (h2, .inr (5, [.ref g2_table, .ref h5, .int v2_colour, .int v2_way])), (h3, .inr (2, [.ref h8, .ref h7])), (h4, .inl (cI, 800, .inl f4)), (h5, .inr (1, [.int v5_x, .int v5_y, .int v5_endX, .int v5_endY])), (h6, .inl (cI, 800, .inl f6)), (h7, .inl (cI, 1024, .inl f7)), (h8, .inr (6, [.int v8_w, .int v8_h, .ref h9])), (h9, .inl (cI, n9, .inl f9))] H → va_D A [(h0, .inr (4, [.ref h6, .ref h4, .ref h1, .int v0_points, .int v0_lines, .int v0_first, .int v0_firstToldX, .int v0_firstToldY, .int v0_lastToldX, .int v0_lastToldY, .int v0_leastX, .int v0_leastY, .int v0_greatestY])), (h1, .inl (cZ, 800, .inl f1)), (h2, .inr (5, [.ref g2_table, .ref h5, .int v2_colour, .int v2_way])), (h3, .inr (2, [.ref h8, .ref h7])), (h4, .inl (cI, 800, .inl f4)), (h5, .inr (1, [.int v5_x, .int v5_y, .int v5_endX, .int v5_endY])), (h6, .inl (cI, 800, .inl f6)), (h7, .inl (cI, 1024, .inl f7)), (h8, .inr (6, [.int v8_w, .int v8_h, .ref h9])), (h9, .inl (cI, n9, .inl f9))] → va_S A s.heap H locs → W p l e (headSpec w_X2_fill rm_X2_fill).room s m ([.ref h3, .ref h0, .ref h2, .int p3] : List Value).toArray below meth c H locs 0 0 (MQ below (QMi (res.1) (dC, dI) [(cI, .int), (cZ, .boolean), (cO, .object "ListPainter$Settings")] A [(h0, .inr (4, [.ref h6, .ref h4, .ref h1, .int v0_points, .int v0_lines, .int v0_first, .int v0_firstToldX, .int v0_firstToldY, .int v0_lastToldX, .int v0_lastToldY, .int v0_leastX, .int v0_leastY, .int v0_greatestY])), (h1, .inl (cZ, 800, .inl f1)), (h2, .inr (5, [.ref g2_table, .ref h5, .int v2_colour, .int v2_way])), (h3, .inr (2, [.ref h8, .ref h7])), (h4, .inl (cI, 800, .inl f4)), (h5, .inr (1, [.int v5_x, .int v5_y, .int v5_endX, .int v5_endY])), (h6, .inl (cI, 800, .inl f6)), (h7, .inl (cI, 1024, .inl (res.2.1))), (h8, .inr (6, [.int v8_w, .int v8_h, .ref h9])), (h9, .inl (cI, n9, .inl (res.2.2)))]) ([.ref h3, .ref h0, .ref h2, .int p3] : List Value).toArray s 0 0 A) (F0 m 0 ls []) from hgo _ _ hP hD hS
  intro H locs hP hD hS
  refine lv_iconst (v := 0) hx hb dX2_fill_0 (by decide) ?_
  refine lv_istore (lv' := [(4, .int 0), (0, .ref h3), (1, .ref h0), (2, .ref h2), (3, .int p3)]) hx hb dX2_fill_1 hl (by decide) rfl (fun ls hl => ?_)
  refine lv_iconst (v := 0) hx hb dX2_fill_3 (by decide) ?_
  refine lv_istore (lv' := [(5, .int 0), (4, .int 0), (0, .ref h3), (1, .ref h0), (2, .ref h2), (3, .int p3)]) hx hb dX2_fill_4 hl (by decide) rfl (fun ls hl => ?_)
  obtain ⟨K54_2, eK54_2, hM⟩ := jn_u hM
  have hJ54_2 : ∀ (f7_1 : Nat → Int32) , ∀ (H : Heap) (locs : List Loc) (ls : Array Slot), va_P (dC, dI) vwCl [(h0, .inr (4, [.ref h6, .ref h4, .ref h1, .int v0_points, .int v0_lines, .int v0_first, .int v0_firstToldX, .int v0_firstToldY, .int v0_lastToldX, .int v0_lastToldY, .int v0_leastX, .int v0_leastY, .int v0_greatestY])), (h1, .inl (cZ, 800, .inl f1)), (h2, .inr (5, [.ref g2_table, .ref h5, .int v2_colour, .int v2_way])), (h3, .inr (2, [.ref h8, .ref h7])), (h4, .inl (cI, 800, .inl f4)), (h5, .inr (1, [.int v5_x, .int v5_y, .int v5_endX, .int v5_endY])), (h6, .inl (cI, 800, .inl f6)), (h7, .inl (cI, 1024, .inl f7_1)), (h8, .inr (6, [.int v8_w, .int v8_h, .ref h9])), (h9, .inl (cI, n9, .inl f9))] H → va_D A [(h0, .inr (4, [.ref h6, .ref h4, .ref h1, .int v0_points, .int v0_lines, .int v0_first, .int v0_firstToldX, .int v0_firstToldY, .int v0_lastToldX, .int v0_lastToldY, .int v0_leastX, .int v0_leastY, .int v0_greatestY])), (h1, .inl (cZ, 800, .inl f1)), (h2, .inr (5, [.ref g2_table, .ref h5, .int v2_colour, .int v2_way])), (h3, .inr (2, [.ref h8, .ref h7])), (h4, .inl (cI, 800, .inl f4)), (h5, .inr (1, [.int v5_x, .int v5_y, .int v5_endX, .int v5_endY])), (h6, .inl (cI, 800, .inl f6)), (h7, .inl (cI, 1024, .inl f7_1)), (h8, .inr (6, [.int v8_w, .int v8_h, .ref h9])), (h9, .inl (cI, n9, .inl f9))] → va_S A s.heap H locs → lv_has ls 7 [(0, .ref h3), (2, .ref h2), (3, .int p3)] → K54_2 f7_1 = some res → W p l e (headSpec w_X2_fill rm_X2_fill).room s m ([.ref h3, .ref h0, .ref h2, .int p3] : List Value).toArray below meth c H locs 0 0 (MQ below (QMi (res.1) (dC, dI) [(cI, .int), (cZ, .boolean), (cO, .object "ListPainter$Settings")] A [(h0, .inr (4, [.ref h6, .ref h4, .ref h1, .int v0_points, .int v0_lines, .int v0_first, .int v0_firstToldX, .int v0_firstToldY, .int v0_lastToldX, .int v0_lastToldY, .int v0_leastX, .int v0_leastY, .int v0_greatestY])), (h1, .inl (cZ, 800, .inl f1)), (h2, .inr (5, [.ref g2_table, .ref h5, .int v2_colour, .int v2_way])), (h3, .inr (2, [.ref h8, .ref h7])), (h4, .inl (cI, 800, .inl f4)), (h5, .inr (1, [.int v5_x, .int v5_y, .int v5_endX, .int v5_endY])), (h6, .inl (cI, 800, .inl f6)), (h7, .inl (cI, 1024, .inl (res.2.1))), (h8, .inr (6, [.int v8_w, .int v8_h, .ref h9])), (h9, .inl (cI, n9, .inl (res.2.2)))]) ([.ref h3, .ref h0, .ref h2, .int p3] : List Value).toArray s 0 0 A) (F0 m 54 ls []) := by
    intro f7_1 H locs ls hP hD hS hl hM
    have hM := ja1 eK54_2 hM
    refine lv_iconst (v := 0) hx hb dX2_fill_54 (by decide) ?_
    refine lv_istore (lv' := [(5, .int 0), (0, .ref h3), (2, .ref h2), (3, .int p3)]) hx hb dX2_fill_55 hl (by decide) rfl (fun ls hl => ?_)
    refine lv_aload_n hx hb dX2_fill_57 rfl (lv_at hl 2 rfl) ?_
    refine va_getN (D := (dC, dI)) (ci := 5) (v := .ref h5) (C := RX6) (T := TX6) (N := 4) hx hb hu inX6 hown hK hP 2 rfl rfl 1 (by decide) (gX_nest hG 232 kw_182 rfl) (fun _ h9 => h9) rfl dX2_fill_58 ?_
    refine va_getN (D := (dC, dI)) (ci := 1) (v := .int v5_y) (C := RX1) (T := TX1) (N := 4) hx hb hu inX1 hown hK hP 5 rfl rfl 1 (by decide) (gX_nest hG 208 kw_169 rfl) (fun _ h9 => h9) rfl dX2_fill_61 ?_
    refine lv_istore (lv' := [(6, .int v5_y), (5, .int 0), (0, .ref h3), (2, .ref h2), (3, .int p3)]) hx hb dX2_fill_64 hl (by decide) rfl (fun ls hl => ?_)
    have hL66_7 : ∀ (n : Nat) (l5_3 : Int32) (l6_4 : Int32) (f7_5 : Nat → Int32) (f9_6 : Nat → Int32) , ∀ (H : Heap) (locs : List Loc) (ls : Array Slot), va_P (dC, dI) vwCl [(h0, .inr (4, [.ref h6, .ref h4, .ref h1, .int v0_points, .int v0_lines, .int v0_first, .int v0_firstToldX, .int v0_firstToldY, .int v0_lastToldX, .int v0_lastToldY, .int v0_leastX, .int v0_leastY, .int v0_greatestY])), (h1, .inl (cZ, 800, .inl f1)), (h2, .inr (5, [.ref g2_table, .ref h5, .int v2_colour, .int v2_way])), (h3, .inr (2, [.ref h8, .ref h7])), (h4, .inl (cI, 800, .inl f4)), (h5, .inr (1, [.int v5_x, .int v5_y, .int v5_endX, .int v5_endY])), (h6, .inl (cI, 800, .inl f6)), (h7, .inl (cI, 1024, .inl f7_5)), (h8, .inr (6, [.int v8_w, .int v8_h, .ref h9])), (h9, .inl (cI, n9, .inl f9_6))] H → va_D A [(h0, .inr (4, [.ref h6, .ref h4, .ref h1, .int v0_points, .int v0_lines, .int v0_first, .int v0_firstToldX, .int v0_firstToldY, .int v0_lastToldX, .int v0_lastToldY, .int v0_leastX, .int v0_leastY, .int v0_greatestY])), (h1, .inl (cZ, 800, .inl f1)), (h2, .inr (5, [.ref g2_table, .ref h5, .int v2_colour, .int v2_way])), (h3, .inr (2, [.ref h8, .ref h7])), (h4, .inl (cI, 800, .inl f4)), (h5, .inr (1, [.int v5_x, .int v5_y, .int v5_endX, .int v5_endY])), (h6, .inl (cI, 800, .inl f6)), (h7, .inl (cI, 1024, .inl f7_5)), (h8, .inr (6, [.int v8_w, .int v8_h, .ref h9])), (h9, .inl (cI, n9, .inl f9_6))] → va_S A s.heap H locs → lv_has ls 7 [(0, .ref h3), (2, .ref h2), (3, .int p3), (5, .int l5_3), (6, .int l6_4)] → lp_X2_fill_66 v5_endY v2_colour v2_way v5_x v5_endX v8_w v8_h n9 p3 n l5_3 l6_4 f7_5 f9_6 = some res → W p l e (headSpec w_X2_fill rm_X2_fill).room s m ([.ref h3, .ref h0, .ref h2, .int p3] : List Value).toArray below meth c H locs 0 0 (MQ below (QMi (res.1) (dC, dI) [(cI, .int), (cZ, .boolean), (cO, .object "ListPainter$Settings")] A [(h0, .inr (4, [.ref h6, .ref h4, .ref h1, .int v0_points, .int v0_lines, .int v0_first, .int v0_firstToldX, .int v0_firstToldY, .int v0_lastToldX, .int v0_lastToldY, .int v0_leastX, .int v0_leastY, .int v0_greatestY])), (h1, .inl (cZ, 800, .inl f1)), (h2, .inr (5, [.ref g2_table, .ref h5, .int v2_colour, .int v2_way])), (h3, .inr (2, [.ref h8, .ref h7])), (h4, .inl (cI, 800, .inl f4)), (h5, .inr (1, [.int v5_x, .int v5_y, .int v5_endX, .int v5_endY])), (h6, .inl (cI, 800, .inl f6)), (h7, .inl (cI, 1024, .inl (res.2.1))), (h8, .inr (6, [.int v8_w, .int v8_h, .ref h9])), (h9, .inl (cI, n9, .inl (res.2.2)))]) ([.ref h3, .ref h0, .ref h2, .int p3] : List Value).toArray s 0 0 A) (F0 m 66 ls []) := by
      intro n
      induction n with
      | zero =>
        intro l5_3 l6_4 f7_5 f9_6 H locs ls hP hD hS hl hM
        rw [lp_X2_fill_66] at hM
        exact lp0 hM
      | succ n66_7 ih66_7 =>
        intro l5_3 l6_4 f7_5 f9_6 H locs ls hP hD hS hl hM
        rw [lp_X2_fill_66] at hM
        refine lv_iload hx hb dX2_fill_66 (lv_at hl 4 rfl) ?_
        refine lv_aload_n hx hb dX2_fill_68 rfl (lv_at hl 1 rfl) ?_
        refine va_getN (D := (dC, dI)) (ci := 5) (v := .ref h5) (C := RX6) (T := TX6) (N := 4) hx hb hu inX6 hown hK hP 2 rfl rfl 1 (by decide) (gX_nest hG 232 kw_182 rfl) (fun _ h9 => h9) rfl dX2_fill_69 ?_
        refine va_getN (D := (dC, dI)) (ci := 1) (v := .int v5_endY) (C := RX1) (T := TX1) (N := 4) hx hb hu inX1 hown hK hP 5 rfl rfl 3 (by decide) (gX_nest hG 216 kw_171 rfl) (fun _ h9 => h9) rfl dX2_fill_72 ?_
        refine lv_icmp_ge (tgt := 97) hx hb dX2_fill_75 (by decide) (fun c_8 => ?_) (fun c_8 => ?_)
        · have hM := if_t c_8 hM
          refine lv_iload hx hb dX2_fill_97 (lv_at hl 3 rfl) ?_
          have h9 := Option.some.inj hM
          subst h9
          exact W.iret (v := l5_3) hx hb hr (fun t ht hW => QMi_mk (by rw [ht]; exact hP) (va_K.moved hW.alike hK) hD (hS.F ht)) hS.2.2 dX2_fill_99
        · have hM := if_f c_8 hM
          refine lv_iload hx hb dX2_fill_78 (lv_at hl 3 rfl) ?_
          refine lv_aload_n hx hb dX2_fill_80 rfl (lv_at hl 0 rfl) ?_
          refine lv_iload hx hb dX2_fill_81 (lv_at hl 4 rfl) ?_
          refine lv_aload_n hx hb dX2_fill_83 rfl (lv_at hl 1 rfl) ?_
          refine lv_iload_n hx hb dX2_fill_84 rfl (lv_at hl 2 rfl) ?_
          obtain ⟨r_9, f7_10, f9_11, hm_12, hM⟩ := bd3_u hM
          refine cVi (r := r_9) (As := [.int l6_4, .ref h2, .int p3]) (rest := [.int l5_3]) ⟨hx, hb, hml, hown, hu⟩ (c_X2_paintRow l dC dI cI cZ cO tL H.size h2 h5 h3 h7 h8 h9 g2_table v2_colour v2_way v5_x v5_y v5_endX v5_endY f7_5 v8_w v8_h n9 f9_6 l6_4 p3 (r_9, f7_10, f9_11) hm_12) (cwV 3 hu (gV kw_201 kw_202 kw_203 kw_156 kw_204) rfl rfl rfl (by decide +kernel) ⟨Nat.le_of_ble_eq_true rfl, Nat.le_of_ble_eq_true rfl⟩) hP hD hS hA hK hG [2, 5, 3, 7, 8, 9] (by decide) rfl [none, none, some 0, some 2, none, some 1, none, some 3, some 4, some 5] 6 rfl (by decide +kernel) rfl 2 3 rfl rfl rfl rfl hl.1 rfl (Nat.le_of_ble_eq_true rfl) dX2_fill_85 (Nat.zero_le _) (Nat.zero_le _) (fun H locs hP hD hS => ?_)
          have hP : va_P (dC, dI) vwCl [(h0, .inr (4, [.ref h6, .ref h4, .ref h1, .int v0_points, .int v0_lines, .int v0_first, .int v0_firstToldX, .int v0_firstToldY, .int v0_lastToldX, .int v0_lastToldY, .int v0_leastX, .int v0_leastY, .int v0_greatestY])), (h1, .inl (cZ, 800, .inl f1)), (h2, .inr (5, [.ref g2_table, .ref h5, .int v2_colour, .int v2_way])), (h3, .inr (2, [.ref h8, .ref h7])), (h4, .inl (cI, 800, .inl f4)), (h5, .inr (1, [.int v5_x, .int v5_y, .int v5_endX, .int v5_endY])), (h6, .inl (cI, 800, .inl f6)), (h7, .inl (cI, 1024, .inl f7_10)), (h8, .inr (6, [.int v8_w, .int v8_h, .ref h9])), (h9, .inl (cI, n9, .inl f9_11))] H := hP
          have hD : va_D A [(h0, .inr (4, [.ref h6, .ref h4, .ref h1, .int v0_points, .int v0_lines, .int v0_first, .int v0_firstToldX, .int v0_firstToldY, .int v0_lastToldX, .int v0_lastToldY, .int v0_leastX, .int v0_leastY, .int v0_greatestY])), (h1, .inl (cZ, 800, .inl f1)), (h2, .inr (5, [.ref g2_table, .ref h5, .int v2_colour, .int v2_way])), (h3, .inr (2, [.ref h8, .ref h7])), (h4, .inl (cI, 800, .inl f4)), (h5, .inr (1, [.int v5_x, .int v5_y, .int v5_endX, .int v5_endY])), (h6, .inl (cI, 800, .inl f6)), (h7, .inl (cI, 1024, .inl f7_10)), (h8, .inr (6, [.int v8_w, .int v8_h, .ref h9])), (h9, .inl (cI, n9, .inl f9_11))] := hD
          refine lv_iadd hx hb dX2_fill_88 ?_
          refine lv_topi (fun x_13 ex_13 => ?_)
          have hM := nm_u ex_13 hM
          refine lv_istore (lv' := [(5, .int x_13), (0, .ref h3), (2, .ref h2), (3, .int p3), (6, .int l6_4)]) hx hb dX2_fill_89 hl (by decide) rfl (fun ls hl => ?_)
          obtain ⟨x_14, ex_14⟩ : ∃ y : Int32, y = l6_4 + 1 := ⟨_, rfl⟩
          have hM := nm_u ex_14 hM
          refine lv_iinc (v := x_14) (lv' := [(6, .int x_14), (5, .int x_13), (0, .ref h3), (2, .ref h2), (3, .int p3)]) hx hb dX2_fill_91 hl (k := 4) rfl (by rw [ex_14]; rfl) (by decide) rfl (fun ls hl => ?_)
          refine lv_goto (tgt := 66) hx hb dX2_fill_94 (by decide) ?_
          exact ih66_7 x_13 x_14 f7_10 f9_11 H locs ls hP hD hS (lv_sub hl [2, 3, 4, 1, 0] rfl) hM
    exact hL66_7 FU 0 v5_y f7_1 f9 H locs ls hP hD hS (lv_sub hl [2, 3, 4, 1, 0] rfl) hM
  have hL6_18 : ∀ (n : Nat) (l4_15 : Int32) (l5_16 : Int32) (f7_17 : Nat → Int32) , ∀ (H : Heap) (locs : List Loc) (ls : Array Slot), va_P (dC, dI) vwCl [(h0, .inr (4, [.ref h6, .ref h4, .ref h1, .int v0_points, .int v0_lines, .int v0_first, .int v0_firstToldX, .int v0_firstToldY, .int v0_lastToldX, .int v0_lastToldY, .int v0_leastX, .int v0_leastY, .int v0_greatestY])), (h1, .inl (cZ, 800, .inl f1)), (h2, .inr (5, [.ref g2_table, .ref h5, .int v2_colour, .int v2_way])), (h3, .inr (2, [.ref h8, .ref h7])), (h4, .inl (cI, 800, .inl f4)), (h5, .inr (1, [.int v5_x, .int v5_y, .int v5_endX, .int v5_endY])), (h6, .inl (cI, 800, .inl f6)), (h7, .inl (cI, 1024, .inl f7_17)), (h8, .inr (6, [.int v8_w, .int v8_h, .ref h9])), (h9, .inl (cI, n9, .inl f9))] H → va_D A [(h0, .inr (4, [.ref h6, .ref h4, .ref h1, .int v0_points, .int v0_lines, .int v0_first, .int v0_firstToldX, .int v0_firstToldY, .int v0_lastToldX, .int v0_lastToldY, .int v0_leastX, .int v0_leastY, .int v0_greatestY])), (h1, .inl (cZ, 800, .inl f1)), (h2, .inr (5, [.ref g2_table, .ref h5, .int v2_colour, .int v2_way])), (h3, .inr (2, [.ref h8, .ref h7])), (h4, .inl (cI, 800, .inl f4)), (h5, .inr (1, [.int v5_x, .int v5_y, .int v5_endX, .int v5_endY])), (h6, .inl (cI, 800, .inl f6)), (h7, .inl (cI, 1024, .inl f7_17)), (h8, .inr (6, [.int v8_w, .int v8_h, .ref h9])), (h9, .inl (cI, n9, .inl f9))] → va_S A s.heap H locs → lv_has ls 7 [(0, .ref h3), (1, .ref h0), (2, .ref h2), (3, .int p3), (4, .int l4_15), (5, .int l5_16)] → lp_X2_fill_6 v0_points K54_2 f1 f4 v5_x v5_y v5_endX v5_endY f6 n l4_15 l5_16 f7_17 = some res → W p l e (headSpec w_X2_fill rm_X2_fill).room s m ([.ref h3, .ref h0, .ref h2, .int p3] : List Value).toArray below meth c H locs 0 0 (MQ below (QMi (res.1) (dC, dI) [(cI, .int), (cZ, .boolean), (cO, .object "ListPainter$Settings")] A [(h0, .inr (4, [.ref h6, .ref h4, .ref h1, .int v0_points, .int v0_lines, .int v0_first, .int v0_firstToldX, .int v0_firstToldY, .int v0_lastToldX, .int v0_lastToldY, .int v0_leastX, .int v0_leastY, .int v0_greatestY])), (h1, .inl (cZ, 800, .inl f1)), (h2, .inr (5, [.ref g2_table, .ref h5, .int v2_colour, .int v2_way])), (h3, .inr (2, [.ref h8, .ref h7])), (h4, .inl (cI, 800, .inl f4)), (h5, .inr (1, [.int v5_x, .int v5_y, .int v5_endX, .int v5_endY])), (h6, .inl (cI, 800, .inl f6)), (h7, .inl (cI, 1024, .inl (res.2.1))), (h8, .inr (6, [.int v8_w, .int v8_h, .ref h9])), (h9, .inl (cI, n9, .inl (res.2.2)))]) ([.ref h3, .ref h0, .ref h2, .int p3] : List Value).toArray s 0 0 A) (F0 m 6 ls []) := by
    intro n
    induction n with
    | zero =>
      intro l4_15 l5_16 f7_17 H locs ls hP hD hS hl hM
      rw [lp_X2_fill_6] at hM
      exact lp0 hM
    | succ n6_18 ih6_18 =>
      intro l4_15 l5_16 f7_17 H locs ls hP hD hS hl hM
      rw [lp_X2_fill_6] at hM
      refine lv_iload hx hb dX2_fill_6 (lv_at hl 5 rfl) ?_
      refine lv_aload_n hx hb dX2_fill_8 rfl (lv_at hl 1 rfl) ?_
      refine va_getN (D := (dC, dI)) (ci := 4) (v := .int v0_points) (C := RX5) (T := TX5) (N := 13) hx hb hu inX5 hown hK hP 0 rfl rfl 3 (by decide) (gX_nest hG 122 kw_205 rfl) (fun _ h9 => h9) rfl dX2_fill_9 ?_
      refine lv_icmp_ge (tgt := 54) hx hb dX2_fill_12 (by decide) (fun c_19 => ?_) (fun c_19 => ?_)
      · have hM := if_t c_19 hM
        exact hJ54_2 f7_17 H locs ls hP hD hS (lv_sub hl [0, 2, 3] rfl) hM
      · have hM := if_f c_19 hM
        refine lv_aload_n hx hb dX2_fill_15 rfl (lv_at hl 1 rfl) ?_
        refine va_getN (D := (dC, dI)) (ci := 4) (v := .ref h1) (C := RX5) (T := TX5) (N := 13) hx hb hu inX5 hown hK hP 0 rfl rfl 2 (by decide) (gX_nest hG 120 kw_206 rfl) (fun _ h9 => h9) rfl dX2_fill_16 ?_
        refine lv_iload hx hb dX2_fill_19 (lv_at hl 5 rfl) ?_
        obtain ⟨g_20, hM⟩ := gd_u hM
        refine va_zald hx hb hK hP 1 1 rfl rfl (inb_v g_20) dX2_fill_21 ?_
        refine lv_topi (fun a_21 ea_21 => ?_)
        have hM := nm_u ea_21 hM
        obtain ⟨K29_23, eK29_23, hM⟩ := jn_u hM
        have hJ29_23 : ∀ (l4_22 : Int32) , ∀ (H : Heap) (locs : List Loc) (ls : Array Slot), va_P (dC, dI) vwCl [(h0, .inr (4, [.ref h6, .ref h4, .ref h1, .int v0_points, .int v0_lines, .int v0_first, .int v0_firstToldX, .int v0_firstToldY, .int v0_lastToldX, .int v0_lastToldY, .int v0_leastX, .int v0_leastY, .int v0_greatestY])), (h1, .inl (cZ, 800, .inl f1)), (h2, .inr (5, [.ref g2_table, .ref h5, .int v2_colour, .int v2_way])), (h3, .inr (2, [.ref h8, .ref h7])), (h4, .inl (cI, 800, .inl f4)), (h5, .inr (1, [.int v5_x, .int v5_y, .int v5_endX, .int v5_endY])), (h6, .inl (cI, 800, .inl f6)), (h7, .inl (cI, 1024, .inl f7_17)), (h8, .inr (6, [.int v8_w, .int v8_h, .ref h9])), (h9, .inl (cI, n9, .inl f9))] H → va_D A [(h0, .inr (4, [.ref h6, .ref h4, .ref h1, .int v0_points, .int v0_lines, .int v0_first, .int v0_firstToldX, .int v0_firstToldY, .int v0_lastToldX, .int v0_lastToldY, .int v0_leastX, .int v0_leastY, .int v0_greatestY])), (h1, .inl (cZ, 800, .inl f1)), (h2, .inr (5, [.ref g2_table, .ref h5, .int v2_colour, .int v2_way])), (h3, .inr (2, [.ref h8, .ref h7])), (h4, .inl (cI, 800, .inl f4)), (h5, .inr (1, [.int v5_x, .int v5_y, .int v5_endX, .int v5_endY])), (h6, .inl (cI, 800, .inl f6)), (h7, .inl (cI, 1024, .inl f7_17)), (h8, .inr (6, [.int v8_w, .int v8_h, .ref h9])), (h9, .inl (cI, n9, .inl f9))] → va_S A s.heap H locs → lv_has ls 7 [(0, .ref h3), (1, .ref h0), (2, .ref h2), (3, .int p3), (4, .int l4_22), (5, .int l5_16)] → K29_23 l4_22 = some res → W p l e (headSpec w_X2_fill rm_X2_fill).room s m ([.ref h3, .ref h0, .ref h2, .int p3] : List Value).toArray below meth c H locs 0 0 (MQ below (QMi (res.1) (dC, dI) [(cI, .int), (cZ, .boolean), (cO, .object "ListPainter$Settings")] A [(h0, .inr (4, [.ref h6, .ref h4, .ref h1, .int v0_points, .int v0_lines, .int v0_first, .int v0_firstToldX, .int v0_firstToldY, .int v0_lastToldX, .int v0_lastToldY, .int v0_leastX, .int v0_leastY, .int v0_greatestY])), (h1, .inl (cZ, 800, .inl f1)), (h2, .inr (5, [.ref g2_table, .ref h5, .int v2_colour, .int v2_way])), (h3, .inr (2, [.ref h8, .ref h7])), (h4, .inl (cI, 800, .inl f4)), (h5, .inr (1, [.int v5_x, .int v5_y, .int v5_endX, .int v5_endY])), (h6, .inl (cI, 800, .inl f6)), (h7, .inl (cI, 1024, .inl (res.2.1))), (h8, .inr (6, [.int v8_w, .int v8_h, .ref h9])), (h9, .inl (cI, n9, .inl (res.2.2)))]) ([.ref h3, .ref h0, .ref h2, .int p3] : List Value).toArray s 0 0 A) (F0 m 29 ls []) := by
          intro l4_22 H locs ls hP hD hS hl hM
          have hM := ja1 eK29_23 hM
          refine lv_aload_n hx hb dX2_fill_29 rfl (lv_at hl 0 rfl) ?_
          refine lv_aload_n hx hb dX2_fill_30 rfl (lv_at hl 1 rfl) ?_
          refine lv_iload hx hb dX2_fill_31 (lv_at hl 5 rfl) ?_
          refine lv_aload_n hx hb dX2_fill_33 rfl (lv_at hl 1 rfl) ?_
          refine lv_iload hx hb dX2_fill_34 (lv_at hl 5 rfl) ?_
          refine lv_iload hx hb dX2_fill_36 (lv_at hl 4 rfl) ?_
          obtain ⟨r_24, hm_25, hM⟩ := bd1_u hM
          refine cVi (r := r_24) (As := [.int l5_16, .int l4_22]) (rest := [.int l5_16, .ref h0, .ref h3]) ⟨hx, hb, hml, hown, hu⟩ (c_X5_endOfLine l dC dI cI cZ cO tL H.size h0 h1 h6 h4 v0_points v0_lines v0_first v0_firstToldX v0_firstToldY v0_lastToldX v0_lastToldY v0_leastX v0_leastY v0_greatestY f1 l5_16 l4_22 r_24 hm_25) (cwV 2 hu (gV kw_207 kw_208 kw_209 kw_134 kw_210) rfl rfl rfl (by decide +kernel) ⟨Nat.le_of_ble_eq_true rfl, Nat.le_of_ble_eq_true rfl⟩) hP hD hS hA hK hG [0, 1] (by decide) rfl [some 0, some 1, none, none, none, none, none, none, none, none] 2 rfl (by decide +kernel) rfl 4 0 rfl rfl rfl rfl hl.1 rfl (Nat.le_of_ble_eq_true rfl) dX2_fill_38 (Nat.zero_le _) (Nat.zero_le _) (fun H locs hP hD hS => ?_)
          have hP : va_P (dC, dI) vwCl [(h0, .inr (4, [.ref h6, .ref h4, .ref h1, .int v0_points, .int v0_lines, .int v0_first, .int v0_firstToldX, .int v0_firstToldY, .int v0_lastToldX, .int v0_lastToldY, .int v0_leastX, .int v0_leastY, .int v0_greatestY])), (h1, .inl (cZ, 800, .inl f1)), (h2, .inr (5, [.ref g2_table, .ref h5, .int v2_colour, .int v2_way])), (h3, .inr (2, [.ref h8, .ref h7])), (h4, .inl (cI, 800, .inl f4)), (h5, .inr (1, [.int v5_x, .int v5_y, .int v5_endX, .int v5_endY])), (h6, .inl (cI, 800, .inl f6)), (h7, .inl (cI, 1024, .inl f7_17)), (h8, .inr (6, [.int v8_w, .int v8_h, .ref h9])), (h9, .inl (cI, n9, .inl f9))] H := hP
          have hD : va_D A [(h0, .inr (4, [.ref h6, .ref h4, .ref h1, .int v0_points, .int v0_lines, .int v0_first, .int v0_firstToldX, .int v0_firstToldY, .int v0_lastToldX, .int v0_lastToldY, .int v0_leastX, .int v0_leastY, .int v0_greatestY])), (h1, .inl (cZ, 800, .inl f1)), (h2, .inr (5, [.ref g2_table, .ref h5, .int v2_colour, .int v2_way])), (h3, .inr (2, [.ref h8, .ref h7])), (h4, .inl (cI, 800, .inl f4)), (h5, .inr (1, [.int v5_x, .int v5_y, .int v5_endX, .int v5_endY])), (h6, .inl (cI, 800, .inl f6)), (h7, .inl (cI, 1024, .inl f7_17)), (h8, .inr (6, [.int v8_w, .int v8_h, .ref h9])), (h9, .inl (cI, n9, .inl f9))] := hD
          refine lv_aload_n hx hb dX2_fill_41 rfl (lv_at hl 2 rfl) ?_
          refine va_getN (D := (dC, dI)) (ci := 5) (v := .ref h5) (C := RX6) (T := TX6) (N := 4) hx hb hu inX6 hown hK hP 2 rfl rfl 1 (by decide) (gX_nest hG 232 kw_182 rfl) (fun _ h9 => h9) rfl dX2_fill_42 ?_
          obtain ⟨f7_26, hm_27, hM⟩ := bd1_u hM
          refine cVv (As := [.ref h0, .int l5_16, .int r_24, .ref h5]) (rest := []) ⟨hx, hb, hml, hown, hu⟩ (c_X2_addLine l dC dI cI cZ cO tL H.size h0 h4 h5 h6 h3 h7 h1 h8 v0_points v0_lines v0_first v0_firstToldX v0_firstToldY v0_lastToldX v0_lastToldY v0_leastX v0_leastY v0_greatestY f4 v5_x v5_y v5_endX v5_endY f6 f7_17 l5_16 r_24 f7_26 hm_27) (cwV 4 hu (gV kw_211 kw_212 kw_213 kw_156 kw_214) rfl rfl rfl (by decide +kernel) ⟨Nat.le_of_ble_eq_true rfl, Nat.le_of_ble_eq_true rfl⟩) hP hD hS hA hK hG [0, 4, 5, 6, 3, 7] (by decide) rfl [some 0, none, none, some 4, some 1, some 2, some 3, some 5, none, none] 6 rfl (by decide +kernel) rfl 2 3 rfl rfl rfl rfl hl.1 rfl (Nat.le_of_ble_eq_true rfl) dX2_fill_45 (Nat.zero_le _) (Nat.zero_le _) (fun H locs hP hD hS => ?_)
          have hP : va_P (dC, dI) vwCl [(h0, .inr (4, [.ref h6, .ref h4, .ref h1, .int v0_points, .int v0_lines, .int v0_first, .int v0_firstToldX, .int v0_firstToldY, .int v0_lastToldX, .int v0_lastToldY, .int v0_leastX, .int v0_leastY, .int v0_greatestY])), (h1, .inl (cZ, 800, .inl f1)), (h2, .inr (5, [.ref g2_table, .ref h5, .int v2_colour, .int v2_way])), (h3, .inr (2, [.ref h8, .ref h7])), (h4, .inl (cI, 800, .inl f4)), (h5, .inr (1, [.int v5_x, .int v5_y, .int v5_endX, .int v5_endY])), (h6, .inl (cI, 800, .inl f6)), (h7, .inl (cI, 1024, .inl f7_26)), (h8, .inr (6, [.int v8_w, .int v8_h, .ref h9])), (h9, .inl (cI, n9, .inl f9))] H := hP
          have hD : va_D A [(h0, .inr (4, [.ref h6, .ref h4, .ref h1, .int v0_points, .int v0_lines, .int v0_first, .int v0_firstToldX, .int v0_firstToldY, .int v0_lastToldX, .int v0_lastToldY, .int v0_leastX, .int v0_leastY, .int v0_greatestY])), (h1, .inl (cZ, 800, .inl f1)), (h2, .inr (5, [.ref g2_table, .ref h5, .int v2_colour, .int v2_way])), (h3, .inr (2, [.ref h8, .ref h7])), (h4, .inl (cI, 800, .inl f4)), (h5, .inr (1, [.int v5_x, .int v5_y, .int v5_endX, .int v5_endY])), (h6, .inl (cI, 800, .inl f6)), (h7, .inl (cI, 1024, .inl f7_26)), (h8, .inr (6, [.int v8_w, .int v8_h, .ref h9])), (h9, .inl (cI, n9, .inl f9))] := hD
          obtain ⟨x_28, ex_28⟩ : ∃ y : Int32, y = l5_16 + 1 := ⟨_, rfl⟩
          have hM := nm_u ex_28 hM
          refine lv_iinc (v := x_28) (lv' := [(5, .int x_28), (0, .ref h3), (1, .ref h0), (2, .ref h2), (3, .int p3), (4, .int l4_22)]) hx hb dX2_fill_48 hl (k := 5) rfl (by rw [ex_28]; rfl) (by decide) rfl (fun ls hl => ?_)
          refine lv_goto (tgt := 6) hx hb dX2_fill_51 (by decide) ?_
          exact ih6_18 l4_22 x_28 f7_26 H locs ls hP hD hS (lv_sub hl [1, 2, 3, 4, 5, 0] rfl) hM
        refine lv_if_eq (tgt := 29) hx hb dX2_fill_22 (by decide) (fun c_29 => ?_) (fun c_29 => ?_)
        · have hM := if_t c_29 hM
          exact hJ29_23 l4_15 H locs ls hP hD hS (lv_sub hl [0, 1, 2, 3, 4, 5] rfl) hM
        · have hM := if_f c_29 hM
          refine lv_iload hx hb dX2_fill_25 (lv_at hl 5 rfl) ?_
          refine lv_istore (lv' := [(4, .int l5_16), (0, .ref h3), (1, .ref h0), (2, .ref h2), (3, .int p3), (5, .int l5_16)]) hx hb dX2_fill_27 hl (by decide) rfl (fun ls hl => ?_)
          exact hJ29_23 l5_16 H locs ls hP hD hS (lv_sub hl [1, 2, 3, 4, 0, 5] rfl) hM
  exact hL6_18 FU 0 0 f7 H locs ls hP hD hS (lv_sub hl [2, 3, 4, 5, 1, 0] rfl) hM
