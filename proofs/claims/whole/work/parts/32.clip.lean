theorem dX1_become_0 : decode cX1_become 0 = .ok (.aload_n 0, 1) := by decide +kernel
theorem dX1_become_1 : decode cX1_become 1 = .ok (.iload_n 1, 1) := by decide +kernel
theorem dX1_become_2 : decode cX1_become 2 = .ok (.putfield 7, 3) := by decide +kernel
theorem dX1_become_5 : decode cX1_become 5 = .ok (.aload_n 0, 1) := by decide +kernel
theorem dX1_become_6 : decode cX1_become 6 = .ok (.iload_n 2, 1) := by decide +kernel
theorem dX1_become_7 : decode cX1_become 7 = .ok (.putfield 13, 3) := by decide +kernel
theorem dX1_become_10 : decode cX1_become 10 = .ok (.aload_n 0, 1) := by decide +kernel
theorem dX1_become_11 : decode cX1_become 11 = .ok (.iload_n 3, 1) := by decide +kernel
theorem dX1_become_12 : decode cX1_become 12 = .ok (.putfield 16, 3) := by decide +kernel
theorem dX1_become_15 : decode cX1_become 15 = .ok (.aload_n 0, 1) := by decide +kernel
theorem dX1_become_16 : decode cX1_become 16 = .ok (.iload 4, 2) := by decide +kernel
theorem dX1_become_18 : decode cX1_become 18 = .ok (.putfield 19, 3) := by decide +kernel
theorem dX1_become_21 : decode cX1_become 21 = .ok (.return_, 1) := by decide +kernel
abbrev rm_X1_become : Room := { frames := 0, cells := 0, slots := 0, locals := 0 }
def w_X1_become : List Cond := Cond.code yX1_become cX1_become 5 none :: uw
set_option maxHeartbeats 4000000 in
set_option maxRecDepth 100000 in
theorem c_X1_become (l : Launch) (dC : Nat → ClassId) (dI : Nat → Nat → Nat) (cI cZ cO : ClassId) (tL sz : Nat) (h0 : Nat) (v0_x : Int32) (v0_y : Int32) (v0_endX : Int32) (v0_endY : Int32) (p1 : Int32) (p2 : Int32) (p3 : Int32) (p4 : Int32) (res : Int32 × Int32 × Int32 × Int32) (hM : m_X1_become v0_x v0_y v0_endX v0_endY p1 p2 p3 p4 = some res) : Met l yX1_become w_X1_become rm_X1_become (PCx [.ref h0, .int p1, .int p2, .int p3, .int p4] (dC, dI) [(cI, .int), (cZ, .boolean), (cO, .object "ListPainter$Settings")] sz tL [(h0, .inr (1, [.int v0_x, .int v0_y, .int v0_endX, .int v0_endY]))]) (QMv (dC, dI) [(cI, .int), (cZ, .boolean), (cO, .object "ListPainter$Settings")] (va_A [(h0, .inr (1, [.int v0_x, .int v0_y, .int v0_endX, .int v0_endY]))] sz) [(h0, .inr (1, [.int (res.1), .int (res.2.1), .int (res.2.2.1), .int (res.2.2.2)]))]) 0 0 (va_A [(h0, .inr (1, [.int v0_x, .int v0_y, .int v0_endX, .int v0_endY]))] sz) := by
  refine Met.ofW (cc := cX1_become) (maxL := 5) (ret := none) (by decide) rfl ?_
  intro p e s m args below meth c s₁ B hml hv
  obtain ⟨rfl, hsz, hP, hK, hD0, hG⟩ := hv
  have hx := B.exec
  have hb := B.bytes
  have hr := B.returns
  have hu : ∀ w ∈ uw, w.before ([.ref h0, .int p1, .int p2, .int p3, .int p4] : List Value).toArray s = true := fun w h => atoms_spec (ws := w_X1_become) B.pre w (List.mem_cons_of_mem _ h)
  have hown : s.vm.findClass RX1 = some m.cls := findClass_of_methodNamed B.named
  have hlocks := B.notSynchronized
  subst hsz
  have hD := hD0.self (sz := s.heap.size)
  generalize hAe : va_A [(h0, .inr (1, [.int v0_x, .int v0_y, .int v0_endX, .int v0_endY]))] s.heap.size = A at hD hG ⊢
  have hA : ∀ q : Nat, s.heap.size ≤ q → A q := fun q h => by rw [← hAe]; exact Or.inr h
  have hS : va_S A s.heap s.heap [] := va_S.rf
  have hP : va_P (dC, dI) vwCl [(h0, .inr (1, [.int v0_x, .int v0_y, .int v0_endX, .int v0_endY]))] s.heap := hP
  have hl := lv_entry ([.ref h0, .int p1, .int p2, .int p3, .int p4]) (n := 5) (Nat.le_of_ble_eq_true rfl)
  rw [lg_entry_eq]
  generalize (lg_sl ([.ref h0, .int p1, .int p2, .int p3, .int p4]) ++ List.replicate (5 - (lg_sl ([.ref h0, .int p1, .int p2, .int p3, .int p4])).length) Slot.unset).toArray = ls at hl ⊢
  have hl : lv_has ls 5 [(0, .ref h0), (1, .int p1), (2, .int p2), (3, .int p3), (4, .int p4)] := hl
  rw [m_X1_become] at hM
  suffices hgo : ∀ (H : Heap) (locs : List Loc), va_P (dC, dI) vwCl [(h0, .inr (1, [.int v0_x, .int v0_y, .int v0_endX, .int v0_endY]))] H → va_D A [(h0, .inr (1, [.int v0_x, .int v0_y, .int v0_endX, .int v0_endY]))] → va_S A s.heap H locs → W p l e (headSpec w_X1_become rm_X1_become).room s m ([.ref h0, .int p1, .int p2, .int p3, .int p4] : List Value).toArray below meth c H locs 0 0 (MQ below (QMv (dC, dI) [(cI, .int), (cZ, .boolean), (cO, .object "ListPainter$Settings")] A [(h0, .inr (1, [.int (res.1), .int (res.2.1), .int (res.2.2.1), .int (res.2.2.2)]))]) ([.ref h0, .int p1, .int p2, .int p3, .int p4] : List Value).toArray s 0 0 A) (F0 m 0 ls []) from hgo _ _ hP hD hS
  intro H locs hP hD hS
  refine lv_aload_n hx hb dX1_become_0 rfl (lv_at hl 0 rfl) ?_
  refine lv_iload_n hx hb dX1_become_1 rfl (lv_at hl 1 rfl) ?_
  refine va_put (D := (dC, dI)) (ci := 1) (v := .int p1) (ty := .int) (C := RX1) (T := TX1) (N := 4) hx hb hu inX1 tyX1 tyX1_ok nmX1 hown hK hP hD hS 0 rfl rfl 0 (by decide) (hu _ kw_48) (fun _ h9 => h9) rfl (by decide +kernel) rfl rfl (Nat.le_of_ble_eq_true rfl) dX1_become_2 (fun H locs hP hD hS => ?_)
  have hP : va_P (dC, dI) vwCl [(h0, .inr (1, [.int p1, .int v0_y, .int v0_endX, .int v0_endY]))] H := hP
  have hD : va_D A [(h0, .inr (1, [.int p1, .int v0_y, .int v0_endX, .int v0_endY]))] := hD
  refine lv_aload_n hx hb dX1_become_5 rfl (lv_at hl 0 rfl) ?_
  refine lv_iload_n hx hb dX1_become_6 rfl (lv_at hl 2 rfl) ?_
  refine va_put (D := (dC, dI)) (ci := 1) (v := .int p2) (ty := .int) (C := RX1) (T := TX1) (N := 4) hx hb hu inX1 tyX1 tyX1_ok nmX1 hown hK hP hD hS 0 rfl rfl 1 (by decide) (hu _ kw_49) (fun _ h9 => h9) rfl (by decide +kernel) rfl rfl (Nat.le_of_ble_eq_true rfl) dX1_become_7 (fun H locs hP hD hS => ?_)
  have hP : va_P (dC, dI) vwCl [(h0, .inr (1, [.int p1, .int p2, .int v0_endX, .int v0_endY]))] H := hP
  have hD : va_D A [(h0, .inr (1, [.int p1, .int p2, .int v0_endX, .int v0_endY]))] := hD
  refine lv_aload_n hx hb dX1_become_10 rfl (lv_at hl 0 rfl) ?_
  refine lv_iload_n hx hb dX1_become_11 rfl (lv_at hl 3 rfl) ?_
  refine va_put (D := (dC, dI)) (ci := 1) (v := .int p3) (ty := .int) (C := RX1) (T := TX1) (N := 4) hx hb hu inX1 tyX1 tyX1_ok nmX1 hown hK hP hD hS 0 rfl rfl 2 (by decide) (hu _ kw_50) (fun _ h9 => h9) rfl (by decide +kernel) rfl rfl (Nat.le_of_ble_eq_true rfl) dX1_become_12 (fun H locs hP hD hS => ?_)
  have hP : va_P (dC, dI) vwCl [(h0, .inr (1, [.int p1, .int p2, .int p3, .int v0_endY]))] H := hP
  have hD : va_D A [(h0, .inr (1, [.int p1, .int p2, .int p3, .int v0_endY]))] := hD
  refine lv_aload_n hx hb dX1_become_15 rfl (lv_at hl 0 rfl) ?_
  refine lv_iload hx hb dX1_become_16 (lv_at hl 4 rfl) ?_
  refine va_put (D := (dC, dI)) (ci := 1) (v := .int p4) (ty := .int) (C := RX1) (T := TX1) (N := 4) hx hb hu inX1 tyX1 tyX1_ok nmX1 hown hK hP hD hS 0 rfl rfl 3 (by decide) (hu _ kw_51) (fun _ h9 => h9) rfl (by decide +kernel) rfl rfl (Nat.le_of_ble_eq_true rfl) dX1_become_18 (fun H locs hP hD hS => ?_)
  have hP : va_P (dC, dI) vwCl [(h0, .inr (1, [.int p1, .int p2, .int p3, .int p4]))] H := hP
  have hD : va_D A [(h0, .inr (1, [.int p1, .int p2, .int p3, .int p4]))] := hD
  have h9 := Option.some.inj hM
  subst h9
  exact W.vret hx hb hr (fun t ht hW => QMv_mk (by rw [ht]; exact hP) (va_K.moved hW.alike hK) hD (hS.F ht)) hS.2.2 dX1_become_21
theorem dX1_copyFrom_0 : decode cX1_copyFrom 0 = .ok (.aload_n 0, 1) := by decide +kernel
theorem dX1_copyFrom_1 : decode cX1_copyFrom 1 = .ok (.aload_n 1, 1) := by decide +kernel
theorem dX1_copyFrom_2 : decode cX1_copyFrom 2 = .ok (.getfield 7, 3) := by decide +kernel
theorem dX1_copyFrom_5 : decode cX1_copyFrom 5 = .ok (.aload_n 1, 1) := by decide +kernel
theorem dX1_copyFrom_6 : decode cX1_copyFrom 6 = .ok (.getfield 13, 3) := by decide +kernel
theorem dX1_copyFrom_9 : decode cX1_copyFrom 9 = .ok (.aload_n 1, 1) := by decide +kernel
theorem dX1_copyFrom_10 : decode cX1_copyFrom 10 = .ok (.getfield 16, 3) := by decide +kernel
theorem dX1_copyFrom_13 : decode cX1_copyFrom 13 = .ok (.aload_n 1, 1) := by decide +kernel
theorem dX1_copyFrom_14 : decode cX1_copyFrom 14 = .ok (.getfield 19, 3) := by decide +kernel
theorem dX1_copyFrom_17 : decode cX1_copyFrom 17 = .ok (.invokevirtual 22, 3) := by decide +kernel
theorem dX1_copyFrom_20 : decode cX1_copyFrom 20 = .ok (.return_, 1) := by decide +kernel
abbrev rm_X1_copyFrom : Room := { frames := 1, cells := 0, slots := 0, locals := 24 }
def w_X1_copyFrom : List Cond := Cond.code yX1_copyFrom cX1_copyFrom 2 none :: uw
set_option maxHeartbeats 4000000 in
set_option maxRecDepth 100000 in
theorem c_X1_copyFrom (l : Launch) (dC : Nat → ClassId) (dI : Nat → Nat → Nat) (cI cZ cO : ClassId) (tL sz : Nat) (h0 : Nat) (h1 : Nat) (v0_x : Int32) (v0_y : Int32) (v0_endX : Int32) (v0_endY : Int32) (v1_x : Int32) (v1_y : Int32) (v1_endX : Int32) (v1_endY : Int32) (res : Int32 × Int32 × Int32 × Int32) (hM : m_X1_copyFrom v0_x v0_y v0_endX v0_endY v1_x v1_y v1_endX v1_endY = some res) : Met l yX1_copyFrom w_X1_copyFrom rm_X1_copyFrom (PCx [.ref h1, .ref h0] (dC, dI) [(cI, .int), (cZ, .boolean), (cO, .object "ListPainter$Settings")] sz tL [(h0, .inr (1, [.int v0_x, .int v0_y, .int v0_endX, .int v0_endY])), (h1, .inr (1, [.int v1_x, .int v1_y, .int v1_endX, .int v1_endY]))]) (QMv (dC, dI) [(cI, .int), (cZ, .boolean), (cO, .object "ListPainter$Settings")] (va_A [(h0, .inr (1, [.int v0_x, .int v0_y, .int v0_endX, .int v0_endY])), (h1, .inr (1, [.int v1_x, .int v1_y, .int v1_endX, .int v1_endY]))] sz) [(h0, .inr (1, [.int v0_x, .int v0_y, .int v0_endX, .int v0_endY])), (h1, .inr (1, [.int (res.1), .int (res.2.1), .int (res.2.2.1), .int (res.2.2.2)]))]) 0 0 (va_A [(h0, .inr (1, [.int v0_x, .int v0_y, .int v0_endX, .int v0_endY])), (h1, .inr (1, [.int v1_x, .int v1_y, .int v1_endX, .int v1_endY]))] sz) := by
  refine Met.ofW (cc := cX1_copyFrom) (maxL := 2) (ret := none) (by decide) rfl ?_
  intro p e s m args below meth c s₁ B hml hv
  obtain ⟨rfl, hsz, hP, hK, hD0, hG⟩ := hv
  have hx := B.exec
  have hb := B.bytes
  have hr := B.returns
  have hu : ∀ w ∈ uw, w.before ([.ref h1, .ref h0] : List Value).toArray s = true := fun w h => atoms_spec (ws := w_X1_copyFrom) B.pre w (List.mem_cons_of_mem _ h)
  have hown : s.vm.findClass RX1 = some m.cls := findClass_of_methodNamed B.named
  have hlocks := B.notSynchronized
  subst hsz
  have hD := hD0.self (sz := s.heap.size)
  generalize hAe : va_A [(h0, .inr (1, [.int v0_x, .int v0_y, .int v0_endX, .int v0_endY])), (h1, .inr (1, [.int v1_x, .int v1_y, .int v1_endX, .int v1_endY]))] s.heap.size = A at hD hG ⊢
  have hA : ∀ q : Nat, s.heap.size ≤ q → A q := fun q h => by rw [← hAe]; exact Or.inr h
  have hS : va_S A s.heap s.heap [] := va_S.rf
  have hP : va_P (dC, dI) vwCl [(h0, .inr (1, [.int v0_x, .int v0_y, .int v0_endX, .int v0_endY])), (h1, .inr (1, [.int v1_x, .int v1_y, .int v1_endX, .int v1_endY]))] s.heap := hP
  have hl := lv_entry ([.ref h1, .ref h0]) (n := 2) (Nat.le_of_ble_eq_true rfl)
  rw [lg_entry_eq]
  generalize (lg_sl ([.ref h1, .ref h0]) ++ List.replicate (2 - (lg_sl ([.ref h1, .ref h0])).length) Slot.unset).toArray = ls at hl ⊢
  have hl : lv_has ls 2 [(0, .ref h1), (1, .ref h0)] := hl
  rw [m_X1_copyFrom] at hM
  suffices hgo : ∀ (H : Heap) (locs : List Loc), va_P (dC, dI) vwCl [(h0, .inr (1, [.int v0_x, .int v0_y, .int v0_endX, .int v0_endY])), (h1, .inr (1, [.int v1_x, .int v1_y, .int v1_endX, .int v1_endY]))] H → va_D A [(h0, .inr (1, [.int v0_x, .int v0_y, .int v0_endX, .int v0_endY])), (h1, .inr (1, [.int v1_x, .int v1_y, .int v1_endX, .int v1_endY]))] → va_S A s.heap H locs → W p l e (headSpec w_X1_copyFrom rm_X1_copyFrom).room s m ([.ref h1, .ref h0] : List Value).toArray below meth c H locs 0 0 (MQ below (QMv (dC, dI) [(cI, .int), (cZ, .boolean), (cO, .object "ListPainter$Settings")] A [(h0, .inr (1, [.int v0_x, .int v0_y, .int v0_endX, .int v0_endY])), (h1, .inr (1, [.int (res.1), .int (res.2.1), .int (res.2.2.1), .int (res.2.2.2)]))]) ([.ref h1, .ref h0] : List Value).toArray s 0 0 A) (F0 m 0 ls []) from hgo _ _ hP hD hS
  intro H locs hP hD hS
  refine lv_aload_n hx hb dX1_copyFrom_0 rfl (lv_at hl 0 rfl) ?_
  refine lv_aload_n hx hb dX1_copyFrom_1 rfl (lv_at hl 1 rfl) ?_
  refine va_get (D := (dC, dI)) (ci := 1) (v := .int v0_x) (C := RX1) (T := TX1) (N := 4) hx hb hu inX1 hown hK hP 0 rfl rfl 0 (by decide) (hu _ kw_48) (fun _ h9 => h9) rfl dX1_copyFrom_2 ?_
  refine lv_aload_n hx hb dX1_copyFrom_5 rfl (lv_at hl 1 rfl) ?_
  refine va_get (D := (dC, dI)) (ci := 1) (v := .int v0_y) (C := RX1) (T := TX1) (N := 4) hx hb hu inX1 hown hK hP 0 rfl rfl 1 (by decide) (hu _ kw_49) (fun _ h9 => h9) rfl dX1_copyFrom_6 ?_
  refine lv_aload_n hx hb dX1_copyFrom_9 rfl (lv_at hl 1 rfl) ?_
  refine va_get (D := (dC, dI)) (ci := 1) (v := .int v0_endX) (C := RX1) (T := TX1) (N := 4) hx hb hu inX1 hown hK hP 0 rfl rfl 2 (by decide) (hu _ kw_50) (fun _ h9 => h9) rfl dX1_copyFrom_10 ?_
  refine lv_aload_n hx hb dX1_copyFrom_13 rfl (lv_at hl 1 rfl) ?_
  refine va_get (D := (dC, dI)) (ci := 1) (v := .int v0_endY) (C := RX1) (T := TX1) (N := 4) hx hb hu inX1 hown hK hP 0 rfl rfl 3 (by decide) (hu _ kw_51) (fun _ h9 => h9) rfl dX1_copyFrom_14 ?_
  obtain ⟨v1_1, v1_2, v1_3, v1_4, hm_5, hM⟩ := bd4_u hM
  refine cVv (As := [.int v0_x, .int v0_y, .int v0_endX, .int v0_endY]) (rest := []) ⟨hx, hb, hml, hown, hu⟩ (c_X1_become l dC dI cI cZ cO tL H.size h1 v1_x v1_y v1_endX v1_endY v0_x v0_y v0_endX v0_endY (v1_1, v1_2, v1_3, v1_4) hm_5) (cwV 4 hu (gV kw_52 kw_53 kw_54 kw_55 kw_56) rfl rfl rfl (by decide +kernel) ⟨Nat.le_of_ble_eq_true rfl, Nat.le_of_ble_eq_true rfl⟩) hP hD hS hA hK hG [1] (by decide) rfl [none, some 0] 1 rfl (by decide +kernel) rfl 1 1 rfl rfl rfl rfl hl.1 rfl (Nat.le_of_ble_eq_true rfl) dX1_copyFrom_17 (Nat.zero_le _) (Nat.zero_le _) (fun H locs hP hD hS => ?_)
  have hP : va_P (dC, dI) vwCl [(h0, .inr (1, [.int v0_x, .int v0_y, .int v0_endX, .int v0_endY])), (h1, .inr (1, [.int v1_1, .int v1_2, .int v1_3, .int v1_4]))] H := hP
  have hD : va_D A [(h0, .inr (1, [.int v0_x, .int v0_y, .int v0_endX, .int v0_endY])), (h1, .inr (1, [.int v1_1, .int v1_2, .int v1_3, .int v1_4]))] := hD
  have h9 := Option.some.inj hM
  subst h9
  exact W.vret hx hb hr (fun t ht hW => QMv_mk (by rw [ht]; exact hP) (va_K.moved hW.alike hK) hD (hS.F ht)) hS.2.2 dX1_copyFrom_20
theorem dX1_narrowBy_0 : decode cX1_narrowBy 0 = .ok (.aload_n 1, 1) := by decide +kernel
theorem dX1_narrowBy_1 : decode cX1_narrowBy 1 = .ok (.iload_n 2, 1) := by decide +kernel
theorem dX1_narrowBy_2 : decode cX1_narrowBy 2 = .ok (.iconst 1, 1) := by decide +kernel
theorem dX1_narrowBy_3 : decode cX1_narrowBy 3 = .ok (.iadd, 1) := by decide +kernel
theorem dX1_narrowBy_4 : decode cX1_narrowBy 4 = .ok (.invokevirtual 26, 3) := by decide +kernel
theorem dX1_narrowBy_7 : decode cX1_narrowBy 7 = .ok (.istore_n 3, 1) := by decide +kernel
theorem dX1_narrowBy_8 : decode cX1_narrowBy 8 = .ok (.aload_n 1, 1) := by decide +kernel
theorem dX1_narrowBy_9 : decode cX1_narrowBy 9 = .ok (.iload_n 2, 1) := by decide +kernel
theorem dX1_narrowBy_10 : decode cX1_narrowBy 10 = .ok (.iconst 2, 1) := by decide +kernel
theorem dX1_narrowBy_11 : decode cX1_narrowBy 11 = .ok (.iadd, 1) := by decide +kernel
theorem dX1_narrowBy_12 : decode cX1_narrowBy 12 = .ok (.invokevirtual 26, 3) := by decide +kernel
theorem dX1_narrowBy_15 : decode cX1_narrowBy 15 = .ok (.istore 4, 2) := by decide +kernel
theorem dX1_narrowBy_17 : decode cX1_narrowBy 17 = .ok (.aload_n 0, 1) := by decide +kernel
theorem dX1_narrowBy_18 : decode cX1_narrowBy 18 = .ok (.aload_n 0, 1) := by decide +kernel
theorem dX1_narrowBy_19 : decode cX1_narrowBy 19 = .ok (.getfield 7, 3) := by decide +kernel
theorem dX1_narrowBy_22 : decode cX1_narrowBy 22 = .ok (.iload_n 3, 1) := by decide +kernel
theorem dX1_narrowBy_23 : decode cX1_narrowBy 23 = .ok (.invokestatic 32, 3) := by decide +kernel
theorem dX1_narrowBy_26 : decode cX1_narrowBy 26 = .ok (.aload_n 0, 1) := by decide +kernel
theorem dX1_narrowBy_27 : decode cX1_narrowBy 27 = .ok (.getfield 13, 3) := by decide +kernel
theorem dX1_narrowBy_30 : decode cX1_narrowBy 30 = .ok (.iload 4, 2) := by decide +kernel
theorem dX1_narrowBy_32 : decode cX1_narrowBy 32 = .ok (.invokestatic 32, 3) := by decide +kernel
theorem dX1_narrowBy_35 : decode cX1_narrowBy 35 = .ok (.aload_n 0, 1) := by decide +kernel
theorem dX1_narrowBy_36 : decode cX1_narrowBy 36 = .ok (.getfield 16, 3) := by decide +kernel
theorem dX1_narrowBy_39 : decode cX1_narrowBy 39 = .ok (.iload_n 3, 1) := by decide +kernel
theorem dX1_narrowBy_40 : decode cX1_narrowBy 40 = .ok (.aload_n 1, 1) := by decide +kernel
theorem dX1_narrowBy_41 : decode cX1_narrowBy 41 = .ok (.iload_n 2, 1) := by decide +kernel
theorem dX1_narrowBy_42 : decode cX1_narrowBy 42 = .ok (.iconst 3, 1) := by decide +kernel
theorem dX1_narrowBy_43 : decode cX1_narrowBy 43 = .ok (.iadd, 1) := by decide +kernel
theorem dX1_narrowBy_44 : decode cX1_narrowBy 44 = .ok (.invokevirtual 26, 3) := by decide +kernel
theorem dX1_narrowBy_47 : decode cX1_narrowBy 47 = .ok (.iadd, 1) := by decide +kernel
theorem dX1_narrowBy_48 : decode cX1_narrowBy 48 = .ok (.invokestatic 38, 3) := by decide +kernel
theorem dX1_narrowBy_51 : decode cX1_narrowBy 51 = .ok (.aload_n 0, 1) := by decide +kernel
theorem dX1_narrowBy_52 : decode cX1_narrowBy 52 = .ok (.getfield 19, 3) := by decide +kernel
theorem dX1_narrowBy_55 : decode cX1_narrowBy 55 = .ok (.iload 4, 2) := by decide +kernel
theorem dX1_narrowBy_57 : decode cX1_narrowBy 57 = .ok (.aload_n 1, 1) := by decide +kernel
theorem dX1_narrowBy_58 : decode cX1_narrowBy 58 = .ok (.iload_n 2, 1) := by decide +kernel
theorem dX1_narrowBy_59 : decode cX1_narrowBy 59 = .ok (.iconst 4, 1) := by decide +kernel
theorem dX1_narrowBy_60 : decode cX1_narrowBy 60 = .ok (.iadd, 1) := by decide +kernel
theorem dX1_narrowBy_61 : decode cX1_narrowBy 61 = .ok (.invokevirtual 26, 3) := by decide +kernel
theorem dX1_narrowBy_64 : decode cX1_narrowBy 64 = .ok (.iadd, 1) := by decide +kernel
theorem dX1_narrowBy_65 : decode cX1_narrowBy 65 = .ok (.invokestatic 38, 3) := by decide +kernel
theorem dX1_narrowBy_68 : decode cX1_narrowBy 68 = .ok (.invokevirtual 22, 3) := by decide +kernel
theorem dX1_narrowBy_71 : decode cX1_narrowBy 71 = .ok (.aload_n 0, 1) := by decide +kernel
theorem dX1_narrowBy_72 : decode cX1_narrowBy 72 = .ok (.getfield 7, 3) := by decide +kernel
theorem dX1_narrowBy_75 : decode cX1_narrowBy 75 = .ok (.aload_n 0, 1) := by decide +kernel
theorem dX1_narrowBy_76 : decode cX1_narrowBy 76 = .ok (.getfield 16, 3) := by decide +kernel
theorem dX1_narrowBy_79 : decode cX1_narrowBy 79 = .ok (.if_icmp .ge 14, 3) := by decide +kernel
theorem dX1_narrowBy_82 : decode cX1_narrowBy 82 = .ok (.aload_n 0, 1) := by decide +kernel
theorem dX1_narrowBy_83 : decode cX1_narrowBy 83 = .ok (.getfield 13, 3) := by decide +kernel
theorem dX1_narrowBy_86 : decode cX1_narrowBy 86 = .ok (.aload_n 0, 1) := by decide +kernel
theorem dX1_narrowBy_87 : decode cX1_narrowBy 87 = .ok (.getfield 19, 3) := by decide +kernel
theorem dX1_narrowBy_90 : decode cX1_narrowBy 90 = .ok (.if_icmp .lt 11, 3) := by decide +kernel
theorem dX1_narrowBy_93 : decode cX1_narrowBy 93 = .ok (.aload_n 0, 1) := by decide +kernel
theorem dX1_narrowBy_94 : decode cX1_narrowBy 94 = .ok (.iconst 0, 1) := by decide +kernel
theorem dX1_narrowBy_95 : decode cX1_narrowBy 95 = .ok (.iconst 0, 1) := by decide +kernel
theorem dX1_narrowBy_96 : decode cX1_narrowBy 96 = .ok (.iconst 0, 1) := by decide +kernel
theorem dX1_narrowBy_97 : decode cX1_narrowBy 97 = .ok (.iconst 0, 1) := by decide +kernel
theorem dX1_narrowBy_98 : decode cX1_narrowBy 98 = .ok (.invokevirtual 22, 3) := by decide +kernel
theorem dX1_narrowBy_101 : decode cX1_narrowBy 101 = .ok (.return_, 1) := by decide +kernel
abbrev rm_X1_narrowBy : Room := { frames := 1, cells := 0, slots := 0, locals := 24 }
def w_X1_narrowBy : List Cond := Cond.code yX1_narrowBy cX1_narrowBy 5 none :: uw
set_option maxHeartbeats 4000000 in
set_option maxRecDepth 100000 in
theorem c_X1_narrowBy (l : Launch) (dC : Nat → ClassId) (dI : Nat → Nat → Nat) (cI cZ cO : ClassId) (tL sz : Nat) (h0 : Nat) (h1 : Nat) (h2 : Nat) (v0_count : Int32) (f1 : Nat → Int32) (v2_x : Int32) (v2_y : Int32) (v2_endX : Int32) (v2_endY : Int32) (p2 : Int32) (res : Int32 × Int32 × Int32 × Int32) (hM : m_X1_narrowBy v0_count f1 v2_x v2_y v2_endX v2_endY p2 = some res) : Met l yX1_narrowBy w_X1_narrowBy rm_X1_narrowBy (PCx [.ref h2, .ref h0, .int p2] (dC, dI) [(cI, .int), (cZ, .boolean), (cO, .object "ListPainter$Settings")] sz tL [(h0, .inr (9, [.ref h1, .int v0_count])), (h1, .inl (cI, 1500, .inl f1)), (h2, .inr (1, [.int v2_x, .int v2_y, .int v2_endX, .int v2_endY]))]) (QMv (dC, dI) [(cI, .int), (cZ, .boolean), (cO, .object "ListPainter$Settings")] (va_A [(h0, .inr (9, [.ref h1, .int v0_count])), (h1, .inl (cI, 1500, .inl f1)), (h2, .inr (1, [.int v2_x, .int v2_y, .int v2_endX, .int v2_endY]))] sz) [(h0, .inr (9, [.ref h1, .int v0_count])), (h1, .inl (cI, 1500, .inl f1)), (h2, .inr (1, [.int (res.1), .int (res.2.1), .int (res.2.2.1), .int (res.2.2.2)]))]) 0 0 (va_A [(h0, .inr (9, [.ref h1, .int v0_count])), (h1, .inl (cI, 1500, .inl f1)), (h2, .inr (1, [.int v2_x, .int v2_y, .int v2_endX, .int v2_endY]))] sz) := by
  refine Met.ofW (cc := cX1_narrowBy) (maxL := 5) (ret := none) (by decide) rfl ?_
  intro p e s m args below meth c s₁ B hml hv
  obtain ⟨rfl, hsz, hP, hK, hD0, hG⟩ := hv
  have hx := B.exec
  have hb := B.bytes
  have hr := B.returns
  have hu : ∀ w ∈ uw, w.before ([.ref h2, .ref h0, .int p2] : List Value).toArray s = true := fun w h => atoms_spec (ws := w_X1_narrowBy) B.pre w (List.mem_cons_of_mem _ h)
  have hown : s.vm.findClass RX1 = some m.cls := findClass_of_methodNamed B.named
  have hlocks := B.notSynchronized
  subst hsz
  have hD := hD0.self (sz := s.heap.size)
  generalize hAe : va_A [(h0, .inr (9, [.ref h1, .int v0_count])), (h1, .inl (cI, 1500, .inl f1)), (h2, .inr (1, [.int v2_x, .int v2_y, .int v2_endX, .int v2_endY]))] s.heap.size = A at hD hG ⊢
  have hA : ∀ q : Nat, s.heap.size ≤ q → A q := fun q h => by rw [← hAe]; exact Or.inr h
  have hS : va_S A s.heap s.heap [] := va_S.rf
  have hP : va_P (dC, dI) vwCl [(h0, .inr (9, [.ref h1, .int v0_count])), (h1, .inl (cI, 1500, .inl f1)), (h2, .inr (1, [.int v2_x, .int v2_y, .int v2_endX, .int v2_endY]))] s.heap := hP
  have hl := lv_entry ([.ref h2, .ref h0, .int p2]) (n := 5) (Nat.le_of_ble_eq_true rfl)
  rw [lg_entry_eq]
  generalize (lg_sl ([.ref h2, .ref h0, .int p2]) ++ List.replicate (5 - (lg_sl ([.ref h2, .ref h0, .int p2])).length) Slot.unset).toArray = ls at hl ⊢
  have hl : lv_has ls 5 [(0, .ref h2), (1, .ref h0), (2, .int p2)] := hl
  rw [m_X1_narrowBy] at hM
  suffices hgo : ∀ (H : Heap) (locs : List Loc), va_P (dC, dI) vwCl [(h0, .inr (9, [.ref h1, .int v0_count])), (h1, .inl (cI, 1500, .inl f1)), (h2, .inr (1, [.int v2_x, .int v2_y, .int v2_endX, .int v2_endY]))] H → va_D A [(h0, .inr (9, [.ref h1, .int v0_count])), (h1, .inl (cI, 1500, .inl f1)), (h2, .inr (1, [.int v2_x, .int v2_y, .int v2_endX, .int v2_endY]))] → va_S A s.heap H locs → W p l e (headSpec w_X1_narrowBy rm_X1_narrowBy).room s m ([.ref h2, .ref h0, .int p2] : List Value).toArray below meth c H locs 0 0 (MQ below (QMv (dC, dI) [(cI, .int), (cZ, .boolean), (cO, .object "ListPainter$Settings")] A [(h0, .inr (9, [.ref h1, .int v0_count])), (h1, .inl (cI, 1500, .inl f1)), (h2, .inr (1, [.int (res.1), .int (res.2.1), .int (res.2.2.1), .int (res.2.2.2)]))]) ([.ref h2, .ref h0, .int p2] : List Value).toArray s 0 0 A) (F0 m 0 ls []) from hgo _ _ hP hD hS
  intro H locs hP hD hS
  refine lv_aload_n hx hb dX1_narrowBy_0 rfl (lv_at hl 1 rfl) ?_
  refine lv_iload_n hx hb dX1_narrowBy_1 rfl (lv_at hl 2 rfl) ?_
  refine lv_iconst (v := 1) hx hb dX1_narrowBy_2 (by decide) ?_
  refine lv_iadd hx hb dX1_narrowBy_3 ?_
  obtain ⟨r_1, hm_2, hM⟩ := bd1_u hM
  refine cVi (r := r_1) (As := [.int (p2 + 1)]) (rest := []) ⟨hx, hb, hml, hown, hu⟩ (c_X10_word l dC dI cI cZ cO tL H.size h0 h1 v0_count f1 (p2 + 1) r_1 hm_2) (cwV 1 hu (gV kw_57 kw_3 kw_4 kw_5 kw_6) rfl rfl rfl (by decide +kernel) ⟨Nat.le_of_ble_eq_true rfl, Nat.le_of_ble_eq_true rfl⟩) hP hD hS hA hK hG [0, 1] (by decide) rfl [some 0, some 1, none] 2 rfl (by decide +kernel) rfl 9 0 rfl rfl rfl rfl hl.1 rfl (Nat.le_of_ble_eq_true rfl) dX1_narrowBy_4 (Nat.zero_le _) (Nat.zero_le _) (fun H locs hP hD hS => ?_)
  have hP : va_P (dC, dI) vwCl [(h0, .inr (9, [.ref h1, .int v0_count])), (h1, .inl (cI, 1500, .inl f1)), (h2, .inr (1, [.int v2_x, .int v2_y, .int v2_endX, .int v2_endY]))] H := hP
  have hD : va_D A [(h0, .inr (9, [.ref h1, .int v0_count])), (h1, .inl (cI, 1500, .inl f1)), (h2, .inr (1, [.int v2_x, .int v2_y, .int v2_endX, .int v2_endY]))] := hD
  refine lv_istore_n (lv' := [(3, .int r_1), (0, .ref h2), (1, .ref h0), (2, .int p2)]) hx hb dX1_narrowBy_7 rfl hl (by decide) rfl (fun ls hl => ?_)
  refine lv_aload_n hx hb dX1_narrowBy_8 rfl (lv_at hl 2 rfl) ?_
  refine lv_iload_n hx hb dX1_narrowBy_9 rfl (lv_at hl 3 rfl) ?_
  refine lv_iconst (v := 2) hx hb dX1_narrowBy_10 (by decide) ?_
  refine lv_iadd hx hb dX1_narrowBy_11 ?_
  obtain ⟨r_3, hm_4, hM⟩ := bd1_u hM
  refine cVi (r := r_3) (As := [.int (p2 + 2)]) (rest := []) ⟨hx, hb, hml, hown, hu⟩ (c_X10_word l dC dI cI cZ cO tL H.size h0 h1 v0_count f1 (p2 + 2) r_3 hm_4) (cwV 1 hu (gV kw_57 kw_3 kw_4 kw_5 kw_6) rfl rfl rfl (by decide +kernel) ⟨Nat.le_of_ble_eq_true rfl, Nat.le_of_ble_eq_true rfl⟩) hP hD hS hA hK hG [0, 1] (by decide) rfl [some 0, some 1, none] 2 rfl (by decide +kernel) rfl 9 0 rfl rfl rfl rfl hl.1 rfl (Nat.le_of_ble_eq_true rfl) dX1_narrowBy_12 (Nat.zero_le _) (Nat.zero_le _) (fun H locs hP hD hS => ?_)
  have hP : va_P (dC, dI) vwCl [(h0, .inr (9, [.ref h1, .int v0_count])), (h1, .inl (cI, 1500, .inl f1)), (h2, .inr (1, [.int v2_x, .int v2_y, .int v2_endX, .int v2_endY]))] H := hP
  have hD : va_D A [(h0, .inr (9, [.ref h1, .int v0_count])), (h1, .inl (cI, 1500, .inl f1)), (h2, .inr (1, [.int v2_x, .int v2_y, .int v2_endX, .int v2_endY]))] := hD
  refine lv_istore (lv' := [(4, .int r_3), (3, .int r_1), (0, .ref h2), (1, .ref h0), (2, .int p2)]) hx hb dX1_narrowBy_15 hl (by decide) rfl (fun ls hl => ?_)
  refine lv_aload_n hx hb dX1_narrowBy_17 rfl (lv_at hl 2 rfl) ?_
  refine lv_aload_n hx hb dX1_narrowBy_18 rfl (lv_at hl 2 rfl) ?_
  refine va_get (D := (dC, dI)) (ci := 1) (v := .int v2_x) (C := RX1) (T := TX1) (N := 4) hx hb hu inX1 hown hK hP 2 rfl rfl 0 (by decide) (hu _ kw_48) (fun _ h9 => h9) rfl dX1_narrowBy_19 ?_
  refine lv_iload_n hx hb dX1_narrowBy_22 rfl (lv_at hl 1 rfl) ?_
  refine va_mmax hx hb (hml.trans hl.1.symm) hown (hu _ kw_58) (hu _ kw_59) (hu _ kw_60) (hu _ kw_61) (Nat.le_of_ble_eq_true rfl) (Nat.le_of_ble_eq_true rfl) (Nat.zero_le _) (Nat.zero_le _) dX1_narrowBy_23 ?_
  refine lv_topi (fun x_5 ex_5 => ?_)
  have hM := nm_u ex_5 hM
  refine lv_aload_n hx hb dX1_narrowBy_26 rfl (lv_at hl 2 rfl) ?_
  refine va_get (D := (dC, dI)) (ci := 1) (v := .int v2_y) (C := RX1) (T := TX1) (N := 4) hx hb hu inX1 hown hK hP 2 rfl rfl 1 (by decide) (hu _ kw_49) (fun _ h9 => h9) rfl dX1_narrowBy_27 ?_
  refine lv_iload hx hb dX1_narrowBy_30 (lv_at hl 0 rfl) ?_
  refine va_mmax hx hb (hml.trans hl.1.symm) hown (hu _ kw_58) (hu _ kw_59) (hu _ kw_60) (hu _ kw_61) (Nat.le_of_ble_eq_true rfl) (Nat.le_of_ble_eq_true rfl) (Nat.zero_le _) (Nat.zero_le _) dX1_narrowBy_32 ?_
  refine lv_topi (fun x_6 ex_6 => ?_)
  have hM := nm_u ex_6 hM
  refine lv_aload_n hx hb dX1_narrowBy_35 rfl (lv_at hl 2 rfl) ?_
  refine va_get (D := (dC, dI)) (ci := 1) (v := .int v2_endX) (C := RX1) (T := TX1) (N := 4) hx hb hu inX1 hown hK hP 2 rfl rfl 2 (by decide) (hu _ kw_50) (fun _ h9 => h9) rfl dX1_narrowBy_36 ?_
  refine lv_iload_n hx hb dX1_narrowBy_39 rfl (lv_at hl 1 rfl) ?_
  refine lv_aload_n hx hb dX1_narrowBy_40 rfl (lv_at hl 3 rfl) ?_
  refine lv_iload_n hx hb dX1_narrowBy_41 rfl (lv_at hl 4 rfl) ?_
  refine lv_iconst (v := 3) hx hb dX1_narrowBy_42 (by decide) ?_
  refine lv_iadd hx hb dX1_narrowBy_43 ?_
  obtain ⟨r_7, hm_8, hM⟩ := bd1_u hM
  refine cVi (r := r_7) (As := [.int (p2 + 3)]) (rest := [.int r_1, .int v2_endX, .int x_6, .int x_5, .ref h2]) ⟨hx, hb, hml, hown, hu⟩ (c_X10_word l dC dI cI cZ cO tL H.size h0 h1 v0_count f1 (p2 + 3) r_7 hm_8) (cwV 1 hu (gV kw_57 kw_3 kw_4 kw_5 kw_6) rfl rfl rfl (by decide +kernel) ⟨Nat.le_of_ble_eq_true rfl, Nat.le_of_ble_eq_true rfl⟩) hP hD hS hA hK hG [0, 1] (by decide) rfl [some 0, some 1, none] 2 rfl (by decide +kernel) rfl 9 0 rfl rfl rfl rfl hl.1 rfl (Nat.le_of_ble_eq_true rfl) dX1_narrowBy_44 (Nat.zero_le _) (Nat.zero_le _) (fun H locs hP hD hS => ?_)
  have hP : va_P (dC, dI) vwCl [(h0, .inr (9, [.ref h1, .int v0_count])), (h1, .inl (cI, 1500, .inl f1)), (h2, .inr (1, [.int v2_x, .int v2_y, .int v2_endX, .int v2_endY]))] H := hP
  have hD : va_D A [(h0, .inr (9, [.ref h1, .int v0_count])), (h1, .inl (cI, 1500, .inl f1)), (h2, .inr (1, [.int v2_x, .int v2_y, .int v2_endX, .int v2_endY]))] := hD
  refine lv_iadd hx hb dX1_narrowBy_47 ?_
  refine va_mmin hx hb (hml.trans hl.1.symm) hown (hu _ kw_62) (hu _ kw_63) (hu _ kw_60) (hu _ kw_64) (Nat.le_of_ble_eq_true rfl) (Nat.le_of_ble_eq_true rfl) (Nat.zero_le _) (Nat.zero_le _) dX1_narrowBy_48 ?_
  refine lv_topi (fun x_9 ex_9 => ?_)
  have hM := nm_u ex_9 hM
  refine lv_aload_n hx hb dX1_narrowBy_51 rfl (lv_at hl 2 rfl) ?_
  refine va_get (D := (dC, dI)) (ci := 1) (v := .int v2_endY) (C := RX1) (T := TX1) (N := 4) hx hb hu inX1 hown hK hP 2 rfl rfl 3 (by decide) (hu _ kw_51) (fun _ h9 => h9) rfl dX1_narrowBy_52 ?_
  refine lv_iload hx hb dX1_narrowBy_55 (lv_at hl 0 rfl) ?_
  refine lv_aload_n hx hb dX1_narrowBy_57 rfl (lv_at hl 3 rfl) ?_
  refine lv_iload_n hx hb dX1_narrowBy_58 rfl (lv_at hl 4 rfl) ?_
  refine lv_iconst (v := 4) hx hb dX1_narrowBy_59 (by decide) ?_
  refine lv_iadd hx hb dX1_narrowBy_60 ?_
  obtain ⟨r_10, hm_11, hM⟩ := bd1_u hM
  refine cVi (r := r_10) (As := [.int (p2 + 4)]) (rest := [.int r_3, .int v2_endY, .int x_9, .int x_6, .int x_5, .ref h2]) ⟨hx, hb, hml, hown, hu⟩ (c_X10_word l dC dI cI cZ cO tL H.size h0 h1 v0_count f1 (p2 + 4) r_10 hm_11) (cwV 1 hu (gV kw_57 kw_3 kw_4 kw_5 kw_6) rfl rfl rfl (by decide +kernel) ⟨Nat.le_of_ble_eq_true rfl, Nat.le_of_ble_eq_true rfl⟩) hP hD hS hA hK hG [0, 1] (by decide) rfl [some 0, some 1, none] 2 rfl (by decide +kernel) rfl 9 0 rfl rfl rfl rfl hl.1 rfl (Nat.le_of_ble_eq_true rfl) dX1_narrowBy_61 (Nat.zero_le _) (Nat.zero_le _) (fun H locs hP hD hS => ?_)
  have hP : va_P (dC, dI) vwCl [(h0, .inr (9, [.ref h1, .int v0_count])), (h1, .inl (cI, 1500, .inl f1)), (h2, .inr (1, [.int v2_x, .int v2_y, .int v2_endX, .int v2_endY]))] H := hP
  have hD : va_D A [(h0, .inr (9, [.ref h1, .int v0_count])), (h1, .inl (cI, 1500, .inl f1)), (h2, .inr (1, [.int v2_x, .int v2_y, .int v2_endX, .int v2_endY]))] := hD
  refine lv_iadd hx hb dX1_narrowBy_64 ?_
  refine va_mmin hx hb (hml.trans hl.1.symm) hown (hu _ kw_62) (hu _ kw_63) (hu _ kw_60) (hu _ kw_64) (Nat.le_of_ble_eq_true rfl) (Nat.le_of_ble_eq_true rfl) (Nat.zero_le _) (Nat.zero_le _) dX1_narrowBy_65 ?_
  refine lv_topi (fun x_12 ex_12 => ?_)
  have hM := nm_u ex_12 hM
  obtain ⟨v2_13, v2_14, v2_15, v2_16, hm_17, hM⟩ := bd4_u hM
  refine cVv (As := [.int x_5, .int x_6, .int x_9, .int x_12]) (rest := []) ⟨hx, hb, hml, hown, hu⟩ (c_X1_become l dC dI cI cZ cO tL H.size h2 v2_x v2_y v2_endX v2_endY x_5 x_6 x_9 x_12 (v2_13, v2_14, v2_15, v2_16) hm_17) (cwV 4 hu (gV kw_52 kw_53 kw_54 kw_55 kw_56) rfl rfl rfl (by decide +kernel) ⟨Nat.le_of_ble_eq_true rfl, Nat.le_of_ble_eq_true rfl⟩) hP hD hS hA hK hG [2] (by decide) rfl [none, none, some 0] 1 rfl (by decide +kernel) rfl 1 2 rfl rfl rfl rfl hl.1 rfl (Nat.le_of_ble_eq_true rfl) dX1_narrowBy_68 (Nat.zero_le _) (Nat.zero_le _) (fun H locs hP hD hS => ?_)
  have hP : va_P (dC, dI) vwCl [(h0, .inr (9, [.ref h1, .int v0_count])), (h1, .inl (cI, 1500, .inl f1)), (h2, .inr (1, [.int v2_13, .int v2_14, .int v2_15, .int v2_16]))] H := hP
  have hD : va_D A [(h0, .inr (9, [.ref h1, .int v0_count])), (h1, .inl (cI, 1500, .inl f1)), (h2, .inr (1, [.int v2_13, .int v2_14, .int v2_15, .int v2_16]))] := hD
  refine lv_aload_n hx hb dX1_narrowBy_71 rfl (lv_at hl 2 rfl) ?_
  refine va_get (D := (dC, dI)) (ci := 1) (v := .int v2_13) (C := RX1) (T := TX1) (N := 4) hx hb hu inX1 hown hK hP 2 rfl rfl 0 (by decide) (hu _ kw_48) (fun _ h9 => h9) rfl dX1_narrowBy_72 ?_
  refine lv_aload_n hx hb dX1_narrowBy_75 rfl (lv_at hl 2 rfl) ?_
  refine va_get (D := (dC, dI)) (ci := 1) (v := .int v2_15) (C := RX1) (T := TX1) (N := 4) hx hb hu inX1 hown hK hP 2 rfl rfl 2 (by decide) (hu _ kw_50) (fun _ h9 => h9) rfl dX1_narrowBy_76 ?_
  obtain ⟨K93_18, eK93_18, hM⟩ := jn_u hM
  have hJ93_18 : ∀ (H : Heap) (locs : List Loc) (ls : Array Slot), va_P (dC, dI) vwCl [(h0, .inr (9, [.ref h1, .int v0_count])), (h1, .inl (cI, 1500, .inl f1)), (h2, .inr (1, [.int v2_13, .int v2_14, .int v2_15, .int v2_16]))] H → va_D A [(h0, .inr (9, [.ref h1, .int v0_count])), (h1, .inl (cI, 1500, .inl f1)), (h2, .inr (1, [.int v2_13, .int v2_14, .int v2_15, .int v2_16]))] → va_S A s.heap H locs → lv_has ls 5 [(0, .ref h2)] → K93_18 = some res → W p l e (headSpec w_X1_narrowBy rm_X1_narrowBy).room s m ([.ref h2, .ref h0, .int p2] : List Value).toArray below meth c H locs 0 0 (MQ below (QMv (dC, dI) [(cI, .int), (cZ, .boolean), (cO, .object "ListPainter$Settings")] A [(h0, .inr (9, [.ref h1, .int v0_count])), (h1, .inl (cI, 1500, .inl f1)), (h2, .inr (1, [.int (res.1), .int (res.2.1), .int (res.2.2.1), .int (res.2.2.2)]))]) ([.ref h2, .ref h0, .int p2] : List Value).toArray s 0 0 A) (F0 m 93 ls []) := by
    intro H locs ls hP hD hS hl hM
    have hM := ja0 eK93_18 hM
    refine lv_aload_n hx hb dX1_narrowBy_93 rfl (lv_at hl 0 rfl) ?_
    refine lv_iconst (v := 0) hx hb dX1_narrowBy_94 (by decide) ?_
    refine lv_iconst (v := 0) hx hb dX1_narrowBy_95 (by decide) ?_
    refine lv_iconst (v := 0) hx hb dX1_narrowBy_96 (by decide) ?_
    refine lv_iconst (v := 0) hx hb dX1_narrowBy_97 (by decide) ?_
    obtain ⟨v2_19, v2_20, v2_21, v2_22, hm_23, hM⟩ := bd4_u hM
    refine cVv (As := [.int 0, .int 0, .int 0, .int 0]) (rest := []) ⟨hx, hb, hml, hown, hu⟩ (c_X1_become l dC dI cI cZ cO tL H.size h2 v2_13 v2_14 v2_15 v2_16 0 0 0 0 (v2_19, v2_20, v2_21, v2_22) hm_23) (cwV 4 hu (gV kw_52 kw_53 kw_54 kw_55 kw_56) rfl rfl rfl (by decide +kernel) ⟨Nat.le_of_ble_eq_true rfl, Nat.le_of_ble_eq_true rfl⟩) hP hD hS hA hK hG [2] (by decide) rfl [none, none, some 0] 1 rfl (by decide +kernel) rfl 1 2 rfl rfl rfl rfl hl.1 rfl (Nat.le_of_ble_eq_true rfl) dX1_narrowBy_98 (Nat.zero_le _) (Nat.zero_le _) (fun H locs hP hD hS => ?_)
    have hP : va_P (dC, dI) vwCl [(h0, .inr (9, [.ref h1, .int v0_count])), (h1, .inl (cI, 1500, .inl f1)), (h2, .inr (1, [.int v2_19, .int v2_20, .int v2_21, .int v2_22]))] H := hP
    have hD : va_D A [(h0, .inr (9, [.ref h1, .int v0_count])), (h1, .inl (cI, 1500, .inl f1)), (h2, .inr (1, [.int v2_19, .int v2_20, .int v2_21, .int v2_22]))] := hD
    have h9 := Option.some.inj hM
    subst h9
    exact W.vret hx hb hr (fun t ht hW => QMv_mk (by rw [ht]; exact hP) (va_K.moved hW.alike hK) hD (hS.F ht)) hS.2.2 dX1_narrowBy_101
  refine lv_icmp_ge (tgt := 93) hx hb dX1_narrowBy_79 (by decide) (fun c_24 => ?_) (fun c_24 => ?_)
  · have hM := if_t c_24 hM
    exact hJ93_18  H locs ls hP hD hS (lv_sub hl [2] rfl) hM
  · have hM := if_f c_24 hM
    refine lv_aload_n hx hb dX1_narrowBy_82 rfl (lv_at hl 2 rfl) ?_
    refine va_get (D := (dC, dI)) (ci := 1) (v := .int v2_14) (C := RX1) (T := TX1) (N := 4) hx hb hu inX1 hown hK hP 2 rfl rfl 1 (by decide) (hu _ kw_49) (fun _ h9 => h9) rfl dX1_narrowBy_83 ?_
    refine lv_aload_n hx hb dX1_narrowBy_86 rfl (lv_at hl 2 rfl) ?_
    refine va_get (D := (dC, dI)) (ci := 1) (v := .int v2_16) (C := RX1) (T := TX1) (N := 4) hx hb hu inX1 hown hK hP 2 rfl rfl 3 (by decide) (hu _ kw_51) (fun _ h9 => h9) rfl dX1_narrowBy_87 ?_
    refine lv_icmp_lt (tgt := 101) hx hb dX1_narrowBy_90 (by decide) (fun c_25 => ?_) (fun c_25 => ?_)
    · have hM := if_t c_25 hM
      have h9 := Option.some.inj hM
      subst h9
      exact W.vret hx hb hr (fun t ht hW => QMv_mk (by rw [ht]; exact hP) (va_K.moved hW.alike hK) hD (hS.F ht)) hS.2.2 dX1_narrowBy_101
    · have hM := if_f c_25 hM
      exact hJ93_18  H locs ls hP hD hS (lv_sub hl [2] rfl) hM
theorem dX1_isSameAs_0 : decode cX1_isSameAs 0 = .ok (.aload_n 0, 1) := by decide +kernel
theorem dX1_isSameAs_1 : decode cX1_isSameAs 1 = .ok (.getfield 7, 3) := by decide +kernel
theorem dX1_isSameAs_4 : decode cX1_isSameAs 4 = .ok (.aload_n 1, 1) := by decide +kernel
theorem dX1_isSameAs_5 : decode cX1_isSameAs 5 = .ok (.getfield 7, 3) := by decide +kernel
theorem dX1_isSameAs_8 : decode cX1_isSameAs 8 = .ok (.if_icmp .ne 40, 3) := by decide +kernel
theorem dX1_isSameAs_11 : decode cX1_isSameAs 11 = .ok (.aload_n 0, 1) := by decide +kernel
theorem dX1_isSameAs_12 : decode cX1_isSameAs 12 = .ok (.getfield 13, 3) := by decide +kernel
theorem dX1_isSameAs_15 : decode cX1_isSameAs 15 = .ok (.aload_n 1, 1) := by decide +kernel
theorem dX1_isSameAs_16 : decode cX1_isSameAs 16 = .ok (.getfield 13, 3) := by decide +kernel
theorem dX1_isSameAs_19 : decode cX1_isSameAs 19 = .ok (.if_icmp .ne 29, 3) := by decide +kernel
theorem dX1_isSameAs_22 : decode cX1_isSameAs 22 = .ok (.aload_n 0, 1) := by decide +kernel
theorem dX1_isSameAs_23 : decode cX1_isSameAs 23 = .ok (.getfield 16, 3) := by decide +kernel
theorem dX1_isSameAs_26 : decode cX1_isSameAs 26 = .ok (.aload_n 1, 1) := by decide +kernel
theorem dX1_isSameAs_27 : decode cX1_isSameAs 27 = .ok (.getfield 16, 3) := by decide +kernel
theorem dX1_isSameAs_30 : decode cX1_isSameAs 30 = .ok (.if_icmp .ne 18, 3) := by decide +kernel
theorem dX1_isSameAs_33 : decode cX1_isSameAs 33 = .ok (.aload_n 0, 1) := by decide +kernel
theorem dX1_isSameAs_34 : decode cX1_isSameAs 34 = .ok (.getfield 19, 3) := by decide +kernel
theorem dX1_isSameAs_37 : decode cX1_isSameAs 37 = .ok (.aload_n 1, 1) := by decide +kernel
theorem dX1_isSameAs_38 : decode cX1_isSameAs 38 = .ok (.getfield 19, 3) := by decide +kernel
theorem dX1_isSameAs_41 : decode cX1_isSameAs 41 = .ok (.if_icmp .ne 7, 3) := by decide +kernel
theorem dX1_isSameAs_44 : decode cX1_isSameAs 44 = .ok (.iconst 1, 1) := by decide +kernel
theorem dX1_isSameAs_45 : decode cX1_isSameAs 45 = .ok (.goto 4, 3) := by decide +kernel
theorem dX1_isSameAs_48 : decode cX1_isSameAs 48 = .ok (.iconst 0, 1) := by decide +kernel
theorem dX1_isSameAs_49 : decode cX1_isSameAs 49 = .ok (.ireturn, 1) := by decide +kernel
abbrev rm_X1_isSameAs : Room := { frames := 0, cells := 0, slots := 0, locals := 0 }
def w_X1_isSameAs : List Cond := Cond.code yX1_isSameAs cX1_isSameAs 2 (some .boolean) :: uw
set_option maxHeartbeats 4000000 in
set_option maxRecDepth 100000 in
theorem c_X1_isSameAs (l : Launch) (dC : Nat → ClassId) (dI : Nat → Nat → Nat) (cI cZ cO : ClassId) (tL sz : Nat) (h0 : Nat) (h1 : Nat) (v0_x : Int32) (v0_y : Int32) (v0_endX : Int32) (v0_endY : Int32) (v1_x : Int32) (v1_y : Int32) (v1_endX : Int32) (v1_endY : Int32) (res : Int32) (hM : m_X1_isSameAs v0_x v0_y v0_endX v0_endY v1_x v1_y v1_endX v1_endY = some res) : Met l yX1_isSameAs w_X1_isSameAs rm_X1_isSameAs (PCx [.ref h0, .ref h1] (dC, dI) [(cI, .int), (cZ, .boolean), (cO, .object "ListPainter$Settings")] sz tL [(h0, .inr (1, [.int v0_x, .int v0_y, .int v0_endX, .int v0_endY])), (h1, .inr (1, [.int v1_x, .int v1_y, .int v1_endX, .int v1_endY]))]) (QMz res (dC, dI) [(cI, .int), (cZ, .boolean), (cO, .object "ListPainter$Settings")] (va_A [(h0, .inr (1, [.int v0_x, .int v0_y, .int v0_endX, .int v0_endY])), (h1, .inr (1, [.int v1_x, .int v1_y, .int v1_endX, .int v1_endY]))] sz) [(h0, .inr (1, [.int v0_x, .int v0_y, .int v0_endX, .int v0_endY])), (h1, .inr (1, [.int v1_x, .int v1_y, .int v1_endX, .int v1_endY]))]) 0 0 (va_A [(h0, .inr (1, [.int v0_x, .int v0_y, .int v0_endX, .int v0_endY])), (h1, .inr (1, [.int v1_x, .int v1_y, .int v1_endX, .int v1_endY]))] sz) := by
  refine Met.ofW (cc := cX1_isSameAs) (maxL := 2) (ret := (some .boolean)) (by decide) rfl ?_
  intro p e s m args below meth c s₁ B hml hv
  obtain ⟨rfl, hsz, hP, hK, hD0, hG⟩ := hv
  have hx := B.exec
  have hb := B.bytes
  have hr := B.returns
  have hu : ∀ w ∈ uw, w.before ([.ref h0, .ref h1] : List Value).toArray s = true := fun w h => atoms_spec (ws := w_X1_isSameAs) B.pre w (List.mem_cons_of_mem _ h)
  have hown : s.vm.findClass RX1 = some m.cls := findClass_of_methodNamed B.named
  have hlocks := B.notSynchronized
  subst hsz
  have hD := hD0.self (sz := s.heap.size)
  generalize hAe : va_A [(h0, .inr (1, [.int v0_x, .int v0_y, .int v0_endX, .int v0_endY])), (h1, .inr (1, [.int v1_x, .int v1_y, .int v1_endX, .int v1_endY]))] s.heap.size = A at hD hG ⊢
  have hA : ∀ q : Nat, s.heap.size ≤ q → A q := fun q h => by rw [← hAe]; exact Or.inr h
  have hS : va_S A s.heap s.heap [] := va_S.rf
  have hP : va_P (dC, dI) vwCl [(h0, .inr (1, [.int v0_x, .int v0_y, .int v0_endX, .int v0_endY])), (h1, .inr (1, [.int v1_x, .int v1_y, .int v1_endX, .int v1_endY]))] s.heap := hP
  have hl := lv_entry ([.ref h0, .ref h1]) (n := 2) (Nat.le_of_ble_eq_true rfl)
  rw [lg_entry_eq]
  generalize (lg_sl ([.ref h0, .ref h1]) ++ List.replicate (2 - (lg_sl ([.ref h0, .ref h1])).length) Slot.unset).toArray = ls at hl ⊢
  have hl : lv_has ls 2 [(0, .ref h0), (1, .ref h1)] := hl
  rw [m_X1_isSameAs] at hM
  suffices hgo : ∀ (H : Heap) (locs : List Loc), va_P (dC, dI) vwCl [(h0, .inr (1, [.int v0_x, .int v0_y, .int v0_endX, .int v0_endY])), (h1, .inr (1, [.int v1_x, .int v1_y, .int v1_endX, .int v1_endY]))] H → va_D A [(h0, .inr (1, [.int v0_x, .int v0_y, .int v0_endX, .int v0_endY])), (h1, .inr (1, [.int v1_x, .int v1_y, .int v1_endX, .int v1_endY]))] → va_S A s.heap H locs → W p l e (headSpec w_X1_isSameAs rm_X1_isSameAs).room s m ([.ref h0, .ref h1] : List Value).toArray below meth c H locs 0 0 (MQ below (QMz res (dC, dI) [(cI, .int), (cZ, .boolean), (cO, .object "ListPainter$Settings")] A [(h0, .inr (1, [.int v0_x, .int v0_y, .int v0_endX, .int v0_endY])), (h1, .inr (1, [.int v1_x, .int v1_y, .int v1_endX, .int v1_endY]))]) ([.ref h0, .ref h1] : List Value).toArray s 0 0 A) (F0 m 0 ls []) from hgo _ _ hP hD hS
  intro H locs hP hD hS
  refine lv_aload_n hx hb dX1_isSameAs_0 rfl (lv_at hl 0 rfl) ?_
  refine va_get (D := (dC, dI)) (ci := 1) (v := .int v0_x) (C := RX1) (T := TX1) (N := 4) hx hb hu inX1 hown hK hP 0 rfl rfl 0 (by decide) (hu _ kw_48) (fun _ h9 => h9) rfl dX1_isSameAs_1 ?_
  refine lv_aload_n hx hb dX1_isSameAs_4 rfl (lv_at hl 1 rfl) ?_
  refine va_get (D := (dC, dI)) (ci := 1) (v := .int v1_x) (C := RX1) (T := TX1) (N := 4) hx hb hu inX1 hown hK hP 1 rfl rfl 0 (by decide) (hu _ kw_48) (fun _ h9 => h9) rfl dX1_isSameAs_5 ?_
  refine lv_icmp_ne (tgt := 48) hx hb dX1_isSameAs_8 (by decide) (fun c_1 => ?_) (fun c_1 => ?_)
  · have hM := if_f c_1 hM
    refine lv_iconst (v := 0) hx hb dX1_isSameAs_48 (by decide) ?_
    have h9 := Option.some.inj hM
    subst h9
    exact W.zret (v := 0) hx hb hr (zb_n (Or.inl rfl)) (fun t ht hW => QMz_mk (Or.inl rfl) (by rw [ht]; exact hP) (va_K.moved hW.alike hK) hD (hS.F ht)) hS.2.2 dX1_isSameAs_49
  · have hM := if_t c_1 hM
    refine lv_aload_n hx hb dX1_isSameAs_11 rfl (lv_at hl 0 rfl) ?_
    refine va_get (D := (dC, dI)) (ci := 1) (v := .int v0_y) (C := RX1) (T := TX1) (N := 4) hx hb hu inX1 hown hK hP 0 rfl rfl 1 (by decide) (hu _ kw_49) (fun _ h9 => h9) rfl dX1_isSameAs_12 ?_
    refine lv_aload_n hx hb dX1_isSameAs_15 rfl (lv_at hl 1 rfl) ?_
    refine va_get (D := (dC, dI)) (ci := 1) (v := .int v1_y) (C := RX1) (T := TX1) (N := 4) hx hb hu inX1 hown hK hP 1 rfl rfl 1 (by decide) (hu _ kw_49) (fun _ h9 => h9) rfl dX1_isSameAs_16 ?_
    refine lv_icmp_ne (tgt := 48) hx hb dX1_isSameAs_19 (by decide) (fun c_2 => ?_) (fun c_2 => ?_)
    · have hM := if_f c_2 hM
      refine lv_iconst (v := 0) hx hb dX1_isSameAs_48 (by decide) ?_
      have h9 := Option.some.inj hM
      subst h9
      exact W.zret (v := 0) hx hb hr (zb_n (Or.inl rfl)) (fun t ht hW => QMz_mk (Or.inl rfl) (by rw [ht]; exact hP) (va_K.moved hW.alike hK) hD (hS.F ht)) hS.2.2 dX1_isSameAs_49
    · have hM := if_t c_2 hM
      refine lv_aload_n hx hb dX1_isSameAs_22 rfl (lv_at hl 0 rfl) ?_
      refine va_get (D := (dC, dI)) (ci := 1) (v := .int v0_endX) (C := RX1) (T := TX1) (N := 4) hx hb hu inX1 hown hK hP 0 rfl rfl 2 (by decide) (hu _ kw_50) (fun _ h9 => h9) rfl dX1_isSameAs_23 ?_
      refine lv_aload_n hx hb dX1_isSameAs_26 rfl (lv_at hl 1 rfl) ?_
      refine va_get (D := (dC, dI)) (ci := 1) (v := .int v1_endX) (C := RX1) (T := TX1) (N := 4) hx hb hu inX1 hown hK hP 1 rfl rfl 2 (by decide) (hu _ kw_50) (fun _ h9 => h9) rfl dX1_isSameAs_27 ?_
      refine lv_icmp_ne (tgt := 48) hx hb dX1_isSameAs_30 (by decide) (fun c_3 => ?_) (fun c_3 => ?_)
      · have hM := if_f c_3 hM
        refine lv_iconst (v := 0) hx hb dX1_isSameAs_48 (by decide) ?_
        have h9 := Option.some.inj hM
        subst h9
        exact W.zret (v := 0) hx hb hr (zb_n (Or.inl rfl)) (fun t ht hW => QMz_mk (Or.inl rfl) (by rw [ht]; exact hP) (va_K.moved hW.alike hK) hD (hS.F ht)) hS.2.2 dX1_isSameAs_49
      · have hM := if_t c_3 hM
        refine lv_aload_n hx hb dX1_isSameAs_33 rfl (lv_at hl 0 rfl) ?_
        refine va_get (D := (dC, dI)) (ci := 1) (v := .int v0_endY) (C := RX1) (T := TX1) (N := 4) hx hb hu inX1 hown hK hP 0 rfl rfl 3 (by decide) (hu _ kw_51) (fun _ h9 => h9) rfl dX1_isSameAs_34 ?_
        refine lv_aload_n hx hb dX1_isSameAs_37 rfl (lv_at hl 1 rfl) ?_
        refine va_get (D := (dC, dI)) (ci := 1) (v := .int v1_endY) (C := RX1) (T := TX1) (N := 4) hx hb hu inX1 hown hK hP 1 rfl rfl 3 (by decide) (hu _ kw_51) (fun _ h9 => h9) rfl dX1_isSameAs_38 ?_
        refine lv_icmp_ne (tgt := 48) hx hb dX1_isSameAs_41 (by decide) (fun c_4 => ?_) (fun c_4 => ?_)
        · have hM := if_f c_4 hM
          refine lv_iconst (v := 0) hx hb dX1_isSameAs_48 (by decide) ?_
          have h9 := Option.some.inj hM
          subst h9
          exact W.zret (v := 0) hx hb hr (zb_n (Or.inl rfl)) (fun t ht hW => QMz_mk (Or.inl rfl) (by rw [ht]; exact hP) (va_K.moved hW.alike hK) hD (hS.F ht)) hS.2.2 dX1_isSameAs_49
        · have hM := if_t c_4 hM
          refine lv_iconst (v := 1) hx hb dX1_isSameAs_44 (by decide) ?_
          refine lv_goto (tgt := 49) hx hb dX1_isSameAs_45 (by decide) ?_
          have h9 := Option.some.inj hM
          subst h9
          exact W.zret (v := 1) hx hb hr (zb_n (Or.inr rfl)) (fun t ht hW => QMz_mk (Or.inr rfl) (by rw [ht]; exact hP) (va_K.moved hW.alike hK) hD (hS.F ht)) hS.2.2 dX1_isSameAs_49
theorem dX7_holds_0 : decode cX7_holds 0 = .ok (.iload_n 1, 1) := by decide +kernel
theorem dX7_holds_1 : decode cX7_holds 1 = .ok (.ifCond .lt 27, 3) := by decide +kernel
theorem dX7_holds_4 : decode cX7_holds 4 = .ok (.iload_n 1, 1) := by decide +kernel
theorem dX7_holds_5 : decode cX7_holds 5 = .ok (.aload_n 0, 1) := by decide +kernel
theorem dX7_holds_6 : decode cX7_holds 6 = .ok (.getfield 15, 3) := by decide +kernel
theorem dX7_holds_9 : decode cX7_holds 9 = .ok (.if_icmp .ge 19, 3) := by decide +kernel
theorem dX7_holds_12 : decode cX7_holds 12 = .ok (.iload_n 2, 1) := by decide +kernel
theorem dX7_holds_13 : decode cX7_holds 13 = .ok (.ifCond .lt 15, 3) := by decide +kernel
theorem dX7_holds_16 : decode cX7_holds 16 = .ok (.iload_n 2, 1) := by decide +kernel
theorem dX7_holds_17 : decode cX7_holds 17 = .ok (.aload_n 0, 1) := by decide +kernel
theorem dX7_holds_18 : decode cX7_holds 18 = .ok (.getfield 19, 3) := by decide +kernel
theorem dX7_holds_21 : decode cX7_holds 21 = .ok (.if_icmp .ge 7, 3) := by decide +kernel
theorem dX7_holds_24 : decode cX7_holds 24 = .ok (.iconst 1, 1) := by decide +kernel
theorem dX7_holds_25 : decode cX7_holds 25 = .ok (.goto 4, 3) := by decide +kernel
theorem dX7_holds_28 : decode cX7_holds 28 = .ok (.iconst 0, 1) := by decide +kernel
theorem dX7_holds_29 : decode cX7_holds 29 = .ok (.ireturn, 1) := by decide +kernel
abbrev rm_X7_holds : Room := { frames := 0, cells := 0, slots := 0, locals := 0 }
def w_X7_holds : List Cond := Cond.code yX7_holds cX7_holds 3 (some .boolean) :: uw
set_option maxHeartbeats 4000000 in
set_option maxRecDepth 100000 in
theorem c_X7_holds (l : Launch) (dC : Nat → ClassId) (dI : Nat → Nat → Nat) (cI cZ cO : ClassId) (tL sz : Nat) (h0 : Nat) (g0_pixels : Nat) (v0_w : Int32) (v0_h : Int32) (p1 : Int32) (p2 : Int32) (res : Int32) (hM : m_X7_holds v0_w v0_h p1 p2 = some res) : Met l yX7_holds w_X7_holds rm_X7_holds (PCx [.ref h0, .int p1, .int p2] (dC, dI) [(cI, .int), (cZ, .boolean), (cO, .object "ListPainter$Settings")] sz tL [(h0, .inr (6, [.int v0_w, .int v0_h, .ref g0_pixels]))]) (QMz res (dC, dI) [(cI, .int), (cZ, .boolean), (cO, .object "ListPainter$Settings")] (va_A [(h0, .inr (6, [.int v0_w, .int v0_h, .ref g0_pixels]))] sz) [(h0, .inr (6, [.int v0_w, .int v0_h, .ref g0_pixels]))]) 0 0 (va_A [(h0, .inr (6, [.int v0_w, .int v0_h, .ref g0_pixels]))] sz) := by
  refine Met.ofW (cc := cX7_holds) (maxL := 3) (ret := (some .boolean)) (by decide) rfl ?_
  intro p e s m args below meth c s₁ B hml hv
  obtain ⟨rfl, hsz, hP, hK, hD0, hG⟩ := hv
  have hx := B.exec
  have hb := B.bytes
  have hr := B.returns
  have hu : ∀ w ∈ uw, w.before ([.ref h0, .int p1, .int p2] : List Value).toArray s = true := fun w h => atoms_spec (ws := w_X7_holds) B.pre w (List.mem_cons_of_mem _ h)
  have hown : s.vm.findClass RX7 = some m.cls := findClass_of_methodNamed B.named
  have hlocks := B.notSynchronized
  subst hsz
  have hD := hD0.self (sz := s.heap.size)
  generalize hAe : va_A [(h0, .inr (6, [.int v0_w, .int v0_h, .ref g0_pixels]))] s.heap.size = A at hD hG ⊢
  have hA : ∀ q : Nat, s.heap.size ≤ q → A q := fun q h => by rw [← hAe]; exact Or.inr h
  have hS : va_S A s.heap s.heap [] := va_S.rf
  have hP : va_P (dC, dI) vwCl [(h0, .inr (6, [.int v0_w, .int v0_h, .ref g0_pixels]))] s.heap := hP
  have hl := lv_entry ([.ref h0, .int p1, .int p2]) (n := 3) (Nat.le_of_ble_eq_true rfl)
  rw [lg_entry_eq]
  generalize (lg_sl ([.ref h0, .int p1, .int p2]) ++ List.replicate (3 - (lg_sl ([.ref h0, .int p1, .int p2])).length) Slot.unset).toArray = ls at hl ⊢
  have hl : lv_has ls 3 [(0, .ref h0), (1, .int p1), (2, .int p2)] := hl
  rw [m_X7_holds] at hM
  suffices hgo : ∀ (H : Heap) (locs : List Loc), va_P (dC, dI) vwCl [(h0, .inr (6, [.int v0_w, .int v0_h, .ref g0_pixels]))] H → va_D A [(h0, .inr (6, [.int v0_w, .int v0_h, .ref g0_pixels]))] → va_S A s.heap H locs → W p l e (headSpec w_X7_holds rm_X7_holds).room s m ([.ref h0, .int p1, .int p2] : List Value).toArray below meth c H locs 0 0 (MQ below (QMz res (dC, dI) [(cI, .int), (cZ, .boolean), (cO, .object "ListPainter$Settings")] A [(h0, .inr (6, [.int v0_w, .int v0_h, .ref g0_pixels]))]) ([.ref h0, .int p1, .int p2] : List Value).toArray s 0 0 A) (F0 m 0 ls []) from hgo _ _ hP hD hS
  intro H locs hP hD hS
  refine lv_iload_n hx hb dX7_holds_0 rfl (lv_at hl 1 rfl) ?_
  refine lv_if_lt (tgt := 28) hx hb dX7_holds_1 (by decide) (fun c_1 => ?_) (fun c_1 => ?_)
  · have hM := if_t c_1 hM
    refine lv_iconst (v := 0) hx hb dX7_holds_28 (by decide) ?_
    have h9 := Option.some.inj hM
    subst h9
    exact W.zret (v := 0) hx hb hr (zb_n (Or.inl rfl)) (fun t ht hW => QMz_mk (Or.inl rfl) (by rw [ht]; exact hP) (va_K.moved hW.alike hK) hD (hS.F ht)) hS.2.2 dX7_holds_29
  · have hM := if_f c_1 hM
    refine lv_iload_n hx hb dX7_holds_4 rfl (lv_at hl 1 rfl) ?_
    refine lv_aload_n hx hb dX7_holds_5 rfl (lv_at hl 0 rfl) ?_
    refine va_get (D := (dC, dI)) (ci := 6) (v := .int v0_w) (C := RX7) (T := TX7) (N := 3) hx hb hu inX7 hown hK hP 0 rfl rfl 0 (by decide) (hu _ kw_65) (fun _ h9 => h9) rfl dX7_holds_6 ?_
    refine lv_icmp_ge (tgt := 28) hx hb dX7_holds_9 (by decide) (fun c_2 => ?_) (fun c_2 => ?_)
    · have hM := if_t c_2 hM
      refine lv_iconst (v := 0) hx hb dX7_holds_28 (by decide) ?_
      have h9 := Option.some.inj hM
      subst h9
      exact W.zret (v := 0) hx hb hr (zb_n (Or.inl rfl)) (fun t ht hW => QMz_mk (Or.inl rfl) (by rw [ht]; exact hP) (va_K.moved hW.alike hK) hD (hS.F ht)) hS.2.2 dX7_holds_29
    · have hM := if_f c_2 hM
      refine lv_iload_n hx hb dX7_holds_12 rfl (lv_at hl 2 rfl) ?_
      refine lv_if_lt (tgt := 28) hx hb dX7_holds_13 (by decide) (fun c_3 => ?_) (fun c_3 => ?_)
      · have hM := if_t c_3 hM
        refine lv_iconst (v := 0) hx hb dX7_holds_28 (by decide) ?_
        have h9 := Option.some.inj hM
        subst h9
        exact W.zret (v := 0) hx hb hr (zb_n (Or.inl rfl)) (fun t ht hW => QMz_mk (Or.inl rfl) (by rw [ht]; exact hP) (va_K.moved hW.alike hK) hD (hS.F ht)) hS.2.2 dX7_holds_29
      · have hM := if_f c_3 hM
        refine lv_iload_n hx hb dX7_holds_16 rfl (lv_at hl 2 rfl) ?_
        refine lv_aload_n hx hb dX7_holds_17 rfl (lv_at hl 0 rfl) ?_
        refine va_get (D := (dC, dI)) (ci := 6) (v := .int v0_h) (C := RX7) (T := TX7) (N := 3) hx hb hu inX7 hown hK hP 0 rfl rfl 1 (by decide) (hu _ kw_66) (fun _ h9 => h9) rfl dX7_holds_18 ?_
        refine lv_icmp_ge (tgt := 28) hx hb dX7_holds_21 (by decide) (fun c_4 => ?_) (fun c_4 => ?_)
        · have hM := if_t c_4 hM
          refine lv_iconst (v := 0) hx hb dX7_holds_28 (by decide) ?_
          have h9 := Option.some.inj hM
          subst h9
          exact W.zret (v := 0) hx hb hr (zb_n (Or.inl rfl)) (fun t ht hW => QMz_mk (Or.inl rfl) (by rw [ht]; exact hP) (va_K.moved hW.alike hK) hD (hS.F ht)) hS.2.2 dX7_holds_29
        · have hM := if_f c_4 hM
          refine lv_iconst (v := 1) hx hb dX7_holds_24 (by decide) ?_
          refine lv_goto (tgt := 29) hx hb dX7_holds_25 (by decide) ?_
          have h9 := Option.some.inj hM
          subst h9
          exact W.zret (v := 1) hx hb hr (zb_n (Or.inr rfl)) (fun t ht hW => QMz_mk (Or.inr rfl) (by rw [ht]; exact hP) (va_K.moved hW.alike hK) hD (hS.F ht)) hS.2.2 dX7_holds_29
theorem dX7_at_0 : decode cX7_at 0 = .ok (.aload_n 0, 1) := by decide +kernel
theorem dX7_at_1 : decode cX7_at 1 = .ok (.iload_n 1, 1) := by decide +kernel
theorem dX7_at_2 : decode cX7_at 2 = .ok (.iload_n 2, 1) := by decide +kernel
theorem dX7_at_3 : decode cX7_at 3 = .ok (.invokevirtual 35, 3) := by decide +kernel
theorem dX7_at_6 : decode cX7_at 6 = .ok (.ifCond .eq 19, 3) := by decide +kernel
theorem dX7_at_9 : decode cX7_at 9 = .ok (.aload_n 0, 1) := by decide +kernel
theorem dX7_at_10 : decode cX7_at 10 = .ok (.getfield 22, 3) := by decide +kernel
theorem dX7_at_13 : decode cX7_at 13 = .ok (.iload_n 2, 1) := by decide +kernel
theorem dX7_at_14 : decode cX7_at 14 = .ok (.aload_n 0, 1) := by decide +kernel
theorem dX7_at_15 : decode cX7_at 15 = .ok (.getfield 15, 3) := by decide +kernel
theorem dX7_at_18 : decode cX7_at 18 = .ok (.imul, 1) := by decide +kernel
theorem dX7_at_19 : decode cX7_at 19 = .ok (.iload_n 1, 1) := by decide +kernel
theorem dX7_at_20 : decode cX7_at 20 = .ok (.iadd, 1) := by decide +kernel
theorem dX7_at_21 : decode cX7_at 21 = .ok (.iaload, 1) := by decide +kernel
theorem dX7_at_22 : decode cX7_at 22 = .ok (.goto 4, 3) := by decide +kernel
theorem dX7_at_25 : decode cX7_at 25 = .ok (.iconst 0, 1) := by decide +kernel
theorem dX7_at_26 : decode cX7_at 26 = .ok (.ireturn, 1) := by decide +kernel
abbrev rm_X7_at : Room := { frames := 1, cells := 0, slots := 0, locals := 22 }
def w_X7_at : List Cond := Cond.code yX7_at cX7_at 3 (some .int) :: uw
set_option maxHeartbeats 4000000 in
set_option maxRecDepth 100000 in
theorem c_X7_at (l : Launch) (dC : Nat → ClassId) (dI : Nat → Nat → Nat) (cI cZ cO : ClassId) (tL sz : Nat) (h0 : Nat) (h1 : Nat) (v0_w : Int32) (v0_h : Int32) (n1 : Nat) (f1 : Nat → Int32) (p1 : Int32) (p2 : Int32) (res : Int32) (hM : m_X7_at v0_w v0_h n1 f1 p1 p2 = some res) : Met l yX7_at w_X7_at rm_X7_at (PCx [.ref h0, .int p1, .int p2] (dC, dI) [(cI, .int), (cZ, .boolean), (cO, .object "ListPainter$Settings")] sz tL [(h0, .inr (6, [.int v0_w, .int v0_h, .ref h1])), (h1, .inl (cI, n1, .inl f1))]) (QMi res (dC, dI) [(cI, .int), (cZ, .boolean), (cO, .object "ListPainter$Settings")] (va_A [(h0, .inr (6, [.int v0_w, .int v0_h, .ref h1])), (h1, .inl (cI, n1, .inl f1))] sz) [(h0, .inr (6, [.int v0_w, .int v0_h, .ref h1])), (h1, .inl (cI, n1, .inl f1))]) 0 0 (va_A [(h0, .inr (6, [.int v0_w, .int v0_h, .ref h1])), (h1, .inl (cI, n1, .inl f1))] sz) := by
  refine Met.ofW (cc := cX7_at) (maxL := 3) (ret := (some .int)) (by decide) rfl ?_
  intro p e s m args below meth c s₁ B hml hv
  obtain ⟨rfl, hsz, hP, hK, hD0, hG⟩ := hv
  have hx := B.exec
  have hb := B.bytes
  have hr := B.returns
  have hu : ∀ w ∈ uw, w.before ([.ref h0, .int p1, .int p2] : List Value).toArray s = true := fun w h => atoms_spec (ws := w_X7_at) B.pre w (List.mem_cons_of_mem _ h)
  have hown : s.vm.findClass RX7 = some m.cls := findClass_of_methodNamed B.named
  have hlocks := B.notSynchronized
  subst hsz
  have hD := hD0.self (sz := s.heap.size)
  generalize hAe : va_A [(h0, .inr (6, [.int v0_w, .int v0_h, .ref h1])), (h1, .inl (cI, n1, .inl f1))] s.heap.size = A at hD hG ⊢
  have hA : ∀ q : Nat, s.heap.size ≤ q → A q := fun q h => by rw [← hAe]; exact Or.inr h
  have hS : va_S A s.heap s.heap [] := va_S.rf
  have hP : va_P (dC, dI) vwCl [(h0, .inr (6, [.int v0_w, .int v0_h, .ref h1])), (h1, .inl (cI, n1, .inl f1))] s.heap := hP
  have hl := lv_entry ([.ref h0, .int p1, .int p2]) (n := 3) (Nat.le_of_ble_eq_true rfl)
  rw [lg_entry_eq]
  generalize (lg_sl ([.ref h0, .int p1, .int p2]) ++ List.replicate (3 - (lg_sl ([.ref h0, .int p1, .int p2])).length) Slot.unset).toArray = ls at hl ⊢
  have hl : lv_has ls 3 [(0, .ref h0), (1, .int p1), (2, .int p2)] := hl
  rw [m_X7_at] at hM
  suffices hgo : ∀ (H : Heap) (locs : List Loc), va_P (dC, dI) vwCl [(h0, .inr (6, [.int v0_w, .int v0_h, .ref h1])), (h1, .inl (cI, n1, .inl f1))] H → va_D A [(h0, .inr (6, [.int v0_w, .int v0_h, .ref h1])), (h1, .inl (cI, n1, .inl f1))] → va_S A s.heap H locs → W p l e (headSpec w_X7_at rm_X7_at).room s m ([.ref h0, .int p1, .int p2] : List Value).toArray below meth c H locs 0 0 (MQ below (QMi res (dC, dI) [(cI, .int), (cZ, .boolean), (cO, .object "ListPainter$Settings")] A [(h0, .inr (6, [.int v0_w, .int v0_h, .ref h1])), (h1, .inl (cI, n1, .inl f1))]) ([.ref h0, .int p1, .int p2] : List Value).toArray s 0 0 A) (F0 m 0 ls []) from hgo _ _ hP hD hS
  intro H locs hP hD hS
  refine lv_aload_n hx hb dX7_at_0 rfl (lv_at hl 0 rfl) ?_
  refine lv_iload_n hx hb dX7_at_1 rfl (lv_at hl 1 rfl) ?_
  refine lv_iload_n hx hb dX7_at_2 rfl (lv_at hl 2 rfl) ?_
  obtain ⟨r_1, hm_2, hM⟩ := bd1_u hM
  refine cVz (r := r_1) (As := [.int p1, .int p2]) (rest := []) ⟨hx, hb, hml, hown, hu⟩ (c_X7_holds l dC dI cI cZ cO tL H.size h0 h1 v0_w v0_h p1 p2 r_1 hm_2) (cwV 2 hu (gV kw_67 kw_68 kw_69 kw_70 kw_71) rfl rfl rfl (by decide +kernel) ⟨Nat.le_of_ble_eq_true rfl, Nat.le_of_ble_eq_true rfl⟩) hP hD hS hA hK hG [0] (by decide) rfl [some 0, none] 1 rfl (by decide +kernel) rfl 6 0 rfl rfl rfl rfl hl.1 rfl (Nat.le_of_ble_eq_true rfl) dX7_at_3 (Nat.zero_le _) (Nat.zero_le _) (fun H locs hz_r_1 hP hD hS => ?_)
  have hP : va_P (dC, dI) vwCl [(h0, .inr (6, [.int v0_w, .int v0_h, .ref h1])), (h1, .inl (cI, n1, .inl f1))] H := hP
  have hD : va_D A [(h0, .inr (6, [.int v0_w, .int v0_h, .ref h1])), (h1, .inl (cI, n1, .inl f1))] := hD
  refine lv_if_eq (tgt := 25) hx hb dX7_at_6 (by decide) (fun c_3 => ?_) (fun c_3 => ?_)
  · have hM := if_t c_3 hM
    refine lv_iconst (v := 0) hx hb dX7_at_25 (by decide) ?_
    have h9 := Option.some.inj hM
    subst h9
    exact W.iret (v := 0) hx hb hr (fun t ht hW => QMi_mk (by rw [ht]; exact hP) (va_K.moved hW.alike hK) hD (hS.F ht)) hS.2.2 dX7_at_26
  · have hM := if_f c_3 hM
    refine lv_aload_n hx hb dX7_at_9 rfl (lv_at hl 0 rfl) ?_
    refine va_get (D := (dC, dI)) (ci := 6) (v := .ref h1) (C := RX7) (T := TX7) (N := 3) hx hb hu inX7 hown hK hP 0 rfl rfl 2 (by decide) (hu _ kw_72) (fun _ h9 => h9) rfl dX7_at_10 ?_
    refine lv_iload_n hx hb dX7_at_13 rfl (lv_at hl 2 rfl) ?_
    refine lv_aload_n hx hb dX7_at_14 rfl (lv_at hl 0 rfl) ?_
    refine va_get (D := (dC, dI)) (ci := 6) (v := .int v0_w) (C := RX7) (T := TX7) (N := 3) hx hb hu inX7 hown hK hP 0 rfl rfl 0 (by decide) (hu _ kw_65) (fun _ h9 => h9) rfl dX7_at_15 ?_
    refine lv_imul hx hb dX7_at_18 ?_
    refine lv_iload_n hx hb dX7_at_19 rfl (lv_at hl 1 rfl) ?_
    refine lv_iadd hx hb dX7_at_20 ?_
    obtain ⟨g_4, hM⟩ := gd_u hM
    refine va_iald hx hb hK hP 1 0 rfl rfl (inb_v g_4) dX7_at_21 ?_
    refine lv_topi (fun a_5 ea_5 => ?_)
    have hM := nm_u ea_5 hM
    refine lv_goto (tgt := 26) hx hb dX7_at_22 (by decide) ?_
    have h9 := Option.some.inj hM
    subst h9
    exact W.iret (v := a_5) hx hb hr (fun t ht hW => QMi_mk (by rw [ht]; exact hP) (va_K.moved hW.alike hK) hD (hS.F ht)) hS.2.2 dX7_at_26
theorem dX7_put_0 : decode cX7_put 0 = .ok (.aload_n 0, 1) := by decide +kernel
theorem dX7_put_1 : decode cX7_put 1 = .ok (.iload_n 1, 1) := by decide +kernel
theorem dX7_put_2 : decode cX7_put 2 = .ok (.iload_n 2, 1) := by decide +kernel
theorem dX7_put_3 : decode cX7_put 3 = .ok (.invokevirtual 35, 3) := by decide +kernel
theorem dX7_put_6 : decode cX7_put 6 = .ok (.ifCond .eq 17, 3) := by decide +kernel
theorem dX7_put_9 : decode cX7_put 9 = .ok (.aload_n 0, 1) := by decide +kernel
theorem dX7_put_10 : decode cX7_put 10 = .ok (.getfield 22, 3) := by decide +kernel
theorem dX7_put_13 : decode cX7_put 13 = .ok (.iload_n 2, 1) := by decide +kernel
theorem dX7_put_14 : decode cX7_put 14 = .ok (.aload_n 0, 1) := by decide +kernel
theorem dX7_put_15 : decode cX7_put 15 = .ok (.getfield 15, 3) := by decide +kernel
theorem dX7_put_18 : decode cX7_put 18 = .ok (.imul, 1) := by decide +kernel
theorem dX7_put_19 : decode cX7_put 19 = .ok (.iload_n 1, 1) := by decide +kernel
theorem dX7_put_20 : decode cX7_put 20 = .ok (.iadd, 1) := by decide +kernel
theorem dX7_put_21 : decode cX7_put 21 = .ok (.iload_n 3, 1) := by decide +kernel
theorem dX7_put_22 : decode cX7_put 22 = .ok (.iastore, 1) := by decide +kernel
theorem dX7_put_23 : decode cX7_put 23 = .ok (.return_, 1) := by decide +kernel
abbrev rm_X7_put : Room := { frames := 1, cells := 0, slots := 0, locals := 22 }
def w_X7_put : List Cond := Cond.code yX7_put cX7_put 4 none :: uw
set_option maxHeartbeats 4000000 in
set_option maxRecDepth 100000 in
theorem c_X7_put (l : Launch) (dC : Nat → ClassId) (dI : Nat → Nat → Nat) (cI cZ cO : ClassId) (tL sz : Nat) (h0 : Nat) (h1 : Nat) (v0_w : Int32) (v0_h : Int32) (n1 : Nat) (f1 : Nat → Int32) (p1 : Int32) (p2 : Int32) (p3 : Int32) (res : (Nat → Int32)) (hM : m_X7_put v0_w v0_h n1 f1 p1 p2 p3 = some res) : Met l yX7_put w_X7_put rm_X7_put (PCx [.ref h0, .int p1, .int p2, .int p3] (dC, dI) [(cI, .int), (cZ, .boolean), (cO, .object "ListPainter$Settings")] sz tL [(h0, .inr (6, [.int v0_w, .int v0_h, .ref h1])), (h1, .inl (cI, n1, .inl f1))]) (QMv (dC, dI) [(cI, .int), (cZ, .boolean), (cO, .object "ListPainter$Settings")] (va_A [(h0, .inr (6, [.int v0_w, .int v0_h, .ref h1])), (h1, .inl (cI, n1, .inl f1))] sz) [(h0, .inr (6, [.int v0_w, .int v0_h, .ref h1])), (h1, .inl (cI, n1, .inl res))]) 0 0 (va_A [(h0, .inr (6, [.int v0_w, .int v0_h, .ref h1])), (h1, .inl (cI, n1, .inl f1))] sz) := by
  refine Met.ofW (cc := cX7_put) (maxL := 4) (ret := none) (by decide) rfl ?_
  intro p e s m args below meth c s₁ B hml hv
  obtain ⟨rfl, hsz, hP, hK, hD0, hG⟩ := hv
  have hx := B.exec
  have hb := B.bytes
  have hr := B.returns
  have hu : ∀ w ∈ uw, w.before ([.ref h0, .int p1, .int p2, .int p3] : List Value).toArray s = true := fun w h => atoms_spec (ws := w_X7_put) B.pre w (List.mem_cons_of_mem _ h)
  have hown : s.vm.findClass RX7 = some m.cls := findClass_of_methodNamed B.named
  have hlocks := B.notSynchronized
  subst hsz
  have hD := hD0.self (sz := s.heap.size)
  generalize hAe : va_A [(h0, .inr (6, [.int v0_w, .int v0_h, .ref h1])), (h1, .inl (cI, n1, .inl f1))] s.heap.size = A at hD hG ⊢
  have hA : ∀ q : Nat, s.heap.size ≤ q → A q := fun q h => by rw [← hAe]; exact Or.inr h
  have hS : va_S A s.heap s.heap [] := va_S.rf
  have hP : va_P (dC, dI) vwCl [(h0, .inr (6, [.int v0_w, .int v0_h, .ref h1])), (h1, .inl (cI, n1, .inl f1))] s.heap := hP
  have hl := lv_entry ([.ref h0, .int p1, .int p2, .int p3]) (n := 4) (Nat.le_of_ble_eq_true rfl)
  rw [lg_entry_eq]
  generalize (lg_sl ([.ref h0, .int p1, .int p2, .int p3]) ++ List.replicate (4 - (lg_sl ([.ref h0, .int p1, .int p2, .int p3])).length) Slot.unset).toArray = ls at hl ⊢
  have hl : lv_has ls 4 [(0, .ref h0), (1, .int p1), (2, .int p2), (3, .int p3)] := hl
  rw [m_X7_put] at hM
  suffices hgo : ∀ (H : Heap) (locs : List Loc), va_P (dC, dI) vwCl [(h0, .inr (6, [.int v0_w, .int v0_h, .ref h1])), (h1, .inl (cI, n1, .inl f1))] H → va_D A [(h0, .inr (6, [.int v0_w, .int v0_h, .ref h1])), (h1, .inl (cI, n1, .inl f1))] → va_S A s.heap H locs → W p l e (headSpec w_X7_put rm_X7_put).room s m ([.ref h0, .int p1, .int p2, .int p3] : List Value).toArray below meth c H locs 0 0 (MQ below (QMv (dC, dI) [(cI, .int), (cZ, .boolean), (cO, .object "ListPainter$Settings")] A [(h0, .inr (6, [.int v0_w, .int v0_h, .ref h1])), (h1, .inl (cI, n1, .inl res))]) ([.ref h0, .int p1, .int p2, .int p3] : List Value).toArray s 0 0 A) (F0 m 0 ls []) from hgo _ _ hP hD hS
  intro H locs hP hD hS
  refine lv_aload_n hx hb dX7_put_0 rfl (lv_at hl 0 rfl) ?_
  refine lv_iload_n hx hb dX7_put_1 rfl (lv_at hl 1 rfl) ?_
  refine lv_iload_n hx hb dX7_put_2 rfl (lv_at hl 2 rfl) ?_
  obtain ⟨r_1, hm_2, hM⟩ := bd1_u hM
  refine cVz (r := r_1) (As := [.int p1, .int p2]) (rest := []) ⟨hx, hb, hml, hown, hu⟩ (c_X7_holds l dC dI cI cZ cO tL H.size h0 h1 v0_w v0_h p1 p2 r_1 hm_2) (cwV 2 hu (gV kw_67 kw_68 kw_69 kw_70 kw_71) rfl rfl rfl (by decide +kernel) ⟨Nat.le_of_ble_eq_true rfl, Nat.le_of_ble_eq_true rfl⟩) hP hD hS hA hK hG [0] (by decide) rfl [some 0, none] 1 rfl (by decide +kernel) rfl 6 0 rfl rfl rfl rfl hl.1 rfl (Nat.le_of_ble_eq_true rfl) dX7_put_3 (Nat.zero_le _) (Nat.zero_le _) (fun H locs hz_r_1 hP hD hS => ?_)
  have hP : va_P (dC, dI) vwCl [(h0, .inr (6, [.int v0_w, .int v0_h, .ref h1])), (h1, .inl (cI, n1, .inl f1))] H := hP
  have hD : va_D A [(h0, .inr (6, [.int v0_w, .int v0_h, .ref h1])), (h1, .inl (cI, n1, .inl f1))] := hD
  refine lv_if_eq (tgt := 23) hx hb dX7_put_6 (by decide) (fun c_3 => ?_) (fun c_3 => ?_)
  · have hM := if_t c_3 hM
    have h9 := Option.some.inj hM
    subst h9
    exact W.vret hx hb hr (fun t ht hW => QMv_mk (by rw [ht]; exact hP) (va_K.moved hW.alike hK) hD (hS.F ht)) hS.2.2 dX7_put_23
  · have hM := if_f c_3 hM
    refine lv_aload_n hx hb dX7_put_9 rfl (lv_at hl 0 rfl) ?_
    refine va_get (D := (dC, dI)) (ci := 6) (v := .ref h1) (C := RX7) (T := TX7) (N := 3) hx hb hu inX7 hown hK hP 0 rfl rfl 2 (by decide) (hu _ kw_72) (fun _ h9 => h9) rfl dX7_put_10 ?_
    refine lv_iload_n hx hb dX7_put_13 rfl (lv_at hl 2 rfl) ?_
    refine lv_aload_n hx hb dX7_put_14 rfl (lv_at hl 0 rfl) ?_
    refine va_get (D := (dC, dI)) (ci := 6) (v := .int v0_w) (C := RX7) (T := TX7) (N := 3) hx hb hu inX7 hown hK hP 0 rfl rfl 0 (by decide) (hu _ kw_65) (fun _ h9 => h9) rfl dX7_put_15 ?_
    refine lv_imul hx hb dX7_put_18 ?_
    refine lv_iload_n hx hb dX7_put_19 rfl (lv_at hl 1 rfl) ?_
    refine lv_iadd hx hb dX7_put_20 ?_
    refine lv_iload_n hx hb dX7_put_21 rfl (lv_at hl 3 rfl) ?_
    obtain ⟨g_4, hM⟩ := gd_u hM
    refine va_iast hx hb hK hP hD hS 1 0 rfl rfl (inb_v g_4) dX7_put_22 (fun H locs hP hD hS => ?_)
    obtain ⟨f1_5, ef1_5⟩ : ∃ g : Nat → Int32, g = upd f1 (((p2 * v0_w) + p1) : Int32).toNatClampNeg p3 := ⟨_, rfl⟩
    have hM := nm_u ef1_5 hM
    have hP : va_P (dC, dI) vwCl [(h0, .inr (6, [.int v0_w, .int v0_h, .ref h1])), (h1, .inl (cI, n1, .inl f1_5))] H := by rw [ef1_5]; exact hP
    have hD : va_D A [(h0, .inr (6, [.int v0_w, .int v0_h, .ref h1])), (h1, .inl (cI, n1, .inl f1_5))] := by rw [ef1_5]; exact hD
    have h9 := Option.some.inj hM
    subst h9
    exact W.vret hx hb hr (fun t ht hW => QMv_mk (by rw [ht]; exact hP) (va_K.moved hW.alike hK) hD (hS.F ht)) hS.2.2 dX7_put_23
theorem dX7_total_0 : decode cX7_total 0 = .ok (.iconst 1, 1) := by decide +kernel
theorem dX7_total_1 : decode cX7_total 1 = .ok (.istore_n 1, 1) := by decide +kernel
theorem dX7_total_2 : decode cX7_total 2 = .ok (.iconst 0, 1) := by decide +kernel
theorem dX7_total_3 : decode cX7_total 3 = .ok (.istore_n 2, 1) := by decide +kernel
theorem dX7_total_4 : decode cX7_total 4 = .ok (.iload_n 2, 1) := by decide +kernel
theorem dX7_total_5 : decode cX7_total 5 = .ok (.aload_n 0, 1) := by decide +kernel
theorem dX7_total_6 : decode cX7_total 6 = .ok (.getfield 22, 3) := by decide +kernel
theorem dX7_total_9 : decode cX7_total 9 = .ok (.arraylength, 1) := by decide +kernel
theorem dX7_total_10 : decode cX7_total 10 = .ok (.if_icmp .ge 21, 3) := by decide +kernel
theorem dX7_total_13 : decode cX7_total 13 = .ok (.bipush 31, 2) := by decide +kernel
theorem dX7_total_15 : decode cX7_total 15 = .ok (.iload_n 1, 1) := by decide +kernel
theorem dX7_total_16 : decode cX7_total 16 = .ok (.imul, 1) := by decide +kernel
theorem dX7_total_17 : decode cX7_total 17 = .ok (.aload_n 0, 1) := by decide +kernel
theorem dX7_total_18 : decode cX7_total 18 = .ok (.getfield 22, 3) := by decide +kernel
theorem dX7_total_21 : decode cX7_total 21 = .ok (.iload_n 2, 1) := by decide +kernel
theorem dX7_total_22 : decode cX7_total 22 = .ok (.iaload, 1) := by decide +kernel
theorem dX7_total_23 : decode cX7_total 23 = .ok (.iadd, 1) := by decide +kernel
theorem dX7_total_24 : decode cX7_total 24 = .ok (.istore_n 1, 1) := by decide +kernel
theorem dX7_total_25 : decode cX7_total 25 = .ok (.iinc 2 1, 3) := by decide +kernel
theorem dX7_total_28 : decode cX7_total 28 = .ok (.goto (-24), 3) := by decide +kernel
theorem dX7_total_31 : decode cX7_total 31 = .ok (.iload_n 1, 1) := by decide +kernel
theorem dX7_total_32 : decode cX7_total 32 = .ok (.ireturn, 1) := by decide +kernel
abbrev rm_X7_total : Room := { frames := 0, cells := 0, slots := 0, locals := 0 }
def w_X7_total : List Cond := Cond.code yX7_total cX7_total 3 (some .int) :: uw
set_option maxHeartbeats 4000000 in
set_option maxRecDepth 100000 in
theorem c_X7_total (l : Launch) (dC : Nat → ClassId) (dI : Nat → Nat → Nat) (cI cZ cO : ClassId) (tL sz : Nat) (h0 : Nat) (h1 : Nat) (v0_w : Int32) (v0_h : Int32) (n1 : Nat) (f1 : Nat → Int32) (res : Int32) (hM : m_X7_total n1 f1 = some res) : Met l yX7_total w_X7_total rm_X7_total (PCx [.ref h0] (dC, dI) [(cI, .int), (cZ, .boolean), (cO, .object "ListPainter$Settings")] sz tL [(h0, .inr (6, [.int v0_w, .int v0_h, .ref h1])), (h1, .inl (cI, n1, .inl f1))]) (QMi res (dC, dI) [(cI, .int), (cZ, .boolean), (cO, .object "ListPainter$Settings")] (va_A [(h0, .inr (6, [.int v0_w, .int v0_h, .ref h1])), (h1, .inl (cI, n1, .inl f1))] sz) [(h0, .inr (6, [.int v0_w, .int v0_h, .ref h1])), (h1, .inl (cI, n1, .inl f1))]) 0 0 (va_A [(h0, .inr (6, [.int v0_w, .int v0_h, .ref h1])), (h1, .inl (cI, n1, .inl f1))] sz) := by
  refine Met.ofW (cc := cX7_total) (maxL := 3) (ret := (some .int)) (by decide) rfl ?_
  intro p e s m args below meth c s₁ B hml hv
  obtain ⟨rfl, hsz, hP, hK, hD0, hG⟩ := hv
  have hx := B.exec
  have hb := B.bytes
  have hr := B.returns
  have hu : ∀ w ∈ uw, w.before ([.ref h0] : List Value).toArray s = true := fun w h => atoms_spec (ws := w_X7_total) B.pre w (List.mem_cons_of_mem _ h)
  have hown : s.vm.findClass RX7 = some m.cls := findClass_of_methodNamed B.named
  have hlocks := B.notSynchronized
  subst hsz
  have hD := hD0.self (sz := s.heap.size)
  generalize hAe : va_A [(h0, .inr (6, [.int v0_w, .int v0_h, .ref h1])), (h1, .inl (cI, n1, .inl f1))] s.heap.size = A at hD hG ⊢
  have hA : ∀ q : Nat, s.heap.size ≤ q → A q := fun q h => by rw [← hAe]; exact Or.inr h
  have hS : va_S A s.heap s.heap [] := va_S.rf
  have hP : va_P (dC, dI) vwCl [(h0, .inr (6, [.int v0_w, .int v0_h, .ref h1])), (h1, .inl (cI, n1, .inl f1))] s.heap := hP
  have hl := lv_entry ([.ref h0]) (n := 3) (Nat.le_of_ble_eq_true rfl)
  rw [lg_entry_eq]
  generalize (lg_sl ([.ref h0]) ++ List.replicate (3 - (lg_sl ([.ref h0])).length) Slot.unset).toArray = ls at hl ⊢
  have hl : lv_has ls 3 [(0, .ref h0)] := hl
  rw [m_X7_total] at hM
  suffices hgo : ∀ (H : Heap) (locs : List Loc), va_P (dC, dI) vwCl [(h0, .inr (6, [.int v0_w, .int v0_h, .ref h1])), (h1, .inl (cI, n1, .inl f1))] H → va_D A [(h0, .inr (6, [.int v0_w, .int v0_h, .ref h1])), (h1, .inl (cI, n1, .inl f1))] → va_S A s.heap H locs → W p l e (headSpec w_X7_total rm_X7_total).room s m ([.ref h0] : List Value).toArray below meth c H locs 0 0 (MQ below (QMi res (dC, dI) [(cI, .int), (cZ, .boolean), (cO, .object "ListPainter$Settings")] A [(h0, .inr (6, [.int v0_w, .int v0_h, .ref h1])), (h1, .inl (cI, n1, .inl f1))]) ([.ref h0] : List Value).toArray s 0 0 A) (F0 m 0 ls []) from hgo _ _ hP hD hS
  intro H locs hP hD hS
  refine lv_iconst (v := 1) hx hb dX7_total_0 (by decide) ?_
  refine lv_istore_n (lv' := [(1, .int 1), (0, .ref h0)]) hx hb dX7_total_1 rfl hl (by decide) rfl (fun ls hl => ?_)
  refine lv_iconst (v := 0) hx hb dX7_total_2 (by decide) ?_
  refine lv_istore_n (lv' := [(2, .int 0), (1, .int 1), (0, .ref h0)]) hx hb dX7_total_3 rfl hl (by decide) rfl (fun ls hl => ?_)
  have hL4_3 : ∀ (n : Nat) (l1_1 : Int32) (l2_2 : Int32) , ∀ (H : Heap) (locs : List Loc) (ls : Array Slot), va_P (dC, dI) vwCl [(h0, .inr (6, [.int v0_w, .int v0_h, .ref h1])), (h1, .inl (cI, n1, .inl f1))] H → va_D A [(h0, .inr (6, [.int v0_w, .int v0_h, .ref h1])), (h1, .inl (cI, n1, .inl f1))] → va_S A s.heap H locs → lv_has ls 3 [(0, .ref h0), (1, .int l1_1), (2, .int l2_2)] → lp_X7_total_4 n1 f1 n l1_1 l2_2 = some res → W p l e (headSpec w_X7_total rm_X7_total).room s m ([.ref h0] : List Value).toArray below meth c H locs 0 0 (MQ below (QMi res (dC, dI) [(cI, .int), (cZ, .boolean), (cO, .object "ListPainter$Settings")] A [(h0, .inr (6, [.int v0_w, .int v0_h, .ref h1])), (h1, .inl (cI, n1, .inl f1))]) ([.ref h0] : List Value).toArray s 0 0 A) (F0 m 4 ls []) := by
    intro n
    induction n with
    | zero =>
      intro l1_1 l2_2 H locs ls hP hD hS hl hM
      rw [lp_X7_total_4] at hM
      exact lp0 hM
    | succ n4_3 ih4_3 =>
      intro l1_1 l2_2 H locs ls hP hD hS hl hM
      rw [lp_X7_total_4] at hM
      refine lv_iload_n hx hb dX7_total_4 rfl (lv_at hl 2 rfl) ?_
      refine lv_aload_n hx hb dX7_total_5 rfl (lv_at hl 0 rfl) ?_
      refine va_get (D := (dC, dI)) (ci := 6) (v := .ref h1) (C := RX7) (T := TX7) (N := 3) hx hb hu inX7 hown hK hP 0 rfl rfl 2 (by decide) (hu _ kw_72) (fun _ h9 => h9) rfl dX7_total_6 ?_
      refine va_alen hx hb hK hP 1 0 rfl rfl (v := Int32.ofNat n1) rfl dX7_total_9 ?_
      refine lv_icmp_ge (tgt := 31) hx hb dX7_total_10 (by decide) (fun c_4 => ?_) (fun c_4 => ?_)
      · have hM := if_t c_4 hM
        refine lv_iload_n hx hb dX7_total_31 rfl (lv_at hl 1 rfl) ?_
        have h9 := Option.some.inj hM
        subst h9
        exact W.iret (v := l1_1) hx hb hr (fun t ht hW => QMi_mk (by rw [ht]; exact hP) (va_K.moved hW.alike hK) hD (hS.F ht)) hS.2.2 dX7_total_32
      · have hM := if_f c_4 hM
        refine lv_bipush (v := 31) hx hb dX7_total_13 (by decide) ?_
        refine lv_iload_n hx hb dX7_total_15 rfl (lv_at hl 1 rfl) ?_
        refine lv_imul hx hb dX7_total_16 ?_
        refine lv_aload_n hx hb dX7_total_17 rfl (lv_at hl 0 rfl) ?_
        refine va_get (D := (dC, dI)) (ci := 6) (v := .ref h1) (C := RX7) (T := TX7) (N := 3) hx hb hu inX7 hown hK hP 0 rfl rfl 2 (by decide) (hu _ kw_72) (fun _ h9 => h9) rfl dX7_total_18 ?_
        refine lv_iload_n hx hb dX7_total_21 rfl (lv_at hl 2 rfl) ?_
        obtain ⟨g_5, hM⟩ := gd_u hM
        refine va_iald hx hb hK hP 1 0 rfl rfl (inb_v g_5) dX7_total_22 ?_
        refine lv_topi (fun a_6 ea_6 => ?_)
        have hM := nm_u ea_6 hM
        refine lv_iadd hx hb dX7_total_23 ?_
        refine lv_topi (fun x_7 ex_7 => ?_)
        have hM := nm_u ex_7 hM
        refine lv_istore_n (lv' := [(1, .int x_7), (0, .ref h0), (2, .int l2_2)]) hx hb dX7_total_24 rfl hl (by decide) rfl (fun ls hl => ?_)
        obtain ⟨x_8, ex_8⟩ : ∃ y : Int32, y = l2_2 + 1 := ⟨_, rfl⟩
        have hM := nm_u ex_8 hM
        refine lv_iinc (v := x_8) (lv' := [(2, .int x_8), (1, .int x_7), (0, .ref h0)]) hx hb dX7_total_25 hl (k := 2) rfl (by rw [ex_8]; rfl) (by decide) rfl (fun ls hl => ?_)
        refine lv_goto (tgt := 4) hx hb dX7_total_28 (by decide) ?_
        exact ih4_3 x_7 x_8 H locs ls hP hD hS (lv_sub hl [2, 1, 0] rfl) hM
  exact hL4_3 FU 1 0 H locs ls hP hD hS (lv_sub hl [2, 1, 0] rfl) hM
theorem dJ7_fill_53178_0 : decode cJ7_fill_53178 0 = .ok (.iconst 0, 1) := by decide +kernel
theorem dJ7_fill_53178_1 : decode cJ7_fill_53178 1 = .ok (.istore_n 2, 1) := by decide +kernel
theorem dJ7_fill_53178_2 : decode cJ7_fill_53178 2 = .ok (.aload_n 0, 1) := by decide +kernel
theorem dJ7_fill_53178_3 : decode cJ7_fill_53178 3 = .ok (.arraylength, 1) := by decide +kernel
theorem dJ7_fill_53178_4 : decode cJ7_fill_53178 4 = .ok (.istore_n 3, 1) := by decide +kernel
theorem dJ7_fill_53178_5 : decode cJ7_fill_53178 5 = .ok (.iload_n 2, 1) := by decide +kernel
theorem dJ7_fill_53178_6 : decode cJ7_fill_53178 6 = .ok (.iload_n 3, 1) := by decide +kernel
theorem dJ7_fill_53178_7 : decode cJ7_fill_53178 7 = .ok (.if_icmp .ge 13, 3) := by decide +kernel
theorem dJ7_fill_53178_10 : decode cJ7_fill_53178 10 = .ok (.aload_n 0, 1) := by decide +kernel
theorem dJ7_fill_53178_11 : decode cJ7_fill_53178 11 = .ok (.iload_n 2, 1) := by decide +kernel
theorem dJ7_fill_53178_12 : decode cJ7_fill_53178 12 = .ok (.iload_n 1, 1) := by decide +kernel
theorem dJ7_fill_53178_13 : decode cJ7_fill_53178 13 = .ok (.iastore, 1) := by decide +kernel
theorem dJ7_fill_53178_14 : decode cJ7_fill_53178 14 = .ok (.iinc 2 1, 3) := by decide +kernel
theorem dJ7_fill_53178_17 : decode cJ7_fill_53178 17 = .ok (.goto (-12), 3) := by decide +kernel
theorem dJ7_fill_53178_20 : decode cJ7_fill_53178 20 = .ok (.return_, 1) := by decide +kernel
abbrev rm_J7_fill_53178 : Room := { frames := 0, cells := 0, slots := 0, locals := 0 }
def w_J7_fill_53178 : List Cond := Cond.code yJ7_fill_53178 cJ7_fill_53178 4 none :: uw
set_option maxHeartbeats 4000000 in
set_option maxRecDepth 100000 in
theorem c_J7_fill_53178 (l : Launch) (dC : Nat → ClassId) (dI : Nat → Nat → Nat) (cI cZ cO : ClassId) (tL sz : Nat) (h0 : Nat) (n0 : Nat) (f0 : Nat → Int32) (p1 : Int32) (res : (Nat → Int32)) (hM : m_J7_fill_53178 n0 f0 p1 = some res) : Met l yJ7_fill_53178 w_J7_fill_53178 rm_J7_fill_53178 (PCx [.ref h0, .int p1] (dC, dI) [(cI, .int), (cZ, .boolean), (cO, .object "ListPainter$Settings")] sz tL [(h0, .inl (cI, n0, .inl f0))]) (QMv (dC, dI) [(cI, .int), (cZ, .boolean), (cO, .object "ListPainter$Settings")] (va_A [(h0, .inl (cI, n0, .inl f0))] sz) [(h0, .inl (cI, n0, .inl res))]) 0 0 (va_A [(h0, .inl (cI, n0, .inl f0))] sz) := by
  refine va_MetF (cc := cJ7_fill_53178) (maxL := 4) (ret := none) (by decide) rfl ?_
  intro p e s m args below meth c s₁ B hml hv
  obtain ⟨rfl, hsz, hP, hK, hD0, hG⟩ := hv
  have hx := B.exec
  have hb := B.bytes
  have hr := B.returns
  have hu : ∀ w ∈ uw, w.before ([.ref h0, .int p1] : List Value).toArray s = true := fun w h => atoms_spec (ws := w_J7_fill_53178) B.pre w (List.mem_cons_of_mem _ h)
  have hown : s.vm.findClass RJ7 = some m.cls := findClass_of_methodNamed B.named
  have hlocks := B.notSynchronized
  subst hsz
  have hD := hD0.self (sz := s.heap.size)
  generalize hAe : va_A [(h0, .inl (cI, n0, .inl f0))] s.heap.size = A at hD hG ⊢
  have hA : ∀ q : Nat, s.heap.size ≤ q → A q := fun q h => by rw [← hAe]; exact Or.inr h
  have hS : va_S A s.heap s.heap [] := va_S.rf
  have hP : va_P (dC, dI) vwCl [(h0, .inl (cI, n0, .inl f0))] s.heap := hP
  have hl := lv_entry ([.ref h0, .int p1]) (n := 4) (Nat.le_of_ble_eq_true rfl)
  rw [lg_entry_eq]
  generalize (lg_sl ([.ref h0, .int p1]) ++ List.replicate (4 - (lg_sl ([.ref h0, .int p1])).length) Slot.unset).toArray = ls at hl ⊢
  have hl : lv_has ls 4 [(0, .ref h0), (1, .int p1)] := hl
  rw [m_J7_fill_53178] at hM
  suffices hgo : ∀ (H : Heap) (locs : List Loc), va_P (dC, dI) vwCl [(h0, .inl (cI, n0, .inl f0))] H → va_D A [(h0, .inl (cI, n0, .inl f0))] → va_S A s.heap H locs → W p l e (headSpec w_J7_fill_53178 rm_J7_fill_53178).room s m ([.ref h0, .int p1] : List Value).toArray below meth c H locs 0 0 (MQ below (QMv (dC, dI) [(cI, .int), (cZ, .boolean), (cO, .object "ListPainter$Settings")] A [(h0, .inl (cI, n0, .inl res))]) ([.ref h0, .int p1] : List Value).toArray s 0 0 A) (F0 m 0 ls []) from hgo _ _ hP hD hS
  intro H locs hP hD hS
  refine lv_iconst (v := 0) hx hb dJ7_fill_53178_0 (by decide) ?_
  refine lv_istore_n (lv' := [(2, .int 0), (0, .ref h0), (1, .int p1)]) hx hb dJ7_fill_53178_1 rfl hl (by decide) rfl (fun ls hl => ?_)
  refine lv_aload_n hx hb dJ7_fill_53178_2 rfl (lv_at hl 1 rfl) ?_
  refine va_alen hx hb hK hP 0 0 rfl rfl (v := Int32.ofNat n0) rfl dJ7_fill_53178_3 ?_
  refine lv_topi (fun x_1 ex_1 => ?_)
  have hM := nm_u ex_1 hM
  refine lv_istore_n (lv' := [(3, .int x_1), (2, .int 0), (0, .ref h0), (1, .int p1)]) hx hb dJ7_fill_53178_4 rfl hl (by decide) rfl (fun ls hl => ?_)
  have hL5_4 : ∀ (n : Nat) (l2_2 : Int32) (f0_3 : Nat → Int32) , ∀ (H : Heap) (locs : List Loc) (ls : Array Slot), va_P (dC, dI) vwCl [(h0, .inl (cI, n0, .inl f0_3))] H → va_D A [(h0, .inl (cI, n0, .inl f0_3))] → va_S A s.heap H locs → lv_has ls 4 [(0, .ref h0), (1, .int p1), (2, .int l2_2), (3, .int x_1)] → lp_J7_fill_53178_5 x_1 n0 p1 n l2_2 f0_3 = some res → W p l e (headSpec w_J7_fill_53178 rm_J7_fill_53178).room s m ([.ref h0, .int p1] : List Value).toArray below meth c H locs 0 0 (MQ below (QMv (dC, dI) [(cI, .int), (cZ, .boolean), (cO, .object "ListPainter$Settings")] A [(h0, .inl (cI, n0, .inl res))]) ([.ref h0, .int p1] : List Value).toArray s 0 0 A) (F0 m 5 ls []) := by
    intro n
    induction n with
    | zero =>
      intro l2_2 f0_3 H locs ls hP hD hS hl hM
      rw [lp_J7_fill_53178_5] at hM
      exact lp0 hM
    | succ n5_4 ih5_4 =>
      intro l2_2 f0_3 H locs ls hP hD hS hl hM
      rw [lp_J7_fill_53178_5] at hM
      refine lv_iload_n hx hb dJ7_fill_53178_5 rfl (lv_at hl 2 rfl) ?_
      refine lv_iload_n hx hb dJ7_fill_53178_6 rfl (lv_at hl 3 rfl) ?_
      refine lv_icmp_ge (tgt := 20) hx hb dJ7_fill_53178_7 (by decide) (fun c_5 => ?_) (fun c_5 => ?_)
      · have hM := if_t c_5 hM
        have h9 := Option.some.inj hM
        subst h9
        exact W.vret hx hb hr (fun t ht hW => QMv_mk (by rw [ht]; exact hP) (va_K.moved hW.alike hK) hD (hS.F ht)) hS.2.2 dJ7_fill_53178_20
      · have hM := if_f c_5 hM
        refine lv_aload_n hx hb dJ7_fill_53178_10 rfl (lv_at hl 0 rfl) ?_
        refine lv_iload_n hx hb dJ7_fill_53178_11 rfl (lv_at hl 2 rfl) ?_
        refine lv_iload_n hx hb dJ7_fill_53178_12 rfl (lv_at hl 1 rfl) ?_
        obtain ⟨g_6, hM⟩ := gd_u hM
        refine va_iast hx hb hK hP hD hS 0 0 rfl rfl (inb_v g_6) dJ7_fill_53178_13 (fun H locs hP hD hS => ?_)
        obtain ⟨f0_7, ef0_7⟩ : ∃ g : Nat → Int32, g = upd f0_3 (l2_2 : Int32).toNatClampNeg p1 := ⟨_, rfl⟩
        have hM := nm_u ef0_7 hM
        have hP : va_P (dC, dI) vwCl [(h0, .inl (cI, n0, .inl f0_7))] H := by rw [ef0_7]; exact hP
        have hD : va_D A [(h0, .inl (cI, n0, .inl f0_7))] := by rw [ef0_7]; exact hD
        obtain ⟨x_8, ex_8⟩ : ∃ y : Int32, y = l2_2 + 1 := ⟨_, rfl⟩
        have hM := nm_u ex_8 hM
        refine lv_iinc (v := x_8) (lv' := [(2, .int x_8), (0, .ref h0), (1, .int p1), (3, .int x_1)]) hx hb dJ7_fill_53178_14 hl (k := 2) rfl (by rw [ex_8]; rfl) (by decide) rfl (fun ls hl => ?_)
        refine lv_goto (tgt := 5) hx hb dJ7_fill_53178_17 (by decide) ?_
        exact ih5_4 x_8 f0_7 H locs ls hP hD hS (lv_sub hl [1, 2, 0, 3] rfl) hM
  exact hL5_4 FU 0 f0 H locs ls hP hD hS (lv_sub hl [2, 3, 1, 0] rfl) hM
theorem dX7_cover_0 : decode cX7_cover 0 = .ok (.aload_n 0, 1) := by decide +kernel
theorem dX7_cover_1 : decode cX7_cover 1 = .ok (.getfield 22, 3) := by decide +kernel
theorem dX7_cover_4 : decode cX7_cover 4 = .ok (.iload_n 1, 1) := by decide +kernel
theorem dX7_cover_5 : decode cX7_cover 5 = .ok (.invokestatic 39, 3) := by decide +kernel
theorem dX7_cover_8 : decode cX7_cover 8 = .ok (.return_, 1) := by decide +kernel
abbrev rm_X7_cover : Room := { frames := 1, cells := 0, slots := 0, locals := 23 }
def w_X7_cover : List Cond := Cond.code yX7_cover cX7_cover 2 none :: uw
set_option maxHeartbeats 4000000 in
set_option maxRecDepth 100000 in
theorem c_X7_cover (l : Launch) (dC : Nat → ClassId) (dI : Nat → Nat → Nat) (cI cZ cO : ClassId) (tL sz : Nat) (h0 : Nat) (h1 : Nat) (v0_w : Int32) (v0_h : Int32) (n1 : Nat) (f1 : Nat → Int32) (p1 : Int32) (res : (Nat → Int32)) (hM : m_X7_cover n1 f1 p1 = some res) : Met l yX7_cover w_X7_cover rm_X7_cover (PCx [.ref h0, .int p1] (dC, dI) [(cI, .int), (cZ, .boolean), (cO, .object "ListPainter$Settings")] sz tL [(h0, .inr (6, [.int v0_w, .int v0_h, .ref h1])), (h1, .inl (cI, n1, .inl f1))]) (QMv (dC, dI) [(cI, .int), (cZ, .boolean), (cO, .object "ListPainter$Settings")] (va_A [(h0, .inr (6, [.int v0_w, .int v0_h, .ref h1])), (h1, .inl (cI, n1, .inl f1))] sz) [(h0, .inr (6, [.int v0_w, .int v0_h, .ref h1])), (h1, .inl (cI, n1, .inl res))]) 0 0 (va_A [(h0, .inr (6, [.int v0_w, .int v0_h, .ref h1])), (h1, .inl (cI, n1, .inl f1))] sz) := by
  refine Met.ofW (cc := cX7_cover) (maxL := 2) (ret := none) (by decide) rfl ?_
  intro p e s m args below meth c s₁ B hml hv
  obtain ⟨rfl, hsz, hP, hK, hD0, hG⟩ := hv
  have hx := B.exec
  have hb := B.bytes
  have hr := B.returns
  have hu : ∀ w ∈ uw, w.before ([.ref h0, .int p1] : List Value).toArray s = true := fun w h => atoms_spec (ws := w_X7_cover) B.pre w (List.mem_cons_of_mem _ h)
  have hown : s.vm.findClass RX7 = some m.cls := findClass_of_methodNamed B.named
  have hlocks := B.notSynchronized
  subst hsz
  have hD := hD0.self (sz := s.heap.size)
  generalize hAe : va_A [(h0, .inr (6, [.int v0_w, .int v0_h, .ref h1])), (h1, .inl (cI, n1, .inl f1))] s.heap.size = A at hD hG ⊢
  have hA : ∀ q : Nat, s.heap.size ≤ q → A q := fun q h => by rw [← hAe]; exact Or.inr h
  have hS : va_S A s.heap s.heap [] := va_S.rf
  have hP : va_P (dC, dI) vwCl [(h0, .inr (6, [.int v0_w, .int v0_h, .ref h1])), (h1, .inl (cI, n1, .inl f1))] s.heap := hP
  have hl := lv_entry ([.ref h0, .int p1]) (n := 2) (Nat.le_of_ble_eq_true rfl)
  rw [lg_entry_eq]
  generalize (lg_sl ([.ref h0, .int p1]) ++ List.replicate (2 - (lg_sl ([.ref h0, .int p1])).length) Slot.unset).toArray = ls at hl ⊢
  have hl : lv_has ls 2 [(0, .ref h0), (1, .int p1)] := hl
  rw [m_X7_cover] at hM
  suffices hgo : ∀ (H : Heap) (locs : List Loc), va_P (dC, dI) vwCl [(h0, .inr (6, [.int v0_w, .int v0_h, .ref h1])), (h1, .inl (cI, n1, .inl f1))] H → va_D A [(h0, .inr (6, [.int v0_w, .int v0_h, .ref h1])), (h1, .inl (cI, n1, .inl f1))] → va_S A s.heap H locs → W p l e (headSpec w_X7_cover rm_X7_cover).room s m ([.ref h0, .int p1] : List Value).toArray below meth c H locs 0 0 (MQ below (QMv (dC, dI) [(cI, .int), (cZ, .boolean), (cO, .object "ListPainter$Settings")] A [(h0, .inr (6, [.int v0_w, .int v0_h, .ref h1])), (h1, .inl (cI, n1, .inl res))]) ([.ref h0, .int p1] : List Value).toArray s 0 0 A) (F0 m 0 ls []) from hgo _ _ hP hD hS
  intro H locs hP hD hS
  refine lv_aload_n hx hb dX7_cover_0 rfl (lv_at hl 0 rfl) ?_
  refine va_get (D := (dC, dI)) (ci := 6) (v := .ref h1) (C := RX7) (T := TX7) (N := 3) hx hb hu inX7 hown hK hP 0 rfl rfl 2 (by decide) (hu _ kw_72) (fun _ h9 => h9) rfl dX7_cover_1 ?_
  refine lv_iload_n hx hb dX7_cover_4 rfl (lv_at hl 1 rfl) ?_
  obtain ⟨f1_1, hm_2, hM⟩ := bd1_u hM
  refine cSv (As := [.ref h1, .int p1]) (rest := []) ⟨hx, hb, hml, hown, hu⟩ (c_J7_fill_53178 l dC dI cI cZ cO tL H.size h1 n1 f1 p1 f1_1 hm_2) (va_cwS 2 hu (gS kw_73 kw_74 kw_75 kw_76) rfl rfl rfl (by decide +kernel) ⟨Nat.le_of_ble_eq_true rfl, Nat.le_of_ble_eq_true rfl⟩) hP hD hS hA hK hG [1] (by decide) rfl [none, some 0] 1 rfl (by decide +kernel) rfl rfl hl.1 rfl (Nat.le_of_ble_eq_true rfl) dX7_cover_5 (Nat.zero_le _) (Nat.zero_le _) (fun H locs hP hD hS => ?_)
  have hP : va_P (dC, dI) vwCl [(h0, .inr (6, [.int v0_w, .int v0_h, .ref h1])), (h1, .inl (cI, n1, .inl f1_1))] H := hP
  have hD : va_D A [(h0, .inr (6, [.int v0_w, .int v0_h, .ref h1])), (h1, .inl (cI, n1, .inl f1_1))] := hD
  have h9 := Option.some.inj hM
  subst h9
  exact W.vret hx hb hr (fun t ht hW => QMv_mk (by rw [ht]; exact hP) (va_K.moved hW.alike hK) hD (hS.F ht)) hS.2.2 dX7_cover_8
theorem dX4_per255_0 : decode cX4_per255 0 = .ok (.iload_n 0, 1) := by decide +kernel
theorem dX4_per255_1 : decode cX4_per255 1 = .ok (.bipush 127, 2) := by decide +kernel
theorem dX4_per255_3 : decode cX4_per255 3 = .ok (.iadd, 1) := by decide +kernel
theorem dX4_per255_4 : decode cX4_per255 4 = .ok (.sipush 255, 3) := by decide +kernel
theorem dX4_per255_7 : decode cX4_per255 7 = .ok (.idiv, 1) := by decide +kernel
theorem dX4_per255_8 : decode cX4_per255 8 = .ok (.ireturn, 1) := by decide +kernel
abbrev rm_X4_per255 : Room := { frames := 0, cells := 0, slots := 0, locals := 0 }
def w_X4_per255 : List Cond := Cond.code yX4_per255 cX4_per255 1 (some .int) :: uw
set_option maxHeartbeats 4000000 in
set_option maxRecDepth 100000 in
theorem c_X4_per255 (l : Launch) (dC : Nat → ClassId) (dI : Nat → Nat → Nat) (cI cZ cO : ClassId) (tL sz : Nat) (p0 : Int32) (res : Int32) (hM : m_X4_per255 p0 = some res) : Met l yX4_per255 w_X4_per255 rm_X4_per255 (PCx [.int p0] (dC, dI) [(cI, .int), (cZ, .boolean), (cO, .object "ListPainter$Settings")] sz tL []) (QMi res (dC, dI) [(cI, .int), (cZ, .boolean), (cO, .object "ListPainter$Settings")] (va_A [] sz) []) 0 0 (va_A [] sz) := by
  refine Met.ofW (cc := cX4_per255) (maxL := 1) (ret := (some .int)) (by decide) rfl ?_
  intro p e s m args below meth c s₁ B hml hv
  obtain ⟨rfl, hsz, hP, hK, hD0, hG⟩ := hv
  have hx := B.exec
  have hb := B.bytes
  have hr := B.returns
  have hu : ∀ w ∈ uw, w.before ([.int p0] : List Value).toArray s = true := fun w h => atoms_spec (ws := w_X4_per255) B.pre w (List.mem_cons_of_mem _ h)
  have hown : s.vm.findClass RX4 = some m.cls := findClass_of_methodNamed B.named
  have hlocks := B.notSynchronized
  subst hsz
  have hD := hD0.self (sz := s.heap.size)
  generalize hAe : va_A [] s.heap.size = A at hD hG ⊢
  have hA : ∀ q : Nat, s.heap.size ≤ q → A q := fun q h => by rw [← hAe]; exact Or.inr h
  have hS : va_S A s.heap s.heap [] := va_S.rf
  have hP : va_P (dC, dI) vwCl [] s.heap := hP
  have hl := lv_entry ([.int p0]) (n := 1) (Nat.le_of_ble_eq_true rfl)
  rw [lg_entry_eq]
  generalize (lg_sl ([.int p0]) ++ List.replicate (1 - (lg_sl ([.int p0])).length) Slot.unset).toArray = ls at hl ⊢
  have hl : lv_has ls 1 [(0, .int p0)] := hl
  rw [m_X4_per255] at hM
  suffices hgo : ∀ (H : Heap) (locs : List Loc), va_P (dC, dI) vwCl [] H → va_D A [] → va_S A s.heap H locs → W p l e (headSpec w_X4_per255 rm_X4_per255).room s m ([.int p0] : List Value).toArray below meth c H locs 0 0 (MQ below (QMi res (dC, dI) [(cI, .int), (cZ, .boolean), (cO, .object "ListPainter$Settings")] A []) ([.int p0] : List Value).toArray s 0 0 A) (F0 m 0 ls []) from hgo _ _ hP hD hS
  intro H locs hP hD hS
  refine lv_iload_n hx hb dX4_per255_0 rfl (lv_at hl 0 rfl) ?_
  refine lv_bipush (v := 127) hx hb dX4_per255_1 (by decide) ?_
  refine lv_iadd hx hb dX4_per255_3 ?_
  refine lv_sipush (v := 255) hx hb dX4_per255_4 (by decide) ?_
  refine lv_idiv hx hb dX4_per255_7 (by decide) ?_
  have h9 := Option.some.inj hM
  subst h9
  exact W.iret (v := ((p0 + 127) / 255)) hx hb hr (fun t ht hW => QMi_mk (by rw [ht]; exact hP) (va_K.moved hW.alike hK) hD (hS.F ht)) hS.2.2 dX4_per255_8
theorem dX4_laidByte_0 : decode cX4_laidByte 0 = .ok (.iload_n 3, 1) := by decide +kernel
theorem dX4_laidByte_1 : decode cX4_laidByte 1 = .ok (.tableswitch 82 2 4 #[27, 47, 62], 27) := by decide +kernel
theorem dX4_laidByte_28 : decode cX4_laidByte 28 = .ok (.iload_n 0, 1) := by decide +kernel
theorem dX4_laidByte_29 : decode cX4_laidByte 29 = .ok (.iload_n 1, 1) := by decide +kernel
theorem dX4_laidByte_30 : decode cX4_laidByte 30 = .ok (.imul, 1) := by decide +kernel
theorem dX4_laidByte_31 : decode cX4_laidByte 31 = .ok (.invokestatic 13, 3) := by decide +kernel
theorem dX4_laidByte_34 : decode cX4_laidByte 34 = .ok (.iload_n 2, 1) := by decide +kernel
theorem dX4_laidByte_35 : decode cX4_laidByte 35 = .ok (.imul, 1) := by decide +kernel
theorem dX4_laidByte_36 : decode cX4_laidByte 36 = .ok (.iload_n 1, 1) := by decide +kernel
theorem dX4_laidByte_37 : decode cX4_laidByte 37 = .ok (.sipush 255, 3) := by decide +kernel
theorem dX4_laidByte_40 : decode cX4_laidByte 40 = .ok (.iload_n 2, 1) := by decide +kernel
theorem dX4_laidByte_41 : decode cX4_laidByte 41 = .ok (.isub, 1) := by decide +kernel
theorem dX4_laidByte_42 : decode cX4_laidByte 42 = .ok (.imul, 1) := by decide +kernel
theorem dX4_laidByte_43 : decode cX4_laidByte 43 = .ok (.iadd, 1) := by decide +kernel
theorem dX4_laidByte_44 : decode cX4_laidByte 44 = .ok (.invokestatic 13, 3) := by decide +kernel
theorem dX4_laidByte_47 : decode cX4_laidByte 47 = .ok (.ireturn, 1) := by decide +kernel
theorem dX4_laidByte_48 : decode cX4_laidByte 48 = .ok (.sipush 255, 3) := by decide +kernel
theorem dX4_laidByte_51 : decode cX4_laidByte 51 = .ok (.iload_n 1, 1) := by decide +kernel
theorem dX4_laidByte_52 : decode cX4_laidByte 52 = .ok (.iload_n 0, 1) := by decide +kernel
theorem dX4_laidByte_53 : decode cX4_laidByte 53 = .ok (.iload_n 2, 1) := by decide +kernel
theorem dX4_laidByte_54 : decode cX4_laidByte 54 = .ok (.imul, 1) := by decide +kernel
theorem dX4_laidByte_55 : decode cX4_laidByte 55 = .ok (.invokestatic 13, 3) := by decide +kernel
theorem dX4_laidByte_58 : decode cX4_laidByte 58 = .ok (.iadd, 1) := by decide +kernel
theorem dX4_laidByte_59 : decode cX4_laidByte 59 = .ok (.invokestatic 17, 3) := by decide +kernel
theorem dX4_laidByte_62 : decode cX4_laidByte 62 = .ok (.ireturn, 1) := by decide +kernel
theorem dX4_laidByte_63 : decode cX4_laidByte 63 = .ok (.iload_n 0, 1) := by decide +kernel
theorem dX4_laidByte_64 : decode cX4_laidByte 64 = .ok (.iload_n 1, 1) := by decide +kernel
theorem dX4_laidByte_65 : decode cX4_laidByte 65 = .ok (.isub, 1) := by decide +kernel
theorem dX4_laidByte_66 : decode cX4_laidByte 66 = .ok (.invokestatic 23, 3) := by decide +kernel
theorem dX4_laidByte_69 : decode cX4_laidByte 69 = .ok (.iload_n 2, 1) := by decide +kernel
theorem dX4_laidByte_70 : decode cX4_laidByte 70 = .ok (.imul, 1) := by decide +kernel
theorem dX4_laidByte_71 : decode cX4_laidByte 71 = .ok (.iload_n 1, 1) := by decide +kernel
theorem dX4_laidByte_72 : decode cX4_laidByte 72 = .ok (.sipush 255, 3) := by decide +kernel
theorem dX4_laidByte_75 : decode cX4_laidByte 75 = .ok (.iload_n 2, 1) := by decide +kernel
theorem dX4_laidByte_76 : decode cX4_laidByte 76 = .ok (.isub, 1) := by decide +kernel
theorem dX4_laidByte_77 : decode cX4_laidByte 77 = .ok (.imul, 1) := by decide +kernel
theorem dX4_laidByte_78 : decode cX4_laidByte 78 = .ok (.iadd, 1) := by decide +kernel
theorem dX4_laidByte_79 : decode cX4_laidByte 79 = .ok (.invokestatic 13, 3) := by decide +kernel
theorem dX4_laidByte_82 : decode cX4_laidByte 82 = .ok (.ireturn, 1) := by decide +kernel
theorem dX4_laidByte_83 : decode cX4_laidByte 83 = .ok (.iload_n 0, 1) := by decide +kernel
theorem dX4_laidByte_84 : decode cX4_laidByte 84 = .ok (.iload_n 2, 1) := by decide +kernel
theorem dX4_laidByte_85 : decode cX4_laidByte 85 = .ok (.imul, 1) := by decide +kernel
theorem dX4_laidByte_86 : decode cX4_laidByte 86 = .ok (.iload_n 1, 1) := by decide +kernel
theorem dX4_laidByte_87 : decode cX4_laidByte 87 = .ok (.sipush 255, 3) := by decide +kernel
theorem dX4_laidByte_90 : decode cX4_laidByte 90 = .ok (.iload_n 2, 1) := by decide +kernel
theorem dX4_laidByte_91 : decode cX4_laidByte 91 = .ok (.isub, 1) := by decide +kernel
theorem dX4_laidByte_92 : decode cX4_laidByte 92 = .ok (.imul, 1) := by decide +kernel
theorem dX4_laidByte_93 : decode cX4_laidByte 93 = .ok (.iadd, 1) := by decide +kernel
theorem dX4_laidByte_94 : decode cX4_laidByte 94 = .ok (.invokestatic 13, 3) := by decide +kernel
theorem dX4_laidByte_97 : decode cX4_laidByte 97 = .ok (.ireturn, 1) := by decide +kernel
abbrev rm_X4_laidByte : Room := { frames := 1, cells := 0, slots := 0, locals := 21 }
def w_X4_laidByte : List Cond := Cond.code yX4_laidByte cX4_laidByte 4 (some .int) :: uw
set_option maxHeartbeats 4000000 in
set_option maxRecDepth 100000 in
theorem c_X4_laidByte (l : Launch) (dC : Nat → ClassId) (dI : Nat → Nat → Nat) (cI cZ cO : ClassId) (tL sz : Nat) (p0 : Int32) (p1 : Int32) (p2 : Int32) (p3 : Int32) (res : Int32) (hM : m_X4_laidByte p0 p1 p2 p3 = some res) : Met l yX4_laidByte w_X4_laidByte rm_X4_laidByte (PCx [.int p0, .int p1, .int p2, .int p3] (dC, dI) [(cI, .int), (cZ, .boolean), (cO, .object "ListPainter$Settings")] sz tL []) (QMi res (dC, dI) [(cI, .int), (cZ, .boolean), (cO, .object "ListPainter$Settings")] (va_A [] sz) []) 0 0 (va_A [] sz) := by
  refine Met.ofW (cc := cX4_laidByte) (maxL := 4) (ret := (some .int)) (by decide) rfl ?_
  intro p e s m args below meth c s₁ B hml hv
  obtain ⟨rfl, hsz, hP, hK, hD0, hG⟩ := hv
  have hx := B.exec
  have hb := B.bytes
  have hr := B.returns
  have hu : ∀ w ∈ uw, w.before ([.int p0, .int p1, .int p2, .int p3] : List Value).toArray s = true := fun w h => atoms_spec (ws := w_X4_laidByte) B.pre w (List.mem_cons_of_mem _ h)
  have hown : s.vm.findClass RX4 = some m.cls := findClass_of_methodNamed B.named
  have hlocks := B.notSynchronized
  subst hsz
  have hD := hD0.self (sz := s.heap.size)
  generalize hAe : va_A [] s.heap.size = A at hD hG ⊢
  have hA : ∀ q : Nat, s.heap.size ≤ q → A q := fun q h => by rw [← hAe]; exact Or.inr h
  have hS : va_S A s.heap s.heap [] := va_S.rf
  have hP : va_P (dC, dI) vwCl [] s.heap := hP
  have hl := lv_entry ([.int p0, .int p1, .int p2, .int p3]) (n := 4) (Nat.le_of_ble_eq_true rfl)
  rw [lg_entry_eq]
  generalize (lg_sl ([.int p0, .int p1, .int p2, .int p3]) ++ List.replicate (4 - (lg_sl ([.int p0, .int p1, .int p2, .int p3])).length) Slot.unset).toArray = ls at hl ⊢
  have hl : lv_has ls 4 [(0, .int p0), (1, .int p1), (2, .int p2), (3, .int p3)] := hl
  rw [m_X4_laidByte] at hM
  suffices hgo : ∀ (H : Heap) (locs : List Loc), va_P (dC, dI) vwCl [] H → va_D A [] → va_S A s.heap H locs → W p l e (headSpec w_X4_laidByte rm_X4_laidByte).room s m ([.int p0, .int p1, .int p2, .int p3] : List Value).toArray below meth c H locs 0 0 (MQ below (QMi res (dC, dI) [(cI, .int), (cZ, .boolean), (cO, .object "ListPainter$Settings")] A []) ([.int p0, .int p1, .int p2, .int p3] : List Value).toArray s 0 0 A) (F0 m 0 ls []) from hgo _ _ hP hD hS
  intro H locs hP hD hS
  refine lv_iload_n hx hb dX4_laidByte_0 rfl (lv_at hl 3 rfl) ?_
  by_cases c1_0 : p3 = 2
  · have hM := if_t c1_0 hM
    refine lv_tableIn (tgt := 28) hx hb dX4_laidByte_1 (by rw [c1_0]; decide) (by rw [c1_0]; decide) (by rw [c1_0]; rfl) (by decide) ?_
    refine lv_iload_n hx hb dX4_laidByte_28 rfl (lv_at hl 0 rfl) ?_
    refine lv_iload_n hx hb dX4_laidByte_29 rfl (lv_at hl 1 rfl) ?_
    refine lv_imul hx hb dX4_laidByte_30 ?_
    obtain ⟨r_2, hm_3, hM⟩ := bd1_u hM
    refine cSi (r := r_2) (As := [.int (p0 * p1)]) (rest := []) ⟨hx, hb, hml, hown, hu⟩ (c_X4_per255 l dC dI cI cZ cO tL H.size (p0 * p1) r_2 hm_3) (va_cwS 1 hu (gS kw_77 kw_78 kw_79 kw_80) rfl rfl rfl (by decide +kernel) ⟨Nat.le_of_ble_eq_true rfl, Nat.le_of_ble_eq_true rfl⟩) hP hD hS hA hK hG [] (by decide) rfl [] 0 rfl (by decide +kernel) rfl rfl hl.1 rfl (Nat.le_of_ble_eq_true rfl) dX4_laidByte_31 (Nat.zero_le _) (Nat.zero_le _) (fun H locs hP hD hS => ?_)
    have hP : va_P (dC, dI) vwCl [] H := hP
    have hD : va_D A [] := hD
    refine lv_iload_n hx hb dX4_laidByte_34 rfl (lv_at hl 2 rfl) ?_
    refine lv_imul hx hb dX4_laidByte_35 ?_
    refine lv_iload_n hx hb dX4_laidByte_36 rfl (lv_at hl 1 rfl) ?_
    refine lv_sipush (v := 255) hx hb dX4_laidByte_37 (by decide) ?_
    refine lv_iload_n hx hb dX4_laidByte_40 rfl (lv_at hl 2 rfl) ?_
    refine lv_isub hx hb dX4_laidByte_41 ?_
    refine lv_imul hx hb dX4_laidByte_42 ?_
    refine lv_iadd hx hb dX4_laidByte_43 ?_
    obtain ⟨r_4, hm_5, hM⟩ := bd1_u hM
    refine cSi (r := r_4) (As := [.int ((r_2 * p2) + (p1 * (255 - p2)))]) (rest := []) ⟨hx, hb, hml, hown, hu⟩ (c_X4_per255 l dC dI cI cZ cO tL H.size ((r_2 * p2) + (p1 * (255 - p2))) r_4 hm_5) (va_cwS 1 hu (gS kw_77 kw_78 kw_79 kw_80) rfl rfl rfl (by decide +kernel) ⟨Nat.le_of_ble_eq_true rfl, Nat.le_of_ble_eq_true rfl⟩) hP hD hS hA hK hG [] (by decide) rfl [] 0 rfl (by decide +kernel) rfl rfl hl.1 rfl (Nat.le_of_ble_eq_true rfl) dX4_laidByte_44 (Nat.zero_le _) (Nat.zero_le _) (fun H locs hP hD hS => ?_)
    have hP : va_P (dC, dI) vwCl [] H := hP
    have hD : va_D A [] := hD
    have h9 := Option.some.inj hM
    subst h9
    exact W.iret (v := r_4) hx hb hr (fun t ht hW => QMi_mk (by rw [ht]; exact hP) (va_K.moved hW.alike hK) hD (hS.F ht)) hS.2.2 dX4_laidByte_47
  · have hM := if_f c1_0 hM
    by_cases c1_1 : p3 = 3
    · have hM := if_t c1_1 hM
      refine lv_tableIn (tgt := 48) hx hb dX4_laidByte_1 (by rw [c1_1]; decide) (by rw [c1_1]; decide) (by rw [c1_1]; rfl) (by decide) ?_
      refine lv_sipush (v := 255) hx hb dX4_laidByte_48 (by decide) ?_
      refine lv_iload_n hx hb dX4_laidByte_51 rfl (lv_at hl 1 rfl) ?_
      refine lv_iload_n hx hb dX4_laidByte_52 rfl (lv_at hl 0 rfl) ?_
      refine lv_iload_n hx hb dX4_laidByte_53 rfl (lv_at hl 2 rfl) ?_
      refine lv_imul hx hb dX4_laidByte_54 ?_
      obtain ⟨r_6, hm_7, hM⟩ := bd1_u hM
      refine cSi (r := r_6) (As := [.int (p0 * p2)]) (rest := [.int p1, .int 255]) ⟨hx, hb, hml, hown, hu⟩ (c_X4_per255 l dC dI cI cZ cO tL H.size (p0 * p2) r_6 hm_7) (va_cwS 1 hu (gS kw_77 kw_78 kw_79 kw_80) rfl rfl rfl (by decide +kernel) ⟨Nat.le_of_ble_eq_true rfl, Nat.le_of_ble_eq_true rfl⟩) hP hD hS hA hK hG [] (by decide) rfl [] 0 rfl (by decide +kernel) rfl rfl hl.1 rfl (Nat.le_of_ble_eq_true rfl) dX4_laidByte_55 (Nat.zero_le _) (Nat.zero_le _) (fun H locs hP hD hS => ?_)
      have hP : va_P (dC, dI) vwCl [] H := hP
      have hD : va_D A [] := hD
      refine lv_iadd hx hb dX4_laidByte_58 ?_
      refine va_mmin hx hb (hml.trans hl.1.symm) hown (hu _ kw_81) (hu _ kw_63) (hu _ kw_60) (hu _ kw_64) (Nat.le_of_ble_eq_true rfl) (Nat.le_of_ble_eq_true rfl) (Nat.zero_le _) (Nat.zero_le _) dX4_laidByte_59 ?_
      refine lv_topi (fun x_8 ex_8 => ?_)
      have hM := nm_u ex_8 hM
      have h9 := Option.some.inj hM
      subst h9
      exact W.iret (v := x_8) hx hb hr (fun t ht hW => QMi_mk (by rw [ht]; exact hP) (va_K.moved hW.alike hK) hD (hS.F ht)) hS.2.2 dX4_laidByte_62
    · have hM := if_f c1_1 hM
      by_cases c1_2 : p3 = 4
      · have hM := if_t c1_2 hM
        refine lv_tableIn (tgt := 63) hx hb dX4_laidByte_1 (by rw [c1_2]; decide) (by rw [c1_2]; decide) (by rw [c1_2]; rfl) (by decide) ?_
        refine lv_iload_n hx hb dX4_laidByte_63 rfl (lv_at hl 0 rfl) ?_
        refine lv_iload_n hx hb dX4_laidByte_64 rfl (lv_at hl 1 rfl) ?_
        refine lv_isub hx hb dX4_laidByte_65 ?_
        refine va_mabs hx hb (hml.trans hl.1.symm) hown (hu _ kw_82) (hu _ kw_83) (hu _ kw_60) (hu _ kw_84) (Nat.le_of_ble_eq_true rfl) (Nat.le_of_ble_eq_true rfl) (Nat.zero_le _) (Nat.zero_le _) dX4_laidByte_66 ?_
        refine lv_topi (fun x_9 ex_9 => ?_)
        have hM := nm_u ex_9 hM
        refine lv_iload_n hx hb dX4_laidByte_69 rfl (lv_at hl 2 rfl) ?_
        refine lv_imul hx hb dX4_laidByte_70 ?_
        refine lv_iload_n hx hb dX4_laidByte_71 rfl (lv_at hl 1 rfl) ?_
        refine lv_sipush (v := 255) hx hb dX4_laidByte_72 (by decide) ?_
        refine lv_iload_n hx hb dX4_laidByte_75 rfl (lv_at hl 2 rfl) ?_
        refine lv_isub hx hb dX4_laidByte_76 ?_
        refine lv_imul hx hb dX4_laidByte_77 ?_
        refine lv_iadd hx hb dX4_laidByte_78 ?_
        obtain ⟨r_10, hm_11, hM⟩ := bd1_u hM
        refine cSi (r := r_10) (As := [.int ((x_9 * p2) + (p1 * (255 - p2)))]) (rest := []) ⟨hx, hb, hml, hown, hu⟩ (c_X4_per255 l dC dI cI cZ cO tL H.size ((x_9 * p2) + (p1 * (255 - p2))) r_10 hm_11) (va_cwS 1 hu (gS kw_77 kw_78 kw_79 kw_80) rfl rfl rfl (by decide +kernel) ⟨Nat.le_of_ble_eq_true rfl, Nat.le_of_ble_eq_true rfl⟩) hP hD hS hA hK hG [] (by decide) rfl [] 0 rfl (by decide +kernel) rfl rfl hl.1 rfl (Nat.le_of_ble_eq_true rfl) dX4_laidByte_79 (Nat.zero_le _) (Nat.zero_le _) (fun H locs hP hD hS => ?_)
        have hP : va_P (dC, dI) vwCl [] H := hP
        have hD : va_D A [] := hD
        have h9 := Option.some.inj hM
        subst h9
        exact W.iret (v := r_10) hx hb hr (fun t ht hW => QMi_mk (by rw [ht]; exact hP) (va_K.moved hW.alike hK) hD (hS.F ht)) hS.2.2 dX4_laidByte_82
      · have hM := if_f c1_2 hM
        refine lv_tableOut (tgt := 83) hx hb dX4_laidByte_1 (by have := lv_neT (a := 2) c1_0 rfl; have := lv_neT (a := 3) c1_1 rfl; have := lv_neT (a := 4) c1_2 rfl; omega) (by decide) ?_
        refine lv_iload_n hx hb dX4_laidByte_83 rfl (lv_at hl 0 rfl) ?_
        refine lv_iload_n hx hb dX4_laidByte_84 rfl (lv_at hl 2 rfl) ?_
        refine lv_imul hx hb dX4_laidByte_85 ?_
        refine lv_iload_n hx hb dX4_laidByte_86 rfl (lv_at hl 1 rfl) ?_
        refine lv_sipush (v := 255) hx hb dX4_laidByte_87 (by decide) ?_
        refine lv_iload_n hx hb dX4_laidByte_90 rfl (lv_at hl 2 rfl) ?_
        refine lv_isub hx hb dX4_laidByte_91 ?_
        refine lv_imul hx hb dX4_laidByte_92 ?_
        refine lv_iadd hx hb dX4_laidByte_93 ?_
        obtain ⟨r_12, hm_13, hM⟩ := bd1_u hM
        refine cSi (r := r_12) (As := [.int ((p0 * p2) + (p1 * (255 - p2)))]) (rest := []) ⟨hx, hb, hml, hown, hu⟩ (c_X4_per255 l dC dI cI cZ cO tL H.size ((p0 * p2) + (p1 * (255 - p2))) r_12 hm_13) (va_cwS 1 hu (gS kw_77 kw_78 kw_79 kw_80) rfl rfl rfl (by decide +kernel) ⟨Nat.le_of_ble_eq_true rfl, Nat.le_of_ble_eq_true rfl⟩) hP hD hS hA hK hG [] (by decide) rfl [] 0 rfl (by decide +kernel) rfl rfl hl.1 rfl (Nat.le_of_ble_eq_true rfl) dX4_laidByte_94 (Nat.zero_le _) (Nat.zero_le _) (fun H locs hP hD hS => ?_)
        have hP : va_P (dC, dI) vwCl [] H := hP
        have hD : va_D A [] := hD
        have h9 := Option.some.inj hM
        subst h9
        exact W.iret (v := r_12) hx hb hr (fun t ht hW => QMi_mk (by rw [ht]; exact hP) (va_K.moved hW.alike hK) hD (hS.F ht)) hS.2.2 dX4_laidByte_97
theorem dX4_laid_0 : decode cX4_laid 0 = .ok (.iload_n 2, 1) := by decide +kernel
theorem dX4_laid_1 : decode cX4_laid 1 = .ok (.iconst 1, 1) := by decide +kernel
theorem dX4_laid_2 : decode cX4_laid 2 = .ok (.if_icmp .ne 5, 3) := by decide +kernel
theorem dX4_laid_5 : decode cX4_laid 5 = .ok (.iload_n 0, 1) := by decide +kernel
theorem dX4_laid_6 : decode cX4_laid 6 = .ok (.ireturn, 1) := by decide +kernel
theorem dX4_laid_7 : decode cX4_laid 7 = .ok (.iload_n 0, 1) := by decide +kernel
theorem dX4_laid_8 : decode cX4_laid 8 = .ok (.bipush 24, 2) := by decide +kernel
theorem dX4_laid_10 : decode cX4_laid 10 = .ok (.iushr, 1) := by decide +kernel
theorem dX4_laid_11 : decode cX4_laid 11 = .ok (.istore_n 3, 1) := by decide +kernel
theorem dX4_laid_12 : decode cX4_laid 12 = .ok (.sipush 255, 3) := by decide +kernel
theorem dX4_laid_15 : decode cX4_laid 15 = .ok (.iload_n 1, 1) := by decide +kernel
theorem dX4_laid_16 : decode cX4_laid 16 = .ok (.bipush 24, 2) := by decide +kernel
theorem dX4_laid_18 : decode cX4_laid 18 = .ok (.iushr, 1) := by decide +kernel
theorem dX4_laid_19 : decode cX4_laid 19 = .ok (.iload_n 3, 1) := by decide +kernel
theorem dX4_laid_20 : decode cX4_laid 20 = .ok (.iload_n 2, 1) := by decide +kernel
theorem dX4_laid_21 : decode cX4_laid 21 = .ok (.iconst 3, 1) := by decide +kernel
theorem dX4_laid_22 : decode cX4_laid 22 = .ok (.if_icmp .ne 7, 3) := by decide +kernel
theorem dX4_laid_25 : decode cX4_laid 25 = .ok (.iconst 3, 1) := by decide +kernel
theorem dX4_laid_26 : decode cX4_laid 26 = .ok (.goto 4, 3) := by decide +kernel
theorem dX4_laid_29 : decode cX4_laid 29 = .ok (.iconst 0, 1) := by decide +kernel
theorem dX4_laid_30 : decode cX4_laid 30 = .ok (.invokestatic 9, 3) := by decide +kernel
theorem dX4_laid_33 : decode cX4_laid 33 = .ok (.istore 4, 2) := by decide +kernel
theorem dX4_laid_35 : decode cX4_laid 35 = .ok (.iload_n 0, 1) := by decide +kernel
theorem dX4_laid_36 : decode cX4_laid 36 = .ok (.bipush 16, 2) := by decide +kernel
theorem dX4_laid_38 : decode cX4_laid 38 = .ok (.iushr, 1) := by decide +kernel
theorem dX4_laid_39 : decode cX4_laid 39 = .ok (.sipush 255, 3) := by decide +kernel
theorem dX4_laid_42 : decode cX4_laid 42 = .ok (.iand, 1) := by decide +kernel
theorem dX4_laid_43 : decode cX4_laid 43 = .ok (.iload_n 1, 1) := by decide +kernel
theorem dX4_laid_44 : decode cX4_laid 44 = .ok (.bipush 16, 2) := by decide +kernel
theorem dX4_laid_46 : decode cX4_laid 46 = .ok (.iushr, 1) := by decide +kernel
theorem dX4_laid_47 : decode cX4_laid 47 = .ok (.sipush 255, 3) := by decide +kernel
theorem dX4_laid_50 : decode cX4_laid 50 = .ok (.iand, 1) := by decide +kernel
theorem dX4_laid_51 : decode cX4_laid 51 = .ok (.iload_n 3, 1) := by decide +kernel
theorem dX4_laid_52 : decode cX4_laid 52 = .ok (.iload_n 2, 1) := by decide +kernel
theorem dX4_laid_53 : decode cX4_laid 53 = .ok (.invokestatic 9, 3) := by decide +kernel
theorem dX4_laid_56 : decode cX4_laid 56 = .ok (.istore 5, 2) := by decide +kernel
theorem dX4_laid_58 : decode cX4_laid 58 = .ok (.iload_n 0, 1) := by decide +kernel
theorem dX4_laid_59 : decode cX4_laid 59 = .ok (.bipush 8, 2) := by decide +kernel
theorem dX4_laid_61 : decode cX4_laid 61 = .ok (.iushr, 1) := by decide +kernel
theorem dX4_laid_62 : decode cX4_laid 62 = .ok (.sipush 255, 3) := by decide +kernel
theorem dX4_laid_65 : decode cX4_laid 65 = .ok (.iand, 1) := by decide +kernel
theorem dX4_laid_66 : decode cX4_laid 66 = .ok (.iload_n 1, 1) := by decide +kernel
theorem dX4_laid_67 : decode cX4_laid 67 = .ok (.bipush 8, 2) := by decide +kernel
theorem dX4_laid_69 : decode cX4_laid 69 = .ok (.iushr, 1) := by decide +kernel
theorem dX4_laid_70 : decode cX4_laid 70 = .ok (.sipush 255, 3) := by decide +kernel
theorem dX4_laid_73 : decode cX4_laid 73 = .ok (.iand, 1) := by decide +kernel
theorem dX4_laid_74 : decode cX4_laid 74 = .ok (.iload_n 3, 1) := by decide +kernel
theorem dX4_laid_75 : decode cX4_laid 75 = .ok (.iload_n 2, 1) := by decide +kernel
theorem dX4_laid_76 : decode cX4_laid 76 = .ok (.invokestatic 9, 3) := by decide +kernel
theorem dX4_laid_79 : decode cX4_laid 79 = .ok (.istore 6, 2) := by decide +kernel
theorem dX4_laid_81 : decode cX4_laid 81 = .ok (.iload_n 0, 1) := by decide +kernel
theorem dX4_laid_82 : decode cX4_laid 82 = .ok (.sipush 255, 3) := by decide +kernel
theorem dX4_laid_85 : decode cX4_laid 85 = .ok (.iand, 1) := by decide +kernel
theorem dX4_laid_86 : decode cX4_laid 86 = .ok (.iload_n 1, 1) := by decide +kernel
theorem dX4_laid_87 : decode cX4_laid 87 = .ok (.sipush 255, 3) := by decide +kernel
theorem dX4_laid_90 : decode cX4_laid 90 = .ok (.iand, 1) := by decide +kernel
theorem dX4_laid_91 : decode cX4_laid 91 = .ok (.iload_n 3, 1) := by decide +kernel
theorem dX4_laid_92 : decode cX4_laid 92 = .ok (.iload_n 2, 1) := by decide +kernel
theorem dX4_laid_93 : decode cX4_laid 93 = .ok (.invokestatic 9, 3) := by decide +kernel
theorem dX4_laid_96 : decode cX4_laid 96 = .ok (.istore 7, 2) := by decide +kernel
theorem dX4_laid_98 : decode cX4_laid 98 = .ok (.iload 4, 2) := by decide +kernel
theorem dX4_laid_100 : decode cX4_laid 100 = .ok (.bipush 24, 2) := by decide +kernel
theorem dX4_laid_102 : decode cX4_laid 102 = .ok (.ishl, 1) := by decide +kernel
theorem dX4_laid_103 : decode cX4_laid 103 = .ok (.iload 5, 2) := by decide +kernel
theorem dX4_laid_105 : decode cX4_laid 105 = .ok (.bipush 16, 2) := by decide +kernel
theorem dX4_laid_107 : decode cX4_laid 107 = .ok (.ishl, 1) := by decide +kernel
theorem dX4_laid_108 : decode cX4_laid 108 = .ok (.ior, 1) := by decide +kernel
theorem dX4_laid_109 : decode cX4_laid 109 = .ok (.iload 6, 2) := by decide +kernel
theorem dX4_laid_111 : decode cX4_laid 111 = .ok (.bipush 8, 2) := by decide +kernel
theorem dX4_laid_113 : decode cX4_laid 113 = .ok (.ishl, 1) := by decide +kernel
theorem dX4_laid_114 : decode cX4_laid 114 = .ok (.ior, 1) := by decide +kernel
theorem dX4_laid_115 : decode cX4_laid 115 = .ok (.iload 7, 2) := by decide +kernel
theorem dX4_laid_117 : decode cX4_laid 117 = .ok (.ior, 1) := by decide +kernel
theorem dX4_laid_118 : decode cX4_laid 118 = .ok (.ireturn, 1) := by decide +kernel
abbrev rm_X4_laid : Room := { frames := 2, cells := 0, slots := 0, locals := 44 }
def w_X4_laid : List Cond := Cond.code yX4_laid cX4_laid 8 (some .int) :: uw
set_option maxHeartbeats 4000000 in
set_option maxRecDepth 100000 in
theorem c_X4_laid (l : Launch) (dC : Nat → ClassId) (dI : Nat → Nat → Nat) (cI cZ cO : ClassId) (tL sz : Nat) (p0 : Int32) (p1 : Int32) (p2 : Int32) (res : Int32) (hM : m_X4_laid p0 p1 p2 = some res) : Met l yX4_laid w_X4_laid rm_X4_laid (PCx [.int p0, .int p1, .int p2] (dC, dI) [(cI, .int), (cZ, .boolean), (cO, .object "ListPainter$Settings")] sz tL []) (QMi res (dC, dI) [(cI, .int), (cZ, .boolean), (cO, .object "ListPainter$Settings")] (va_A [] sz) []) 0 0 (va_A [] sz) := by
  refine Met.ofW (cc := cX4_laid) (maxL := 8) (ret := (some .int)) (by decide) rfl ?_
  intro p e s m args below meth c s₁ B hml hv
  obtain ⟨rfl, hsz, hP, hK, hD0, hG⟩ := hv
  have hx := B.exec
  have hb := B.bytes
  have hr := B.returns
  have hu : ∀ w ∈ uw, w.before ([.int p0, .int p1, .int p2] : List Value).toArray s = true := fun w h => atoms_spec (ws := w_X4_laid) B.pre w (List.mem_cons_of_mem _ h)
  have hown : s.vm.findClass RX4 = some m.cls := findClass_of_methodNamed B.named
  have hlocks := B.notSynchronized
  subst hsz
  have hD := hD0.self (sz := s.heap.size)
  generalize hAe : va_A [] s.heap.size = A at hD hG ⊢
  have hA : ∀ q : Nat, s.heap.size ≤ q → A q := fun q h => by rw [← hAe]; exact Or.inr h
  have hS : va_S A s.heap s.heap [] := va_S.rf
  have hP : va_P (dC, dI) vwCl [] s.heap := hP
  have hl := lv_entry ([.int p0, .int p1, .int p2]) (n := 8) (Nat.le_of_ble_eq_true rfl)
  rw [lg_entry_eq]
  generalize (lg_sl ([.int p0, .int p1, .int p2]) ++ List.replicate (8 - (lg_sl ([.int p0, .int p1, .int p2])).length) Slot.unset).toArray = ls at hl ⊢
  have hl : lv_has ls 8 [(0, .int p0), (1, .int p1), (2, .int p2)] := hl
  rw [m_X4_laid] at hM
  suffices hgo : ∀ (H : Heap) (locs : List Loc), va_P (dC, dI) vwCl [] H → va_D A [] → va_S A s.heap H locs → W p l e (headSpec w_X4_laid rm_X4_laid).room s m ([.int p0, .int p1, .int p2] : List Value).toArray below meth c H locs 0 0 (MQ below (QMi res (dC, dI) [(cI, .int), (cZ, .boolean), (cO, .object "ListPainter$Settings")] A []) ([.int p0, .int p1, .int p2] : List Value).toArray s 0 0 A) (F0 m 0 ls []) from hgo _ _ hP hD hS
  intro H locs hP hD hS
  refine lv_iload_n hx hb dX4_laid_0 rfl (lv_at hl 2 rfl) ?_
  refine lv_iconst (v := 1) hx hb dX4_laid_1 (by decide) ?_
  refine lv_icmp_ne (tgt := 7) hx hb dX4_laid_2 (by decide) (fun c_1 => ?_) (fun c_1 => ?_)
  · have hM := if_f c_1 hM
    refine lv_iload_n hx hb dX4_laid_7 rfl (lv_at hl 0 rfl) ?_
    refine lv_bipush (v := 24) hx hb dX4_laid_8 (by decide) ?_
    refine lv_iushr (v := ((p0 : Int32).toUInt32 >>> ((24 : Int32).toUInt32 &&& Int32.toUInt32 31)).toInt32) hx hb dX4_laid_10 rfl ?_
    refine lv_topi (fun x_2 ex_2 => ?_)
    have hM := nm_u ex_2 hM
    refine lv_istore_n (lv' := [(3, .int x_2), (0, .int p0), (1, .int p1), (2, .int p2)]) hx hb dX4_laid_11 rfl hl (by decide) rfl (fun ls hl => ?_)
    refine lv_sipush (v := 255) hx hb dX4_laid_12 (by decide) ?_
    refine lv_iload_n hx hb dX4_laid_15 rfl (lv_at hl 2 rfl) ?_
    refine lv_bipush (v := 24) hx hb dX4_laid_16 (by decide) ?_
    refine lv_iushr (v := ((p1 : Int32).toUInt32 >>> ((24 : Int32).toUInt32 &&& Int32.toUInt32 31)).toInt32) hx hb dX4_laid_18 rfl ?_
    refine lv_iload_n hx hb dX4_laid_19 rfl (lv_at hl 0 rfl) ?_
    refine lv_iload_n hx hb dX4_laid_20 rfl (lv_at hl 3 rfl) ?_
    refine lv_iconst (v := 3) hx hb dX4_laid_21 (by decide) ?_
    obtain ⟨K30_4, eK30_4, hM⟩ := jn_u hM
    have hJ30_4 : ∀ (s3_3 : Int32) , ∀ (H : Heap) (locs : List Loc) (ls : Array Slot), va_P (dC, dI) vwCl [] H → va_D A [] → va_S A s.heap H locs → lv_has ls 8 [(0, .int p0), (1, .int p1), (2, .int p2), (3, .int x_2)] → K30_4 s3_3 = some res → W p l e (headSpec w_X4_laid rm_X4_laid).room s m ([.int p0, .int p1, .int p2] : List Value).toArray below meth c H locs 0 0 (MQ below (QMi res (dC, dI) [(cI, .int), (cZ, .boolean), (cO, .object "ListPainter$Settings")] A []) ([.int p0, .int p1, .int p2] : List Value).toArray s 0 0 A) (F0 m 30 ls [.int s3_3, .int x_2, .int (((p1 : Int32).toUInt32 >>> ((24 : Int32).toUInt32 &&& Int32.toUInt32 31)).toInt32), .int 255]) := by
      intro s3_3 H locs ls hP hD hS hl hM
      have hM := ja1 eK30_4 hM
      obtain ⟨r_5, hm_6, hM⟩ := bd1_u hM
      refine cSi (r := r_5) (As := [.int 255, .int (((p1 : Int32).toUInt32 >>> ((24 : Int32).toUInt32 &&& Int32.toUInt32 31)).toInt32), .int x_2, .int s3_3]) (rest := []) ⟨hx, hb, hml, hown, hu⟩ (c_X4_laidByte l dC dI cI cZ cO tL H.size 255 (((p1 : Int32).toUInt32 >>> ((24 : Int32).toUInt32 &&& Int32.toUInt32 31)).toInt32) x_2 s3_3 r_5 hm_6) (va_cwS 4 hu (gS kw_85 kw_86 kw_79 kw_87) rfl rfl rfl (by decide +kernel) ⟨Nat.le_of_ble_eq_true rfl, Nat.le_of_ble_eq_true rfl⟩) hP hD hS hA hK hG [] (by decide) rfl [] 0 rfl (by decide +kernel) rfl rfl hl.1 rfl (Nat.le_of_ble_eq_true rfl) dX4_laid_30 (Nat.zero_le _) (Nat.zero_le _) (fun H locs hP hD hS => ?_)
      have hP : va_P (dC, dI) vwCl [] H := hP
      have hD : va_D A [] := hD
      refine lv_istore (lv' := [(4, .int r_5), (0, .int p0), (1, .int p1), (2, .int p2), (3, .int x_2)]) hx hb dX4_laid_33 hl (by decide) rfl (fun ls hl => ?_)
      refine lv_iload_n hx hb dX4_laid_35 rfl (lv_at hl 1 rfl) ?_
      refine lv_bipush (v := 16) hx hb dX4_laid_36 (by decide) ?_
      refine lv_iushr (v := ((p0 : Int32).toUInt32 >>> ((16 : Int32).toUInt32 &&& Int32.toUInt32 31)).toInt32) hx hb dX4_laid_38 rfl ?_
      refine lv_sipush (v := 255) hx hb dX4_laid_39 (by decide) ?_
      refine lv_iand hx hb dX4_laid_42 ?_
      refine lv_iload_n hx hb dX4_laid_43 rfl (lv_at hl 2 rfl) ?_
      refine lv_bipush (v := 16) hx hb dX4_laid_44 (by decide) ?_
      refine lv_iushr (v := ((p1 : Int32).toUInt32 >>> ((16 : Int32).toUInt32 &&& Int32.toUInt32 31)).toInt32) hx hb dX4_laid_46 rfl ?_
      refine lv_sipush (v := 255) hx hb dX4_laid_47 (by decide) ?_
      refine lv_iand hx hb dX4_laid_50 ?_
      refine lv_iload_n hx hb dX4_laid_51 rfl (lv_at hl 4 rfl) ?_
      refine lv_iload_n hx hb dX4_laid_52 rfl (lv_at hl 3 rfl) ?_
      obtain ⟨r_7, hm_8, hM⟩ := bd1_u hM
      refine cSi (r := r_7) (As := [.int ((((p0 : Int32).toUInt32 >>> ((16 : Int32).toUInt32 &&& Int32.toUInt32 31)).toInt32) &&& 255), .int ((((p1 : Int32).toUInt32 >>> ((16 : Int32).toUInt32 &&& Int32.toUInt32 31)).toInt32) &&& 255), .int x_2, .int p2]) (rest := []) ⟨hx, hb, hml, hown, hu⟩ (c_X4_laidByte l dC dI cI cZ cO tL H.size ((((p0 : Int32).toUInt32 >>> ((16 : Int32).toUInt32 &&& Int32.toUInt32 31)).toInt32) &&& 255) ((((p1 : Int32).toUInt32 >>> ((16 : Int32).toUInt32 &&& Int32.toUInt32 31)).toInt32) &&& 255) x_2 p2 r_7 hm_8) (va_cwS 4 hu (gS kw_85 kw_86 kw_79 kw_87) rfl rfl rfl (by decide +kernel) ⟨Nat.le_of_ble_eq_true rfl, Nat.le_of_ble_eq_true rfl⟩) hP hD hS hA hK hG [] (by decide) rfl [] 0 rfl (by decide +kernel) rfl rfl hl.1 rfl (Nat.le_of_ble_eq_true rfl) dX4_laid_53 (Nat.zero_le _) (Nat.zero_le _) (fun H locs hP hD hS => ?_)
      have hP : va_P (dC, dI) vwCl [] H := hP
      have hD : va_D A [] := hD
      refine lv_istore (lv' := [(5, .int r_7), (4, .int r_5), (0, .int p0), (1, .int p1), (2, .int p2), (3, .int x_2)]) hx hb dX4_laid_56 hl (by decide) rfl (fun ls hl => ?_)
      refine lv_iload_n hx hb dX4_laid_58 rfl (lv_at hl 2 rfl) ?_
      refine lv_bipush (v := 8) hx hb dX4_laid_59 (by decide) ?_
      refine lv_iushr (v := ((p0 : Int32).toUInt32 >>> ((8 : Int32).toUInt32 &&& Int32.toUInt32 31)).toInt32) hx hb dX4_laid_61 rfl ?_
      refine lv_sipush (v := 255) hx hb dX4_laid_62 (by decide) ?_
      refine lv_iand hx hb dX4_laid_65 ?_
      refine lv_iload_n hx hb dX4_laid_66 rfl (lv_at hl 3 rfl) ?_
      refine lv_bipush (v := 8) hx hb dX4_laid_67 (by decide) ?_
      refine lv_iushr (v := ((p1 : Int32).toUInt32 >>> ((8 : Int32).toUInt32 &&& Int32.toUInt32 31)).toInt32) hx hb dX4_laid_69 rfl ?_
      refine lv_sipush (v := 255) hx hb dX4_laid_70 (by decide) ?_
      refine lv_iand hx hb dX4_laid_73 ?_
      refine lv_iload_n hx hb dX4_laid_74 rfl (lv_at hl 5 rfl) ?_
      refine lv_iload_n hx hb dX4_laid_75 rfl (lv_at hl 4 rfl) ?_
      obtain ⟨r_9, hm_10, hM⟩ := bd1_u hM
      refine cSi (r := r_9) (As := [.int ((((p0 : Int32).toUInt32 >>> ((8 : Int32).toUInt32 &&& Int32.toUInt32 31)).toInt32) &&& 255), .int ((((p1 : Int32).toUInt32 >>> ((8 : Int32).toUInt32 &&& Int32.toUInt32 31)).toInt32) &&& 255), .int x_2, .int p2]) (rest := []) ⟨hx, hb, hml, hown, hu⟩ (c_X4_laidByte l dC dI cI cZ cO tL H.size ((((p0 : Int32).toUInt32 >>> ((8 : Int32).toUInt32 &&& Int32.toUInt32 31)).toInt32) &&& 255) ((((p1 : Int32).toUInt32 >>> ((8 : Int32).toUInt32 &&& Int32.toUInt32 31)).toInt32) &&& 255) x_2 p2 r_9 hm_10) (va_cwS 4 hu (gS kw_85 kw_86 kw_79 kw_87) rfl rfl rfl (by decide +kernel) ⟨Nat.le_of_ble_eq_true rfl, Nat.le_of_ble_eq_true rfl⟩) hP hD hS hA hK hG [] (by decide) rfl [] 0 rfl (by decide +kernel) rfl rfl hl.1 rfl (Nat.le_of_ble_eq_true rfl) dX4_laid_76 (Nat.zero_le _) (Nat.zero_le _) (fun H locs hP hD hS => ?_)
      have hP : va_P (dC, dI) vwCl [] H := hP
      have hD : va_D A [] := hD
      refine lv_istore (lv' := [(6, .int r_9), (5, .int r_7), (4, .int r_5), (0, .int p0), (1, .int p1), (2, .int p2), (3, .int x_2)]) hx hb dX4_laid_79 hl (by decide) rfl (fun ls hl => ?_)
      refine lv_iload_n hx hb dX4_laid_81 rfl (lv_at hl 3 rfl) ?_
      refine lv_sipush (v := 255) hx hb dX4_laid_82 (by decide) ?_
      refine lv_iand hx hb dX4_laid_85 ?_
      refine lv_iload_n hx hb dX4_laid_86 rfl (lv_at hl 4 rfl) ?_
      refine lv_sipush (v := 255) hx hb dX4_laid_87 (by decide) ?_
      refine lv_iand hx hb dX4_laid_90 ?_
      refine lv_iload_n hx hb dX4_laid_91 rfl (lv_at hl 6 rfl) ?_
      refine lv_iload_n hx hb dX4_laid_92 rfl (lv_at hl 5 rfl) ?_
      obtain ⟨r_11, hm_12, hM⟩ := bd1_u hM
      refine cSi (r := r_11) (As := [.int (p0 &&& 255), .int (p1 &&& 255), .int x_2, .int p2]) (rest := []) ⟨hx, hb, hml, hown, hu⟩ (c_X4_laidByte l dC dI cI cZ cO tL H.size (p0 &&& 255) (p1 &&& 255) x_2 p2 r_11 hm_12) (va_cwS 4 hu (gS kw_85 kw_86 kw_79 kw_87) rfl rfl rfl (by decide +kernel) ⟨Nat.le_of_ble_eq_true rfl, Nat.le_of_ble_eq_true rfl⟩) hP hD hS hA hK hG [] (by decide) rfl [] 0 rfl (by decide +kernel) rfl rfl hl.1 rfl (Nat.le_of_ble_eq_true rfl) dX4_laid_93 (Nat.zero_le _) (Nat.zero_le _) (fun H locs hP hD hS => ?_)
      have hP : va_P (dC, dI) vwCl [] H := hP
      have hD : va_D A [] := hD
      refine lv_istore (lv' := [(7, .int r_11), (6, .int r_9), (5, .int r_7), (4, .int r_5), (0, .int p0), (1, .int p1), (2, .int p2), (3, .int x_2)]) hx hb dX4_laid_96 hl (by decide) rfl (fun ls hl => ?_)
      refine lv_iload hx hb dX4_laid_98 (lv_at hl 3 rfl) ?_
      refine lv_bipush (v := 24) hx hb dX4_laid_100 (by decide) ?_
      refine lv_ishl hx hb dX4_laid_102 ?_
      refine lv_iload hx hb dX4_laid_103 (lv_at hl 2 rfl) ?_
      refine lv_bipush (v := 16) hx hb dX4_laid_105 (by decide) ?_
      refine lv_ishl hx hb dX4_laid_107 ?_
      refine lv_ior hx hb dX4_laid_108 ?_
      refine lv_iload hx hb dX4_laid_109 (lv_at hl 1 rfl) ?_
      refine lv_bipush (v := 8) hx hb dX4_laid_111 (by decide) ?_
      refine lv_ishl hx hb dX4_laid_113 ?_
      refine lv_ior hx hb dX4_laid_114 ?_
      refine lv_iload hx hb dX4_laid_115 (lv_at hl 0 rfl) ?_
      refine lv_ior hx hb dX4_laid_117 ?_
      have h9 := Option.some.inj hM
      subst h9
      exact W.iret (v := (((((r_5 : Int32) <<< (24 &&& 31)) ||| ((r_7 : Int32) <<< (16 &&& 31))) ||| ((r_9 : Int32) <<< (8 &&& 31))) ||| r_11)) hx hb hr (fun t ht hW => QMi_mk (by rw [ht]; exact hP) (va_K.moved hW.alike hK) hD (hS.F ht)) hS.2.2 dX4_laid_118
    refine lv_icmp_ne (tgt := 29) hx hb dX4_laid_22 (by decide) (fun c_13 => ?_) (fun c_13 => ?_)
    · have hM := if_f c_13 hM
      refine lv_iconst (v := 0) hx hb dX4_laid_29 (by decide) ?_
      exact hJ30_4 0 H locs ls hP hD hS (lv_sub hl [1, 2, 3, 0] rfl) hM
    · have hM := if_t c_13 hM
      refine lv_iconst (v := 3) hx hb dX4_laid_25 (by decide) ?_
      refine lv_goto (tgt := 30) hx hb dX4_laid_26 (by decide) ?_
      exact hJ30_4 3 H locs ls hP hD hS (lv_sub hl [1, 2, 3, 0] rfl) hM
  · have hM := if_t c_1 hM
    refine lv_iload_n hx hb dX4_laid_5 rfl (lv_at hl 0 rfl) ?_
    have h9 := Option.some.inj hM
    subst h9
    exact W.iret (v := p0) hx hb hr (fun t ht hW => QMi_mk (by rw [ht]; exact hP) (va_K.moved hW.alike hK) hD (hS.F ht)) hS.2.2 dX4_laid_6
theorem dX6_becomeFirst_0 : decode cX6_becomeFirst 0 = .ok (.aload_n 0, 1) := by decide +kernel
theorem dX6_becomeFirst_1 : decode cX6_becomeFirst 1 = .ok (.getfield 12, 3) := by decide +kernel
theorem dX6_becomeFirst_4 : decode cX6_becomeFirst 4 = .ok (.invokevirtual 25, 3) := by decide +kernel
theorem dX6_becomeFirst_7 : decode cX6_becomeFirst 7 = .ok (.aload_n 0, 1) := by decide +kernel
theorem dX6_becomeFirst_8 : decode cX6_becomeFirst 8 = .ok (.getfield 21, 3) := by decide +kernel
theorem dX6_becomeFirst_11 : decode cX6_becomeFirst 11 = .ok (.iconst 0, 1) := by decide +kernel
theorem dX6_becomeFirst_12 : decode cX6_becomeFirst 12 = .ok (.iconst 0, 1) := by decide +kernel
theorem dX6_becomeFirst_13 : decode cX6_becomeFirst 13 = .ok (.aload_n 1, 1) := by decide +kernel
theorem dX6_becomeFirst_14 : decode cX6_becomeFirst 14 = .ok (.getfield 28, 3) := by decide +kernel
theorem dX6_becomeFirst_17 : decode cX6_becomeFirst 17 = .ok (.aload_n 1, 1) := by decide +kernel
theorem dX6_becomeFirst_18 : decode cX6_becomeFirst 18 = .ok (.getfield 34, 3) := by decide +kernel
theorem dX6_becomeFirst_21 : decode cX6_becomeFirst 21 = .ok (.invokevirtual 37, 3) := by decide +kernel
theorem dX6_becomeFirst_24 : decode cX6_becomeFirst 24 = .ok (.aload_n 0, 1) := by decide +kernel
theorem dX6_becomeFirst_25 : decode cX6_becomeFirst 25 = .ok (.ldc 41, 2) := by decide +kernel
theorem dX6_becomeFirst_27 : decode cX6_becomeFirst 27 = .ok (.putfield 42, 3) := by decide +kernel
theorem dX6_becomeFirst_30 : decode cX6_becomeFirst 30 = .ok (.aload_n 0, 1) := by decide +kernel
theorem dX6_becomeFirst_31 : decode cX6_becomeFirst 31 = .ok (.iconst 0, 1) := by decide +kernel
theorem dX6_becomeFirst_32 : decode cX6_becomeFirst 32 = .ok (.putfield 45, 3) := by decide +kernel
theorem dX6_becomeFirst_35 : decode cX6_becomeFirst 35 = .ok (.return_, 1) := by decide +kernel
abbrev rm_X6_becomeFirst : Room := { frames := 1, cells := 0, slots := 0, locals := 24 }
def w_X6_becomeFirst : List Cond := Cond.code yX6_becomeFirst cX6_becomeFirst 2 none :: uw
set_option maxHeartbeats 4000000 in
set_option maxRecDepth 100000 in
theorem c_X6_becomeFirst (l : Launch) (dC : Nat → ClassId) (dI : Nat → Nat → Nat) (cI cZ cO : ClassId) (tL sz : Nat) (h0 : Nat) (h1 : Nat) (h2 : Nat) (h3 : Nat) (g2_pixels : Nat) (v0_colour : Int32) (v0_way : Int32) (v1_a : Int32) (v1_b : Int32) (v1_c : Int32) (v1_d : Int32) (v1_e : Int32) (v1_f : Int32) (v2_w : Int32) (v2_h : Int32) (v3_x : Int32) (v3_y : Int32) (v3_endX : Int32) (v3_endY : Int32) (res : Int32 × Int32 × Int32 × Int32 × Int32 × Int32 × Int32 × Int32 × Int32 × Int32 × Int32 × Int32) (hM : m_X6_becomeFirst v0_colour v0_way v1_a v1_b v1_c v1_d v1_e v1_f v2_w v2_h v3_x v3_y v3_endX v3_endY = some res) : Met l yX6_becomeFirst w_X6_becomeFirst rm_X6_becomeFirst (PCx [.ref h0, .ref h2] (dC, dI) [(cI, .int), (cZ, .boolean), (cO, .object "ListPainter$Settings")] sz tL [(h0, .inr (5, [.ref h1, .ref h3, .int v0_colour, .int v0_way])), (h1, .inr (8, [.int v1_a, .int v1_b, .int v1_c, .int v1_d, .int v1_e, .int v1_f])), (h2, .inr (6, [.int v2_w, .int v2_h, .ref g2_pixels])), (h3, .inr (1, [.int v3_x, .int v3_y, .int v3_endX, .int v3_endY]))]) (QMv (dC, dI) [(cI, .int), (cZ, .boolean), (cO, .object "ListPainter$Settings")] (va_A [(h0, .inr (5, [.ref h1, .ref h3, .int v0_colour, .int v0_way])), (h1, .inr (8, [.int v1_a, .int v1_b, .int v1_c, .int v1_d, .int v1_e, .int v1_f])), (h2, .inr (6, [.int v2_w, .int v2_h, .ref g2_pixels])), (h3, .inr (1, [.int v3_x, .int v3_y, .int v3_endX, .int v3_endY]))] sz) [(h0, .inr (5, [.ref h1, .ref h3, .int (res.1), .int (res.2.1)])), (h1, .inr (8, [.int (res.2.2.1), .int (res.2.2.2.1), .int (res.2.2.2.2.1), .int (res.2.2.2.2.2.1), .int (res.2.2.2.2.2.2.1), .int (res.2.2.2.2.2.2.2.1)])), (h2, .inr (6, [.int v2_w, .int v2_h, .ref g2_pixels])), (h3, .inr (1, [.int (res.2.2.2.2.2.2.2.2.1), .int (res.2.2.2.2.2.2.2.2.2.1), .int (res.2.2.2.2.2.2.2.2.2.2.1), .int (res.2.2.2.2.2.2.2.2.2.2.2)]))]) 0 0 (va_A [(h0, .inr (5, [.ref h1, .ref h3, .int v0_colour, .int v0_way])), (h1, .inr (8, [.int v1_a, .int v1_b, .int v1_c, .int v1_d, .int v1_e, .int v1_f])), (h2, .inr (6, [.int v2_w, .int v2_h, .ref g2_pixels])), (h3, .inr (1, [.int v3_x, .int v3_y, .int v3_endX, .int v3_endY]))] sz) := by
  refine Met.ofW (cc := cX6_becomeFirst) (maxL := 2) (ret := none) (by decide) rfl ?_
  intro p e s m args below meth c s₁ B hml hv
  obtain ⟨rfl, hsz, hP, hK, hD0, hG⟩ := hv
  have hx := B.exec
  have hb := B.bytes
  have hr := B.returns
  have hu : ∀ w ∈ uw, w.before ([.ref h0, .ref h2] : List Value).toArray s = true := fun w h => atoms_spec (ws := w_X6_becomeFirst) B.pre w (List.mem_cons_of_mem _ h)
  have hown : s.vm.findClass RX6 = some m.cls := findClass_of_methodNamed B.named
  have hlocks := B.notSynchronized
  subst hsz
  have hD := hD0.self (sz := s.heap.size)
  generalize hAe : va_A [(h0, .inr (5, [.ref h1, .ref h3, .int v0_colour, .int v0_way])), (h1, .inr (8, [.int v1_a, .int v1_b, .int v1_c, .int v1_d, .int v1_e, .int v1_f])), (h2, .inr (6, [.int v2_w, .int v2_h, .ref g2_pixels])), (h3, .inr (1, [.int v3_x, .int v3_y, .int v3_endX, .int v3_endY]))] s.heap.size = A at hD hG ⊢
  have hA : ∀ q : Nat, s.heap.size ≤ q → A q := fun q h => by rw [← hAe]; exact Or.inr h
  have hS : va_S A s.heap s.heap [] := va_S.rf
  have hP : va_P (dC, dI) vwCl [(h0, .inr (5, [.ref h1, .ref h3, .int v0_colour, .int v0_way])), (h1, .inr (8, [.int v1_a, .int v1_b, .int v1_c, .int v1_d, .int v1_e, .int v1_f])), (h2, .inr (6, [.int v2_w, .int v2_h, .ref g2_pixels])), (h3, .inr (1, [.int v3_x, .int v3_y, .int v3_endX, .int v3_endY]))] s.heap := hP
  have hl := lv_entry ([.ref h0, .ref h2]) (n := 2) (Nat.le_of_ble_eq_true rfl)
  rw [lg_entry_eq]
  generalize (lg_sl ([.ref h0, .ref h2]) ++ List.replicate (2 - (lg_sl ([.ref h0, .ref h2])).length) Slot.unset).toArray = ls at hl ⊢
  have hl : lv_has ls 2 [(0, .ref h0), (1, .ref h2)] := hl
  rw [m_X6_becomeFirst] at hM
  suffices hgo : ∀ (H : Heap) (locs : List Loc), va_P (dC, dI) vwCl [(h0, .inr (5, [.ref h1, .ref h3, .int v0_colour, .int v0_way])), (h1, .inr (8, [.int v1_a, .int v1_b, .int v1_c, .int v1_d, .int v1_e, .int v1_f])), (h2, .inr (6, [.int v2_w, .int v2_h, .ref g2_pixels])), (h3, .inr (1, [.int v3_x, .int v3_y, .int v3_endX, .int v3_endY]))] H → va_D A [(h0, .inr (5, [.ref h1, .ref h3, .int v0_colour, .int v0_way])), (h1, .inr (8, [.int v1_a, .int v1_b, .int v1_c, .int v1_d, .int v1_e, .int v1_f])), (h2, .inr (6, [.int v2_w, .int v2_h, .ref g2_pixels])), (h3, .inr (1, [.int v3_x, .int v3_y, .int v3_endX, .int v3_endY]))] → va_S A s.heap H locs → W p l e (headSpec w_X6_becomeFirst rm_X6_becomeFirst).room s m ([.ref h0, .ref h2] : List Value).toArray below meth c H locs 0 0 (MQ below (QMv (dC, dI) [(cI, .int), (cZ, .boolean), (cO, .object "ListPainter$Settings")] A [(h0, .inr (5, [.ref h1, .ref h3, .int (res.1), .int (res.2.1)])), (h1, .inr (8, [.int (res.2.2.1), .int (res.2.2.2.1), .int (res.2.2.2.2.1), .int (res.2.2.2.2.2.1), .int (res.2.2.2.2.2.2.1), .int (res.2.2.2.2.2.2.2.1)])), (h2, .inr (6, [.int v2_w, .int v2_h, .ref g2_pixels])), (h3, .inr (1, [.int (res.2.2.2.2.2.2.2.2.1), .int (res.2.2.2.2.2.2.2.2.2.1), .int (res.2.2.2.2.2.2.2.2.2.2.1), .int (res.2.2.2.2.2.2.2.2.2.2.2)]))]) ([.ref h0, .ref h2] : List Value).toArray s 0 0 A) (F0 m 0 ls []) from hgo _ _ hP hD hS
  intro H locs hP hD hS
  refine lv_aload_n hx hb dX6_becomeFirst_0 rfl (lv_at hl 0 rfl) ?_
  refine va_get (D := (dC, dI)) (ci := 5) (v := .ref h1) (C := RX6) (T := TX6) (N := 4) hx hb hu inX6 hown hK hP 0 rfl rfl 0 (by decide) (hu _ kw_88) (fun _ h9 => h9) rfl dX6_becomeFirst_1 ?_
  obtain ⟨v1_1, v1_2, v1_3, v1_4, v1_5, v1_6, hm_7, hM⟩ := bd6_u hM
  refine cVv (As := []) (rest := []) ⟨hx, hb, hml, hown, hu⟩ (c_X9_becomePlain l dC dI cI cZ cO tL H.size h1 v1_a v1_b v1_c v1_d v1_e v1_f (v1_1, v1_2, v1_3, v1_4, v1_5, v1_6) hm_7) (cwV 0 hu (gV kw_89 kw_90 kw_91 kw_39 kw_92) rfl rfl rfl (by decide +kernel) ⟨Nat.le_of_ble_eq_true rfl, Nat.le_of_ble_eq_true rfl⟩) hP hD hS hA hK hG [1] (by decide) rfl [none, some 0, none, none] 1 rfl (by decide +kernel) rfl 8 1 rfl rfl rfl rfl hl.1 rfl (Nat.le_of_ble_eq_true rfl) dX6_becomeFirst_4 (Nat.zero_le _) (Nat.zero_le _) (fun H locs hP hD hS => ?_)
  have hP : va_P (dC, dI) vwCl [(h0, .inr (5, [.ref h1, .ref h3, .int v0_colour, .int v0_way])), (h1, .inr (8, [.int v1_1, .int v1_2, .int v1_3, .int v1_4, .int v1_5, .int v1_6])), (h2, .inr (6, [.int v2_w, .int v2_h, .ref g2_pixels])), (h3, .inr (1, [.int v3_x, .int v3_y, .int v3_endX, .int v3_endY]))] H := hP
  have hD : va_D A [(h0, .inr (5, [.ref h1, .ref h3, .int v0_colour, .int v0_way])), (h1, .inr (8, [.int v1_1, .int v1_2, .int v1_3, .int v1_4, .int v1_5, .int v1_6])), (h2, .inr (6, [.int v2_w, .int v2_h, .ref g2_pixels])), (h3, .inr (1, [.int v3_x, .int v3_y, .int v3_endX, .int v3_endY]))] := hD
  refine lv_aload_n hx hb dX6_becomeFirst_7 rfl (lv_at hl 0 rfl) ?_
  refine va_get (D := (dC, dI)) (ci := 5) (v := .ref h3) (C := RX6) (T := TX6) (N := 4) hx hb hu inX6 hown hK hP 0 rfl rfl 1 (by decide) (hu _ kw_93) (fun _ h9 => h9) rfl dX6_becomeFirst_8 ?_
  refine lv_iconst (v := 0) hx hb dX6_becomeFirst_11 (by decide) ?_
  refine lv_iconst (v := 0) hx hb dX6_becomeFirst_12 (by decide) ?_
  refine lv_aload_n hx hb dX6_becomeFirst_13 rfl (lv_at hl 1 rfl) ?_
  refine va_getN (D := (dC, dI)) (ci := 6) (v := .int v2_w) (C := RX7) (T := TX7) (N := 3) hx hb hu inX7 hown hK hP 2 rfl rfl 0 (by decide) (gX_nest hG 41 kw_94 rfl) (fun _ h9 => h9) rfl dX6_becomeFirst_14 ?_
  refine lv_aload_n hx hb dX6_becomeFirst_17 rfl (lv_at hl 1 rfl) ?_
  refine va_getN (D := (dC, dI)) (ci := 6) (v := .int v2_h) (C := RX7) (T := TX7) (N := 3) hx hb hu inX7 hown hK hP 2 rfl rfl 1 (by decide) (gX_nest hG 43 kw_95 rfl) (fun _ h9 => h9) rfl dX6_becomeFirst_18 ?_
  obtain ⟨v3_8, v3_9, v3_10, v3_11, hm_12, hM⟩ := bd4_u hM
  refine cVv (As := [.int 0, .int 0, .int v2_w, .int v2_h]) (rest := []) ⟨hx, hb, hml, hown, hu⟩ (c_X1_become l dC dI cI cZ cO tL H.size h3 v3_x v3_y v3_endX v3_endY 0 0 v2_w v2_h (v3_8, v3_9, v3_10, v3_11) hm_12) (cwV 4 hu (gV kw_96 kw_53 kw_54 kw_55 kw_56) rfl rfl rfl (by decide +kernel) ⟨Nat.le_of_ble_eq_true rfl, Nat.le_of_ble_eq_true rfl⟩) hP hD hS hA hK hG [3] (by decide) rfl [none, none, none, some 0] 1 rfl (by decide +kernel) rfl 1 3 rfl rfl rfl rfl hl.1 rfl (Nat.le_of_ble_eq_true rfl) dX6_becomeFirst_21 (Nat.zero_le _) (Nat.zero_le _) (fun H locs hP hD hS => ?_)
  have hP : va_P (dC, dI) vwCl [(h0, .inr (5, [.ref h1, .ref h3, .int v0_colour, .int v0_way])), (h1, .inr (8, [.int v1_1, .int v1_2, .int v1_3, .int v1_4, .int v1_5, .int v1_6])), (h2, .inr (6, [.int v2_w, .int v2_h, .ref g2_pixels])), (h3, .inr (1, [.int v3_8, .int v3_9, .int v3_10, .int v3_11]))] H := hP
  have hD : va_D A [(h0, .inr (5, [.ref h1, .ref h3, .int v0_colour, .int v0_way])), (h1, .inr (8, [.int v1_1, .int v1_2, .int v1_3, .int v1_4, .int v1_5, .int v1_6])), (h2, .inr (6, [.int v2_w, .int v2_h, .ref g2_pixels])), (h3, .inr (1, [.int v3_8, .int v3_9, .int v3_10, .int v3_11]))] := hD
  refine lv_aload_n hx hb dX6_becomeFirst_24 rfl (lv_at hl 0 rfl) ?_
  refine lv_ldc (v := (-16777216)) hx hb hown (hu _ kw_97) dX6_becomeFirst_25 ?_
  refine va_put (D := (dC, dI)) (ci := 5) (v := .int (-16777216)) (ty := .int) (C := RX6) (T := TX6) (N := 4) hx hb hu inX6 tyX6 tyX6_ok nmX6 hown hK hP hD hS 0 rfl rfl 2 (by decide) (hu _ kw_98) (fun _ h9 => h9) rfl (by decide +kernel) rfl rfl (Nat.le_of_ble_eq_true rfl) dX6_becomeFirst_27 (fun H locs hP hD hS => ?_)
  have hP : va_P (dC, dI) vwCl [(h0, .inr (5, [.ref h1, .ref h3, .int (-16777216), .int v0_way])), (h1, .inr (8, [.int v1_1, .int v1_2, .int v1_3, .int v1_4, .int v1_5, .int v1_6])), (h2, .inr (6, [.int v2_w, .int v2_h, .ref g2_pixels])), (h3, .inr (1, [.int v3_8, .int v3_9, .int v3_10, .int v3_11]))] H := hP
  have hD : va_D A [(h0, .inr (5, [.ref h1, .ref h3, .int (-16777216), .int v0_way])), (h1, .inr (8, [.int v1_1, .int v1_2, .int v1_3, .int v1_4, .int v1_5, .int v1_6])), (h2, .inr (6, [.int v2_w, .int v2_h, .ref g2_pixels])), (h3, .inr (1, [.int v3_8, .int v3_9, .int v3_10, .int v3_11]))] := hD
  refine lv_aload_n hx hb dX6_becomeFirst_30 rfl (lv_at hl 0 rfl) ?_
  refine lv_iconst (v := 0) hx hb dX6_becomeFirst_31 (by decide) ?_
  refine va_put (D := (dC, dI)) (ci := 5) (v := .int 0) (ty := .int) (C := RX6) (T := TX6) (N := 4) hx hb hu inX6 tyX6 tyX6_ok nmX6 hown hK hP hD hS 0 rfl rfl 3 (by decide) (hu _ kw_99) (fun _ h9 => h9) rfl (by decide +kernel) rfl rfl (Nat.le_of_ble_eq_true rfl) dX6_becomeFirst_32 (fun H locs hP hD hS => ?_)
  have hP : va_P (dC, dI) vwCl [(h0, .inr (5, [.ref h1, .ref h3, .int (-16777216), .int 0])), (h1, .inr (8, [.int v1_1, .int v1_2, .int v1_3, .int v1_4, .int v1_5, .int v1_6])), (h2, .inr (6, [.int v2_w, .int v2_h, .ref g2_pixels])), (h3, .inr (1, [.int v3_8, .int v3_9, .int v3_10, .int v3_11]))] H := hP
  have hD : va_D A [(h0, .inr (5, [.ref h1, .ref h3, .int (-16777216), .int 0])), (h1, .inr (8, [.int v1_1, .int v1_2, .int v1_3, .int v1_4, .int v1_5, .int v1_6])), (h2, .inr (6, [.int v2_w, .int v2_h, .ref g2_pixels])), (h3, .inr (1, [.int v3_8, .int v3_9, .int v3_10, .int v3_11]))] := hD
  have h9 := Option.some.inj hM
  subst h9
  exact W.vret hx hb hr (fun t ht hW => QMv_mk (by rw [ht]; exact hP) (va_K.moved hW.alike hK) hD (hS.F ht)) hS.2.2 dX6_becomeFirst_35
theorem dX6_copyFrom_0 : decode cX6_copyFrom 0 = .ok (.aload_n 0, 1) := by decide +kernel
theorem dX6_copyFrom_1 : decode cX6_copyFrom 1 = .ok (.getfield 12, 3) := by decide +kernel
theorem dX6_copyFrom_4 : decode cX6_copyFrom 4 = .ok (.aload_n 1, 1) := by decide +kernel
theorem dX6_copyFrom_5 : decode cX6_copyFrom 5 = .ok (.getfield 12, 3) := by decide +kernel
theorem dX6_copyFrom_8 : decode cX6_copyFrom 8 = .ok (.invokevirtual 48, 3) := by decide +kernel
theorem dX6_copyFrom_11 : decode cX6_copyFrom 11 = .ok (.aload_n 0, 1) := by decide +kernel
theorem dX6_copyFrom_12 : decode cX6_copyFrom 12 = .ok (.getfield 21, 3) := by decide +kernel
theorem dX6_copyFrom_15 : decode cX6_copyFrom 15 = .ok (.aload_n 1, 1) := by decide +kernel
theorem dX6_copyFrom_16 : decode cX6_copyFrom 16 = .ok (.getfield 21, 3) := by decide +kernel
theorem dX6_copyFrom_19 : decode cX6_copyFrom 19 = .ok (.invokevirtual 52, 3) := by decide +kernel
theorem dX6_copyFrom_22 : decode cX6_copyFrom 22 = .ok (.aload_n 0, 1) := by decide +kernel
theorem dX6_copyFrom_23 : decode cX6_copyFrom 23 = .ok (.aload_n 1, 1) := by decide +kernel
theorem dX6_copyFrom_24 : decode cX6_copyFrom 24 = .ok (.getfield 42, 3) := by decide +kernel
theorem dX6_copyFrom_27 : decode cX6_copyFrom 27 = .ok (.putfield 42, 3) := by decide +kernel
theorem dX6_copyFrom_30 : decode cX6_copyFrom 30 = .ok (.aload_n 0, 1) := by decide +kernel
theorem dX6_copyFrom_31 : decode cX6_copyFrom 31 = .ok (.aload_n 1, 1) := by decide +kernel
theorem dX6_copyFrom_32 : decode cX6_copyFrom 32 = .ok (.getfield 45, 3) := by decide +kernel
theorem dX6_copyFrom_35 : decode cX6_copyFrom 35 = .ok (.putfield 45, 3) := by decide +kernel
theorem dX6_copyFrom_38 : decode cX6_copyFrom 38 = .ok (.return_, 1) := by decide +kernel
abbrev rm_X6_copyFrom : Room := { frames := 2, cells := 0, slots := 0, locals := 45 }
def w_X6_copyFrom : List Cond := Cond.code yX6_copyFrom cX6_copyFrom 2 none :: uw
set_option maxHeartbeats 4000000 in
set_option maxRecDepth 100000 in
theorem c_X6_copyFrom (l : Launch) (dC : Nat → ClassId) (dI : Nat → Nat → Nat) (cI cZ cO : ClassId) (tL sz : Nat) (h0 : Nat) (h1 : Nat) (h2 : Nat) (h3 : Nat) (h4 : Nat) (h5 : Nat) (v0_colour : Int32) (v0_way : Int32) (v1_colour : Int32) (v1_way : Int32) (v2_a : Int32) (v2_b : Int32) (v2_c : Int32) (v2_d : Int32) (v2_e : Int32) (v2_f : Int32) (v3_a : Int32) (v3_b : Int32) (v3_c : Int32) (v3_d : Int32) (v3_e : Int32) (v3_f : Int32) (v4_x : Int32) (v4_y : Int32) (v4_endX : Int32) (v4_endY : Int32) (v5_x : Int32) (v5_y : Int32) (v5_endX : Int32) (v5_endY : Int32) (res : Int32 × Int32 × Int32 × Int32 × Int32 × Int32 × Int32 × Int32 × Int32 × Int32 × Int32 × Int32) (hM : m_X6_copyFrom v0_colour v0_way v1_colour v1_way v2_a v2_b v2_c v2_d v2_e v2_f v3_a v3_b v3_c v3_d v3_e v3_f v4_x v4_y v4_endX v4_endY v5_x v5_y v5_endX v5_endY = some res) : Met l yX6_copyFrom w_X6_copyFrom rm_X6_copyFrom (PCx [.ref h0, .ref h1] (dC, dI) [(cI, .int), (cZ, .boolean), (cO, .object "ListPainter$Settings")] sz tL [(h0, .inr (5, [.ref h2, .ref h4, .int v0_colour, .int v0_way])), (h1, .inr (5, [.ref h3, .ref h5, .int v1_colour, .int v1_way])), (h2, .inr (8, [.int v2_a, .int v2_b, .int v2_c, .int v2_d, .int v2_e, .int v2_f])), (h3, .inr (8, [.int v3_a, .int v3_b, .int v3_c, .int v3_d, .int v3_e, .int v3_f])), (h4, .inr (1, [.int v4_x, .int v4_y, .int v4_endX, .int v4_endY])), (h5, .inr (1, [.int v5_x, .int v5_y, .int v5_endX, .int v5_endY]))]) (QMv (dC, dI) [(cI, .int), (cZ, .boolean), (cO, .object "ListPainter$Settings")] (va_A [(h0, .inr (5, [.ref h2, .ref h4, .int v0_colour, .int v0_way])), (h1, .inr (5, [.ref h3, .ref h5, .int v1_colour, .int v1_way])), (h2, .inr (8, [.int v2_a, .int v2_b, .int v2_c, .int v2_d, .int v2_e, .int v2_f])), (h3, .inr (8, [.int v3_a, .int v3_b, .int v3_c, .int v3_d, .int v3_e, .int v3_f])), (h4, .inr (1, [.int v4_x, .int v4_y, .int v4_endX, .int v4_endY])), (h5, .inr (1, [.int v5_x, .int v5_y, .int v5_endX, .int v5_endY]))] sz) [(h0, .inr (5, [.ref h2, .ref h4, .int (res.1), .int (res.2.1)])), (h1, .inr (5, [.ref h3, .ref h5, .int v1_colour, .int v1_way])), (h2, .inr (8, [.int (res.2.2.1), .int (res.2.2.2.1), .int (res.2.2.2.2.1), .int (res.2.2.2.2.2.1), .int (res.2.2.2.2.2.2.1), .int (res.2.2.2.2.2.2.2.1)])), (h3, .inr (8, [.int v3_a, .int v3_b, .int v3_c, .int v3_d, .int v3_e, .int v3_f])), (h4, .inr (1, [.int (res.2.2.2.2.2.2.2.2.1), .int (res.2.2.2.2.2.2.2.2.2.1), .int (res.2.2.2.2.2.2.2.2.2.2.1), .int (res.2.2.2.2.2.2.2.2.2.2.2)])), (h5, .inr (1, [.int v5_x, .int v5_y, .int v5_endX, .int v5_endY]))]) 0 0 (va_A [(h0, .inr (5, [.ref h2, .ref h4, .int v0_colour, .int v0_way])), (h1, .inr (5, [.ref h3, .ref h5, .int v1_colour, .int v1_way])), (h2, .inr (8, [.int v2_a, .int v2_b, .int v2_c, .int v2_d, .int v2_e, .int v2_f])), (h3, .inr (8, [.int v3_a, .int v3_b, .int v3_c, .int v3_d, .int v3_e, .int v3_f])), (h4, .inr (1, [.int v4_x, .int v4_y, .int v4_endX, .int v4_endY])), (h5, .inr (1, [.int v5_x, .int v5_y, .int v5_endX, .int v5_endY]))] sz) := by
  refine Met.ofW (cc := cX6_copyFrom) (maxL := 2) (ret := none) (by decide) rfl ?_
  intro p e s m args below meth c s₁ B hml hv
  obtain ⟨rfl, hsz, hP, hK, hD0, hG⟩ := hv
  have hx := B.exec
  have hb := B.bytes
  have hr := B.returns
  have hu : ∀ w ∈ uw, w.before ([.ref h0, .ref h1] : List Value).toArray s = true := fun w h => atoms_spec (ws := w_X6_copyFrom) B.pre w (List.mem_cons_of_mem _ h)
  have hown : s.vm.findClass RX6 = some m.cls := findClass_of_methodNamed B.named
  have hlocks := B.notSynchronized
  subst hsz
  have hD := hD0.self (sz := s.heap.size)
  generalize hAe : va_A [(h0, .inr (5, [.ref h2, .ref h4, .int v0_colour, .int v0_way])), (h1, .inr (5, [.ref h3, .ref h5, .int v1_colour, .int v1_way])), (h2, .inr (8, [.int v2_a, .int v2_b, .int v2_c, .int v2_d, .int v2_e, .int v2_f])), (h3, .inr (8, [.int v3_a, .int v3_b, .int v3_c, .int v3_d, .int v3_e, .int v3_f])), (h4, .inr (1, [.int v4_x, .int v4_y, .int v4_endX, .int v4_endY])), (h5, .inr (1, [.int v5_x, .int v5_y, .int v5_endX, .int v5_endY]))] s.heap.size = A at hD hG ⊢
  have hA : ∀ q : Nat, s.heap.size ≤ q → A q := fun q h => by rw [← hAe]; exact Or.inr h
  have hS : va_S A s.heap s.heap [] := va_S.rf
  have hP : va_P (dC, dI) vwCl [(h0, .inr (5, [.ref h2, .ref h4, .int v0_colour, .int v0_way])), (h1, .inr (5, [.ref h3, .ref h5, .int v1_colour, .int v1_way])), (h2, .inr (8, [.int v2_a, .int v2_b, .int v2_c, .int v2_d, .int v2_e, .int v2_f])), (h3, .inr (8, [.int v3_a, .int v3_b, .int v3_c, .int v3_d, .int v3_e, .int v3_f])), (h4, .inr (1, [.int v4_x, .int v4_y, .int v4_endX, .int v4_endY])), (h5, .inr (1, [.int v5_x, .int v5_y, .int v5_endX, .int v5_endY]))] s.heap := hP
  have hl := lv_entry ([.ref h0, .ref h1]) (n := 2) (Nat.le_of_ble_eq_true rfl)
  rw [lg_entry_eq]
  generalize (lg_sl ([.ref h0, .ref h1]) ++ List.replicate (2 - (lg_sl ([.ref h0, .ref h1])).length) Slot.unset).toArray = ls at hl ⊢
  have hl : lv_has ls 2 [(0, .ref h0), (1, .ref h1)] := hl
  rw [m_X6_copyFrom] at hM
  suffices hgo : ∀ (H : Heap) (locs : List Loc), va_P (dC, dI) vwCl [(h0, .inr (5, [.ref h2, .ref h4, .int v0_colour, .int v0_way])), (h1, .inr (5, [.ref h3, .ref h5, .int v1_colour, .int v1_way])), (h2, .inr (8, [.int v2_a, .int v2_b, .int v2_c, .int v2_d, .int v2_e, .int v2_f])), (h3, .inr (8, [.int v3_a, .int v3_b, .int v3_c, .int v3_d, .int v3_e, .int v3_f])), (h4, .inr (1, [.int v4_x, .int v4_y, .int v4_endX, .int v4_endY])), (h5, .inr (1, [.int v5_x, .int v5_y, .int v5_endX, .int v5_endY]))] H → va_D A [(h0, .inr (5, [.ref h2, .ref h4, .int v0_colour, .int v0_way])), (h1, .inr (5, [.ref h3, .ref h5, .int v1_colour, .int v1_way])), (h2, .inr (8, [.int v2_a, .int v2_b, .int v2_c, .int v2_d, .int v2_e, .int v2_f])), (h3, .inr (8, [.int v3_a, .int v3_b, .int v3_c, .int v3_d, .int v3_e, .int v3_f])), (h4, .inr (1, [.int v4_x, .int v4_y, .int v4_endX, .int v4_endY])), (h5, .inr (1, [.int v5_x, .int v5_y, .int v5_endX, .int v5_endY]))] → va_S A s.heap H locs → W p l e (headSpec w_X6_copyFrom rm_X6_copyFrom).room s m ([.ref h0, .ref h1] : List Value).toArray below meth c H locs 0 0 (MQ below (QMv (dC, dI) [(cI, .int), (cZ, .boolean), (cO, .object "ListPainter$Settings")] A [(h0, .inr (5, [.ref h2, .ref h4, .int (res.1), .int (res.2.1)])), (h1, .inr (5, [.ref h3, .ref h5, .int v1_colour, .int v1_way])), (h2, .inr (8, [.int (res.2.2.1), .int (res.2.2.2.1), .int (res.2.2.2.2.1), .int (res.2.2.2.2.2.1), .int (res.2.2.2.2.2.2.1), .int (res.2.2.2.2.2.2.2.1)])), (h3, .inr (8, [.int v3_a, .int v3_b, .int v3_c, .int v3_d, .int v3_e, .int v3_f])), (h4, .inr (1, [.int (res.2.2.2.2.2.2.2.2.1), .int (res.2.2.2.2.2.2.2.2.2.1), .int (res.2.2.2.2.2.2.2.2.2.2.1), .int (res.2.2.2.2.2.2.2.2.2.2.2)])), (h5, .inr (1, [.int v5_x, .int v5_y, .int v5_endX, .int v5_endY]))]) ([.ref h0, .ref h1] : List Value).toArray s 0 0 A) (F0 m 0 ls []) from hgo _ _ hP hD hS
  intro H locs hP hD hS
  refine lv_aload_n hx hb dX6_copyFrom_0 rfl (lv_at hl 0 rfl) ?_
  refine va_get (D := (dC, dI)) (ci := 5) (v := .ref h2) (C := RX6) (T := TX6) (N := 4) hx hb hu inX6 hown hK hP 0 rfl rfl 0 (by decide) (hu _ kw_88) (fun _ h9 => h9) rfl dX6_copyFrom_1 ?_
  refine lv_aload_n hx hb dX6_copyFrom_4 rfl (lv_at hl 1 rfl) ?_
  refine va_get (D := (dC, dI)) (ci := 5) (v := .ref h3) (C := RX6) (T := TX6) (N := 4) hx hb hu inX6 hown hK hP 1 rfl rfl 0 (by decide) (hu _ kw_88) (fun _ h9 => h9) rfl dX6_copyFrom_5 ?_
  obtain ⟨v2_1, v2_2, v2_3, v2_4, v2_5, v2_6, hm_7, hM⟩ := bd6_u hM
  refine cVv (As := [.ref h3]) (rest := []) ⟨hx, hb, hml, hown, hu⟩ (c_X9_copyFrom l dC dI cI cZ cO tL H.size h3 h2 v3_a v3_b v3_c v3_d v3_e v3_f v2_a v2_b v2_c v2_d v2_e v2_f (v2_1, v2_2, v2_3, v2_4, v2_5, v2_6) hm_7) (cwV 1 hu (gV kw_100 kw_101 kw_102 kw_39 kw_103) rfl rfl rfl (by decide +kernel) ⟨Nat.le_of_ble_eq_true rfl, Nat.le_of_ble_eq_true rfl⟩) hP hD hS hA hK hG [3, 2] (by decide) rfl [none, none, some 1, some 0, none, none] 2 rfl (by decide +kernel) rfl 8 2 rfl rfl rfl rfl hl.1 rfl (Nat.le_of_ble_eq_true rfl) dX6_copyFrom_8 (Nat.zero_le _) (Nat.zero_le _) (fun H locs hP hD hS => ?_)
  have hP : va_P (dC, dI) vwCl [(h0, .inr (5, [.ref h2, .ref h4, .int v0_colour, .int v0_way])), (h1, .inr (5, [.ref h3, .ref h5, .int v1_colour, .int v1_way])), (h2, .inr (8, [.int v2_1, .int v2_2, .int v2_3, .int v2_4, .int v2_5, .int v2_6])), (h3, .inr (8, [.int v3_a, .int v3_b, .int v3_c, .int v3_d, .int v3_e, .int v3_f])), (h4, .inr (1, [.int v4_x, .int v4_y, .int v4_endX, .int v4_endY])), (h5, .inr (1, [.int v5_x, .int v5_y, .int v5_endX, .int v5_endY]))] H := hP
  have hD : va_D A [(h0, .inr (5, [.ref h2, .ref h4, .int v0_colour, .int v0_way])), (h1, .inr (5, [.ref h3, .ref h5, .int v1_colour, .int v1_way])), (h2, .inr (8, [.int v2_1, .int v2_2, .int v2_3, .int v2_4, .int v2_5, .int v2_6])), (h3, .inr (8, [.int v3_a, .int v3_b, .int v3_c, .int v3_d, .int v3_e, .int v3_f])), (h4, .inr (1, [.int v4_x, .int v4_y, .int v4_endX, .int v4_endY])), (h5, .inr (1, [.int v5_x, .int v5_y, .int v5_endX, .int v5_endY]))] := hD
  refine lv_aload_n hx hb dX6_copyFrom_11 rfl (lv_at hl 0 rfl) ?_
  refine va_get (D := (dC, dI)) (ci := 5) (v := .ref h4) (C := RX6) (T := TX6) (N := 4) hx hb hu inX6 hown hK hP 0 rfl rfl 1 (by decide) (hu _ kw_93) (fun _ h9 => h9) rfl dX6_copyFrom_12 ?_
  refine lv_aload_n hx hb dX6_copyFrom_15 rfl (lv_at hl 1 rfl) ?_
  refine va_get (D := (dC, dI)) (ci := 5) (v := .ref h5) (C := RX6) (T := TX6) (N := 4) hx hb hu inX6 hown hK hP 1 rfl rfl 1 (by decide) (hu _ kw_93) (fun _ h9 => h9) rfl dX6_copyFrom_16 ?_
  obtain ⟨v4_8, v4_9, v4_10, v4_11, hm_12, hM⟩ := bd4_u hM
  refine cVv (As := [.ref h5]) (rest := []) ⟨hx, hb, hml, hown, hu⟩ (c_X1_copyFrom l dC dI cI cZ cO tL H.size h5 h4 v5_x v5_y v5_endX v5_endY v4_x v4_y v4_endX v4_endY (v4_8, v4_9, v4_10, v4_11) hm_12) (cwV 1 hu (gV kw_104 kw_105 kw_106 kw_55 kw_107) rfl rfl rfl (by decide +kernel) ⟨Nat.le_of_ble_eq_true rfl, Nat.le_of_ble_eq_true rfl⟩) hP hD hS hA hK hG [5, 4] (by decide) rfl [none, none, none, none, some 1, some 0] 2 rfl (by decide +kernel) rfl 1 4 rfl rfl rfl rfl hl.1 rfl (Nat.le_of_ble_eq_true rfl) dX6_copyFrom_19 (Nat.zero_le _) (Nat.zero_le _) (fun H locs hP hD hS => ?_)
  have hP : va_P (dC, dI) vwCl [(h0, .inr (5, [.ref h2, .ref h4, .int v0_colour, .int v0_way])), (h1, .inr (5, [.ref h3, .ref h5, .int v1_colour, .int v1_way])), (h2, .inr (8, [.int v2_1, .int v2_2, .int v2_3, .int v2_4, .int v2_5, .int v2_6])), (h3, .inr (8, [.int v3_a, .int v3_b, .int v3_c, .int v3_d, .int v3_e, .int v3_f])), (h4, .inr (1, [.int v4_8, .int v4_9, .int v4_10, .int v4_11])), (h5, .inr (1, [.int v5_x, .int v5_y, .int v5_endX, .int v5_endY]))] H := hP
  have hD : va_D A [(h0, .inr (5, [.ref h2, .ref h4, .int v0_colour, .int v0_way])), (h1, .inr (5, [.ref h3, .ref h5, .int v1_colour, .int v1_way])), (h2, .inr (8, [.int v2_1, .int v2_2, .int v2_3, .int v2_4, .int v2_5, .int v2_6])), (h3, .inr (8, [.int v3_a, .int v3_b, .int v3_c, .int v3_d, .int v3_e, .int v3_f])), (h4, .inr (1, [.int v4_8, .int v4_9, .int v4_10, .int v4_11])), (h5, .inr (1, [.int v5_x, .int v5_y, .int v5_endX, .int v5_endY]))] := hD
  refine lv_aload_n hx hb dX6_copyFrom_22 rfl (lv_at hl 0 rfl) ?_
  refine lv_aload_n hx hb dX6_copyFrom_23 rfl (lv_at hl 1 rfl) ?_
  refine va_get (D := (dC, dI)) (ci := 5) (v := .int v1_colour) (C := RX6) (T := TX6) (N := 4) hx hb hu inX6 hown hK hP 1 rfl rfl 2 (by decide) (hu _ kw_98) (fun _ h9 => h9) rfl dX6_copyFrom_24 ?_
  refine va_put (D := (dC, dI)) (ci := 5) (v := .int v1_colour) (ty := .int) (C := RX6) (T := TX6) (N := 4) hx hb hu inX6 tyX6 tyX6_ok nmX6 hown hK hP hD hS 0 rfl rfl 2 (by decide) (hu _ kw_98) (fun _ h9 => h9) rfl (by decide +kernel) rfl rfl (Nat.le_of_ble_eq_true rfl) dX6_copyFrom_27 (fun H locs hP hD hS => ?_)
  have hP : va_P (dC, dI) vwCl [(h0, .inr (5, [.ref h2, .ref h4, .int v1_colour, .int v0_way])), (h1, .inr (5, [.ref h3, .ref h5, .int v1_colour, .int v1_way])), (h2, .inr (8, [.int v2_1, .int v2_2, .int v2_3, .int v2_4, .int v2_5, .int v2_6])), (h3, .inr (8, [.int v3_a, .int v3_b, .int v3_c, .int v3_d, .int v3_e, .int v3_f])), (h4, .inr (1, [.int v4_8, .int v4_9, .int v4_10, .int v4_11])), (h5, .inr (1, [.int v5_x, .int v5_y, .int v5_endX, .int v5_endY]))] H := hP
  have hD : va_D A [(h0, .inr (5, [.ref h2, .ref h4, .int v1_colour, .int v0_way])), (h1, .inr (5, [.ref h3, .ref h5, .int v1_colour, .int v1_way])), (h2, .inr (8, [.int v2_1, .int v2_2, .int v2_3, .int v2_4, .int v2_5, .int v2_6])), (h3, .inr (8, [.int v3_a, .int v3_b, .int v3_c, .int v3_d, .int v3_e, .int v3_f])), (h4, .inr (1, [.int v4_8, .int v4_9, .int v4_10, .int v4_11])), (h5, .inr (1, [.int v5_x, .int v5_y, .int v5_endX, .int v5_endY]))] := hD
  refine lv_aload_n hx hb dX6_copyFrom_30 rfl (lv_at hl 0 rfl) ?_
  refine lv_aload_n hx hb dX6_copyFrom_31 rfl (lv_at hl 1 rfl) ?_
  refine va_get (D := (dC, dI)) (ci := 5) (v := .int v1_way) (C := RX6) (T := TX6) (N := 4) hx hb hu inX6 hown hK hP 1 rfl rfl 3 (by decide) (hu _ kw_99) (fun _ h9 => h9) rfl dX6_copyFrom_32 ?_
  refine va_put (D := (dC, dI)) (ci := 5) (v := .int v1_way) (ty := .int) (C := RX6) (T := TX6) (N := 4) hx hb hu inX6 tyX6 tyX6_ok nmX6 hown hK hP hD hS 0 rfl rfl 3 (by decide) (hu _ kw_99) (fun _ h9 => h9) rfl (by decide +kernel) rfl rfl (Nat.le_of_ble_eq_true rfl) dX6_copyFrom_35 (fun H locs hP hD hS => ?_)
  have hP : va_P (dC, dI) vwCl [(h0, .inr (5, [.ref h2, .ref h4, .int v1_colour, .int v1_way])), (h1, .inr (5, [.ref h3, .ref h5, .int v1_colour, .int v1_way])), (h2, .inr (8, [.int v2_1, .int v2_2, .int v2_3, .int v2_4, .int v2_5, .int v2_6])), (h3, .inr (8, [.int v3_a, .int v3_b, .int v3_c, .int v3_d, .int v3_e, .int v3_f])), (h4, .inr (1, [.int v4_8, .int v4_9, .int v4_10, .int v4_11])), (h5, .inr (1, [.int v5_x, .int v5_y, .int v5_endX, .int v5_endY]))] H := hP
  have hD : va_D A [(h0, .inr (5, [.ref h2, .ref h4, .int v1_colour, .int v1_way])), (h1, .inr (5, [.ref h3, .ref h5, .int v1_colour, .int v1_way])), (h2, .inr (8, [.int v2_1, .int v2_2, .int v2_3, .int v2_4, .int v2_5, .int v2_6])), (h3, .inr (8, [.int v3_a, .int v3_b, .int v3_c, .int v3_d, .int v3_e, .int v3_f])), (h4, .inr (1, [.int v4_8, .int v4_9, .int v4_10, .int v4_11])), (h5, .inr (1, [.int v5_x, .int v5_y, .int v5_endX, .int v5_endY]))] := hD
  have h9 := Option.some.inj hM
  subst h9
  exact W.vret hx hb hr (fun t ht hW => QMv_mk (by rw [ht]; exact hP) (va_K.moved hW.alike hK) hD (hS.F ht)) hS.2.2 dX6_copyFrom_38
