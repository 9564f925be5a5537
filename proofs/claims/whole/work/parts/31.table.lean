theorem dX9_becomePlain_0 : decode cX9_becomePlain 0 = .ok (.aload_n 0, 1) := by decide +kernel
theorem dX9_becomePlain_1 : decode cX9_becomePlain 1 = .ok (.ldc 9, 2) := by decide +kernel
theorem dX9_becomePlain_3 : decode cX9_becomePlain 3 = .ok (.putfield 10, 3) := by decide +kernel
theorem dX9_becomePlain_6 : decode cX9_becomePlain 6 = .ok (.aload_n 0, 1) := by decide +kernel
theorem dX9_becomePlain_7 : decode cX9_becomePlain 7 = .ok (.iconst 0, 1) := by decide +kernel
theorem dX9_becomePlain_8 : decode cX9_becomePlain 8 = .ok (.putfield 16, 3) := by decide +kernel
theorem dX9_becomePlain_11 : decode cX9_becomePlain 11 = .ok (.aload_n 0, 1) := by decide +kernel
theorem dX9_becomePlain_12 : decode cX9_becomePlain 12 = .ok (.iconst 0, 1) := by decide +kernel
theorem dX9_becomePlain_13 : decode cX9_becomePlain 13 = .ok (.putfield 19, 3) := by decide +kernel
theorem dX9_becomePlain_16 : decode cX9_becomePlain 16 = .ok (.aload_n 0, 1) := by decide +kernel
theorem dX9_becomePlain_17 : decode cX9_becomePlain 17 = .ok (.ldc 9, 2) := by decide +kernel
theorem dX9_becomePlain_19 : decode cX9_becomePlain 19 = .ok (.putfield 22, 3) := by decide +kernel
theorem dX9_becomePlain_22 : decode cX9_becomePlain 22 = .ok (.aload_n 0, 1) := by decide +kernel
theorem dX9_becomePlain_23 : decode cX9_becomePlain 23 = .ok (.iconst 0, 1) := by decide +kernel
theorem dX9_becomePlain_24 : decode cX9_becomePlain 24 = .ok (.putfield 25, 3) := by decide +kernel
theorem dX9_becomePlain_27 : decode cX9_becomePlain 27 = .ok (.aload_n 0, 1) := by decide +kernel
theorem dX9_becomePlain_28 : decode cX9_becomePlain 28 = .ok (.iconst 0, 1) := by decide +kernel
theorem dX9_becomePlain_29 : decode cX9_becomePlain 29 = .ok (.putfield 28, 3) := by decide +kernel
theorem dX9_becomePlain_32 : decode cX9_becomePlain 32 = .ok (.return_, 1) := by decide +kernel
abbrev rm_X9_becomePlain : Room := { frames := 0, cells := 0, slots := 0, locals := 0 }
def w_X9_becomePlain : List Cond := Cond.code yX9_becomePlain cX9_becomePlain 1 none :: uw
set_option maxHeartbeats 4000000 in
set_option maxRecDepth 100000 in
theorem c_X9_becomePlain (l : Launch) (dC : Nat → ClassId) (dI : Nat → Nat → Nat) (cI cZ cO : ClassId) (tL sz : Nat) (h0 : Nat) (v0_a : Int32) (v0_b : Int32) (v0_c : Int32) (v0_d : Int32) (v0_e : Int32) (v0_f : Int32) (res : Int32 × Int32 × Int32 × Int32 × Int32 × Int32) (hM : m_X9_becomePlain v0_a v0_b v0_c v0_d v0_e v0_f = some res) : Met l yX9_becomePlain w_X9_becomePlain rm_X9_becomePlain (PCx [.ref h0] (dC, dI) [(cI, .int), (cZ, .boolean), (cO, .object "ListPainter$Settings")] sz tL [(h0, .inr (8, [.int v0_a, .int v0_b, .int v0_c, .int v0_d, .int v0_e, .int v0_f]))]) (QMv (dC, dI) [(cI, .int), (cZ, .boolean), (cO, .object "ListPainter$Settings")] (va_A [(h0, .inr (8, [.int v0_a, .int v0_b, .int v0_c, .int v0_d, .int v0_e, .int v0_f]))] sz) [(h0, .inr (8, [.int (res.1), .int (res.2.1), .int (res.2.2.1), .int (res.2.2.2.1), .int (res.2.2.2.2.1), .int (res.2.2.2.2.2)]))]) 0 0 (va_A [(h0, .inr (8, [.int v0_a, .int v0_b, .int v0_c, .int v0_d, .int v0_e, .int v0_f]))] sz) := by
  refine Met.ofW (cc := cX9_becomePlain) (maxL := 1) (ret := none) (by decide) rfl ?_
  intro p e s m args below meth c s₁ B hml hv
  obtain ⟨rfl, hsz, hP, hK, hD0, hG⟩ := hv
  have hx := B.exec
  have hb := B.bytes
  have hr := B.returns
  have hu : ∀ w ∈ uw, w.before ([.ref h0] : List Value).toArray s = true := fun w h => atoms_spec (ws := w_X9_becomePlain) B.pre w (List.mem_cons_of_mem _ h)
  have hown : s.vm.findClass RX9 = some m.cls := findClass_of_methodNamed B.named
  have hlocks := B.notSynchronized
  subst hsz
  have hD := hD0.self (sz := s.heap.size)
  generalize hAe : va_A [(h0, .inr (8, [.int v0_a, .int v0_b, .int v0_c, .int v0_d, .int v0_e, .int v0_f]))] s.heap.size = A at hD hG ⊢
  have hA : ∀ q : Nat, s.heap.size ≤ q → A q := fun q h => by rw [← hAe]; exact Or.inr h
  have hS : va_S A s.heap s.heap [] := va_S.rf
  have hP : va_P (dC, dI) vwCl [(h0, .inr (8, [.int v0_a, .int v0_b, .int v0_c, .int v0_d, .int v0_e, .int v0_f]))] s.heap := hP
  have hl := lv_entry ([.ref h0]) (n := 1) (Nat.le_of_ble_eq_true rfl)
  rw [lg_entry_eq]
  generalize (lg_sl ([.ref h0]) ++ List.replicate (1 - (lg_sl ([.ref h0])).length) Slot.unset).toArray = ls at hl ⊢
  have hl : lv_has ls 1 [(0, .ref h0)] := hl
  rw [m_X9_becomePlain] at hM
  suffices hgo : ∀ (H : Heap) (locs : List Loc), va_P (dC, dI) vwCl [(h0, .inr (8, [.int v0_a, .int v0_b, .int v0_c, .int v0_d, .int v0_e, .int v0_f]))] H → va_D A [(h0, .inr (8, [.int v0_a, .int v0_b, .int v0_c, .int v0_d, .int v0_e, .int v0_f]))] → va_S A s.heap H locs → W p l e (headSpec w_X9_becomePlain rm_X9_becomePlain).room s m ([.ref h0] : List Value).toArray below meth c H locs 0 0 (MQ below (QMv (dC, dI) [(cI, .int), (cZ, .boolean), (cO, .object "ListPainter$Settings")] A [(h0, .inr (8, [.int (res.1), .int (res.2.1), .int (res.2.2.1), .int (res.2.2.2.1), .int (res.2.2.2.2.1), .int (res.2.2.2.2.2)]))]) ([.ref h0] : List Value).toArray s 0 0 A) (F0 m 0 ls []) from hgo _ _ hP hD hS
  intro H locs hP hD hS
  refine lv_aload_n hx hb dX9_becomePlain_0 rfl (lv_at hl 0 rfl) ?_
  refine lv_ldc (v := 65536) hx hb hown (hu _ kw_23) dX9_becomePlain_1 ?_
  refine va_put (D := (dC, dI)) (ci := 8) (v := .int 65536) (ty := .int) (C := RX9) (T := TX9) (N := 6) hx hb hu inX9 tyX9 tyX9_ok nmX9 hown hK hP hD hS 0 rfl rfl 0 (by decide) (hu _ kw_24) (fun _ h9 => h9) rfl (by decide +kernel) rfl rfl (Nat.le_of_ble_eq_true rfl) dX9_becomePlain_3 (fun H locs hP hD hS => ?_)
  have hP : va_P (dC, dI) vwCl [(h0, .inr (8, [.int 65536, .int v0_b, .int v0_c, .int v0_d, .int v0_e, .int v0_f]))] H := hP
  have hD : va_D A [(h0, .inr (8, [.int 65536, .int v0_b, .int v0_c, .int v0_d, .int v0_e, .int v0_f]))] := hD
  refine lv_aload_n hx hb dX9_becomePlain_6 rfl (lv_at hl 0 rfl) ?_
  refine lv_iconst (v := 0) hx hb dX9_becomePlain_7 (by decide) ?_
  refine va_put (D := (dC, dI)) (ci := 8) (v := .int 0) (ty := .int) (C := RX9) (T := TX9) (N := 6) hx hb hu inX9 tyX9 tyX9_ok nmX9 hown hK hP hD hS 0 rfl rfl 1 (by decide) (hu _ kw_25) (fun _ h9 => h9) rfl (by decide +kernel) rfl rfl (Nat.le_of_ble_eq_true rfl) dX9_becomePlain_8 (fun H locs hP hD hS => ?_)
  have hP : va_P (dC, dI) vwCl [(h0, .inr (8, [.int 65536, .int 0, .int v0_c, .int v0_d, .int v0_e, .int v0_f]))] H := hP
  have hD : va_D A [(h0, .inr (8, [.int 65536, .int 0, .int v0_c, .int v0_d, .int v0_e, .int v0_f]))] := hD
  refine lv_aload_n hx hb dX9_becomePlain_11 rfl (lv_at hl 0 rfl) ?_
  refine lv_iconst (v := 0) hx hb dX9_becomePlain_12 (by decide) ?_
  refine va_put (D := (dC, dI)) (ci := 8) (v := .int 0) (ty := .int) (C := RX9) (T := TX9) (N := 6) hx hb hu inX9 tyX9 tyX9_ok nmX9 hown hK hP hD hS 0 rfl rfl 2 (by decide) (hu _ kw_26) (fun _ h9 => h9) rfl (by decide +kernel) rfl rfl (Nat.le_of_ble_eq_true rfl) dX9_becomePlain_13 (fun H locs hP hD hS => ?_)
  have hP : va_P (dC, dI) vwCl [(h0, .inr (8, [.int 65536, .int 0, .int 0, .int v0_d, .int v0_e, .int v0_f]))] H := hP
  have hD : va_D A [(h0, .inr (8, [.int 65536, .int 0, .int 0, .int v0_d, .int v0_e, .int v0_f]))] := hD
  refine lv_aload_n hx hb dX9_becomePlain_16 rfl (lv_at hl 0 rfl) ?_
  refine lv_ldc (v := 65536) hx hb hown (hu _ kw_23) dX9_becomePlain_17 ?_
  refine va_put (D := (dC, dI)) (ci := 8) (v := .int 65536) (ty := .int) (C := RX9) (T := TX9) (N := 6) hx hb hu inX9 tyX9 tyX9_ok nmX9 hown hK hP hD hS 0 rfl rfl 3 (by decide) (hu _ kw_27) (fun _ h9 => h9) rfl (by decide +kernel) rfl rfl (Nat.le_of_ble_eq_true rfl) dX9_becomePlain_19 (fun H locs hP hD hS => ?_)
  have hP : va_P (dC, dI) vwCl [(h0, .inr (8, [.int 65536, .int 0, .int 0, .int 65536, .int v0_e, .int v0_f]))] H := hP
  have hD : va_D A [(h0, .inr (8, [.int 65536, .int 0, .int 0, .int 65536, .int v0_e, .int v0_f]))] := hD
  refine lv_aload_n hx hb dX9_becomePlain_22 rfl (lv_at hl 0 rfl) ?_
  refine lv_iconst (v := 0) hx hb dX9_becomePlain_23 (by decide) ?_
  refine va_put (D := (dC, dI)) (ci := 8) (v := .int 0) (ty := .int) (C := RX9) (T := TX9) (N := 6) hx hb hu inX9 tyX9 tyX9_ok nmX9 hown hK hP hD hS 0 rfl rfl 4 (by decide) (hu _ kw_28) (fun _ h9 => h9) rfl (by decide +kernel) rfl rfl (Nat.le_of_ble_eq_true rfl) dX9_becomePlain_24 (fun H locs hP hD hS => ?_)
  have hP : va_P (dC, dI) vwCl [(h0, .inr (8, [.int 65536, .int 0, .int 0, .int 65536, .int 0, .int v0_f]))] H := hP
  have hD : va_D A [(h0, .inr (8, [.int 65536, .int 0, .int 0, .int 65536, .int 0, .int v0_f]))] := hD
  refine lv_aload_n hx hb dX9_becomePlain_27 rfl (lv_at hl 0 rfl) ?_
  refine lv_iconst (v := 0) hx hb dX9_becomePlain_28 (by decide) ?_
  refine va_put (D := (dC, dI)) (ci := 8) (v := .int 0) (ty := .int) (C := RX9) (T := TX9) (N := 6) hx hb hu inX9 tyX9 tyX9_ok nmX9 hown hK hP hD hS 0 rfl rfl 5 (by decide) (hu _ kw_29) (fun _ h9 => h9) rfl (by decide +kernel) rfl rfl (Nat.le_of_ble_eq_true rfl) dX9_becomePlain_29 (fun H locs hP hD hS => ?_)
  have hP : va_P (dC, dI) vwCl [(h0, .inr (8, [.int 65536, .int 0, .int 0, .int 65536, .int 0, .int 0]))] H := hP
  have hD : va_D A [(h0, .inr (8, [.int 65536, .int 0, .int 0, .int 65536, .int 0, .int 0]))] := hD
  have h9 := Option.some.inj hM
  subst h9
  exact W.vret hx hb hr (fun t ht hW => QMv_mk (by rw [ht]; exact hP) (va_K.moved hW.alike hK) hD (hS.F ht)) hS.2.2 dX9_becomePlain_32
theorem dX9_copyFrom_0 : decode cX9_copyFrom 0 = .ok (.aload_n 0, 1) := by decide +kernel
theorem dX9_copyFrom_1 : decode cX9_copyFrom 1 = .ok (.aload_n 1, 1) := by decide +kernel
theorem dX9_copyFrom_2 : decode cX9_copyFrom 2 = .ok (.getfield 10, 3) := by decide +kernel
theorem dX9_copyFrom_5 : decode cX9_copyFrom 5 = .ok (.putfield 10, 3) := by decide +kernel
theorem dX9_copyFrom_8 : decode cX9_copyFrom 8 = .ok (.aload_n 0, 1) := by decide +kernel
theorem dX9_copyFrom_9 : decode cX9_copyFrom 9 = .ok (.aload_n 1, 1) := by decide +kernel
theorem dX9_copyFrom_10 : decode cX9_copyFrom 10 = .ok (.getfield 16, 3) := by decide +kernel
theorem dX9_copyFrom_13 : decode cX9_copyFrom 13 = .ok (.putfield 16, 3) := by decide +kernel
theorem dX9_copyFrom_16 : decode cX9_copyFrom 16 = .ok (.aload_n 0, 1) := by decide +kernel
theorem dX9_copyFrom_17 : decode cX9_copyFrom 17 = .ok (.aload_n 1, 1) := by decide +kernel
theorem dX9_copyFrom_18 : decode cX9_copyFrom 18 = .ok (.getfield 19, 3) := by decide +kernel
theorem dX9_copyFrom_21 : decode cX9_copyFrom 21 = .ok (.putfield 19, 3) := by decide +kernel
theorem dX9_copyFrom_24 : decode cX9_copyFrom 24 = .ok (.aload_n 0, 1) := by decide +kernel
theorem dX9_copyFrom_25 : decode cX9_copyFrom 25 = .ok (.aload_n 1, 1) := by decide +kernel
theorem dX9_copyFrom_26 : decode cX9_copyFrom 26 = .ok (.getfield 22, 3) := by decide +kernel
theorem dX9_copyFrom_29 : decode cX9_copyFrom 29 = .ok (.putfield 22, 3) := by decide +kernel
theorem dX9_copyFrom_32 : decode cX9_copyFrom 32 = .ok (.aload_n 0, 1) := by decide +kernel
theorem dX9_copyFrom_33 : decode cX9_copyFrom 33 = .ok (.aload_n 1, 1) := by decide +kernel
theorem dX9_copyFrom_34 : decode cX9_copyFrom 34 = .ok (.getfield 25, 3) := by decide +kernel
theorem dX9_copyFrom_37 : decode cX9_copyFrom 37 = .ok (.putfield 25, 3) := by decide +kernel
theorem dX9_copyFrom_40 : decode cX9_copyFrom 40 = .ok (.aload_n 0, 1) := by decide +kernel
theorem dX9_copyFrom_41 : decode cX9_copyFrom 41 = .ok (.aload_n 1, 1) := by decide +kernel
theorem dX9_copyFrom_42 : decode cX9_copyFrom 42 = .ok (.getfield 28, 3) := by decide +kernel
theorem dX9_copyFrom_45 : decode cX9_copyFrom 45 = .ok (.putfield 28, 3) := by decide +kernel
theorem dX9_copyFrom_48 : decode cX9_copyFrom 48 = .ok (.return_, 1) := by decide +kernel
abbrev rm_X9_copyFrom : Room := { frames := 0, cells := 0, slots := 0, locals := 0 }
def w_X9_copyFrom : List Cond := Cond.code yX9_copyFrom cX9_copyFrom 2 none :: uw
set_option maxHeartbeats 4000000 in
set_option maxRecDepth 100000 in
theorem c_X9_copyFrom (l : Launch) (dC : Nat → ClassId) (dI : Nat → Nat → Nat) (cI cZ cO : ClassId) (tL sz : Nat) (h0 : Nat) (h1 : Nat) (v0_a : Int32) (v0_b : Int32) (v0_c : Int32) (v0_d : Int32) (v0_e : Int32) (v0_f : Int32) (v1_a : Int32) (v1_b : Int32) (v1_c : Int32) (v1_d : Int32) (v1_e : Int32) (v1_f : Int32) (res : Int32 × Int32 × Int32 × Int32 × Int32 × Int32) (hM : m_X9_copyFrom v0_a v0_b v0_c v0_d v0_e v0_f v1_a v1_b v1_c v1_d v1_e v1_f = some res) : Met l yX9_copyFrom w_X9_copyFrom rm_X9_copyFrom (PCx [.ref h1, .ref h0] (dC, dI) [(cI, .int), (cZ, .boolean), (cO, .object "ListPainter$Settings")] sz tL [(h0, .inr (8, [.int v0_a, .int v0_b, .int v0_c, .int v0_d, .int v0_e, .int v0_f])), (h1, .inr (8, [.int v1_a, .int v1_b, .int v1_c, .int v1_d, .int v1_e, .int v1_f]))]) (QMv (dC, dI) [(cI, .int), (cZ, .boolean), (cO, .object "ListPainter$Settings")] (va_A [(h0, .inr (8, [.int v0_a, .int v0_b, .int v0_c, .int v0_d, .int v0_e, .int v0_f])), (h1, .inr (8, [.int v1_a, .int v1_b, .int v1_c, .int v1_d, .int v1_e, .int v1_f]))] sz) [(h0, .inr (8, [.int v0_a, .int v0_b, .int v0_c, .int v0_d, .int v0_e, .int v0_f])), (h1, .inr (8, [.int (res.1), .int (res.2.1), .int (res.2.2.1), .int (res.2.2.2.1), .int (res.2.2.2.2.1), .int (res.2.2.2.2.2)]))]) 0 0 (va_A [(h0, .inr (8, [.int v0_a, .int v0_b, .int v0_c, .int v0_d, .int v0_e, .int v0_f])), (h1, .inr (8, [.int v1_a, .int v1_b, .int v1_c, .int v1_d, .int v1_e, .int v1_f]))] sz) := by
  refine Met.ofW (cc := cX9_copyFrom) (maxL := 2) (ret := none) (by decide) rfl ?_
  intro p e s m args below meth c s₁ B hml hv
  obtain ⟨rfl, hsz, hP, hK, hD0, hG⟩ := hv
  have hx := B.exec
  have hb := B.bytes
  have hr := B.returns
  have hu : ∀ w ∈ uw, w.before ([.ref h1, .ref h0] : List Value).toArray s = true := fun w h => atoms_spec (ws := w_X9_copyFrom) B.pre w (List.mem_cons_of_mem _ h)
  have hown : s.vm.findClass RX9 = some m.cls := findClass_of_methodNamed B.named
  have hlocks := B.notSynchronized
  subst hsz
  have hD := hD0.self (sz := s.heap.size)
  generalize hAe : va_A [(h0, .inr (8, [.int v0_a, .int v0_b, .int v0_c, .int v0_d, .int v0_e, .int v0_f])), (h1, .inr (8, [.int v1_a, .int v1_b, .int v1_c, .int v1_d, .int v1_e, .int v1_f]))] s.heap.size = A at hD hG ⊢
  have hA : ∀ q : Nat, s.heap.size ≤ q → A q := fun q h => by rw [← hAe]; exact Or.inr h
  have hS : va_S A s.heap s.heap [] := va_S.rf
  have hP : va_P (dC, dI) vwCl [(h0, .inr (8, [.int v0_a, .int v0_b, .int v0_c, .int v0_d, .int v0_e, .int v0_f])), (h1, .inr (8, [.int v1_a, .int v1_b, .int v1_c, .int v1_d, .int v1_e, .int v1_f]))] s.heap := hP
  have hl := lv_entry ([.ref h1, .ref h0]) (n := 2) (Nat.le_of_ble_eq_true rfl)
  rw [lg_entry_eq]
  generalize (lg_sl ([.ref h1, .ref h0]) ++ List.replicate (2 - (lg_sl ([.ref h1, .ref h0])).length) Slot.unset).toArray = ls at hl ⊢
  have hl : lv_has ls 2 [(0, .ref h1), (1, .ref h0)] := hl
  rw [m_X9_copyFrom] at hM
  suffices hgo : ∀ (H : Heap) (locs : List Loc), va_P (dC, dI) vwCl [(h0, .inr (8, [.int v0_a, .int v0_b, .int v0_c, .int v0_d, .int v0_e, .int v0_f])), (h1, .inr (8, [.int v1_a, .int v1_b, .int v1_c, .int v1_d, .int v1_e, .int v1_f]))] H → va_D A [(h0, .inr (8, [.int v0_a, .int v0_b, .int v0_c, .int v0_d, .int v0_e, .int v0_f])), (h1, .inr (8, [.int v1_a, .int v1_b, .int v1_c, .int v1_d, .int v1_e, .int v1_f]))] → va_S A s.heap H locs → W p l e (headSpec w_X9_copyFrom rm_X9_copyFrom).room s m ([.ref h1, .ref h0] : List Value).toArray below meth c H locs 0 0 (MQ below (QMv (dC, dI) [(cI, .int), (cZ, .boolean), (cO, .object "ListPainter$Settings")] A [(h0, .inr (8, [.int v0_a, .int v0_b, .int v0_c, .int v0_d, .int v0_e, .int v0_f])), (h1, .inr (8, [.int (res.1), .int (res.2.1), .int (res.2.2.1), .int (res.2.2.2.1), .int (res.2.2.2.2.1), .int (res.2.2.2.2.2)]))]) ([.ref h1, .ref h0] : List Value).toArray s 0 0 A) (F0 m 0 ls []) from hgo _ _ hP hD hS
  intro H locs hP hD hS
  refine lv_aload_n hx hb dX9_copyFrom_0 rfl (lv_at hl 0 rfl) ?_
  refine lv_aload_n hx hb dX9_copyFrom_1 rfl (lv_at hl 1 rfl) ?_
  refine va_get (D := (dC, dI)) (ci := 8) (v := .int v0_a) (C := RX9) (T := TX9) (N := 6) hx hb hu inX9 hown hK hP 0 rfl rfl 0 (by decide) (hu _ kw_24) (fun _ h9 => h9) rfl dX9_copyFrom_2 ?_
  refine va_put (D := (dC, dI)) (ci := 8) (v := .int v0_a) (ty := .int) (C := RX9) (T := TX9) (N := 6) hx hb hu inX9 tyX9 tyX9_ok nmX9 hown hK hP hD hS 1 rfl rfl 0 (by decide) (hu _ kw_24) (fun _ h9 => h9) rfl (by decide +kernel) rfl rfl (Nat.le_of_ble_eq_true rfl) dX9_copyFrom_5 (fun H locs hP hD hS => ?_)
  have hP : va_P (dC, dI) vwCl [(h0, .inr (8, [.int v0_a, .int v0_b, .int v0_c, .int v0_d, .int v0_e, .int v0_f])), (h1, .inr (8, [.int v0_a, .int v1_b, .int v1_c, .int v1_d, .int v1_e, .int v1_f]))] H := hP
  have hD : va_D A [(h0, .inr (8, [.int v0_a, .int v0_b, .int v0_c, .int v0_d, .int v0_e, .int v0_f])), (h1, .inr (8, [.int v0_a, .int v1_b, .int v1_c, .int v1_d, .int v1_e, .int v1_f]))] := hD
  refine lv_aload_n hx hb dX9_copyFrom_8 rfl (lv_at hl 0 rfl) ?_
  refine lv_aload_n hx hb dX9_copyFrom_9 rfl (lv_at hl 1 rfl) ?_
  refine va_get (D := (dC, dI)) (ci := 8) (v := .int v0_b) (C := RX9) (T := TX9) (N := 6) hx hb hu inX9 hown hK hP 0 rfl rfl 1 (by decide) (hu _ kw_25) (fun _ h9 => h9) rfl dX9_copyFrom_10 ?_
  refine va_put (D := (dC, dI)) (ci := 8) (v := .int v0_b) (ty := .int) (C := RX9) (T := TX9) (N := 6) hx hb hu inX9 tyX9 tyX9_ok nmX9 hown hK hP hD hS 1 rfl rfl 1 (by decide) (hu _ kw_25) (fun _ h9 => h9) rfl (by decide +kernel) rfl rfl (Nat.le_of_ble_eq_true rfl) dX9_copyFrom_13 (fun H locs hP hD hS => ?_)
  have hP : va_P (dC, dI) vwCl [(h0, .inr (8, [.int v0_a, .int v0_b, .int v0_c, .int v0_d, .int v0_e, .int v0_f])), (h1, .inr (8, [.int v0_a, .int v0_b, .int v1_c, .int v1_d, .int v1_e, .int v1_f]))] H := hP
  have hD : va_D A [(h0, .inr (8, [.int v0_a, .int v0_b, .int v0_c, .int v0_d, .int v0_e, .int v0_f])), (h1, .inr (8, [.int v0_a, .int v0_b, .int v1_c, .int v1_d, .int v1_e, .int v1_f]))] := hD
  refine lv_aload_n hx hb dX9_copyFrom_16 rfl (lv_at hl 0 rfl) ?_
  refine lv_aload_n hx hb dX9_copyFrom_17 rfl (lv_at hl 1 rfl) ?_
  refine va_get (D := (dC, dI)) (ci := 8) (v := .int v0_c) (C := RX9) (T := TX9) (N := 6) hx hb hu inX9 hown hK hP 0 rfl rfl 2 (by decide) (hu _ kw_26) (fun _ h9 => h9) rfl dX9_copyFrom_18 ?_
  refine va_put (D := (dC, dI)) (ci := 8) (v := .int v0_c) (ty := .int) (C := RX9) (T := TX9) (N := 6) hx hb hu inX9 tyX9 tyX9_ok nmX9 hown hK hP hD hS 1 rfl rfl 2 (by decide) (hu _ kw_26) (fun _ h9 => h9) rfl (by decide +kernel) rfl rfl (Nat.le_of_ble_eq_true rfl) dX9_copyFrom_21 (fun H locs hP hD hS => ?_)
  have hP : va_P (dC, dI) vwCl [(h0, .inr (8, [.int v0_a, .int v0_b, .int v0_c, .int v0_d, .int v0_e, .int v0_f])), (h1, .inr (8, [.int v0_a, .int v0_b, .int v0_c, .int v1_d, .int v1_e, .int v1_f]))] H := hP
  have hD : va_D A [(h0, .inr (8, [.int v0_a, .int v0_b, .int v0_c, .int v0_d, .int v0_e, .int v0_f])), (h1, .inr (8, [.int v0_a, .int v0_b, .int v0_c, .int v1_d, .int v1_e, .int v1_f]))] := hD
  refine lv_aload_n hx hb dX9_copyFrom_24 rfl (lv_at hl 0 rfl) ?_
  refine lv_aload_n hx hb dX9_copyFrom_25 rfl (lv_at hl 1 rfl) ?_
  refine va_get (D := (dC, dI)) (ci := 8) (v := .int v0_d) (C := RX9) (T := TX9) (N := 6) hx hb hu inX9 hown hK hP 0 rfl rfl 3 (by decide) (hu _ kw_27) (fun _ h9 => h9) rfl dX9_copyFrom_26 ?_
  refine va_put (D := (dC, dI)) (ci := 8) (v := .int v0_d) (ty := .int) (C := RX9) (T := TX9) (N := 6) hx hb hu inX9 tyX9 tyX9_ok nmX9 hown hK hP hD hS 1 rfl rfl 3 (by decide) (hu _ kw_27) (fun _ h9 => h9) rfl (by decide +kernel) rfl rfl (Nat.le_of_ble_eq_true rfl) dX9_copyFrom_29 (fun H locs hP hD hS => ?_)
  have hP : va_P (dC, dI) vwCl [(h0, .inr (8, [.int v0_a, .int v0_b, .int v0_c, .int v0_d, .int v0_e, .int v0_f])), (h1, .inr (8, [.int v0_a, .int v0_b, .int v0_c, .int v0_d, .int v1_e, .int v1_f]))] H := hP
  have hD : va_D A [(h0, .inr (8, [.int v0_a, .int v0_b, .int v0_c, .int v0_d, .int v0_e, .int v0_f])), (h1, .inr (8, [.int v0_a, .int v0_b, .int v0_c, .int v0_d, .int v1_e, .int v1_f]))] := hD
  refine lv_aload_n hx hb dX9_copyFrom_32 rfl (lv_at hl 0 rfl) ?_
  refine lv_aload_n hx hb dX9_copyFrom_33 rfl (lv_at hl 1 rfl) ?_
  refine va_get (D := (dC, dI)) (ci := 8) (v := .int v0_e) (C := RX9) (T := TX9) (N := 6) hx hb hu inX9 hown hK hP 0 rfl rfl 4 (by decide) (hu _ kw_28) (fun _ h9 => h9) rfl dX9_copyFrom_34 ?_
  refine va_put (D := (dC, dI)) (ci := 8) (v := .int v0_e) (ty := .int) (C := RX9) (T := TX9) (N := 6) hx hb hu inX9 tyX9 tyX9_ok nmX9 hown hK hP hD hS 1 rfl rfl 4 (by decide) (hu _ kw_28) (fun _ h9 => h9) rfl (by decide +kernel) rfl rfl (Nat.le_of_ble_eq_true rfl) dX9_copyFrom_37 (fun H locs hP hD hS => ?_)
  have hP : va_P (dC, dI) vwCl [(h0, .inr (8, [.int v0_a, .int v0_b, .int v0_c, .int v0_d, .int v0_e, .int v0_f])), (h1, .inr (8, [.int v0_a, .int v0_b, .int v0_c, .int v0_d, .int v0_e, .int v1_f]))] H := hP
  have hD : va_D A [(h0, .inr (8, [.int v0_a, .int v0_b, .int v0_c, .int v0_d, .int v0_e, .int v0_f])), (h1, .inr (8, [.int v0_a, .int v0_b, .int v0_c, .int v0_d, .int v0_e, .int v1_f]))] := hD
  refine lv_aload_n hx hb dX9_copyFrom_40 rfl (lv_at hl 0 rfl) ?_
  refine lv_aload_n hx hb dX9_copyFrom_41 rfl (lv_at hl 1 rfl) ?_
  refine va_get (D := (dC, dI)) (ci := 8) (v := .int v0_f) (C := RX9) (T := TX9) (N := 6) hx hb hu inX9 hown hK hP 0 rfl rfl 5 (by decide) (hu _ kw_29) (fun _ h9 => h9) rfl dX9_copyFrom_42 ?_
  refine va_put (D := (dC, dI)) (ci := 8) (v := .int v0_f) (ty := .int) (C := RX9) (T := TX9) (N := 6) hx hb hu inX9 tyX9 tyX9_ok nmX9 hown hK hP hD hS 1 rfl rfl 5 (by decide) (hu _ kw_29) (fun _ h9 => h9) rfl (by decide +kernel) rfl rfl (Nat.le_of_ble_eq_true rfl) dX9_copyFrom_45 (fun H locs hP hD hS => ?_)
  have hP : va_P (dC, dI) vwCl [(h0, .inr (8, [.int v0_a, .int v0_b, .int v0_c, .int v0_d, .int v0_e, .int v0_f])), (h1, .inr (8, [.int v0_a, .int v0_b, .int v0_c, .int v0_d, .int v0_e, .int v0_f]))] H := hP
  have hD : va_D A [(h0, .inr (8, [.int v0_a, .int v0_b, .int v0_c, .int v0_d, .int v0_e, .int v0_f])), (h1, .inr (8, [.int v0_a, .int v0_b, .int v0_c, .int v0_d, .int v0_e, .int v0_f]))] := hD
  have h9 := Option.some.inj hM
  subst h9
  exact W.vret hx hb hr (fun t ht hW => QMv_mk (by rw [ht]; exact hP) (va_K.moved hW.alike hK) hD (hS.F ht)) hS.2.2 dX9_copyFrom_48
theorem dX9_readFrom_0 : decode cX9_readFrom 0 = .ok (.aload_n 0, 1) := by decide +kernel
theorem dX9_readFrom_1 : decode cX9_readFrom 1 = .ok (.aload_n 1, 1) := by decide +kernel
theorem dX9_readFrom_2 : decode cX9_readFrom 2 = .ok (.iload_n 2, 1) := by decide +kernel
theorem dX9_readFrom_3 : decode cX9_readFrom 3 = .ok (.iconst 1, 1) := by decide +kernel
theorem dX9_readFrom_4 : decode cX9_readFrom 4 = .ok (.iadd, 1) := by decide +kernel
theorem dX9_readFrom_5 : decode cX9_readFrom 5 = .ok (.invokevirtual 31, 3) := by decide +kernel
theorem dX9_readFrom_8 : decode cX9_readFrom 8 = .ok (.putfield 10, 3) := by decide +kernel
theorem dX9_readFrom_11 : decode cX9_readFrom 11 = .ok (.aload_n 0, 1) := by decide +kernel
theorem dX9_readFrom_12 : decode cX9_readFrom 12 = .ok (.aload_n 1, 1) := by decide +kernel
theorem dX9_readFrom_13 : decode cX9_readFrom 13 = .ok (.iload_n 2, 1) := by decide +kernel
theorem dX9_readFrom_14 : decode cX9_readFrom 14 = .ok (.iconst 2, 1) := by decide +kernel
theorem dX9_readFrom_15 : decode cX9_readFrom 15 = .ok (.iadd, 1) := by decide +kernel
theorem dX9_readFrom_16 : decode cX9_readFrom 16 = .ok (.invokevirtual 31, 3) := by decide +kernel
theorem dX9_readFrom_19 : decode cX9_readFrom 19 = .ok (.putfield 16, 3) := by decide +kernel
theorem dX9_readFrom_22 : decode cX9_readFrom 22 = .ok (.aload_n 0, 1) := by decide +kernel
theorem dX9_readFrom_23 : decode cX9_readFrom 23 = .ok (.aload_n 1, 1) := by decide +kernel
theorem dX9_readFrom_24 : decode cX9_readFrom 24 = .ok (.iload_n 2, 1) := by decide +kernel
theorem dX9_readFrom_25 : decode cX9_readFrom 25 = .ok (.iconst 3, 1) := by decide +kernel
theorem dX9_readFrom_26 : decode cX9_readFrom 26 = .ok (.iadd, 1) := by decide +kernel
theorem dX9_readFrom_27 : decode cX9_readFrom 27 = .ok (.invokevirtual 31, 3) := by decide +kernel
theorem dX9_readFrom_30 : decode cX9_readFrom 30 = .ok (.putfield 19, 3) := by decide +kernel
theorem dX9_readFrom_33 : decode cX9_readFrom 33 = .ok (.aload_n 0, 1) := by decide +kernel
theorem dX9_readFrom_34 : decode cX9_readFrom 34 = .ok (.aload_n 1, 1) := by decide +kernel
theorem dX9_readFrom_35 : decode cX9_readFrom 35 = .ok (.iload_n 2, 1) := by decide +kernel
theorem dX9_readFrom_36 : decode cX9_readFrom 36 = .ok (.iconst 4, 1) := by decide +kernel
theorem dX9_readFrom_37 : decode cX9_readFrom 37 = .ok (.iadd, 1) := by decide +kernel
theorem dX9_readFrom_38 : decode cX9_readFrom 38 = .ok (.invokevirtual 31, 3) := by decide +kernel
theorem dX9_readFrom_41 : decode cX9_readFrom 41 = .ok (.putfield 22, 3) := by decide +kernel
theorem dX9_readFrom_44 : decode cX9_readFrom 44 = .ok (.aload_n 0, 1) := by decide +kernel
theorem dX9_readFrom_45 : decode cX9_readFrom 45 = .ok (.aload_n 1, 1) := by decide +kernel
theorem dX9_readFrom_46 : decode cX9_readFrom 46 = .ok (.iload_n 2, 1) := by decide +kernel
theorem dX9_readFrom_47 : decode cX9_readFrom 47 = .ok (.iconst 5, 1) := by decide +kernel
theorem dX9_readFrom_48 : decode cX9_readFrom 48 = .ok (.iadd, 1) := by decide +kernel
theorem dX9_readFrom_49 : decode cX9_readFrom 49 = .ok (.invokevirtual 31, 3) := by decide +kernel
theorem dX9_readFrom_52 : decode cX9_readFrom 52 = .ok (.putfield 25, 3) := by decide +kernel
theorem dX9_readFrom_55 : decode cX9_readFrom 55 = .ok (.aload_n 0, 1) := by decide +kernel
theorem dX9_readFrom_56 : decode cX9_readFrom 56 = .ok (.aload_n 1, 1) := by decide +kernel
theorem dX9_readFrom_57 : decode cX9_readFrom 57 = .ok (.iload_n 2, 1) := by decide +kernel
theorem dX9_readFrom_58 : decode cX9_readFrom 58 = .ok (.bipush 6, 2) := by decide +kernel
theorem dX9_readFrom_60 : decode cX9_readFrom 60 = .ok (.iadd, 1) := by decide +kernel
theorem dX9_readFrom_61 : decode cX9_readFrom 61 = .ok (.invokevirtual 31, 3) := by decide +kernel
theorem dX9_readFrom_64 : decode cX9_readFrom 64 = .ok (.putfield 28, 3) := by decide +kernel
theorem dX9_readFrom_67 : decode cX9_readFrom 67 = .ok (.return_, 1) := by decide +kernel
abbrev rm_X9_readFrom : Room := { frames := 1, cells := 0, slots := 0, locals := 21 }
def w_X9_readFrom : List Cond := Cond.code yX9_readFrom cX9_readFrom 3 none :: uw
set_option maxHeartbeats 4000000 in
set_option maxRecDepth 100000 in
theorem c_X9_readFrom (l : Launch) (dC : Nat → ClassId) (dI : Nat → Nat → Nat) (cI cZ cO : ClassId) (tL sz : Nat) (h0 : Nat) (h1 : Nat) (h2 : Nat) (v0_count : Int32) (f1 : Nat → Int32) (v2_a : Int32) (v2_b : Int32) (v2_c : Int32) (v2_d : Int32) (v2_e : Int32) (v2_f : Int32) (p2 : Int32) (res : Int32 × Int32 × Int32 × Int32 × Int32 × Int32) (hM : m_X9_readFrom v0_count f1 v2_a v2_b v2_c v2_d v2_e v2_f p2 = some res) : Met l yX9_readFrom w_X9_readFrom rm_X9_readFrom (PCx [.ref h2, .ref h0, .int p2] (dC, dI) [(cI, .int), (cZ, .boolean), (cO, .object "ListPainter$Settings")] sz tL [(h0, .inr (9, [.ref h1, .int v0_count])), (h1, .inl (cI, 1500, .inl f1)), (h2, .inr (8, [.int v2_a, .int v2_b, .int v2_c, .int v2_d, .int v2_e, .int v2_f]))]) (QMv (dC, dI) [(cI, .int), (cZ, .boolean), (cO, .object "ListPainter$Settings")] (va_A [(h0, .inr (9, [.ref h1, .int v0_count])), (h1, .inl (cI, 1500, .inl f1)), (h2, .inr (8, [.int v2_a, .int v2_b, .int v2_c, .int v2_d, .int v2_e, .int v2_f]))] sz) [(h0, .inr (9, [.ref h1, .int v0_count])), (h1, .inl (cI, 1500, .inl f1)), (h2, .inr (8, [.int (res.1), .int (res.2.1), .int (res.2.2.1), .int (res.2.2.2.1), .int (res.2.2.2.2.1), .int (res.2.2.2.2.2)]))]) 0 0 (va_A [(h0, .inr (9, [.ref h1, .int v0_count])), (h1, .inl (cI, 1500, .inl f1)), (h2, .inr (8, [.int v2_a, .int v2_b, .int v2_c, .int v2_d, .int v2_e, .int v2_f]))] sz) := by
  refine Met.ofW (cc := cX9_readFrom) (maxL := 3) (ret := none) (by decide) rfl ?_
  intro p e s m args below meth c s₁ B hml hv
  obtain ⟨rfl, hsz, hP, hK, hD0, hG⟩ := hv
  have hx := B.exec
  have hb := B.bytes
  have hr := B.returns
  have hu : ∀ w ∈ uw, w.before ([.ref h2, .ref h0, .int p2] : List Value).toArray s = true := fun w h => atoms_spec (ws := w_X9_readFrom) B.pre w (List.mem_cons_of_mem _ h)
  have hown : s.vm.findClass RX9 = some m.cls := findClass_of_methodNamed B.named
  have hlocks := B.notSynchronized
  subst hsz
  have hD := hD0.self (sz := s.heap.size)
  generalize hAe : va_A [(h0, .inr (9, [.ref h1, .int v0_count])), (h1, .inl (cI, 1500, .inl f1)), (h2, .inr (8, [.int v2_a, .int v2_b, .int v2_c, .int v2_d, .int v2_e, .int v2_f]))] s.heap.size = A at hD hG ⊢
  have hA : ∀ q : Nat, s.heap.size ≤ q → A q := fun q h => by rw [← hAe]; exact Or.inr h
  have hS : va_S A s.heap s.heap [] := va_S.rf
  have hP : va_P (dC, dI) vwCl [(h0, .inr (9, [.ref h1, .int v0_count])), (h1, .inl (cI, 1500, .inl f1)), (h2, .inr (8, [.int v2_a, .int v2_b, .int v2_c, .int v2_d, .int v2_e, .int v2_f]))] s.heap := hP
  have hl := lv_entry ([.ref h2, .ref h0, .int p2]) (n := 3) (Nat.le_of_ble_eq_true rfl)
  rw [lg_entry_eq]
  generalize (lg_sl ([.ref h2, .ref h0, .int p2]) ++ List.replicate (3 - (lg_sl ([.ref h2, .ref h0, .int p2])).length) Slot.unset).toArray = ls at hl ⊢
  have hl : lv_has ls 3 [(0, .ref h2), (1, .ref h0), (2, .int p2)] := hl
  rw [m_X9_readFrom] at hM
  suffices hgo : ∀ (H : Heap) (locs : List Loc), va_P (dC, dI) vwCl [(h0, .inr (9, [.ref h1, .int v0_count])), (h1, .inl (cI, 1500, .inl f1)), (h2, .inr (8, [.int v2_a, .int v2_b, .int v2_c, .int v2_d, .int v2_e, .int v2_f]))] H → va_D A [(h0, .inr (9, [.ref h1, .int v0_count])), (h1, .inl (cI, 1500, .inl f1)), (h2, .inr (8, [.int v2_a, .int v2_b, .int v2_c, .int v2_d, .int v2_e, .int v2_f]))] → va_S A s.heap H locs → W p l e (headSpec w_X9_readFrom rm_X9_readFrom).room s m ([.ref h2, .ref h0, .int p2] : List Value).toArray below meth c H locs 0 0 (MQ below (QMv (dC, dI) [(cI, .int), (cZ, .boolean), (cO, .object "ListPainter$Settings")] A [(h0, .inr (9, [.ref h1, .int v0_count])), (h1, .inl (cI, 1500, .inl f1)), (h2, .inr (8, [.int (res.1), .int (res.2.1), .int (res.2.2.1), .int (res.2.2.2.1), .int (res.2.2.2.2.1), .int (res.2.2.2.2.2)]))]) ([.ref h2, .ref h0, .int p2] : List Value).toArray s 0 0 A) (F0 m 0 ls []) from hgo _ _ hP hD hS
  intro H locs hP hD hS
  refine lv_aload_n hx hb dX9_readFrom_0 rfl (lv_at hl 0 rfl) ?_
  refine lv_aload_n hx hb dX9_readFrom_1 rfl (lv_at hl 1 rfl) ?_
  refine lv_iload_n hx hb dX9_readFrom_2 rfl (lv_at hl 2 rfl) ?_
  refine lv_iconst (v := 1) hx hb dX9_readFrom_3 (by decide) ?_
  refine lv_iadd hx hb dX9_readFrom_4 ?_
  obtain ⟨r_1, hm_2, hM⟩ := bd1_u hM
  refine cVi (r := r_1) (As := [.int (p2 + 1)]) (rest := [.ref h2]) ⟨hx, hb, hml, hown, hu⟩ (c_X10_word l dC dI cI cZ cO tL H.size h0 h1 v0_count f1 (p2 + 1) r_1 hm_2) (cwV 1 hu (gV kw_30 kw_3 kw_4 kw_5 kw_6) rfl rfl rfl (by decide +kernel) ⟨Nat.le_of_ble_eq_true rfl, Nat.le_of_ble_eq_true rfl⟩) hP hD hS hA hK hG [0, 1] (by decide) rfl [some 0, some 1, none] 2 rfl (by decide +kernel) rfl 9 0 rfl rfl rfl rfl hl.1 rfl (Nat.le_of_ble_eq_true rfl) dX9_readFrom_5 (Nat.zero_le _) (Nat.zero_le _) (fun H locs hP hD hS => ?_)
  have hP : va_P (dC, dI) vwCl [(h0, .inr (9, [.ref h1, .int v0_count])), (h1, .inl (cI, 1500, .inl f1)), (h2, .inr (8, [.int v2_a, .int v2_b, .int v2_c, .int v2_d, .int v2_e, .int v2_f]))] H := hP
  have hD : va_D A [(h0, .inr (9, [.ref h1, .int v0_count])), (h1, .inl (cI, 1500, .inl f1)), (h2, .inr (8, [.int v2_a, .int v2_b, .int v2_c, .int v2_d, .int v2_e, .int v2_f]))] := hD
  refine va_put (D := (dC, dI)) (ci := 8) (v := .int r_1) (ty := .int) (C := RX9) (T := TX9) (N := 6) hx hb hu inX9 tyX9 tyX9_ok nmX9 hown hK hP hD hS 2 rfl rfl 0 (by decide) (hu _ kw_24) (fun _ h9 => h9) rfl (by decide +kernel) rfl rfl (Nat.le_of_ble_eq_true rfl) dX9_readFrom_8 (fun H locs hP hD hS => ?_)
  have hP : va_P (dC, dI) vwCl [(h0, .inr (9, [.ref h1, .int v0_count])), (h1, .inl (cI, 1500, .inl f1)), (h2, .inr (8, [.int r_1, .int v2_b, .int v2_c, .int v2_d, .int v2_e, .int v2_f]))] H := hP
  have hD : va_D A [(h0, .inr (9, [.ref h1, .int v0_count])), (h1, .inl (cI, 1500, .inl f1)), (h2, .inr (8, [.int r_1, .int v2_b, .int v2_c, .int v2_d, .int v2_e, .int v2_f]))] := hD
  refine lv_aload_n hx hb dX9_readFrom_11 rfl (lv_at hl 0 rfl) ?_
  refine lv_aload_n hx hb dX9_readFrom_12 rfl (lv_at hl 1 rfl) ?_
  refine lv_iload_n hx hb dX9_readFrom_13 rfl (lv_at hl 2 rfl) ?_
  refine lv_iconst (v := 2) hx hb dX9_readFrom_14 (by decide) ?_
  refine lv_iadd hx hb dX9_readFrom_15 ?_
  obtain ⟨r_3, hm_4, hM⟩ := bd1_u hM
  refine cVi (r := r_3) (As := [.int (p2 + 2)]) (rest := [.ref h2]) ⟨hx, hb, hml, hown, hu⟩ (c_X10_word l dC dI cI cZ cO tL H.size h0 h1 v0_count f1 (p2 + 2) r_3 hm_4) (cwV 1 hu (gV kw_30 kw_3 kw_4 kw_5 kw_6) rfl rfl rfl (by decide +kernel) ⟨Nat.le_of_ble_eq_true rfl, Nat.le_of_ble_eq_true rfl⟩) hP hD hS hA hK hG [0, 1] (by decide) rfl [some 0, some 1, none] 2 rfl (by decide +kernel) rfl 9 0 rfl rfl rfl rfl hl.1 rfl (Nat.le_of_ble_eq_true rfl) dX9_readFrom_16 (Nat.zero_le _) (Nat.zero_le _) (fun H locs hP hD hS => ?_)
  have hP : va_P (dC, dI) vwCl [(h0, .inr (9, [.ref h1, .int v0_count])), (h1, .inl (cI, 1500, .inl f1)), (h2, .inr (8, [.int r_1, .int v2_b, .int v2_c, .int v2_d, .int v2_e, .int v2_f]))] H := hP
  have hD : va_D A [(h0, .inr (9, [.ref h1, .int v0_count])), (h1, .inl (cI, 1500, .inl f1)), (h2, .inr (8, [.int r_1, .int v2_b, .int v2_c, .int v2_d, .int v2_e, .int v2_f]))] := hD
  refine va_put (D := (dC, dI)) (ci := 8) (v := .int r_3) (ty := .int) (C := RX9) (T := TX9) (N := 6) hx hb hu inX9 tyX9 tyX9_ok nmX9 hown hK hP hD hS 2 rfl rfl 1 (by decide) (hu _ kw_25) (fun _ h9 => h9) rfl (by decide +kernel) rfl rfl (Nat.le_of_ble_eq_true rfl) dX9_readFrom_19 (fun H locs hP hD hS => ?_)
  have hP : va_P (dC, dI) vwCl [(h0, .inr (9, [.ref h1, .int v0_count])), (h1, .inl (cI, 1500, .inl f1)), (h2, .inr (8, [.int r_1, .int r_3, .int v2_c, .int v2_d, .int v2_e, .int v2_f]))] H := hP
  have hD : va_D A [(h0, .inr (9, [.ref h1, .int v0_count])), (h1, .inl (cI, 1500, .inl f1)), (h2, .inr (8, [.int r_1, .int r_3, .int v2_c, .int v2_d, .int v2_e, .int v2_f]))] := hD
  refine lv_aload_n hx hb dX9_readFrom_22 rfl (lv_at hl 0 rfl) ?_
  refine lv_aload_n hx hb dX9_readFrom_23 rfl (lv_at hl 1 rfl) ?_
  refine lv_iload_n hx hb dX9_readFrom_24 rfl (lv_at hl 2 rfl) ?_
  refine lv_iconst (v := 3) hx hb dX9_readFrom_25 (by decide) ?_
  refine lv_iadd hx hb dX9_readFrom_26 ?_
  obtain ⟨r_5, hm_6, hM⟩ := bd1_u hM
  refine cVi (r := r_5) (As := [.int (p2 + 3)]) (rest := [.ref h2]) ⟨hx, hb, hml, hown, hu⟩ (c_X10_word l dC dI cI cZ cO tL H.size h0 h1 v0_count f1 (p2 + 3) r_5 hm_6) (cwV 1 hu (gV kw_30 kw_3 kw_4 kw_5 kw_6) rfl rfl rfl (by decide +kernel) ⟨Nat.le_of_ble_eq_true rfl, Nat.le_of_ble_eq_true rfl⟩) hP hD hS hA hK hG [0, 1] (by decide) rfl [some 0, some 1, none] 2 rfl (by decide +kernel) rfl 9 0 rfl rfl rfl rfl hl.1 rfl (Nat.le_of_ble_eq_true rfl) dX9_readFrom_27 (Nat.zero_le _) (Nat.zero_le _) (fun H locs hP hD hS => ?_)
  have hP : va_P (dC, dI) vwCl [(h0, .inr (9, [.ref h1, .int v0_count])), (h1, .inl (cI, 1500, .inl f1)), (h2, .inr (8, [.int r_1, .int r_3, .int v2_c, .int v2_d, .int v2_e, .int v2_f]))] H := hP
  have hD : va_D A [(h0, .inr (9, [.ref h1, .int v0_count])), (h1, .inl (cI, 1500, .inl f1)), (h2, .inr (8, [.int r_1, .int r_3, .int v2_c, .int v2_d, .int v2_e, .int v2_f]))] := hD
  refine va_put (D := (dC, dI)) (ci := 8) (v := .int r_5) (ty := .int) (C := RX9) (T := TX9) (N := 6) hx hb hu inX9 tyX9 tyX9_ok nmX9 hown hK hP hD hS 2 rfl rfl 2 (by decide) (hu _ kw_26) (fun _ h9 => h9) rfl (by decide +kernel) rfl rfl (Nat.le_of_ble_eq_true rfl) dX9_readFrom_30 (fun H locs hP hD hS => ?_)
  have hP : va_P (dC, dI) vwCl [(h0, .inr (9, [.ref h1, .int v0_count])), (h1, .inl (cI, 1500, .inl f1)), (h2, .inr (8, [.int r_1, .int r_3, .int r_5, .int v2_d, .int v2_e, .int v2_f]))] H := hP
  have hD : va_D A [(h0, .inr (9, [.ref h1, .int v0_count])), (h1, .inl (cI, 1500, .inl f1)), (h2, .inr (8, [.int r_1, .int r_3, .int r_5, .int v2_d, .int v2_e, .int v2_f]))] := hD
  refine lv_aload_n hx hb dX9_readFrom_33 rfl (lv_at hl 0 rfl) ?_
  refine lv_aload_n hx hb dX9_readFrom_34 rfl (lv_at hl 1 rfl) ?_
  refine lv_iload_n hx hb dX9_readFrom_35 rfl (lv_at hl 2 rfl) ?_
  refine lv_iconst (v := 4) hx hb dX9_readFrom_36 (by decide) ?_
  refine lv_iadd hx hb dX9_readFrom_37 ?_
  obtain ⟨r_7, hm_8, hM⟩ := bd1_u hM
  refine cVi (r := r_7) (As := [.int (p2 + 4)]) (rest := [.ref h2]) ⟨hx, hb, hml, hown, hu⟩ (c_X10_word l dC dI cI cZ cO tL H.size h0 h1 v0_count f1 (p2 + 4) r_7 hm_8) (cwV 1 hu (gV kw_30 kw_3 kw_4 kw_5 kw_6) rfl rfl rfl (by decide +kernel) ⟨Nat.le_of_ble_eq_true rfl, Nat.le_of_ble_eq_true rfl⟩) hP hD hS hA hK hG [0, 1] (by decide) rfl [some 0, some 1, none] 2 rfl (by decide +kernel) rfl 9 0 rfl rfl rfl rfl hl.1 rfl (Nat.le_of_ble_eq_true rfl) dX9_readFrom_38 (Nat.zero_le _) (Nat.zero_le _) (fun H locs hP hD hS => ?_)
  have hP : va_P (dC, dI) vwCl [(h0, .inr (9, [.ref h1, .int v0_count])), (h1, .inl (cI, 1500, .inl f1)), (h2, .inr (8, [.int r_1, .int r_3, .int r_5, .int v2_d, .int v2_e, .int v2_f]))] H := hP
  have hD : va_D A [(h0, .inr (9, [.ref h1, .int v0_count])), (h1, .inl (cI, 1500, .inl f1)), (h2, .inr (8, [.int r_1, .int r_3, .int r_5, .int v2_d, .int v2_e, .int v2_f]))] := hD
  refine va_put (D := (dC, dI)) (ci := 8) (v := .int r_7) (ty := .int) (C := RX9) (T := TX9) (N := 6) hx hb hu inX9 tyX9 tyX9_ok nmX9 hown hK hP hD hS 2 rfl rfl 3 (by decide) (hu _ kw_27) (fun _ h9 => h9) rfl (by decide +kernel) rfl rfl (Nat.le_of_ble_eq_true rfl) dX9_readFrom_41 (fun H locs hP hD hS => ?_)
  have hP : va_P (dC, dI) vwCl [(h0, .inr (9, [.ref h1, .int v0_count])), (h1, .inl (cI, 1500, .inl f1)), (h2, .inr (8, [.int r_1, .int r_3, .int r_5, .int r_7, .int v2_e, .int v2_f]))] H := hP
  have hD : va_D A [(h0, .inr (9, [.ref h1, .int v0_count])), (h1, .inl (cI, 1500, .inl f1)), (h2, .inr (8, [.int r_1, .int r_3, .int r_5, .int r_7, .int v2_e, .int v2_f]))] := hD
  refine lv_aload_n hx hb dX9_readFrom_44 rfl (lv_at hl 0 rfl) ?_
  refine lv_aload_n hx hb dX9_readFrom_45 rfl (lv_at hl 1 rfl) ?_
  refine lv_iload_n hx hb dX9_readFrom_46 rfl (lv_at hl 2 rfl) ?_
  refine lv_iconst (v := 5) hx hb dX9_readFrom_47 (by decide) ?_
  refine lv_iadd hx hb dX9_readFrom_48 ?_
  obtain ⟨r_9, hm_10, hM⟩ := bd1_u hM
  refine cVi (r := r_9) (As := [.int (p2 + 5)]) (rest := [.ref h2]) ⟨hx, hb, hml, hown, hu⟩ (c_X10_word l dC dI cI cZ cO tL H.size h0 h1 v0_count f1 (p2 + 5) r_9 hm_10) (cwV 1 hu (gV kw_30 kw_3 kw_4 kw_5 kw_6) rfl rfl rfl (by decide +kernel) ⟨Nat.le_of_ble_eq_true rfl, Nat.le_of_ble_eq_true rfl⟩) hP hD hS hA hK hG [0, 1] (by decide) rfl [some 0, some 1, none] 2 rfl (by decide +kernel) rfl 9 0 rfl rfl rfl rfl hl.1 rfl (Nat.le_of_ble_eq_true rfl) dX9_readFrom_49 (Nat.zero_le _) (Nat.zero_le _) (fun H locs hP hD hS => ?_)
  have hP : va_P (dC, dI) vwCl [(h0, .inr (9, [.ref h1, .int v0_count])), (h1, .inl (cI, 1500, .inl f1)), (h2, .inr (8, [.int r_1, .int r_3, .int r_5, .int r_7, .int v2_e, .int v2_f]))] H := hP
  have hD : va_D A [(h0, .inr (9, [.ref h1, .int v0_count])), (h1, .inl (cI, 1500, .inl f1)), (h2, .inr (8, [.int r_1, .int r_3, .int r_5, .int r_7, .int v2_e, .int v2_f]))] := hD
  refine va_put (D := (dC, dI)) (ci := 8) (v := .int r_9) (ty := .int) (C := RX9) (T := TX9) (N := 6) hx hb hu inX9 tyX9 tyX9_ok nmX9 hown hK hP hD hS 2 rfl rfl 4 (by decide) (hu _ kw_28) (fun _ h9 => h9) rfl (by decide +kernel) rfl rfl (Nat.le_of_ble_eq_true rfl) dX9_readFrom_52 (fun H locs hP hD hS => ?_)
  have hP : va_P (dC, dI) vwCl [(h0, .inr (9, [.ref h1, .int v0_count])), (h1, .inl (cI, 1500, .inl f1)), (h2, .inr (8, [.int r_1, .int r_3, .int r_5, .int r_7, .int r_9, .int v2_f]))] H := hP
  have hD : va_D A [(h0, .inr (9, [.ref h1, .int v0_count])), (h1, .inl (cI, 1500, .inl f1)), (h2, .inr (8, [.int r_1, .int r_3, .int r_5, .int r_7, .int r_9, .int v2_f]))] := hD
  refine lv_aload_n hx hb dX9_readFrom_55 rfl (lv_at hl 0 rfl) ?_
  refine lv_aload_n hx hb dX9_readFrom_56 rfl (lv_at hl 1 rfl) ?_
  refine lv_iload_n hx hb dX9_readFrom_57 rfl (lv_at hl 2 rfl) ?_
  refine lv_bipush (v := 6) hx hb dX9_readFrom_58 (by decide) ?_
  refine lv_iadd hx hb dX9_readFrom_60 ?_
  obtain ⟨r_11, hm_12, hM⟩ := bd1_u hM
  refine cVi (r := r_11) (As := [.int (p2 + 6)]) (rest := [.ref h2]) ⟨hx, hb, hml, hown, hu⟩ (c_X10_word l dC dI cI cZ cO tL H.size h0 h1 v0_count f1 (p2 + 6) r_11 hm_12) (cwV 1 hu (gV kw_30 kw_3 kw_4 kw_5 kw_6) rfl rfl rfl (by decide +kernel) ⟨Nat.le_of_ble_eq_true rfl, Nat.le_of_ble_eq_true rfl⟩) hP hD hS hA hK hG [0, 1] (by decide) rfl [some 0, some 1, none] 2 rfl (by decide +kernel) rfl 9 0 rfl rfl rfl rfl hl.1 rfl (Nat.le_of_ble_eq_true rfl) dX9_readFrom_61 (Nat.zero_le _) (Nat.zero_le _) (fun H locs hP hD hS => ?_)
  have hP : va_P (dC, dI) vwCl [(h0, .inr (9, [.ref h1, .int v0_count])), (h1, .inl (cI, 1500, .inl f1)), (h2, .inr (8, [.int r_1, .int r_3, .int r_5, .int r_7, .int r_9, .int v2_f]))] H := hP
  have hD : va_D A [(h0, .inr (9, [.ref h1, .int v0_count])), (h1, .inl (cI, 1500, .inl f1)), (h2, .inr (8, [.int r_1, .int r_3, .int r_5, .int r_7, .int r_9, .int v2_f]))] := hD
  refine va_put (D := (dC, dI)) (ci := 8) (v := .int r_11) (ty := .int) (C := RX9) (T := TX9) (N := 6) hx hb hu inX9 tyX9 tyX9_ok nmX9 hown hK hP hD hS 2 rfl rfl 5 (by decide) (hu _ kw_29) (fun _ h9 => h9) rfl (by decide +kernel) rfl rfl (Nat.le_of_ble_eq_true rfl) dX9_readFrom_64 (fun H locs hP hD hS => ?_)
  have hP : va_P (dC, dI) vwCl [(h0, .inr (9, [.ref h1, .int v0_count])), (h1, .inl (cI, 1500, .inl f1)), (h2, .inr (8, [.int r_1, .int r_3, .int r_5, .int r_7, .int r_9, .int r_11]))] H := hP
  have hD : va_D A [(h0, .inr (9, [.ref h1, .int v0_count])), (h1, .inl (cI, 1500, .inl f1)), (h2, .inr (8, [.int r_1, .int r_3, .int r_5, .int r_7, .int r_9, .int r_11]))] := hD
  have h9 := Option.some.inj hM
  subst h9
  exact W.vret hx hb hr (fun t ht hW => QMv_mk (by rw [ht]; exact hP) (va_K.moved hW.alike hK) hD (hS.F ht)) hS.2.2 dX9_readFrom_67
theorem dX9_writeTo_0 : decode cX9_writeTo 0 = .ok (.aload_n 1, 1) := by decide +kernel
theorem dX9_writeTo_1 : decode cX9_writeTo 1 = .ok (.iload_n 2, 1) := by decide +kernel
theorem dX9_writeTo_2 : decode cX9_writeTo 2 = .ok (.iconst 1, 1) := by decide +kernel
theorem dX9_writeTo_3 : decode cX9_writeTo 3 = .ok (.iadd, 1) := by decide +kernel
theorem dX9_writeTo_4 : decode cX9_writeTo 4 = .ok (.aload_n 0, 1) := by decide +kernel
theorem dX9_writeTo_5 : decode cX9_writeTo 5 = .ok (.getfield 10, 3) := by decide +kernel
theorem dX9_writeTo_8 : decode cX9_writeTo 8 = .ok (.invokevirtual 37, 3) := by decide +kernel
theorem dX9_writeTo_11 : decode cX9_writeTo 11 = .ok (.aload_n 1, 1) := by decide +kernel
theorem dX9_writeTo_12 : decode cX9_writeTo 12 = .ok (.iload_n 2, 1) := by decide +kernel
theorem dX9_writeTo_13 : decode cX9_writeTo 13 = .ok (.iconst 2, 1) := by decide +kernel
theorem dX9_writeTo_14 : decode cX9_writeTo 14 = .ok (.iadd, 1) := by decide +kernel
theorem dX9_writeTo_15 : decode cX9_writeTo 15 = .ok (.aload_n 0, 1) := by decide +kernel
theorem dX9_writeTo_16 : decode cX9_writeTo 16 = .ok (.getfield 16, 3) := by decide +kernel
theorem dX9_writeTo_19 : decode cX9_writeTo 19 = .ok (.invokevirtual 37, 3) := by decide +kernel
theorem dX9_writeTo_22 : decode cX9_writeTo 22 = .ok (.aload_n 1, 1) := by decide +kernel
theorem dX9_writeTo_23 : decode cX9_writeTo 23 = .ok (.iload_n 2, 1) := by decide +kernel
theorem dX9_writeTo_24 : decode cX9_writeTo 24 = .ok (.iconst 3, 1) := by decide +kernel
theorem dX9_writeTo_25 : decode cX9_writeTo 25 = .ok (.iadd, 1) := by decide +kernel
theorem dX9_writeTo_26 : decode cX9_writeTo 26 = .ok (.aload_n 0, 1) := by decide +kernel
theorem dX9_writeTo_27 : decode cX9_writeTo 27 = .ok (.getfield 19, 3) := by decide +kernel
theorem dX9_writeTo_30 : decode cX9_writeTo 30 = .ok (.invokevirtual 37, 3) := by decide +kernel
theorem dX9_writeTo_33 : decode cX9_writeTo 33 = .ok (.aload_n 1, 1) := by decide +kernel
theorem dX9_writeTo_34 : decode cX9_writeTo 34 = .ok (.iload_n 2, 1) := by decide +kernel
theorem dX9_writeTo_35 : decode cX9_writeTo 35 = .ok (.iconst 4, 1) := by decide +kernel
theorem dX9_writeTo_36 : decode cX9_writeTo 36 = .ok (.iadd, 1) := by decide +kernel
theorem dX9_writeTo_37 : decode cX9_writeTo 37 = .ok (.aload_n 0, 1) := by decide +kernel
theorem dX9_writeTo_38 : decode cX9_writeTo 38 = .ok (.getfield 22, 3) := by decide +kernel
theorem dX9_writeTo_41 : decode cX9_writeTo 41 = .ok (.invokevirtual 37, 3) := by decide +kernel
theorem dX9_writeTo_44 : decode cX9_writeTo 44 = .ok (.aload_n 1, 1) := by decide +kernel
theorem dX9_writeTo_45 : decode cX9_writeTo 45 = .ok (.iload_n 2, 1) := by decide +kernel
theorem dX9_writeTo_46 : decode cX9_writeTo 46 = .ok (.iconst 5, 1) := by decide +kernel
theorem dX9_writeTo_47 : decode cX9_writeTo 47 = .ok (.iadd, 1) := by decide +kernel
theorem dX9_writeTo_48 : decode cX9_writeTo 48 = .ok (.aload_n 0, 1) := by decide +kernel
theorem dX9_writeTo_49 : decode cX9_writeTo 49 = .ok (.getfield 25, 3) := by decide +kernel
theorem dX9_writeTo_52 : decode cX9_writeTo 52 = .ok (.invokevirtual 37, 3) := by decide +kernel
theorem dX9_writeTo_55 : decode cX9_writeTo 55 = .ok (.aload_n 1, 1) := by decide +kernel
theorem dX9_writeTo_56 : decode cX9_writeTo 56 = .ok (.iload_n 2, 1) := by decide +kernel
theorem dX9_writeTo_57 : decode cX9_writeTo 57 = .ok (.bipush 6, 2) := by decide +kernel
theorem dX9_writeTo_59 : decode cX9_writeTo 59 = .ok (.iadd, 1) := by decide +kernel
theorem dX9_writeTo_60 : decode cX9_writeTo 60 = .ok (.aload_n 0, 1) := by decide +kernel
theorem dX9_writeTo_61 : decode cX9_writeTo 61 = .ok (.getfield 28, 3) := by decide +kernel
theorem dX9_writeTo_64 : decode cX9_writeTo 64 = .ok (.invokevirtual 37, 3) := by decide +kernel
theorem dX9_writeTo_67 : decode cX9_writeTo 67 = .ok (.return_, 1) := by decide +kernel
abbrev rm_X9_writeTo : Room := { frames := 1, cells := 0, slots := 0, locals := 22 }
def w_X9_writeTo : List Cond := Cond.code yX9_writeTo cX9_writeTo 3 none :: uw
set_option maxHeartbeats 4000000 in
set_option maxRecDepth 100000 in
theorem c_X9_writeTo (l : Launch) (dC : Nat → ClassId) (dI : Nat → Nat → Nat) (cI cZ cO : ClassId) (tL sz : Nat) (h0 : Nat) (h1 : Nat) (h2 : Nat) (v0_a : Int32) (v0_b : Int32) (v0_c : Int32) (v0_d : Int32) (v0_e : Int32) (v0_f : Int32) (v1_count : Int32) (f2 : Nat → Int32) (p2 : Int32) (res : (Nat → Int32)) (hM : m_X9_writeTo v0_a v0_b v0_c v0_d v0_e v0_f v1_count f2 p2 = some res) : Met l yX9_writeTo w_X9_writeTo rm_X9_writeTo (PCx [.ref h0, .ref h1, .int p2] (dC, dI) [(cI, .int), (cZ, .boolean), (cO, .object "ListPainter$Settings")] sz tL [(h0, .inr (8, [.int v0_a, .int v0_b, .int v0_c, .int v0_d, .int v0_e, .int v0_f])), (h1, .inr (9, [.ref h2, .int v1_count])), (h2, .inl (cI, 1500, .inl f2))]) (QMv (dC, dI) [(cI, .int), (cZ, .boolean), (cO, .object "ListPainter$Settings")] (va_A [(h0, .inr (8, [.int v0_a, .int v0_b, .int v0_c, .int v0_d, .int v0_e, .int v0_f])), (h1, .inr (9, [.ref h2, .int v1_count])), (h2, .inl (cI, 1500, .inl f2))] sz) [(h0, .inr (8, [.int v0_a, .int v0_b, .int v0_c, .int v0_d, .int v0_e, .int v0_f])), (h1, .inr (9, [.ref h2, .int v1_count])), (h2, .inl (cI, 1500, .inl res))]) 0 0 (va_A [(h0, .inr (8, [.int v0_a, .int v0_b, .int v0_c, .int v0_d, .int v0_e, .int v0_f])), (h1, .inr (9, [.ref h2, .int v1_count])), (h2, .inl (cI, 1500, .inl f2))] sz) := by
  refine Met.ofW (cc := cX9_writeTo) (maxL := 3) (ret := none) (by decide) rfl ?_
  intro p e s m args below meth c s₁ B hml hv
  obtain ⟨rfl, hsz, hP, hK, hD0, hG⟩ := hv
  have hx := B.exec
  have hb := B.bytes
  have hr := B.returns
  have hu : ∀ w ∈ uw, w.before ([.ref h0, .ref h1, .int p2] : List Value).toArray s = true := fun w h => atoms_spec (ws := w_X9_writeTo) B.pre w (List.mem_cons_of_mem _ h)
  have hown : s.vm.findClass RX9 = some m.cls := findClass_of_methodNamed B.named
  have hlocks := B.notSynchronized
  subst hsz
  have hD := hD0.self (sz := s.heap.size)
  generalize hAe : va_A [(h0, .inr (8, [.int v0_a, .int v0_b, .int v0_c, .int v0_d, .int v0_e, .int v0_f])), (h1, .inr (9, [.ref h2, .int v1_count])), (h2, .inl (cI, 1500, .inl f2))] s.heap.size = A at hD hG ⊢
  have hA : ∀ q : Nat, s.heap.size ≤ q → A q := fun q h => by rw [← hAe]; exact Or.inr h
  have hS : va_S A s.heap s.heap [] := va_S.rf
  have hP : va_P (dC, dI) vwCl [(h0, .inr (8, [.int v0_a, .int v0_b, .int v0_c, .int v0_d, .int v0_e, .int v0_f])), (h1, .inr (9, [.ref h2, .int v1_count])), (h2, .inl (cI, 1500, .inl f2))] s.heap := hP
  have hl := lv_entry ([.ref h0, .ref h1, .int p2]) (n := 3) (Nat.le_of_ble_eq_true rfl)
  rw [lg_entry_eq]
  generalize (lg_sl ([.ref h0, .ref h1, .int p2]) ++ List.replicate (3 - (lg_sl ([.ref h0, .ref h1, .int p2])).length) Slot.unset).toArray = ls at hl ⊢
  have hl : lv_has ls 3 [(0, .ref h0), (1, .ref h1), (2, .int p2)] := hl
  rw [m_X9_writeTo] at hM
  suffices hgo : ∀ (H : Heap) (locs : List Loc), va_P (dC, dI) vwCl [(h0, .inr (8, [.int v0_a, .int v0_b, .int v0_c, .int v0_d, .int v0_e, .int v0_f])), (h1, .inr (9, [.ref h2, .int v1_count])), (h2, .inl (cI, 1500, .inl f2))] H → va_D A [(h0, .inr (8, [.int v0_a, .int v0_b, .int v0_c, .int v0_d, .int v0_e, .int v0_f])), (h1, .inr (9, [.ref h2, .int v1_count])), (h2, .inl (cI, 1500, .inl f2))] → va_S A s.heap H locs → W p l e (headSpec w_X9_writeTo rm_X9_writeTo).room s m ([.ref h0, .ref h1, .int p2] : List Value).toArray below meth c H locs 0 0 (MQ below (QMv (dC, dI) [(cI, .int), (cZ, .boolean), (cO, .object "ListPainter$Settings")] A [(h0, .inr (8, [.int v0_a, .int v0_b, .int v0_c, .int v0_d, .int v0_e, .int v0_f])), (h1, .inr (9, [.ref h2, .int v1_count])), (h2, .inl (cI, 1500, .inl res))]) ([.ref h0, .ref h1, .int p2] : List Value).toArray s 0 0 A) (F0 m 0 ls []) from hgo _ _ hP hD hS
  intro H locs hP hD hS
  refine lv_aload_n hx hb dX9_writeTo_0 rfl (lv_at hl 1 rfl) ?_
  refine lv_iload_n hx hb dX9_writeTo_1 rfl (lv_at hl 2 rfl) ?_
  refine lv_iconst (v := 1) hx hb dX9_writeTo_2 (by decide) ?_
  refine lv_iadd hx hb dX9_writeTo_3 ?_
  refine lv_aload_n hx hb dX9_writeTo_4 rfl (lv_at hl 0 rfl) ?_
  refine va_get (D := (dC, dI)) (ci := 8) (v := .int v0_a) (C := RX9) (T := TX9) (N := 6) hx hb hu inX9 hown hK hP 0 rfl rfl 0 (by decide) (hu _ kw_24) (fun _ h9 => h9) rfl dX9_writeTo_5 ?_
  obtain ⟨f2_1, hm_2, hM⟩ := bd1_u hM
  refine cVv (As := [.int (p2 + 1), .int v0_a]) (rest := []) ⟨hx, hb, hml, hown, hu⟩ (c_X10_put l dC dI cI cZ cO tL H.size h1 h2 v1_count f2 (p2 + 1) v0_a f2_1 hm_2) (cwV 2 hu (gV kw_31 kw_12 kw_13 kw_5 kw_14) rfl rfl rfl (by decide +kernel) ⟨Nat.le_of_ble_eq_true rfl, Nat.le_of_ble_eq_true rfl⟩) hP hD hS hA hK hG [1, 2] (by decide) rfl [none, some 0, some 1] 2 rfl (by decide +kernel) rfl 9 1 rfl rfl rfl rfl hl.1 rfl (Nat.le_of_ble_eq_true rfl) dX9_writeTo_8 (Nat.zero_le _) (Nat.zero_le _) (fun H locs hP hD hS => ?_)
  have hP : va_P (dC, dI) vwCl [(h0, .inr (8, [.int v0_a, .int v0_b, .int v0_c, .int v0_d, .int v0_e, .int v0_f])), (h1, .inr (9, [.ref h2, .int v1_count])), (h2, .inl (cI, 1500, .inl f2_1))] H := hP
  have hD : va_D A [(h0, .inr (8, [.int v0_a, .int v0_b, .int v0_c, .int v0_d, .int v0_e, .int v0_f])), (h1, .inr (9, [.ref h2, .int v1_count])), (h2, .inl (cI, 1500, .inl f2_1))] := hD
  refine lv_aload_n hx hb dX9_writeTo_11 rfl (lv_at hl 1 rfl) ?_
  refine lv_iload_n hx hb dX9_writeTo_12 rfl (lv_at hl 2 rfl) ?_
  refine lv_iconst (v := 2) hx hb dX9_writeTo_13 (by decide) ?_
  refine lv_iadd hx hb dX9_writeTo_14 ?_
  refine lv_aload_n hx hb dX9_writeTo_15 rfl (lv_at hl 0 rfl) ?_
  refine va_get (D := (dC, dI)) (ci := 8) (v := .int v0_b) (C := RX9) (T := TX9) (N := 6) hx hb hu inX9 hown hK hP 0 rfl rfl 1 (by decide) (hu _ kw_25) (fun _ h9 => h9) rfl dX9_writeTo_16 ?_
  obtain ⟨f2_3, hm_4, hM⟩ := bd1_u hM
  refine cVv (As := [.int (p2 + 2), .int v0_b]) (rest := []) ⟨hx, hb, hml, hown, hu⟩ (c_X10_put l dC dI cI cZ cO tL H.size h1 h2 v1_count f2_1 (p2 + 2) v0_b f2_3 hm_4) (cwV 2 hu (gV kw_31 kw_12 kw_13 kw_5 kw_14) rfl rfl rfl (by decide +kernel) ⟨Nat.le_of_ble_eq_true rfl, Nat.le_of_ble_eq_true rfl⟩) hP hD hS hA hK hG [1, 2] (by decide) rfl [none, some 0, some 1] 2 rfl (by decide +kernel) rfl 9 1 rfl rfl rfl rfl hl.1 rfl (Nat.le_of_ble_eq_true rfl) dX9_writeTo_19 (Nat.zero_le _) (Nat.zero_le _) (fun H locs hP hD hS => ?_)
  have hP : va_P (dC, dI) vwCl [(h0, .inr (8, [.int v0_a, .int v0_b, .int v0_c, .int v0_d, .int v0_e, .int v0_f])), (h1, .inr (9, [.ref h2, .int v1_count])), (h2, .inl (cI, 1500, .inl f2_3))] H := hP
  have hD : va_D A [(h0, .inr (8, [.int v0_a, .int v0_b, .int v0_c, .int v0_d, .int v0_e, .int v0_f])), (h1, .inr (9, [.ref h2, .int v1_count])), (h2, .inl (cI, 1500, .inl f2_3))] := hD
  refine lv_aload_n hx hb dX9_writeTo_22 rfl (lv_at hl 1 rfl) ?_
  refine lv_iload_n hx hb dX9_writeTo_23 rfl (lv_at hl 2 rfl) ?_
  refine lv_iconst (v := 3) hx hb dX9_writeTo_24 (by decide) ?_
  refine lv_iadd hx hb dX9_writeTo_25 ?_
  refine lv_aload_n hx hb dX9_writeTo_26 rfl (lv_at hl 0 rfl) ?_
  refine va_get (D := (dC, dI)) (ci := 8) (v := .int v0_c) (C := RX9) (T := TX9) (N := 6) hx hb hu inX9 hown hK hP 0 rfl rfl 2 (by decide) (hu _ kw_26) (fun _ h9 => h9) rfl dX9_writeTo_27 ?_
  obtain ⟨f2_5, hm_6, hM⟩ := bd1_u hM
  refine cVv (As := [.int (p2 + 3), .int v0_c]) (rest := []) ⟨hx, hb, hml, hown, hu⟩ (c_X10_put l dC dI cI cZ cO tL H.size h1 h2 v1_count f2_3 (p2 + 3) v0_c f2_5 hm_6) (cwV 2 hu (gV kw_31 kw_12 kw_13 kw_5 kw_14) rfl rfl rfl (by decide +kernel) ⟨Nat.le_of_ble_eq_true rfl, Nat.le_of_ble_eq_true rfl⟩) hP hD hS hA hK hG [1, 2] (by decide) rfl [none, some 0, some 1] 2 rfl (by decide +kernel) rfl 9 1 rfl rfl rfl rfl hl.1 rfl (Nat.le_of_ble_eq_true rfl) dX9_writeTo_30 (Nat.zero_le _) (Nat.zero_le _) (fun H locs hP hD hS => ?_)
  have hP : va_P (dC, dI) vwCl [(h0, .inr (8, [.int v0_a, .int v0_b, .int v0_c, .int v0_d, .int v0_e, .int v0_f])), (h1, .inr (9, [.ref h2, .int v1_count])), (h2, .inl (cI, 1500, .inl f2_5))] H := hP
  have hD : va_D A [(h0, .inr (8, [.int v0_a, .int v0_b, .int v0_c, .int v0_d, .int v0_e, .int v0_f])), (h1, .inr (9, [.ref h2, .int v1_count])), (h2, .inl (cI, 1500, .inl f2_5))] := hD
  refine lv_aload_n hx hb dX9_writeTo_33 rfl (lv_at hl 1 rfl) ?_
  refine lv_iload_n hx hb dX9_writeTo_34 rfl (lv_at hl 2 rfl) ?_
  refine lv_iconst (v := 4) hx hb dX9_writeTo_35 (by decide) ?_
  refine lv_iadd hx hb dX9_writeTo_36 ?_
  refine lv_aload_n hx hb dX9_writeTo_37 rfl (lv_at hl 0 rfl) ?_
  refine va_get (D := (dC, dI)) (ci := 8) (v := .int v0_d) (C := RX9) (T := TX9) (N := 6) hx hb hu inX9 hown hK hP 0 rfl rfl 3 (by decide) (hu _ kw_27) (fun _ h9 => h9) rfl dX9_writeTo_38 ?_
  obtain ⟨f2_7, hm_8, hM⟩ := bd1_u hM
  refine cVv (As := [.int (p2 + 4), .int v0_d]) (rest := []) ⟨hx, hb, hml, hown, hu⟩ (c_X10_put l dC dI cI cZ cO tL H.size h1 h2 v1_count f2_5 (p2 + 4) v0_d f2_7 hm_8) (cwV 2 hu (gV kw_31 kw_12 kw_13 kw_5 kw_14) rfl rfl rfl (by decide +kernel) ⟨Nat.le_of_ble_eq_true rfl, Nat.le_of_ble_eq_true rfl⟩) hP hD hS hA hK hG [1, 2] (by decide) rfl [none, some 0, some 1] 2 rfl (by decide +kernel) rfl 9 1 rfl rfl rfl rfl hl.1 rfl (Nat.le_of_ble_eq_true rfl) dX9_writeTo_41 (Nat.zero_le _) (Nat.zero_le _) (fun H locs hP hD hS => ?_)
  have hP : va_P (dC, dI) vwCl [(h0, .inr (8, [.int v0_a, .int v0_b, .int v0_c, .int v0_d, .int v0_e, .int v0_f])), (h1, .inr (9, [.ref h2, .int v1_count])), (h2, .inl (cI, 1500, .inl f2_7))] H := hP
  have hD : va_D A [(h0, .inr (8, [.int v0_a, .int v0_b, .int v0_c, .int v0_d, .int v0_e, .int v0_f])), (h1, .inr (9, [.ref h2, .int v1_count])), (h2, .inl (cI, 1500, .inl f2_7))] := hD
  refine lv_aload_n hx hb dX9_writeTo_44 rfl (lv_at hl 1 rfl) ?_
  refine lv_iload_n hx hb dX9_writeTo_45 rfl (lv_at hl 2 rfl) ?_
  refine lv_iconst (v := 5) hx hb dX9_writeTo_46 (by decide) ?_
  refine lv_iadd hx hb dX9_writeTo_47 ?_
  refine lv_aload_n hx hb dX9_writeTo_48 rfl (lv_at hl 0 rfl) ?_
  refine va_get (D := (dC, dI)) (ci := 8) (v := .int v0_e) (C := RX9) (T := TX9) (N := 6) hx hb hu inX9 hown hK hP 0 rfl rfl 4 (by decide) (hu _ kw_28) (fun _ h9 => h9) rfl dX9_writeTo_49 ?_
  obtain ⟨f2_9, hm_10, hM⟩ := bd1_u hM
  refine cVv (As := [.int (p2 + 5), .int v0_e]) (rest := []) ⟨hx, hb, hml, hown, hu⟩ (c_X10_put l dC dI cI cZ cO tL H.size h1 h2 v1_count f2_7 (p2 + 5) v0_e f2_9 hm_10) (cwV 2 hu (gV kw_31 kw_12 kw_13 kw_5 kw_14) rfl rfl rfl (by decide +kernel) ⟨Nat.le_of_ble_eq_true rfl, Nat.le_of_ble_eq_true rfl⟩) hP hD hS hA hK hG [1, 2] (by decide) rfl [none, some 0, some 1] 2 rfl (by decide +kernel) rfl 9 1 rfl rfl rfl rfl hl.1 rfl (Nat.le_of_ble_eq_true rfl) dX9_writeTo_52 (Nat.zero_le _) (Nat.zero_le _) (fun H locs hP hD hS => ?_)
  have hP : va_P (dC, dI) vwCl [(h0, .inr (8, [.int v0_a, .int v0_b, .int v0_c, .int v0_d, .int v0_e, .int v0_f])), (h1, .inr (9, [.ref h2, .int v1_count])), (h2, .inl (cI, 1500, .inl f2_9))] H := hP
  have hD : va_D A [(h0, .inr (8, [.int v0_a, .int v0_b, .int v0_c, .int v0_d, .int v0_e, .int v0_f])), (h1, .inr (9, [.ref h2, .int v1_count])), (h2, .inl (cI, 1500, .inl f2_9))] := hD
  refine lv_aload_n hx hb dX9_writeTo_55 rfl (lv_at hl 1 rfl) ?_
  refine lv_iload_n hx hb dX9_writeTo_56 rfl (lv_at hl 2 rfl) ?_
  refine lv_bipush (v := 6) hx hb dX9_writeTo_57 (by decide) ?_
  refine lv_iadd hx hb dX9_writeTo_59 ?_
  refine lv_aload_n hx hb dX9_writeTo_60 rfl (lv_at hl 0 rfl) ?_
  refine va_get (D := (dC, dI)) (ci := 8) (v := .int v0_f) (C := RX9) (T := TX9) (N := 6) hx hb hu inX9 hown hK hP 0 rfl rfl 5 (by decide) (hu _ kw_29) (fun _ h9 => h9) rfl dX9_writeTo_61 ?_
  obtain ⟨f2_11, hm_12, hM⟩ := bd1_u hM
  refine cVv (As := [.int (p2 + 6), .int v0_f]) (rest := []) ⟨hx, hb, hml, hown, hu⟩ (c_X10_put l dC dI cI cZ cO tL H.size h1 h2 v1_count f2_9 (p2 + 6) v0_f f2_11 hm_12) (cwV 2 hu (gV kw_31 kw_12 kw_13 kw_5 kw_14) rfl rfl rfl (by decide +kernel) ⟨Nat.le_of_ble_eq_true rfl, Nat.le_of_ble_eq_true rfl⟩) hP hD hS hA hK hG [1, 2] (by decide) rfl [none, some 0, some 1] 2 rfl (by decide +kernel) rfl 9 1 rfl rfl rfl rfl hl.1 rfl (Nat.le_of_ble_eq_true rfl) dX9_writeTo_64 (Nat.zero_le _) (Nat.zero_le _) (fun H locs hP hD hS => ?_)
  have hP : va_P (dC, dI) vwCl [(h0, .inr (8, [.int v0_a, .int v0_b, .int v0_c, .int v0_d, .int v0_e, .int v0_f])), (h1, .inr (9, [.ref h2, .int v1_count])), (h2, .inl (cI, 1500, .inl f2_11))] H := hP
  have hD : va_D A [(h0, .inr (8, [.int v0_a, .int v0_b, .int v0_c, .int v0_d, .int v0_e, .int v0_f])), (h1, .inr (9, [.ref h2, .int v1_count])), (h2, .inl (cI, 1500, .inl f2_11))] := hD
  have h9 := Option.some.inj hM
  subst h9
  exact W.vret hx hb hr (fun t ht hW => QMv_mk (by rw [ht]; exact hP) (va_K.moved hW.alike hK) hD (hS.F ht)) hS.2.2 dX9_writeTo_67
theorem dX9_isSameAs_0 : decode cX9_isSameAs 0 = .ok (.aload_n 0, 1) := by decide +kernel
theorem dX9_isSameAs_1 : decode cX9_isSameAs 1 = .ok (.getfield 10, 3) := by decide +kernel
theorem dX9_isSameAs_4 : decode cX9_isSameAs 4 = .ok (.aload_n 1, 1) := by decide +kernel
theorem dX9_isSameAs_5 : decode cX9_isSameAs 5 = .ok (.getfield 10, 3) := by decide +kernel
theorem dX9_isSameAs_8 : decode cX9_isSameAs 8 = .ok (.if_icmp .ne 62, 3) := by decide +kernel
theorem dX9_isSameAs_11 : decode cX9_isSameAs 11 = .ok (.aload_n 0, 1) := by decide +kernel
theorem dX9_isSameAs_12 : decode cX9_isSameAs 12 = .ok (.getfield 16, 3) := by decide +kernel
theorem dX9_isSameAs_15 : decode cX9_isSameAs 15 = .ok (.aload_n 1, 1) := by decide +kernel
theorem dX9_isSameAs_16 : decode cX9_isSameAs 16 = .ok (.getfield 16, 3) := by decide +kernel
theorem dX9_isSameAs_19 : decode cX9_isSameAs 19 = .ok (.if_icmp .ne 51, 3) := by decide +kernel
theorem dX9_isSameAs_22 : decode cX9_isSameAs 22 = .ok (.aload_n 0, 1) := by decide +kernel
theorem dX9_isSameAs_23 : decode cX9_isSameAs 23 = .ok (.getfield 19, 3) := by decide +kernel
theorem dX9_isSameAs_26 : decode cX9_isSameAs 26 = .ok (.aload_n 1, 1) := by decide +kernel
theorem dX9_isSameAs_27 : decode cX9_isSameAs 27 = .ok (.getfield 19, 3) := by decide +kernel
theorem dX9_isSameAs_30 : decode cX9_isSameAs 30 = .ok (.if_icmp .ne 40, 3) := by decide +kernel
theorem dX9_isSameAs_33 : decode cX9_isSameAs 33 = .ok (.aload_n 0, 1) := by decide +kernel
theorem dX9_isSameAs_34 : decode cX9_isSameAs 34 = .ok (.getfield 22, 3) := by decide +kernel
theorem dX9_isSameAs_37 : decode cX9_isSameAs 37 = .ok (.aload_n 1, 1) := by decide +kernel
theorem dX9_isSameAs_38 : decode cX9_isSameAs 38 = .ok (.getfield 22, 3) := by decide +kernel
theorem dX9_isSameAs_41 : decode cX9_isSameAs 41 = .ok (.if_icmp .ne 29, 3) := by decide +kernel
theorem dX9_isSameAs_44 : decode cX9_isSameAs 44 = .ok (.aload_n 0, 1) := by decide +kernel
theorem dX9_isSameAs_45 : decode cX9_isSameAs 45 = .ok (.getfield 25, 3) := by decide +kernel
theorem dX9_isSameAs_48 : decode cX9_isSameAs 48 = .ok (.aload_n 1, 1) := by decide +kernel
theorem dX9_isSameAs_49 : decode cX9_isSameAs 49 = .ok (.getfield 25, 3) := by decide +kernel
theorem dX9_isSameAs_52 : decode cX9_isSameAs 52 = .ok (.if_icmp .ne 18, 3) := by decide +kernel
theorem dX9_isSameAs_55 : decode cX9_isSameAs 55 = .ok (.aload_n 0, 1) := by decide +kernel
theorem dX9_isSameAs_56 : decode cX9_isSameAs 56 = .ok (.getfield 28, 3) := by decide +kernel
theorem dX9_isSameAs_59 : decode cX9_isSameAs 59 = .ok (.aload_n 1, 1) := by decide +kernel
theorem dX9_isSameAs_60 : decode cX9_isSameAs 60 = .ok (.getfield 28, 3) := by decide +kernel
theorem dX9_isSameAs_63 : decode cX9_isSameAs 63 = .ok (.if_icmp .ne 7, 3) := by decide +kernel
theorem dX9_isSameAs_66 : decode cX9_isSameAs 66 = .ok (.iconst 1, 1) := by decide +kernel
theorem dX9_isSameAs_67 : decode cX9_isSameAs 67 = .ok (.goto 4, 3) := by decide +kernel
theorem dX9_isSameAs_70 : decode cX9_isSameAs 70 = .ok (.iconst 0, 1) := by decide +kernel
theorem dX9_isSameAs_71 : decode cX9_isSameAs 71 = .ok (.ireturn, 1) := by decide +kernel
abbrev rm_X9_isSameAs : Room := { frames := 0, cells := 0, slots := 0, locals := 0 }
def w_X9_isSameAs : List Cond := Cond.code yX9_isSameAs cX9_isSameAs 2 (some .boolean) :: uw
set_option maxHeartbeats 4000000 in
set_option maxRecDepth 100000 in
theorem c_X9_isSameAs (l : Launch) (dC : Nat → ClassId) (dI : Nat → Nat → Nat) (cI cZ cO : ClassId) (tL sz : Nat) (h0 : Nat) (h1 : Nat) (v0_a : Int32) (v0_b : Int32) (v0_c : Int32) (v0_d : Int32) (v0_e : Int32) (v0_f : Int32) (v1_a : Int32) (v1_b : Int32) (v1_c : Int32) (v1_d : Int32) (v1_e : Int32) (v1_f : Int32) (res : Int32) (hM : m_X9_isSameAs v0_a v0_b v0_c v0_d v0_e v0_f v1_a v1_b v1_c v1_d v1_e v1_f = some res) : Met l yX9_isSameAs w_X9_isSameAs rm_X9_isSameAs (PCx [.ref h0, .ref h1] (dC, dI) [(cI, .int), (cZ, .boolean), (cO, .object "ListPainter$Settings")] sz tL [(h0, .inr (8, [.int v0_a, .int v0_b, .int v0_c, .int v0_d, .int v0_e, .int v0_f])), (h1, .inr (8, [.int v1_a, .int v1_b, .int v1_c, .int v1_d, .int v1_e, .int v1_f]))]) (QMz res (dC, dI) [(cI, .int), (cZ, .boolean), (cO, .object "ListPainter$Settings")] (va_A [(h0, .inr (8, [.int v0_a, .int v0_b, .int v0_c, .int v0_d, .int v0_e, .int v0_f])), (h1, .inr (8, [.int v1_a, .int v1_b, .int v1_c, .int v1_d, .int v1_e, .int v1_f]))] sz) [(h0, .inr (8, [.int v0_a, .int v0_b, .int v0_c, .int v0_d, .int v0_e, .int v0_f])), (h1, .inr (8, [.int v1_a, .int v1_b, .int v1_c, .int v1_d, .int v1_e, .int v1_f]))]) 0 0 (va_A [(h0, .inr (8, [.int v0_a, .int v0_b, .int v0_c, .int v0_d, .int v0_e, .int v0_f])), (h1, .inr (8, [.int v1_a, .int v1_b, .int v1_c, .int v1_d, .int v1_e, .int v1_f]))] sz) := by
  refine Met.ofW (cc := cX9_isSameAs) (maxL := 2) (ret := (some .boolean)) (by decide) rfl ?_
  intro p e s m args below meth c s₁ B hml hv
  obtain ⟨rfl, hsz, hP, hK, hD0, hG⟩ := hv
  have hx := B.exec
  have hb := B.bytes
  have hr := B.returns
  have hu : ∀ w ∈ uw, w.before ([.ref h0, .ref h1] : List Value).toArray s = true := fun w h => atoms_spec (ws := w_X9_isSameAs) B.pre w (List.mem_cons_of_mem _ h)
  have hown : s.vm.findClass RX9 = some m.cls := findClass_of_methodNamed B.named
  have hlocks := B.notSynchronized
  subst hsz
  have hD := hD0.self (sz := s.heap.size)
  generalize hAe : va_A [(h0, .inr (8, [.int v0_a, .int v0_b, .int v0_c, .int v0_d, .int v0_e, .int v0_f])), (h1, .inr (8, [.int v1_a, .int v1_b, .int v1_c, .int v1_d, .int v1_e, .int v1_f]))] s.heap.size = A at hD hG ⊢
  have hA : ∀ q : Nat, s.heap.size ≤ q → A q := fun q h => by rw [← hAe]; exact Or.inr h
  have hS : va_S A s.heap s.heap [] := va_S.rf
  have hP : va_P (dC, dI) vwCl [(h0, .inr (8, [.int v0_a, .int v0_b, .int v0_c, .int v0_d, .int v0_e, .int v0_f])), (h1, .inr (8, [.int v1_a, .int v1_b, .int v1_c, .int v1_d, .int v1_e, .int v1_f]))] s.heap := hP
  have hl := lv_entry ([.ref h0, .ref h1]) (n := 2) (Nat.le_of_ble_eq_true rfl)
  rw [lg_entry_eq]
  generalize (lg_sl ([.ref h0, .ref h1]) ++ List.replicate (2 - (lg_sl ([.ref h0, .ref h1])).length) Slot.unset).toArray = ls at hl ⊢
  have hl : lv_has ls 2 [(0, .ref h0), (1, .ref h1)] := hl
  rw [m_X9_isSameAs] at hM
  suffices hgo : ∀ (H : Heap) (locs : List Loc), va_P (dC, dI) vwCl [(h0, .inr (8, [.int v0_a, .int v0_b, .int v0_c, .int v0_d, .int v0_e, .int v0_f])), (h1, .inr (8, [.int v1_a, .int v1_b, .int v1_c, .int v1_d, .int v1_e, .int v1_f]))] H → va_D A [(h0, .inr (8, [.int v0_a, .int v0_b, .int v0_c, .int v0_d, .int v0_e, .int v0_f])), (h1, .inr (8, [.int v1_a, .int v1_b, .int v1_c, .int v1_d, .int v1_e, .int v1_f]))] → va_S A s.heap H locs → W p l e (headSpec w_X9_isSameAs rm_X9_isSameAs).room s m ([.ref h0, .ref h1] : List Value).toArray below meth c H locs 0 0 (MQ below (QMz res (dC, dI) [(cI, .int), (cZ, .boolean), (cO, .object "ListPainter$Settings")] A [(h0, .inr (8, [.int v0_a, .int v0_b, .int v0_c, .int v0_d, .int v0_e, .int v0_f])), (h1, .inr (8, [.int v1_a, .int v1_b, .int v1_c, .int v1_d, .int v1_e, .int v1_f]))]) ([.ref h0, .ref h1] : List Value).toArray s 0 0 A) (F0 m 0 ls []) from hgo _ _ hP hD hS
  intro H locs hP hD hS
  refine lv_aload_n hx hb dX9_isSameAs_0 rfl (lv_at hl 0 rfl) ?_
  refine va_get (D := (dC, dI)) (ci := 8) (v := .int v0_a) (C := RX9) (T := TX9) (N := 6) hx hb hu inX9 hown hK hP 0 rfl rfl 0 (by decide) (hu _ kw_24) (fun _ h9 => h9) rfl dX9_isSameAs_1 ?_
  refine lv_aload_n hx hb dX9_isSameAs_4 rfl (lv_at hl 1 rfl) ?_
  refine va_get (D := (dC, dI)) (ci := 8) (v := .int v1_a) (C := RX9) (T := TX9) (N := 6) hx hb hu inX9 hown hK hP 1 rfl rfl 0 (by decide) (hu _ kw_24) (fun _ h9 => h9) rfl dX9_isSameAs_5 ?_
  refine lv_icmp_ne (tgt := 70) hx hb dX9_isSameAs_8 (by decide) (fun c_1 => ?_) (fun c_1 => ?_)
  · have hM := if_f c_1 hM
    refine lv_iconst (v := 0) hx hb dX9_isSameAs_70 (by decide) ?_
    have h9 := Option.some.inj hM
    subst h9
    exact W.zret (v := 0) hx hb hr (zb_n (Or.inl rfl)) (fun t ht hW => QMz_mk (Or.inl rfl) (by rw [ht]; exact hP) (va_K.moved hW.alike hK) hD (hS.F ht)) hS.2.2 dX9_isSameAs_71
  · have hM := if_t c_1 hM
    refine lv_aload_n hx hb dX9_isSameAs_11 rfl (lv_at hl 0 rfl) ?_
    refine va_get (D := (dC, dI)) (ci := 8) (v := .int v0_b) (C := RX9) (T := TX9) (N := 6) hx hb hu inX9 hown hK hP 0 rfl rfl 1 (by decide) (hu _ kw_25) (fun _ h9 => h9) rfl dX9_isSameAs_12 ?_
    refine lv_aload_n hx hb dX9_isSameAs_15 rfl (lv_at hl 1 rfl) ?_
    refine va_get (D := (dC, dI)) (ci := 8) (v := .int v1_b) (C := RX9) (T := TX9) (N := 6) hx hb hu inX9 hown hK hP 1 rfl rfl 1 (by decide) (hu _ kw_25) (fun _ h9 => h9) rfl dX9_isSameAs_16 ?_
    refine lv_icmp_ne (tgt := 70) hx hb dX9_isSameAs_19 (by decide) (fun c_2 => ?_) (fun c_2 => ?_)
    · have hM := if_f c_2 hM
      refine lv_iconst (v := 0) hx hb dX9_isSameAs_70 (by decide) ?_
      have h9 := Option.some.inj hM
      subst h9
      exact W.zret (v := 0) hx hb hr (zb_n (Or.inl rfl)) (fun t ht hW => QMz_mk (Or.inl rfl) (by rw [ht]; exact hP) (va_K.moved hW.alike hK) hD (hS.F ht)) hS.2.2 dX9_isSameAs_71
    · have hM := if_t c_2 hM
      refine lv_aload_n hx hb dX9_isSameAs_22 rfl (lv_at hl 0 rfl) ?_
      refine va_get (D := (dC, dI)) (ci := 8) (v := .int v0_c) (C := RX9) (T := TX9) (N := 6) hx hb hu inX9 hown hK hP 0 rfl rfl 2 (by decide) (hu _ kw_26) (fun _ h9 => h9) rfl dX9_isSameAs_23 ?_
      refine lv_aload_n hx hb dX9_isSameAs_26 rfl (lv_at hl 1 rfl) ?_
      refine va_get (D := (dC, dI)) (ci := 8) (v := .int v1_c) (C := RX9) (T := TX9) (N := 6) hx hb hu inX9 hown hK hP 1 rfl rfl 2 (by decide) (hu _ kw_26) (fun _ h9 => h9) rfl dX9_isSameAs_27 ?_
      refine lv_icmp_ne (tgt := 70) hx hb dX9_isSameAs_30 (by decide) (fun c_3 => ?_) (fun c_3 => ?_)
      · have hM := if_f c_3 hM
        refine lv_iconst (v := 0) hx hb dX9_isSameAs_70 (by decide) ?_
        have h9 := Option.some.inj hM
        subst h9
        exact W.zret (v := 0) hx hb hr (zb_n (Or.inl rfl)) (fun t ht hW => QMz_mk (Or.inl rfl) (by rw [ht]; exact hP) (va_K.moved hW.alike hK) hD (hS.F ht)) hS.2.2 dX9_isSameAs_71
      · have hM := if_t c_3 hM
        refine lv_aload_n hx hb dX9_isSameAs_33 rfl (lv_at hl 0 rfl) ?_
        refine va_get (D := (dC, dI)) (ci := 8) (v := .int v0_d) (C := RX9) (T := TX9) (N := 6) hx hb hu inX9 hown hK hP 0 rfl rfl 3 (by decide) (hu _ kw_27) (fun _ h9 => h9) rfl dX9_isSameAs_34 ?_
        refine lv_aload_n hx hb dX9_isSameAs_37 rfl (lv_at hl 1 rfl) ?_
        refine va_get (D := (dC, dI)) (ci := 8) (v := .int v1_d) (C := RX9) (T := TX9) (N := 6) hx hb hu inX9 hown hK hP 1 rfl rfl 3 (by decide) (hu _ kw_27) (fun _ h9 => h9) rfl dX9_isSameAs_38 ?_
        refine lv_icmp_ne (tgt := 70) hx hb dX9_isSameAs_41 (by decide) (fun c_4 => ?_) (fun c_4 => ?_)
        · have hM := if_f c_4 hM
          refine lv_iconst (v := 0) hx hb dX9_isSameAs_70 (by decide) ?_
          have h9 := Option.some.inj hM
          subst h9
          exact W.zret (v := 0) hx hb hr (zb_n (Or.inl rfl)) (fun t ht hW => QMz_mk (Or.inl rfl) (by rw [ht]; exact hP) (va_K.moved hW.alike hK) hD (hS.F ht)) hS.2.2 dX9_isSameAs_71
        · have hM := if_t c_4 hM
          refine lv_aload_n hx hb dX9_isSameAs_44 rfl (lv_at hl 0 rfl) ?_
          refine va_get (D := (dC, dI)) (ci := 8) (v := .int v0_e) (C := RX9) (T := TX9) (N := 6) hx hb hu inX9 hown hK hP 0 rfl rfl 4 (by decide) (hu _ kw_28) (fun _ h9 => h9) rfl dX9_isSameAs_45 ?_
          refine lv_aload_n hx hb dX9_isSameAs_48 rfl (lv_at hl 1 rfl) ?_
          refine va_get (D := (dC, dI)) (ci := 8) (v := .int v1_e) (C := RX9) (T := TX9) (N := 6) hx hb hu inX9 hown hK hP 1 rfl rfl 4 (by decide) (hu _ kw_28) (fun _ h9 => h9) rfl dX9_isSameAs_49 ?_
          refine lv_icmp_ne (tgt := 70) hx hb dX9_isSameAs_52 (by decide) (fun c_5 => ?_) (fun c_5 => ?_)
          · have hM := if_f c_5 hM
            refine lv_iconst (v := 0) hx hb dX9_isSameAs_70 (by decide) ?_
            have h9 := Option.some.inj hM
            subst h9
            exact W.zret (v := 0) hx hb hr (zb_n (Or.inl rfl)) (fun t ht hW => QMz_mk (Or.inl rfl) (by rw [ht]; exact hP) (va_K.moved hW.alike hK) hD (hS.F ht)) hS.2.2 dX9_isSameAs_71
          · have hM := if_t c_5 hM
            refine lv_aload_n hx hb dX9_isSameAs_55 rfl (lv_at hl 0 rfl) ?_
            refine va_get (D := (dC, dI)) (ci := 8) (v := .int v0_f) (C := RX9) (T := TX9) (N := 6) hx hb hu inX9 hown hK hP 0 rfl rfl 5 (by decide) (hu _ kw_29) (fun _ h9 => h9) rfl dX9_isSameAs_56 ?_
            refine lv_aload_n hx hb dX9_isSameAs_59 rfl (lv_at hl 1 rfl) ?_
            refine va_get (D := (dC, dI)) (ci := 8) (v := .int v1_f) (C := RX9) (T := TX9) (N := 6) hx hb hu inX9 hown hK hP 1 rfl rfl 5 (by decide) (hu _ kw_29) (fun _ h9 => h9) rfl dX9_isSameAs_60 ?_
            refine lv_icmp_ne (tgt := 70) hx hb dX9_isSameAs_63 (by decide) (fun c_6 => ?_) (fun c_6 => ?_)
            · have hM := if_f c_6 hM
              refine lv_iconst (v := 0) hx hb dX9_isSameAs_70 (by decide) ?_
              have h9 := Option.some.inj hM
              subst h9
              exact W.zret (v := 0) hx hb hr (zb_n (Or.inl rfl)) (fun t ht hW => QMz_mk (Or.inl rfl) (by rw [ht]; exact hP) (va_K.moved hW.alike hK) hD (hS.F ht)) hS.2.2 dX9_isSameAs_71
            · have hM := if_t c_6 hM
              refine lv_iconst (v := 1) hx hb dX9_isSameAs_66 (by decide) ?_
              refine lv_goto (tgt := 71) hx hb dX9_isSameAs_67 (by decide) ?_
              have h9 := Option.some.inj hM
              subst h9
              exact W.zret (v := 1) hx hb hr (zb_n (Or.inr rfl)) (fun t ht hW => QMz_mk (Or.inr rfl) (by rw [ht]; exact hP) (va_K.moved hW.alike hK) hD (hS.F ht)) hS.2.2 dX9_isSameAs_71
theorem dX9_rounded_0 : decode cX9_rounded 0 = .ok (.lload_n 0, 1) := by decide +kernel
theorem dX9_rounded_1 : decode cX9_rounded 1 = .ok (.ldc2_w 54, 3) := by decide +kernel
theorem dX9_rounded_4 : decode cX9_rounded 4 = .ok (.ladd, 1) := by decide +kernel
theorem dX9_rounded_5 : decode cX9_rounded 5 = .ok (.bipush 16, 2) := by decide +kernel
theorem dX9_rounded_7 : decode cX9_rounded 7 = .ok (.lshr, 1) := by decide +kernel
theorem dX9_rounded_8 : decode cX9_rounded 8 = .ok (.lreturn, 1) := by decide +kernel
abbrev rm_X9_rounded : Room := { frames := 0, cells := 0, slots := 0, locals := 0 }
def w_X9_rounded : List Cond := Cond.code yX9_rounded cX9_rounded 2 (some .long) :: uw
set_option maxHeartbeats 4000000 in
set_option maxRecDepth 100000 in
theorem c_X9_rounded (l : Launch) (dC : Nat → ClassId) (dI : Nat → Nat → Nat) (cI cZ cO : ClassId) (tL sz : Nat) (p0 : Int64) (res : Int64) (hM : m_X9_rounded p0 = some res) : Met l yX9_rounded w_X9_rounded rm_X9_rounded (PCx [.long p0] (dC, dI) [(cI, .int), (cZ, .boolean), (cO, .object "ListPainter$Settings")] sz tL []) (QMl res (dC, dI) [(cI, .int), (cZ, .boolean), (cO, .object "ListPainter$Settings")] (va_A [] sz) []) 0 0 (va_A [] sz) := by
  refine Met.ofW (cc := cX9_rounded) (maxL := 2) (ret := (some .long)) (by decide) rfl ?_
  intro p e s m args below meth c s₁ B hml hv
  obtain ⟨rfl, hsz, hP, hK, hD0, hG⟩ := hv
  have hx := B.exec
  have hb := B.bytes
  have hr := B.returns
  have hu : ∀ w ∈ uw, w.before ([.long p0] : List Value).toArray s = true := fun w h => atoms_spec (ws := w_X9_rounded) B.pre w (List.mem_cons_of_mem _ h)
  have hown : s.vm.findClass RX9 = some m.cls := findClass_of_methodNamed B.named
  have hlocks := B.notSynchronized
  subst hsz
  have hD := hD0.self (sz := s.heap.size)
  generalize hAe : va_A [] s.heap.size = A at hD hG ⊢
  have hA : ∀ q : Nat, s.heap.size ≤ q → A q := fun q h => by rw [← hAe]; exact Or.inr h
  have hS : va_S A s.heap s.heap [] := va_S.rf
  have hP : va_P (dC, dI) vwCl [] s.heap := hP
  have hl := lv_entry ([.long p0]) (n := 2) (Nat.le_of_ble_eq_true rfl)
  rw [lg_entry_eq]
  generalize (lg_sl ([.long p0]) ++ List.replicate (2 - (lg_sl ([.long p0])).length) Slot.unset).toArray = ls at hl ⊢
  have hl : lv_has ls 2 [(0, .long p0)] := hl
  rw [m_X9_rounded] at hM
  suffices hgo : ∀ (H : Heap) (locs : List Loc), va_P (dC, dI) vwCl [] H → va_D A [] → va_S A s.heap H locs → W p l e (headSpec w_X9_rounded rm_X9_rounded).room s m ([.long p0] : List Value).toArray below meth c H locs 0 0 (MQ below (QMl res (dC, dI) [(cI, .int), (cZ, .boolean), (cO, .object "ListPainter$Settings")] A []) ([.long p0] : List Value).toArray s 0 0 A) (F0 m 0 ls []) from hgo _ _ hP hD hS
  intro H locs hP hD hS
  refine lv_lload_n hx hb dX9_rounded_0 rfl (lv_at hl 0 rfl) ?_
  refine lv_ldc2 (v := 32768) hx hb hown (hu _ kw_32) dX9_rounded_1 ?_
  refine lv_ladd hx hb dX9_rounded_4 ?_
  refine lv_bipush (v := 16) hx hb dX9_rounded_5 (by decide) ?_
  refine lv_lshr (v := (((p0 + 32768) : Int64) >>> ((16 : Int32).toInt64 &&& 63))) hx hb dX9_rounded_7 rfl ?_
  have h9 := Option.some.inj hM
  subst h9
  exact W.lret (v := (((p0 + 32768) : Int64) >>> ((16 : Int32).toInt64 &&& 63))) hx hb hr (fun t ht hW => QMl_mk (by rw [ht]; exact hP) (va_K.moved hW.alike hK) hD (hS.F ht)) hS.2.2 dX9_rounded_8
theorem dX9_held_0 : decode cX9_held 0 = .ok (.lload_n 0, 1) := by decide +kernel
theorem dX9_held_1 : decode cX9_held 1 = .ok (.ldc2_w 56, 3) := by decide +kernel
theorem dX9_held_4 : decode cX9_held 4 = .ok (.lcmp, 1) := by decide +kernel
theorem dX9_held_5 : decode cX9_held 5 = .ok (.ifCond .le 6, 3) := by decide +kernel
theorem dX9_held_8 : decode cX9_held 8 = .ok (.ldc 58, 2) := by decide +kernel
theorem dX9_held_10 : decode cX9_held 10 = .ok (.ireturn, 1) := by decide +kernel
theorem dX9_held_11 : decode cX9_held 11 = .ok (.lload_n 0, 1) := by decide +kernel
theorem dX9_held_12 : decode cX9_held 12 = .ok (.ldc2_w 59, 3) := by decide +kernel
theorem dX9_held_15 : decode cX9_held 15 = .ok (.lcmp, 1) := by decide +kernel
theorem dX9_held_16 : decode cX9_held 16 = .ok (.ifCond .ge 8, 3) := by decide +kernel
theorem dX9_held_19 : decode cX9_held 19 = .ok (.ldc 61, 2) := by decide +kernel
theorem dX9_held_21 : decode cX9_held 21 = .ok (.goto 5, 3) := by decide +kernel
theorem dX9_held_24 : decode cX9_held 24 = .ok (.lload_n 0, 1) := by decide +kernel
theorem dX9_held_25 : decode cX9_held 25 = .ok (.l2i, 1) := by decide +kernel
theorem dX9_held_26 : decode cX9_held 26 = .ok (.ireturn, 1) := by decide +kernel
abbrev rm_X9_held : Room := { frames := 0, cells := 0, slots := 0, locals := 0 }
def w_X9_held : List Cond := Cond.code yX9_held cX9_held 2 (some .int) :: uw
set_option maxHeartbeats 4000000 in
set_option maxRecDepth 100000 in
theorem c_X9_held (l : Launch) (dC : Nat → ClassId) (dI : Nat → Nat → Nat) (cI cZ cO : ClassId) (tL sz : Nat) (p0 : Int64) (res : Int32) (hM : m_X9_held p0 = some res) : Met l yX9_held w_X9_held rm_X9_held (PCx [.long p0] (dC, dI) [(cI, .int), (cZ, .boolean), (cO, .object "ListPainter$Settings")] sz tL []) (QMi res (dC, dI) [(cI, .int), (cZ, .boolean), (cO, .object "ListPainter$Settings")] (va_A [] sz) []) 0 0 (va_A [] sz) := by
  refine Met.ofW (cc := cX9_held) (maxL := 2) (ret := (some .int)) (by decide) rfl ?_
  intro p e s m args below meth c s₁ B hml hv
  obtain ⟨rfl, hsz, hP, hK, hD0, hG⟩ := hv
  have hx := B.exec
  have hb := B.bytes
  have hr := B.returns
  have hu : ∀ w ∈ uw, w.before ([.long p0] : List Value).toArray s = true := fun w h => atoms_spec (ws := w_X9_held) B.pre w (List.mem_cons_of_mem _ h)
  have hown : s.vm.findClass RX9 = some m.cls := findClass_of_methodNamed B.named
  have hlocks := B.notSynchronized
  subst hsz
  have hD := hD0.self (sz := s.heap.size)
  generalize hAe : va_A [] s.heap.size = A at hD hG ⊢
  have hA : ∀ q : Nat, s.heap.size ≤ q → A q := fun q h => by rw [← hAe]; exact Or.inr h
  have hS : va_S A s.heap s.heap [] := va_S.rf
  have hP : va_P (dC, dI) vwCl [] s.heap := hP
  have hl := lv_entry ([.long p0]) (n := 2) (Nat.le_of_ble_eq_true rfl)
  rw [lg_entry_eq]
  generalize (lg_sl ([.long p0]) ++ List.replicate (2 - (lg_sl ([.long p0])).length) Slot.unset).toArray = ls at hl ⊢
  have hl : lv_has ls 2 [(0, .long p0)] := hl
  rw [m_X9_held] at hM
  suffices hgo : ∀ (H : Heap) (locs : List Loc), va_P (dC, dI) vwCl [] H → va_D A [] → va_S A s.heap H locs → W p l e (headSpec w_X9_held rm_X9_held).room s m ([.long p0] : List Value).toArray below meth c H locs 0 0 (MQ below (QMi res (dC, dI) [(cI, .int), (cZ, .boolean), (cO, .object "ListPainter$Settings")] A []) ([.long p0] : List Value).toArray s 0 0 A) (F0 m 0 ls []) from hgo _ _ hP hD hS
  intro H locs hP hD hS
  refine lv_lload_n hx hb dX9_held_0 rfl (lv_at hl 0 rfl) ?_
  refine lv_ldc2 (v := 1073741824) hx hb hown (hu _ kw_33) dX9_held_1 ?_
  refine W.lcmp hx hb dX9_held_4 ?_
  refine lv_if_le (tgt := 11) hx hb dX9_held_5 (by decide) (fun c_1 => ?_) (fun c_1 => ?_)
  · have hM := if_t c_1 hM
    refine lv_lload_n hx hb dX9_held_11 rfl (lv_at hl 0 rfl) ?_
    refine lv_ldc2 (v := (-1073741824)) hx hb hown (hu _ kw_34) dX9_held_12 ?_
    refine W.lcmp hx hb dX9_held_15 ?_
    refine lv_if_ge (tgt := 24) hx hb dX9_held_16 (by decide) (fun c_2 => ?_) (fun c_2 => ?_)
    · have hM := if_t c_2 hM
      refine lv_lload_n hx hb dX9_held_24 rfl (lv_at hl 0 rfl) ?_
      refine lv_l2i (v := ((p0 : Int64).toInt32)) hx hb dX9_held_25 rfl ?_
      have h9 := Option.some.inj hM
      subst h9
      exact W.iret (v := ((p0 : Int64).toInt32)) hx hb hr (fun t ht hW => QMi_mk (by rw [ht]; exact hP) (va_K.moved hW.alike hK) hD (hS.F ht)) hS.2.2 dX9_held_26
    · have hM := if_f c_2 hM
      refine lv_ldc (v := (-1073741824)) hx hb hown (hu _ kw_35) dX9_held_19 ?_
      refine lv_goto (tgt := 26) hx hb dX9_held_21 (by decide) ?_
      have h9 := Option.some.inj hM
      subst h9
      exact W.iret (v := (-1073741824)) hx hb hr (fun t ht hW => QMi_mk (by rw [ht]; exact hP) (va_K.moved hW.alike hK) hD (hS.F ht)) hS.2.2 dX9_held_26
  · have hM := if_f c_1 hM
    refine lv_ldc (v := 1073741824) hx hb hown (hu _ kw_36) dX9_held_8 ?_
    have h9 := Option.some.inj hM
    subst h9
    exact W.iret (v := 1073741824) hx hb hr (fun t ht hW => QMi_mk (by rw [ht]; exact hP) (va_K.moved hW.alike hK) hD (hS.F ht)) hS.2.2 dX9_held_10
theorem dX9_sendX_0 : decode cX9_sendX 0 = .ok (.aload_n 0, 1) := by decide +kernel
theorem dX9_sendX_1 : decode cX9_sendX 1 = .ok (.getfield 10, 3) := by decide +kernel
theorem dX9_sendX_4 : decode cX9_sendX 4 = .ok (.i2l, 1) := by decide +kernel
theorem dX9_sendX_5 : decode cX9_sendX 5 = .ok (.iload_n 1, 1) := by decide +kernel
theorem dX9_sendX_6 : decode cX9_sendX 6 = .ok (.i2l, 1) := by decide +kernel
theorem dX9_sendX_7 : decode cX9_sendX 7 = .ok (.lmul, 1) := by decide +kernel
theorem dX9_sendX_8 : decode cX9_sendX 8 = .ok (.aload_n 0, 1) := by decide +kernel
theorem dX9_sendX_9 : decode cX9_sendX 9 = .ok (.getfield 19, 3) := by decide +kernel
theorem dX9_sendX_12 : decode cX9_sendX 12 = .ok (.i2l, 1) := by decide +kernel
theorem dX9_sendX_13 : decode cX9_sendX 13 = .ok (.iload_n 2, 1) := by decide +kernel
theorem dX9_sendX_14 : decode cX9_sendX 14 = .ok (.i2l, 1) := by decide +kernel
theorem dX9_sendX_15 : decode cX9_sendX 15 = .ok (.lmul, 1) := by decide +kernel
theorem dX9_sendX_16 : decode cX9_sendX 16 = .ok (.ladd, 1) := by decide +kernel
theorem dX9_sendX_17 : decode cX9_sendX 17 = .ok (.invokestatic 41, 3) := by decide +kernel
theorem dX9_sendX_20 : decode cX9_sendX 20 = .ok (.aload_n 0, 1) := by decide +kernel
theorem dX9_sendX_21 : decode cX9_sendX 21 = .ok (.getfield 25, 3) := by decide +kernel
theorem dX9_sendX_24 : decode cX9_sendX 24 = .ok (.i2l, 1) := by decide +kernel
theorem dX9_sendX_25 : decode cX9_sendX 25 = .ok (.ladd, 1) := by decide +kernel
theorem dX9_sendX_26 : decode cX9_sendX 26 = .ok (.invokestatic 45, 3) := by decide +kernel
theorem dX9_sendX_29 : decode cX9_sendX 29 = .ok (.ireturn, 1) := by decide +kernel
abbrev rm_X9_sendX : Room := { frames := 1, cells := 0, slots := 0, locals := 21 }
def w_X9_sendX : List Cond := Cond.code yX9_sendX cX9_sendX 3 (some .int) :: uw
set_option maxHeartbeats 4000000 in
set_option maxRecDepth 100000 in
theorem c_X9_sendX (l : Launch) (dC : Nat → ClassId) (dI : Nat → Nat → Nat) (cI cZ cO : ClassId) (tL sz : Nat) (h0 : Nat) (v0_a : Int32) (v0_b : Int32) (v0_c : Int32) (v0_d : Int32) (v0_e : Int32) (v0_f : Int32) (p1 : Int32) (p2 : Int32) (res : Int32) (hM : m_X9_sendX v0_a v0_c v0_e p1 p2 = some res) : Met l yX9_sendX w_X9_sendX rm_X9_sendX (PCx [.ref h0, .int p1, .int p2] (dC, dI) [(cI, .int), (cZ, .boolean), (cO, .object "ListPainter$Settings")] sz tL [(h0, .inr (8, [.int v0_a, .int v0_b, .int v0_c, .int v0_d, .int v0_e, .int v0_f]))]) (QMi res (dC, dI) [(cI, .int), (cZ, .boolean), (cO, .object "ListPainter$Settings")] (va_A [(h0, .inr (8, [.int v0_a, .int v0_b, .int v0_c, .int v0_d, .int v0_e, .int v0_f]))] sz) [(h0, .inr (8, [.int v0_a, .int v0_b, .int v0_c, .int v0_d, .int v0_e, .int v0_f]))]) 0 0 (va_A [(h0, .inr (8, [.int v0_a, .int v0_b, .int v0_c, .int v0_d, .int v0_e, .int v0_f]))] sz) := by
  refine Met.ofW (cc := cX9_sendX) (maxL := 3) (ret := (some .int)) (by decide) rfl ?_
  intro p e s m args below meth c s₁ B hml hv
  obtain ⟨rfl, hsz, hP, hK, hD0, hG⟩ := hv
  have hx := B.exec
  have hb := B.bytes
  have hr := B.returns
  have hu : ∀ w ∈ uw, w.before ([.ref h0, .int p1, .int p2] : List Value).toArray s = true := fun w h => atoms_spec (ws := w_X9_sendX) B.pre w (List.mem_cons_of_mem _ h)
  have hown : s.vm.findClass RX9 = some m.cls := findClass_of_methodNamed B.named
  have hlocks := B.notSynchronized
  subst hsz
  have hD := hD0.self (sz := s.heap.size)
  generalize hAe : va_A [(h0, .inr (8, [.int v0_a, .int v0_b, .int v0_c, .int v0_d, .int v0_e, .int v0_f]))] s.heap.size = A at hD hG ⊢
  have hA : ∀ q : Nat, s.heap.size ≤ q → A q := fun q h => by rw [← hAe]; exact Or.inr h
  have hS : va_S A s.heap s.heap [] := va_S.rf
  have hP : va_P (dC, dI) vwCl [(h0, .inr (8, [.int v0_a, .int v0_b, .int v0_c, .int v0_d, .int v0_e, .int v0_f]))] s.heap := hP
  have hl := lv_entry ([.ref h0, .int p1, .int p2]) (n := 3) (Nat.le_of_ble_eq_true rfl)
  rw [lg_entry_eq]
  generalize (lg_sl ([.ref h0, .int p1, .int p2]) ++ List.replicate (3 - (lg_sl ([.ref h0, .int p1, .int p2])).length) Slot.unset).toArray = ls at hl ⊢
  have hl : lv_has ls 3 [(0, .ref h0), (1, .int p1), (2, .int p2)] := hl
  rw [m_X9_sendX] at hM
  suffices hgo : ∀ (H : Heap) (locs : List Loc), va_P (dC, dI) vwCl [(h0, .inr (8, [.int v0_a, .int v0_b, .int v0_c, .int v0_d, .int v0_e, .int v0_f]))] H → va_D A [(h0, .inr (8, [.int v0_a, .int v0_b, .int v0_c, .int v0_d, .int v0_e, .int v0_f]))] → va_S A s.heap H locs → W p l e (headSpec w_X9_sendX rm_X9_sendX).room s m ([.ref h0, .int p1, .int p2] : List Value).toArray below meth c H locs 0 0 (MQ below (QMi res (dC, dI) [(cI, .int), (cZ, .boolean), (cO, .object "ListPainter$Settings")] A [(h0, .inr (8, [.int v0_a, .int v0_b, .int v0_c, .int v0_d, .int v0_e, .int v0_f]))]) ([.ref h0, .int p1, .int p2] : List Value).toArray s 0 0 A) (F0 m 0 ls []) from hgo _ _ hP hD hS
  intro H locs hP hD hS
  refine lv_aload_n hx hb dX9_sendX_0 rfl (lv_at hl 0 rfl) ?_
  refine va_get (D := (dC, dI)) (ci := 8) (v := .int v0_a) (C := RX9) (T := TX9) (N := 6) hx hb hu inX9 hown hK hP 0 rfl rfl 0 (by decide) (hu _ kw_24) (fun _ h9 => h9) rfl dX9_sendX_1 ?_
  refine lv_i2l (v := ((v0_a : Int32).toInt64)) hx hb dX9_sendX_4 rfl ?_
  refine lv_iload_n hx hb dX9_sendX_5 rfl (lv_at hl 1 rfl) ?_
  refine lv_i2l (v := ((p1 : Int32).toInt64)) hx hb dX9_sendX_6 rfl ?_
  refine lv_lmul hx hb dX9_sendX_7 ?_
  refine lv_aload_n hx hb dX9_sendX_8 rfl (lv_at hl 0 rfl) ?_
  refine va_get (D := (dC, dI)) (ci := 8) (v := .int v0_c) (C := RX9) (T := TX9) (N := 6) hx hb hu inX9 hown hK hP 0 rfl rfl 2 (by decide) (hu _ kw_26) (fun _ h9 => h9) rfl dX9_sendX_9 ?_
  refine lv_i2l (v := ((v0_c : Int32).toInt64)) hx hb dX9_sendX_12 rfl ?_
  refine lv_iload_n hx hb dX9_sendX_13 rfl (lv_at hl 2 rfl) ?_
  refine lv_i2l (v := ((p2 : Int32).toInt64)) hx hb dX9_sendX_14 rfl ?_
  refine lv_lmul hx hb dX9_sendX_15 ?_
  refine lv_ladd hx hb dX9_sendX_16 ?_
  obtain ⟨r_1, hm_2, hM⟩ := bd1_u hM
  refine cSl (r := r_1) (As := [.long ((((v0_a : Int32).toInt64) * ((p1 : Int32).toInt64)) + (((v0_c : Int32).toInt64) * ((p2 : Int32).toInt64)))]) (rest := []) ⟨hx, hb, hml, hown, hu⟩ (c_X9_rounded l dC dI cI cZ cO tL H.size ((((v0_a : Int32).toInt64) * ((p1 : Int32).toInt64)) + (((v0_c : Int32).toInt64) * ((p2 : Int32).toInt64))) r_1 hm_2) (va_cwS 1 hu (gS kw_37 kw_38 kw_39 kw_40) rfl rfl rfl (by decide +kernel) ⟨Nat.le_of_ble_eq_true rfl, Nat.le_of_ble_eq_true rfl⟩) hP hD hS hA hK hG [] (by decide) rfl [none] 0 rfl (by decide +kernel) rfl rfl hl.1 rfl (Nat.le_of_ble_eq_true rfl) dX9_sendX_17 (Nat.zero_le _) (Nat.zero_le _) (fun H locs hP hD hS => ?_)
  have hP : va_P (dC, dI) vwCl [(h0, .inr (8, [.int v0_a, .int v0_b, .int v0_c, .int v0_d, .int v0_e, .int v0_f]))] H := hP
  have hD : va_D A [(h0, .inr (8, [.int v0_a, .int v0_b, .int v0_c, .int v0_d, .int v0_e, .int v0_f]))] := hD
  refine lv_aload_n hx hb dX9_sendX_20 rfl (lv_at hl 0 rfl) ?_
  refine va_get (D := (dC, dI)) (ci := 8) (v := .int v0_e) (C := RX9) (T := TX9) (N := 6) hx hb hu inX9 hown hK hP 0 rfl rfl 4 (by decide) (hu _ kw_28) (fun _ h9 => h9) rfl dX9_sendX_21 ?_
  refine lv_i2l (v := ((v0_e : Int32).toInt64)) hx hb dX9_sendX_24 rfl ?_
  refine lv_ladd hx hb dX9_sendX_25 ?_
  obtain ⟨r_3, hm_4, hM⟩ := bd1_u hM
  refine cSi (r := r_3) (As := [.long (r_1 + ((v0_e : Int32).toInt64))]) (rest := []) ⟨hx, hb, hml, hown, hu⟩ (c_X9_held l dC dI cI cZ cO tL H.size (r_1 + ((v0_e : Int32).toInt64)) r_3 hm_4) (va_cwS 1 hu (gS kw_41 kw_42 kw_39 kw_43) rfl rfl rfl (by decide +kernel) ⟨Nat.le_of_ble_eq_true rfl, Nat.le_of_ble_eq_true rfl⟩) hP hD hS hA hK hG [] (by decide) rfl [none] 0 rfl (by decide +kernel) rfl rfl hl.1 rfl (Nat.le_of_ble_eq_true rfl) dX9_sendX_26 (Nat.zero_le _) (Nat.zero_le _) (fun H locs hP hD hS => ?_)
  have hP : va_P (dC, dI) vwCl [(h0, .inr (8, [.int v0_a, .int v0_b, .int v0_c, .int v0_d, .int v0_e, .int v0_f]))] H := hP
  have hD : va_D A [(h0, .inr (8, [.int v0_a, .int v0_b, .int v0_c, .int v0_d, .int v0_e, .int v0_f]))] := hD
  have h9 := Option.some.inj hM
  subst h9
  exact W.iret (v := r_3) hx hb hr (fun t ht hW => QMi_mk (by rw [ht]; exact hP) (va_K.moved hW.alike hK) hD (hS.F ht)) hS.2.2 dX9_sendX_29
theorem dX9_sendY_0 : decode cX9_sendY 0 = .ok (.aload_n 0, 1) := by decide +kernel
theorem dX9_sendY_1 : decode cX9_sendY 1 = .ok (.getfield 16, 3) := by decide +kernel
theorem dX9_sendY_4 : decode cX9_sendY 4 = .ok (.i2l, 1) := by decide +kernel
theorem dX9_sendY_5 : decode cX9_sendY 5 = .ok (.iload_n 1, 1) := by decide +kernel
theorem dX9_sendY_6 : decode cX9_sendY 6 = .ok (.i2l, 1) := by decide +kernel
theorem dX9_sendY_7 : decode cX9_sendY 7 = .ok (.lmul, 1) := by decide +kernel
theorem dX9_sendY_8 : decode cX9_sendY 8 = .ok (.aload_n 0, 1) := by decide +kernel
theorem dX9_sendY_9 : decode cX9_sendY 9 = .ok (.getfield 22, 3) := by decide +kernel
theorem dX9_sendY_12 : decode cX9_sendY 12 = .ok (.i2l, 1) := by decide +kernel
theorem dX9_sendY_13 : decode cX9_sendY 13 = .ok (.iload_n 2, 1) := by decide +kernel
theorem dX9_sendY_14 : decode cX9_sendY 14 = .ok (.i2l, 1) := by decide +kernel
theorem dX9_sendY_15 : decode cX9_sendY 15 = .ok (.lmul, 1) := by decide +kernel
theorem dX9_sendY_16 : decode cX9_sendY 16 = .ok (.ladd, 1) := by decide +kernel
theorem dX9_sendY_17 : decode cX9_sendY 17 = .ok (.invokestatic 41, 3) := by decide +kernel
theorem dX9_sendY_20 : decode cX9_sendY 20 = .ok (.aload_n 0, 1) := by decide +kernel
theorem dX9_sendY_21 : decode cX9_sendY 21 = .ok (.getfield 28, 3) := by decide +kernel
theorem dX9_sendY_24 : decode cX9_sendY 24 = .ok (.i2l, 1) := by decide +kernel
theorem dX9_sendY_25 : decode cX9_sendY 25 = .ok (.ladd, 1) := by decide +kernel
theorem dX9_sendY_26 : decode cX9_sendY 26 = .ok (.invokestatic 45, 3) := by decide +kernel
theorem dX9_sendY_29 : decode cX9_sendY 29 = .ok (.ireturn, 1) := by decide +kernel
abbrev rm_X9_sendY : Room := { frames := 1, cells := 0, slots := 0, locals := 21 }
def w_X9_sendY : List Cond := Cond.code yX9_sendY cX9_sendY 3 (some .int) :: uw
set_option maxHeartbeats 4000000 in
set_option maxRecDepth 100000 in
theorem c_X9_sendY (l : Launch) (dC : Nat → ClassId) (dI : Nat → Nat → Nat) (cI cZ cO : ClassId) (tL sz : Nat) (h0 : Nat) (v0_a : Int32) (v0_b : Int32) (v0_c : Int32) (v0_d : Int32) (v0_e : Int32) (v0_f : Int32) (p1 : Int32) (p2 : Int32) (res : Int32) (hM : m_X9_sendY v0_b v0_d v0_f p1 p2 = some res) : Met l yX9_sendY w_X9_sendY rm_X9_sendY (PCx [.ref h0, .int p1, .int p2] (dC, dI) [(cI, .int), (cZ, .boolean), (cO, .object "ListPainter$Settings")] sz tL [(h0, .inr (8, [.int v0_a, .int v0_b, .int v0_c, .int v0_d, .int v0_e, .int v0_f]))]) (QMi res (dC, dI) [(cI, .int), (cZ, .boolean), (cO, .object "ListPainter$Settings")] (va_A [(h0, .inr (8, [.int v0_a, .int v0_b, .int v0_c, .int v0_d, .int v0_e, .int v0_f]))] sz) [(h0, .inr (8, [.int v0_a, .int v0_b, .int v0_c, .int v0_d, .int v0_e, .int v0_f]))]) 0 0 (va_A [(h0, .inr (8, [.int v0_a, .int v0_b, .int v0_c, .int v0_d, .int v0_e, .int v0_f]))] sz) := by
  refine Met.ofW (cc := cX9_sendY) (maxL := 3) (ret := (some .int)) (by decide) rfl ?_
  intro p e s m args below meth c s₁ B hml hv
  obtain ⟨rfl, hsz, hP, hK, hD0, hG⟩ := hv
  have hx := B.exec
  have hb := B.bytes
  have hr := B.returns
  have hu : ∀ w ∈ uw, w.before ([.ref h0, .int p1, .int p2] : List Value).toArray s = true := fun w h => atoms_spec (ws := w_X9_sendY) B.pre w (List.mem_cons_of_mem _ h)
  have hown : s.vm.findClass RX9 = some m.cls := findClass_of_methodNamed B.named
  have hlocks := B.notSynchronized
  subst hsz
  have hD := hD0.self (sz := s.heap.size)
  generalize hAe : va_A [(h0, .inr (8, [.int v0_a, .int v0_b, .int v0_c, .int v0_d, .int v0_e, .int v0_f]))] s.heap.size = A at hD hG ⊢
  have hA : ∀ q : Nat, s.heap.size ≤ q → A q := fun q h => by rw [← hAe]; exact Or.inr h
  have hS : va_S A s.heap s.heap [] := va_S.rf
  have hP : va_P (dC, dI) vwCl [(h0, .inr (8, [.int v0_a, .int v0_b, .int v0_c, .int v0_d, .int v0_e, .int v0_f]))] s.heap := hP
  have hl := lv_entry ([.ref h0, .int p1, .int p2]) (n := 3) (Nat.le_of_ble_eq_true rfl)
  rw [lg_entry_eq]
  generalize (lg_sl ([.ref h0, .int p1, .int p2]) ++ List.replicate (3 - (lg_sl ([.ref h0, .int p1, .int p2])).length) Slot.unset).toArray = ls at hl ⊢
  have hl : lv_has ls 3 [(0, .ref h0), (1, .int p1), (2, .int p2)] := hl
  rw [m_X9_sendY] at hM
  suffices hgo : ∀ (H : Heap) (locs : List Loc), va_P (dC, dI) vwCl [(h0, .inr (8, [.int v0_a, .int v0_b, .int v0_c, .int v0_d, .int v0_e, .int v0_f]))] H → va_D A [(h0, .inr (8, [.int v0_a, .int v0_b, .int v0_c, .int v0_d, .int v0_e, .int v0_f]))] → va_S A s.heap H locs → W p l e (headSpec w_X9_sendY rm_X9_sendY).room s m ([.ref h0, .int p1, .int p2] : List Value).toArray below meth c H locs 0 0 (MQ below (QMi res (dC, dI) [(cI, .int), (cZ, .boolean), (cO, .object "ListPainter$Settings")] A [(h0, .inr (8, [.int v0_a, .int v0_b, .int v0_c, .int v0_d, .int v0_e, .int v0_f]))]) ([.ref h0, .int p1, .int p2] : List Value).toArray s 0 0 A) (F0 m 0 ls []) from hgo _ _ hP hD hS
  intro H locs hP hD hS
  refine lv_aload_n hx hb dX9_sendY_0 rfl (lv_at hl 0 rfl) ?_
  refine va_get (D := (dC, dI)) (ci := 8) (v := .int v0_b) (C := RX9) (T := TX9) (N := 6) hx hb hu inX9 hown hK hP 0 rfl rfl 1 (by decide) (hu _ kw_25) (fun _ h9 => h9) rfl dX9_sendY_1 ?_
  refine lv_i2l (v := ((v0_b : Int32).toInt64)) hx hb dX9_sendY_4 rfl ?_
  refine lv_iload_n hx hb dX9_sendY_5 rfl (lv_at hl 1 rfl) ?_
  refine lv_i2l (v := ((p1 : Int32).toInt64)) hx hb dX9_sendY_6 rfl ?_
  refine lv_lmul hx hb dX9_sendY_7 ?_
  refine lv_aload_n hx hb dX9_sendY_8 rfl (lv_at hl 0 rfl) ?_
  refine va_get (D := (dC, dI)) (ci := 8) (v := .int v0_d) (C := RX9) (T := TX9) (N := 6) hx hb hu inX9 hown hK hP 0 rfl rfl 3 (by decide) (hu _ kw_27) (fun _ h9 => h9) rfl dX9_sendY_9 ?_
  refine lv_i2l (v := ((v0_d : Int32).toInt64)) hx hb dX9_sendY_12 rfl ?_
  refine lv_iload_n hx hb dX9_sendY_13 rfl (lv_at hl 2 rfl) ?_
  refine lv_i2l (v := ((p2 : Int32).toInt64)) hx hb dX9_sendY_14 rfl ?_
  refine lv_lmul hx hb dX9_sendY_15 ?_
  refine lv_ladd hx hb dX9_sendY_16 ?_
  obtain ⟨r_1, hm_2, hM⟩ := bd1_u hM
  refine cSl (r := r_1) (As := [.long ((((v0_b : Int32).toInt64) * ((p1 : Int32).toInt64)) + (((v0_d : Int32).toInt64) * ((p2 : Int32).toInt64)))]) (rest := []) ⟨hx, hb, hml, hown, hu⟩ (c_X9_rounded l dC dI cI cZ cO tL H.size ((((v0_b : Int32).toInt64) * ((p1 : Int32).toInt64)) + (((v0_d : Int32).toInt64) * ((p2 : Int32).toInt64))) r_1 hm_2) (va_cwS 1 hu (gS kw_37 kw_38 kw_39 kw_40) rfl rfl rfl (by decide +kernel) ⟨Nat.le_of_ble_eq_true rfl, Nat.le_of_ble_eq_true rfl⟩) hP hD hS hA hK hG [] (by decide) rfl [none] 0 rfl (by decide +kernel) rfl rfl hl.1 rfl (Nat.le_of_ble_eq_true rfl) dX9_sendY_17 (Nat.zero_le _) (Nat.zero_le _) (fun H locs hP hD hS => ?_)
  have hP : va_P (dC, dI) vwCl [(h0, .inr (8, [.int v0_a, .int v0_b, .int v0_c, .int v0_d, .int v0_e, .int v0_f]))] H := hP
  have hD : va_D A [(h0, .inr (8, [.int v0_a, .int v0_b, .int v0_c, .int v0_d, .int v0_e, .int v0_f]))] := hD
  refine lv_aload_n hx hb dX9_sendY_20 rfl (lv_at hl 0 rfl) ?_
  refine va_get (D := (dC, dI)) (ci := 8) (v := .int v0_f) (C := RX9) (T := TX9) (N := 6) hx hb hu inX9 hown hK hP 0 rfl rfl 5 (by decide) (hu _ kw_29) (fun _ h9 => h9) rfl dX9_sendY_21 ?_
  refine lv_i2l (v := ((v0_f : Int32).toInt64)) hx hb dX9_sendY_24 rfl ?_
  refine lv_ladd hx hb dX9_sendY_25 ?_
  obtain ⟨r_3, hm_4, hM⟩ := bd1_u hM
  refine cSi (r := r_3) (As := [.long (r_1 + ((v0_f : Int32).toInt64))]) (rest := []) ⟨hx, hb, hml, hown, hu⟩ (c_X9_held l dC dI cI cZ cO tL H.size (r_1 + ((v0_f : Int32).toInt64)) r_3 hm_4) (va_cwS 1 hu (gS kw_41 kw_42 kw_39 kw_43) rfl rfl rfl (by decide +kernel) ⟨Nat.le_of_ble_eq_true rfl, Nat.le_of_ble_eq_true rfl⟩) hP hD hS hA hK hG [] (by decide) rfl [none] 0 rfl (by decide +kernel) rfl rfl hl.1 rfl (Nat.le_of_ble_eq_true rfl) dX9_sendY_26 (Nat.zero_le _) (Nat.zero_le _) (fun H locs hP hD hS => ?_)
  have hP : va_P (dC, dI) vwCl [(h0, .inr (8, [.int v0_a, .int v0_b, .int v0_c, .int v0_d, .int v0_e, .int v0_f]))] H := hP
  have hD : va_D A [(h0, .inr (8, [.int v0_a, .int v0_b, .int v0_c, .int v0_d, .int v0_e, .int v0_f]))] := hD
  have h9 := Option.some.inj hM
  subst h9
  exact W.iret (v := r_3) hx hb hr (fun t ht hW => QMi_mk (by rw [ht]; exact hP) (va_K.moved hW.alike hK) hD (hS.F ht)) hS.2.2 dX9_sendY_29
theorem dX9_goBehind_0 : decode cX9_goBehind 0 = .ok (.aload_n 0, 1) := by decide +kernel
theorem dX9_goBehind_1 : decode cX9_goBehind 1 = .ok (.getfield 10, 3) := by decide +kernel
theorem dX9_goBehind_4 : decode cX9_goBehind 4 = .ok (.i2l, 1) := by decide +kernel
theorem dX9_goBehind_5 : decode cX9_goBehind 5 = .ok (.aload_n 1, 1) := by decide +kernel
theorem dX9_goBehind_6 : decode cX9_goBehind 6 = .ok (.getfield 10, 3) := by decide +kernel
theorem dX9_goBehind_9 : decode cX9_goBehind 9 = .ok (.i2l, 1) := by decide +kernel
theorem dX9_goBehind_10 : decode cX9_goBehind 10 = .ok (.lmul, 1) := by decide +kernel
theorem dX9_goBehind_11 : decode cX9_goBehind 11 = .ok (.aload_n 0, 1) := by decide +kernel
theorem dX9_goBehind_12 : decode cX9_goBehind 12 = .ok (.getfield 19, 3) := by decide +kernel
theorem dX9_goBehind_15 : decode cX9_goBehind 15 = .ok (.i2l, 1) := by decide +kernel
theorem dX9_goBehind_16 : decode cX9_goBehind 16 = .ok (.aload_n 1, 1) := by decide +kernel
theorem dX9_goBehind_17 : decode cX9_goBehind 17 = .ok (.getfield 16, 3) := by decide +kernel
theorem dX9_goBehind_20 : decode cX9_goBehind 20 = .ok (.i2l, 1) := by decide +kernel
theorem dX9_goBehind_21 : decode cX9_goBehind 21 = .ok (.lmul, 1) := by decide +kernel
theorem dX9_goBehind_22 : decode cX9_goBehind 22 = .ok (.ladd, 1) := by decide +kernel
theorem dX9_goBehind_23 : decode cX9_goBehind 23 = .ok (.invokestatic 41, 3) := by decide +kernel
theorem dX9_goBehind_26 : decode cX9_goBehind 26 = .ok (.l2i, 1) := by decide +kernel
theorem dX9_goBehind_27 : decode cX9_goBehind 27 = .ok (.istore_n 2, 1) := by decide +kernel
theorem dX9_goBehind_28 : decode cX9_goBehind 28 = .ok (.aload_n 0, 1) := by decide +kernel
theorem dX9_goBehind_29 : decode cX9_goBehind 29 = .ok (.getfield 16, 3) := by decide +kernel
theorem dX9_goBehind_32 : decode cX9_goBehind 32 = .ok (.i2l, 1) := by decide +kernel
theorem dX9_goBehind_33 : decode cX9_goBehind 33 = .ok (.aload_n 1, 1) := by decide +kernel
theorem dX9_goBehind_34 : decode cX9_goBehind 34 = .ok (.getfield 10, 3) := by decide +kernel
theorem dX9_goBehind_37 : decode cX9_goBehind 37 = .ok (.i2l, 1) := by decide +kernel
theorem dX9_goBehind_38 : decode cX9_goBehind 38 = .ok (.lmul, 1) := by decide +kernel
theorem dX9_goBehind_39 : decode cX9_goBehind 39 = .ok (.aload_n 0, 1) := by decide +kernel
theorem dX9_goBehind_40 : decode cX9_goBehind 40 = .ok (.getfield 22, 3) := by decide +kernel
theorem dX9_goBehind_43 : decode cX9_goBehind 43 = .ok (.i2l, 1) := by decide +kernel
theorem dX9_goBehind_44 : decode cX9_goBehind 44 = .ok (.aload_n 1, 1) := by decide +kernel
theorem dX9_goBehind_45 : decode cX9_goBehind 45 = .ok (.getfield 16, 3) := by decide +kernel
theorem dX9_goBehind_48 : decode cX9_goBehind 48 = .ok (.i2l, 1) := by decide +kernel
theorem dX9_goBehind_49 : decode cX9_goBehind 49 = .ok (.lmul, 1) := by decide +kernel
theorem dX9_goBehind_50 : decode cX9_goBehind 50 = .ok (.ladd, 1) := by decide +kernel
theorem dX9_goBehind_51 : decode cX9_goBehind 51 = .ok (.invokestatic 41, 3) := by decide +kernel
theorem dX9_goBehind_54 : decode cX9_goBehind 54 = .ok (.l2i, 1) := by decide +kernel
theorem dX9_goBehind_55 : decode cX9_goBehind 55 = .ok (.istore_n 3, 1) := by decide +kernel
theorem dX9_goBehind_56 : decode cX9_goBehind 56 = .ok (.aload_n 0, 1) := by decide +kernel
theorem dX9_goBehind_57 : decode cX9_goBehind 57 = .ok (.getfield 10, 3) := by decide +kernel
theorem dX9_goBehind_60 : decode cX9_goBehind 60 = .ok (.i2l, 1) := by decide +kernel
theorem dX9_goBehind_61 : decode cX9_goBehind 61 = .ok (.aload_n 1, 1) := by decide +kernel
theorem dX9_goBehind_62 : decode cX9_goBehind 62 = .ok (.getfield 19, 3) := by decide +kernel
theorem dX9_goBehind_65 : decode cX9_goBehind 65 = .ok (.i2l, 1) := by decide +kernel
theorem dX9_goBehind_66 : decode cX9_goBehind 66 = .ok (.lmul, 1) := by decide +kernel
theorem dX9_goBehind_67 : decode cX9_goBehind 67 = .ok (.aload_n 0, 1) := by decide +kernel
theorem dX9_goBehind_68 : decode cX9_goBehind 68 = .ok (.getfield 19, 3) := by decide +kernel
theorem dX9_goBehind_71 : decode cX9_goBehind 71 = .ok (.i2l, 1) := by decide +kernel
theorem dX9_goBehind_72 : decode cX9_goBehind 72 = .ok (.aload_n 1, 1) := by decide +kernel
theorem dX9_goBehind_73 : decode cX9_goBehind 73 = .ok (.getfield 22, 3) := by decide +kernel
theorem dX9_goBehind_76 : decode cX9_goBehind 76 = .ok (.i2l, 1) := by decide +kernel
theorem dX9_goBehind_77 : decode cX9_goBehind 77 = .ok (.lmul, 1) := by decide +kernel
theorem dX9_goBehind_78 : decode cX9_goBehind 78 = .ok (.ladd, 1) := by decide +kernel
theorem dX9_goBehind_79 : decode cX9_goBehind 79 = .ok (.invokestatic 41, 3) := by decide +kernel
theorem dX9_goBehind_82 : decode cX9_goBehind 82 = .ok (.l2i, 1) := by decide +kernel
theorem dX9_goBehind_83 : decode cX9_goBehind 83 = .ok (.istore 4, 2) := by decide +kernel
theorem dX9_goBehind_85 : decode cX9_goBehind 85 = .ok (.aload_n 0, 1) := by decide +kernel
theorem dX9_goBehind_86 : decode cX9_goBehind 86 = .ok (.getfield 16, 3) := by decide +kernel
theorem dX9_goBehind_89 : decode cX9_goBehind 89 = .ok (.i2l, 1) := by decide +kernel
theorem dX9_goBehind_90 : decode cX9_goBehind 90 = .ok (.aload_n 1, 1) := by decide +kernel
theorem dX9_goBehind_91 : decode cX9_goBehind 91 = .ok (.getfield 19, 3) := by decide +kernel
theorem dX9_goBehind_94 : decode cX9_goBehind 94 = .ok (.i2l, 1) := by decide +kernel
theorem dX9_goBehind_95 : decode cX9_goBehind 95 = .ok (.lmul, 1) := by decide +kernel
theorem dX9_goBehind_96 : decode cX9_goBehind 96 = .ok (.aload_n 0, 1) := by decide +kernel
theorem dX9_goBehind_97 : decode cX9_goBehind 97 = .ok (.getfield 22, 3) := by decide +kernel
theorem dX9_goBehind_100 : decode cX9_goBehind 100 = .ok (.i2l, 1) := by decide +kernel
theorem dX9_goBehind_101 : decode cX9_goBehind 101 = .ok (.aload_n 1, 1) := by decide +kernel
theorem dX9_goBehind_102 : decode cX9_goBehind 102 = .ok (.getfield 22, 3) := by decide +kernel
theorem dX9_goBehind_105 : decode cX9_goBehind 105 = .ok (.i2l, 1) := by decide +kernel
theorem dX9_goBehind_106 : decode cX9_goBehind 106 = .ok (.lmul, 1) := by decide +kernel
theorem dX9_goBehind_107 : decode cX9_goBehind 107 = .ok (.ladd, 1) := by decide +kernel
theorem dX9_goBehind_108 : decode cX9_goBehind 108 = .ok (.invokestatic 41, 3) := by decide +kernel
theorem dX9_goBehind_111 : decode cX9_goBehind 111 = .ok (.l2i, 1) := by decide +kernel
theorem dX9_goBehind_112 : decode cX9_goBehind 112 = .ok (.istore 5, 2) := by decide +kernel
theorem dX9_goBehind_114 : decode cX9_goBehind 114 = .ok (.aload_n 0, 1) := by decide +kernel
theorem dX9_goBehind_115 : decode cX9_goBehind 115 = .ok (.dup, 1) := by decide +kernel
theorem dX9_goBehind_116 : decode cX9_goBehind 116 = .ok (.getfield 25, 3) := by decide +kernel
theorem dX9_goBehind_119 : decode cX9_goBehind 119 = .ok (.aload_n 0, 1) := by decide +kernel
theorem dX9_goBehind_120 : decode cX9_goBehind 120 = .ok (.getfield 10, 3) := by decide +kernel
theorem dX9_goBehind_123 : decode cX9_goBehind 123 = .ok (.i2l, 1) := by decide +kernel
theorem dX9_goBehind_124 : decode cX9_goBehind 124 = .ok (.aload_n 1, 1) := by decide +kernel
theorem dX9_goBehind_125 : decode cX9_goBehind 125 = .ok (.getfield 25, 3) := by decide +kernel
theorem dX9_goBehind_128 : decode cX9_goBehind 128 = .ok (.i2l, 1) := by decide +kernel
theorem dX9_goBehind_129 : decode cX9_goBehind 129 = .ok (.lmul, 1) := by decide +kernel
theorem dX9_goBehind_130 : decode cX9_goBehind 130 = .ok (.aload_n 0, 1) := by decide +kernel
theorem dX9_goBehind_131 : decode cX9_goBehind 131 = .ok (.getfield 19, 3) := by decide +kernel
theorem dX9_goBehind_134 : decode cX9_goBehind 134 = .ok (.i2l, 1) := by decide +kernel
theorem dX9_goBehind_135 : decode cX9_goBehind 135 = .ok (.aload_n 1, 1) := by decide +kernel
theorem dX9_goBehind_136 : decode cX9_goBehind 136 = .ok (.getfield 28, 3) := by decide +kernel
theorem dX9_goBehind_139 : decode cX9_goBehind 139 = .ok (.i2l, 1) := by decide +kernel
theorem dX9_goBehind_140 : decode cX9_goBehind 140 = .ok (.lmul, 1) := by decide +kernel
theorem dX9_goBehind_141 : decode cX9_goBehind 141 = .ok (.ladd, 1) := by decide +kernel
theorem dX9_goBehind_142 : decode cX9_goBehind 142 = .ok (.invokestatic 41, 3) := by decide +kernel
theorem dX9_goBehind_145 : decode cX9_goBehind 145 = .ok (.l2i, 1) := by decide +kernel
theorem dX9_goBehind_146 : decode cX9_goBehind 146 = .ok (.iadd, 1) := by decide +kernel
theorem dX9_goBehind_147 : decode cX9_goBehind 147 = .ok (.putfield 25, 3) := by decide +kernel
theorem dX9_goBehind_150 : decode cX9_goBehind 150 = .ok (.aload_n 0, 1) := by decide +kernel
theorem dX9_goBehind_151 : decode cX9_goBehind 151 = .ok (.dup, 1) := by decide +kernel
theorem dX9_goBehind_152 : decode cX9_goBehind 152 = .ok (.getfield 28, 3) := by decide +kernel
theorem dX9_goBehind_155 : decode cX9_goBehind 155 = .ok (.aload_n 0, 1) := by decide +kernel
theorem dX9_goBehind_156 : decode cX9_goBehind 156 = .ok (.getfield 16, 3) := by decide +kernel
theorem dX9_goBehind_159 : decode cX9_goBehind 159 = .ok (.i2l, 1) := by decide +kernel
theorem dX9_goBehind_160 : decode cX9_goBehind 160 = .ok (.aload_n 1, 1) := by decide +kernel
theorem dX9_goBehind_161 : decode cX9_goBehind 161 = .ok (.getfield 25, 3) := by decide +kernel
theorem dX9_goBehind_164 : decode cX9_goBehind 164 = .ok (.i2l, 1) := by decide +kernel
theorem dX9_goBehind_165 : decode cX9_goBehind 165 = .ok (.lmul, 1) := by decide +kernel
theorem dX9_goBehind_166 : decode cX9_goBehind 166 = .ok (.aload_n 0, 1) := by decide +kernel
theorem dX9_goBehind_167 : decode cX9_goBehind 167 = .ok (.getfield 22, 3) := by decide +kernel
theorem dX9_goBehind_170 : decode cX9_goBehind 170 = .ok (.i2l, 1) := by decide +kernel
theorem dX9_goBehind_171 : decode cX9_goBehind 171 = .ok (.aload_n 1, 1) := by decide +kernel
theorem dX9_goBehind_172 : decode cX9_goBehind 172 = .ok (.getfield 28, 3) := by decide +kernel
theorem dX9_goBehind_175 : decode cX9_goBehind 175 = .ok (.i2l, 1) := by decide +kernel
theorem dX9_goBehind_176 : decode cX9_goBehind 176 = .ok (.lmul, 1) := by decide +kernel
theorem dX9_goBehind_177 : decode cX9_goBehind 177 = .ok (.ladd, 1) := by decide +kernel
theorem dX9_goBehind_178 : decode cX9_goBehind 178 = .ok (.invokestatic 41, 3) := by decide +kernel
theorem dX9_goBehind_181 : decode cX9_goBehind 181 = .ok (.l2i, 1) := by decide +kernel
theorem dX9_goBehind_182 : decode cX9_goBehind 182 = .ok (.iadd, 1) := by decide +kernel
theorem dX9_goBehind_183 : decode cX9_goBehind 183 = .ok (.putfield 28, 3) := by decide +kernel
theorem dX9_goBehind_186 : decode cX9_goBehind 186 = .ok (.aload_n 0, 1) := by decide +kernel
theorem dX9_goBehind_187 : decode cX9_goBehind 187 = .ok (.iload_n 2, 1) := by decide +kernel
theorem dX9_goBehind_188 : decode cX9_goBehind 188 = .ok (.putfield 10, 3) := by decide +kernel
theorem dX9_goBehind_191 : decode cX9_goBehind 191 = .ok (.aload_n 0, 1) := by decide +kernel
theorem dX9_goBehind_192 : decode cX9_goBehind 192 = .ok (.iload_n 3, 1) := by decide +kernel
theorem dX9_goBehind_193 : decode cX9_goBehind 193 = .ok (.putfield 16, 3) := by decide +kernel
theorem dX9_goBehind_196 : decode cX9_goBehind 196 = .ok (.aload_n 0, 1) := by decide +kernel
theorem dX9_goBehind_197 : decode cX9_goBehind 197 = .ok (.iload 4, 2) := by decide +kernel
theorem dX9_goBehind_199 : decode cX9_goBehind 199 = .ok (.putfield 19, 3) := by decide +kernel
theorem dX9_goBehind_202 : decode cX9_goBehind 202 = .ok (.aload_n 0, 1) := by decide +kernel
theorem dX9_goBehind_203 : decode cX9_goBehind 203 = .ok (.iload 5, 2) := by decide +kernel
theorem dX9_goBehind_205 : decode cX9_goBehind 205 = .ok (.putfield 22, 3) := by decide +kernel
theorem dX9_goBehind_208 : decode cX9_goBehind 208 = .ok (.return_, 1) := by decide +kernel
abbrev rm_X9_goBehind : Room := { frames := 1, cells := 0, slots := 0, locals := 21 }
def w_X9_goBehind : List Cond := Cond.code yX9_goBehind cX9_goBehind 6 none :: uw
set_option maxHeartbeats 4000000 in
set_option maxRecDepth 100000 in
theorem c_X9_goBehind (l : Launch) (dC : Nat → ClassId) (dI : Nat → Nat → Nat) (cI cZ cO : ClassId) (tL sz : Nat) (h0 : Nat) (h1 : Nat) (v0_a : Int32) (v0_b : Int32) (v0_c : Int32) (v0_d : Int32) (v0_e : Int32) (v0_f : Int32) (v1_a : Int32) (v1_b : Int32) (v1_c : Int32) (v1_d : Int32) (v1_e : Int32) (v1_f : Int32) (res : Int32 × Int32 × Int32 × Int32 × Int32 × Int32) (hM : m_X9_goBehind v0_a v0_b v0_c v0_d v0_e v0_f v1_a v1_b v1_c v1_d v1_e v1_f = some res) : Met l yX9_goBehind w_X9_goBehind rm_X9_goBehind (PCx [.ref h0, .ref h1] (dC, dI) [(cI, .int), (cZ, .boolean), (cO, .object "ListPainter$Settings")] sz tL [(h0, .inr (8, [.int v0_a, .int v0_b, .int v0_c, .int v0_d, .int v0_e, .int v0_f])), (h1, .inr (8, [.int v1_a, .int v1_b, .int v1_c, .int v1_d, .int v1_e, .int v1_f]))]) (QMv (dC, dI) [(cI, .int), (cZ, .boolean), (cO, .object "ListPainter$Settings")] (va_A [(h0, .inr (8, [.int v0_a, .int v0_b, .int v0_c, .int v0_d, .int v0_e, .int v0_f])), (h1, .inr (8, [.int v1_a, .int v1_b, .int v1_c, .int v1_d, .int v1_e, .int v1_f]))] sz) [(h0, .inr (8, [.int (res.1), .int (res.2.1), .int (res.2.2.1), .int (res.2.2.2.1), .int (res.2.2.2.2.1), .int (res.2.2.2.2.2)])), (h1, .inr (8, [.int v1_a, .int v1_b, .int v1_c, .int v1_d, .int v1_e, .int v1_f]))]) 0 0 (va_A [(h0, .inr (8, [.int v0_a, .int v0_b, .int v0_c, .int v0_d, .int v0_e, .int v0_f])), (h1, .inr (8, [.int v1_a, .int v1_b, .int v1_c, .int v1_d, .int v1_e, .int v1_f]))] sz) := by
  refine Met.ofW (cc := cX9_goBehind) (maxL := 6) (ret := none) (by decide) rfl ?_
  intro p e s m args below meth c s₁ B hml hv
  obtain ⟨rfl, hsz, hP, hK, hD0, hG⟩ := hv
  have hx := B.exec
  have hb := B.bytes
  have hr := B.returns
  have hu : ∀ w ∈ uw, w.before ([.ref h0, .ref h1] : List Value).toArray s = true := fun w h => atoms_spec (ws := w_X9_goBehind) B.pre w (List.mem_cons_of_mem _ h)
  have hown : s.vm.findClass RX9 = some m.cls := findClass_of_methodNamed B.named
  have hlocks := B.notSynchronized
  subst hsz
  have hD := hD0.self (sz := s.heap.size)
  generalize hAe : va_A [(h0, .inr (8, [.int v0_a, .int v0_b, .int v0_c, .int v0_d, .int v0_e, .int v0_f])), (h1, .inr (8, [.int v1_a, .int v1_b, .int v1_c, .int v1_d, .int v1_e, .int v1_f]))] s.heap.size = A at hD hG ⊢
  have hA : ∀ q : Nat, s.heap.size ≤ q → A q := fun q h => by rw [← hAe]; exact Or.inr h
  have hS : va_S A s.heap s.heap [] := va_S.rf
  have hP : va_P (dC, dI) vwCl [(h0, .inr (8, [.int v0_a, .int v0_b, .int v0_c, .int v0_d, .int v0_e, .int v0_f])), (h1, .inr (8, [.int v1_a, .int v1_b, .int v1_c, .int v1_d, .int v1_e, .int v1_f]))] s.heap := hP
  have hl := lv_entry ([.ref h0, .ref h1]) (n := 6) (Nat.le_of_ble_eq_true rfl)
  rw [lg_entry_eq]
  generalize (lg_sl ([.ref h0, .ref h1]) ++ List.replicate (6 - (lg_sl ([.ref h0, .ref h1])).length) Slot.unset).toArray = ls at hl ⊢
  have hl : lv_has ls 6 [(0, .ref h0), (1, .ref h1)] := hl
  rw [m_X9_goBehind] at hM
  suffices hgo : ∀ (H : Heap) (locs : List Loc), va_P (dC, dI) vwCl [(h0, .inr (8, [.int v0_a, .int v0_b, .int v0_c, .int v0_d, .int v0_e, .int v0_f])), (h1, .inr (8, [.int v1_a, .int v1_b, .int v1_c, .int v1_d, .int v1_e, .int v1_f]))] H → va_D A [(h0, .inr (8, [.int v0_a, .int v0_b, .int v0_c, .int v0_d, .int v0_e, .int v0_f])), (h1, .inr (8, [.int v1_a, .int v1_b, .int v1_c, .int v1_d, .int v1_e, .int v1_f]))] → va_S A s.heap H locs → W p l e (headSpec w_X9_goBehind rm_X9_goBehind).room s m ([.ref h0, .ref h1] : List Value).toArray below meth c H locs 0 0 (MQ below (QMv (dC, dI) [(cI, .int), (cZ, .boolean), (cO, .object "ListPainter$Settings")] A [(h0, .inr (8, [.int (res.1), .int (res.2.1), .int (res.2.2.1), .int (res.2.2.2.1), .int (res.2.2.2.2.1), .int (res.2.2.2.2.2)])), (h1, .inr (8, [.int v1_a, .int v1_b, .int v1_c, .int v1_d, .int v1_e, .int v1_f]))]) ([.ref h0, .ref h1] : List Value).toArray s 0 0 A) (F0 m 0 ls []) from hgo _ _ hP hD hS
  intro H locs hP hD hS
  refine lv_aload_n hx hb dX9_goBehind_0 rfl (lv_at hl 0 rfl) ?_
  refine va_get (D := (dC, dI)) (ci := 8) (v := .int v0_a) (C := RX9) (T := TX9) (N := 6) hx hb hu inX9 hown hK hP 0 rfl rfl 0 (by decide) (hu _ kw_24) (fun _ h9 => h9) rfl dX9_goBehind_1 ?_
  refine lv_i2l (v := ((v0_a : Int32).toInt64)) hx hb dX9_goBehind_4 rfl ?_
  refine lv_aload_n hx hb dX9_goBehind_5 rfl (lv_at hl 1 rfl) ?_
  refine va_get (D := (dC, dI)) (ci := 8) (v := .int v1_a) (C := RX9) (T := TX9) (N := 6) hx hb hu inX9 hown hK hP 1 rfl rfl 0 (by decide) (hu _ kw_24) (fun _ h9 => h9) rfl dX9_goBehind_6 ?_
  refine lv_i2l (v := ((v1_a : Int32).toInt64)) hx hb dX9_goBehind_9 rfl ?_
  refine lv_lmul hx hb dX9_goBehind_10 ?_
  refine lv_aload_n hx hb dX9_goBehind_11 rfl (lv_at hl 0 rfl) ?_
  refine va_get (D := (dC, dI)) (ci := 8) (v := .int v0_c) (C := RX9) (T := TX9) (N := 6) hx hb hu inX9 hown hK hP 0 rfl rfl 2 (by decide) (hu _ kw_26) (fun _ h9 => h9) rfl dX9_goBehind_12 ?_
  refine lv_i2l (v := ((v0_c : Int32).toInt64)) hx hb dX9_goBehind_15 rfl ?_
  refine lv_aload_n hx hb dX9_goBehind_16 rfl (lv_at hl 1 rfl) ?_
  refine va_get (D := (dC, dI)) (ci := 8) (v := .int v1_b) (C := RX9) (T := TX9) (N := 6) hx hb hu inX9 hown hK hP 1 rfl rfl 1 (by decide) (hu _ kw_25) (fun _ h9 => h9) rfl dX9_goBehind_17 ?_
  refine lv_i2l (v := ((v1_b : Int32).toInt64)) hx hb dX9_goBehind_20 rfl ?_
  refine lv_lmul hx hb dX9_goBehind_21 ?_
  refine lv_ladd hx hb dX9_goBehind_22 ?_
  obtain ⟨r_1, hm_2, hM⟩ := bd1_u hM
  refine cSl (r := r_1) (As := [.long ((((v0_a : Int32).toInt64) * ((v1_a : Int32).toInt64)) + (((v0_c : Int32).toInt64) * ((v1_b : Int32).toInt64)))]) (rest := []) ⟨hx, hb, hml, hown, hu⟩ (c_X9_rounded l dC dI cI cZ cO tL H.size ((((v0_a : Int32).toInt64) * ((v1_a : Int32).toInt64)) + (((v0_c : Int32).toInt64) * ((v1_b : Int32).toInt64))) r_1 hm_2) (va_cwS 1 hu (gS kw_37 kw_38 kw_39 kw_40) rfl rfl rfl (by decide +kernel) ⟨Nat.le_of_ble_eq_true rfl, Nat.le_of_ble_eq_true rfl⟩) hP hD hS hA hK hG [] (by decide) rfl [none, none] 0 rfl (by decide +kernel) rfl rfl hl.1 rfl (Nat.le_of_ble_eq_true rfl) dX9_goBehind_23 (Nat.zero_le _) (Nat.zero_le _) (fun H locs hP hD hS => ?_)
  have hP : va_P (dC, dI) vwCl [(h0, .inr (8, [.int v0_a, .int v0_b, .int v0_c, .int v0_d, .int v0_e, .int v0_f])), (h1, .inr (8, [.int v1_a, .int v1_b, .int v1_c, .int v1_d, .int v1_e, .int v1_f]))] H := hP
  have hD : va_D A [(h0, .inr (8, [.int v0_a, .int v0_b, .int v0_c, .int v0_d, .int v0_e, .int v0_f])), (h1, .inr (8, [.int v1_a, .int v1_b, .int v1_c, .int v1_d, .int v1_e, .int v1_f]))] := hD
  refine lv_l2i (v := ((r_1 : Int64).toInt32)) hx hb dX9_goBehind_26 rfl ?_
  refine lv_topi (fun x_3 ex_3 => ?_)
  have hM := nm_u ex_3 hM
  refine lv_istore_n (lv' := [(2, .int x_3), (0, .ref h0), (1, .ref h1)]) hx hb dX9_goBehind_27 rfl hl (by decide) rfl (fun ls hl => ?_)
  refine lv_aload_n hx hb dX9_goBehind_28 rfl (lv_at hl 1 rfl) ?_
  refine va_get (D := (dC, dI)) (ci := 8) (v := .int v0_b) (C := RX9) (T := TX9) (N := 6) hx hb hu inX9 hown hK hP 0 rfl rfl 1 (by decide) (hu _ kw_25) (fun _ h9 => h9) rfl dX9_goBehind_29 ?_
  refine lv_i2l (v := ((v0_b : Int32).toInt64)) hx hb dX9_goBehind_32 rfl ?_
  refine lv_aload_n hx hb dX9_goBehind_33 rfl (lv_at hl 2 rfl) ?_
  refine va_get (D := (dC, dI)) (ci := 8) (v := .int v1_a) (C := RX9) (T := TX9) (N := 6) hx hb hu inX9 hown hK hP 1 rfl rfl 0 (by decide) (hu _ kw_24) (fun _ h9 => h9) rfl dX9_goBehind_34 ?_
  refine lv_i2l (v := ((v1_a : Int32).toInt64)) hx hb dX9_goBehind_37 rfl ?_
  refine lv_lmul hx hb dX9_goBehind_38 ?_
  refine lv_aload_n hx hb dX9_goBehind_39 rfl (lv_at hl 1 rfl) ?_
  refine va_get (D := (dC, dI)) (ci := 8) (v := .int v0_d) (C := RX9) (T := TX9) (N := 6) hx hb hu inX9 hown hK hP 0 rfl rfl 3 (by decide) (hu _ kw_27) (fun _ h9 => h9) rfl dX9_goBehind_40 ?_
  refine lv_i2l (v := ((v0_d : Int32).toInt64)) hx hb dX9_goBehind_43 rfl ?_
  refine lv_aload_n hx hb dX9_goBehind_44 rfl (lv_at hl 2 rfl) ?_
  refine va_get (D := (dC, dI)) (ci := 8) (v := .int v1_b) (C := RX9) (T := TX9) (N := 6) hx hb hu inX9 hown hK hP 1 rfl rfl 1 (by decide) (hu _ kw_25) (fun _ h9 => h9) rfl dX9_goBehind_45 ?_
  refine lv_i2l (v := ((v1_b : Int32).toInt64)) hx hb dX9_goBehind_48 rfl ?_
  refine lv_lmul hx hb dX9_goBehind_49 ?_
  refine lv_ladd hx hb dX9_goBehind_50 ?_
  obtain ⟨r_4, hm_5, hM⟩ := bd1_u hM
  refine cSl (r := r_4) (As := [.long ((((v0_b : Int32).toInt64) * ((v1_a : Int32).toInt64)) + (((v0_d : Int32).toInt64) * ((v1_b : Int32).toInt64)))]) (rest := []) ⟨hx, hb, hml, hown, hu⟩ (c_X9_rounded l dC dI cI cZ cO tL H.size ((((v0_b : Int32).toInt64) * ((v1_a : Int32).toInt64)) + (((v0_d : Int32).toInt64) * ((v1_b : Int32).toInt64))) r_4 hm_5) (va_cwS 1 hu (gS kw_37 kw_38 kw_39 kw_40) rfl rfl rfl (by decide +kernel) ⟨Nat.le_of_ble_eq_true rfl, Nat.le_of_ble_eq_true rfl⟩) hP hD hS hA hK hG [] (by decide) rfl [none, none] 0 rfl (by decide +kernel) rfl rfl hl.1 rfl (Nat.le_of_ble_eq_true rfl) dX9_goBehind_51 (Nat.zero_le _) (Nat.zero_le _) (fun H locs hP hD hS => ?_)
  have hP : va_P (dC, dI) vwCl [(h0, .inr (8, [.int v0_a, .int v0_b, .int v0_c, .int v0_d, .int v0_e, .int v0_f])), (h1, .inr (8, [.int v1_a, .int v1_b, .int v1_c, .int v1_d, .int v1_e, .int v1_f]))] H := hP
  have hD : va_D A [(h0, .inr (8, [.int v0_a, .int v0_b, .int v0_c, .int v0_d, .int v0_e, .int v0_f])), (h1, .inr (8, [.int v1_a, .int v1_b, .int v1_c, .int v1_d, .int v1_e, .int v1_f]))] := hD
  refine lv_l2i (v := ((r_4 : Int64).toInt32)) hx hb dX9_goBehind_54 rfl ?_
  refine lv_topi (fun x_6 ex_6 => ?_)
  have hM := nm_u ex_6 hM
  refine lv_istore_n (lv' := [(3, .int x_6), (2, .int x_3), (0, .ref h0), (1, .ref h1)]) hx hb dX9_goBehind_55 rfl hl (by decide) rfl (fun ls hl => ?_)
  refine lv_aload_n hx hb dX9_goBehind_56 rfl (lv_at hl 2 rfl) ?_
  refine va_get (D := (dC, dI)) (ci := 8) (v := .int v0_a) (C := RX9) (T := TX9) (N := 6) hx hb hu inX9 hown hK hP 0 rfl rfl 0 (by decide) (hu _ kw_24) (fun _ h9 => h9) rfl dX9_goBehind_57 ?_
  refine lv_i2l (v := ((v0_a : Int32).toInt64)) hx hb dX9_goBehind_60 rfl ?_
  refine lv_aload_n hx hb dX9_goBehind_61 rfl (lv_at hl 3 rfl) ?_
  refine va_get (D := (dC, dI)) (ci := 8) (v := .int v1_c) (C := RX9) (T := TX9) (N := 6) hx hb hu inX9 hown hK hP 1 rfl rfl 2 (by decide) (hu _ kw_26) (fun _ h9 => h9) rfl dX9_goBehind_62 ?_
  refine lv_i2l (v := ((v1_c : Int32).toInt64)) hx hb dX9_goBehind_65 rfl ?_
  refine lv_lmul hx hb dX9_goBehind_66 ?_
  refine lv_aload_n hx hb dX9_goBehind_67 rfl (lv_at hl 2 rfl) ?_
  refine va_get (D := (dC, dI)) (ci := 8) (v := .int v0_c) (C := RX9) (T := TX9) (N := 6) hx hb hu inX9 hown hK hP 0 rfl rfl 2 (by decide) (hu _ kw_26) (fun _ h9 => h9) rfl dX9_goBehind_68 ?_
  refine lv_i2l (v := ((v0_c : Int32).toInt64)) hx hb dX9_goBehind_71 rfl ?_
  refine lv_aload_n hx hb dX9_goBehind_72 rfl (lv_at hl 3 rfl) ?_
  refine va_get (D := (dC, dI)) (ci := 8) (v := .int v1_d) (C := RX9) (T := TX9) (N := 6) hx hb hu inX9 hown hK hP 1 rfl rfl 3 (by decide) (hu _ kw_27) (fun _ h9 => h9) rfl dX9_goBehind_73 ?_
  refine lv_i2l (v := ((v1_d : Int32).toInt64)) hx hb dX9_goBehind_76 rfl ?_
  refine lv_lmul hx hb dX9_goBehind_77 ?_
  refine lv_ladd hx hb dX9_goBehind_78 ?_
  obtain ⟨r_7, hm_8, hM⟩ := bd1_u hM
  refine cSl (r := r_7) (As := [.long ((((v0_a : Int32).toInt64) * ((v1_c : Int32).toInt64)) + (((v0_c : Int32).toInt64) * ((v1_d : Int32).toInt64)))]) (rest := []) ⟨hx, hb, hml, hown, hu⟩ (c_X9_rounded l dC dI cI cZ cO tL H.size ((((v0_a : Int32).toInt64) * ((v1_c : Int32).toInt64)) + (((v0_c : Int32).toInt64) * ((v1_d : Int32).toInt64))) r_7 hm_8) (va_cwS 1 hu (gS kw_37 kw_38 kw_39 kw_40) rfl rfl rfl (by decide +kernel) ⟨Nat.le_of_ble_eq_true rfl, Nat.le_of_ble_eq_true rfl⟩) hP hD hS hA hK hG [] (by decide) rfl [none, none] 0 rfl (by decide +kernel) rfl rfl hl.1 rfl (Nat.le_of_ble_eq_true rfl) dX9_goBehind_79 (Nat.zero_le _) (Nat.zero_le _) (fun H locs hP hD hS => ?_)
  have hP : va_P (dC, dI) vwCl [(h0, .inr (8, [.int v0_a, .int v0_b, .int v0_c, .int v0_d, .int v0_e, .int v0_f])), (h1, .inr (8, [.int v1_a, .int v1_b, .int v1_c, .int v1_d, .int v1_e, .int v1_f]))] H := hP
  have hD : va_D A [(h0, .inr (8, [.int v0_a, .int v0_b, .int v0_c, .int v0_d, .int v0_e, .int v0_f])), (h1, .inr (8, [.int v1_a, .int v1_b, .int v1_c, .int v1_d, .int v1_e, .int v1_f]))] := hD
  refine lv_l2i (v := ((r_7 : Int64).toInt32)) hx hb dX9_goBehind_82 rfl ?_
  refine lv_topi (fun x_9 ex_9 => ?_)
  have hM := nm_u ex_9 hM
  refine lv_istore (lv' := [(4, .int x_9), (3, .int x_6), (2, .int x_3), (0, .ref h0), (1, .ref h1)]) hx hb dX9_goBehind_83 hl (by decide) rfl (fun ls hl => ?_)
  refine lv_aload_n hx hb dX9_goBehind_85 rfl (lv_at hl 3 rfl) ?_
  refine va_get (D := (dC, dI)) (ci := 8) (v := .int v0_b) (C := RX9) (T := TX9) (N := 6) hx hb hu inX9 hown hK hP 0 rfl rfl 1 (by decide) (hu _ kw_25) (fun _ h9 => h9) rfl dX9_goBehind_86 ?_
  refine lv_i2l (v := ((v0_b : Int32).toInt64)) hx hb dX9_goBehind_89 rfl ?_
  refine lv_aload_n hx hb dX9_goBehind_90 rfl (lv_at hl 4 rfl) ?_
  refine va_get (D := (dC, dI)) (ci := 8) (v := .int v1_c) (C := RX9) (T := TX9) (N := 6) hx hb hu inX9 hown hK hP 1 rfl rfl 2 (by decide) (hu _ kw_26) (fun _ h9 => h9) rfl dX9_goBehind_91 ?_
  refine lv_i2l (v := ((v1_c : Int32).toInt64)) hx hb dX9_goBehind_94 rfl ?_
  refine lv_lmul hx hb dX9_goBehind_95 ?_
  refine lv_aload_n hx hb dX9_goBehind_96 rfl (lv_at hl 3 rfl) ?_
  refine va_get (D := (dC, dI)) (ci := 8) (v := .int v0_d) (C := RX9) (T := TX9) (N := 6) hx hb hu inX9 hown hK hP 0 rfl rfl 3 (by decide) (hu _ kw_27) (fun _ h9 => h9) rfl dX9_goBehind_97 ?_
  refine lv_i2l (v := ((v0_d : Int32).toInt64)) hx hb dX9_goBehind_100 rfl ?_
  refine lv_aload_n hx hb dX9_goBehind_101 rfl (lv_at hl 4 rfl) ?_
  refine va_get (D := (dC, dI)) (ci := 8) (v := .int v1_d) (C := RX9) (T := TX9) (N := 6) hx hb hu inX9 hown hK hP 1 rfl rfl 3 (by decide) (hu _ kw_27) (fun _ h9 => h9) rfl dX9_goBehind_102 ?_
  refine lv_i2l (v := ((v1_d : Int32).toInt64)) hx hb dX9_goBehind_105 rfl ?_
  refine lv_lmul hx hb dX9_goBehind_106 ?_
  refine lv_ladd hx hb dX9_goBehind_107 ?_
  obtain ⟨r_10, hm_11, hM⟩ := bd1_u hM
  refine cSl (r := r_10) (As := [.long ((((v0_b : Int32).toInt64) * ((v1_c : Int32).toInt64)) + (((v0_d : Int32).toInt64) * ((v1_d : Int32).toInt64)))]) (rest := []) ⟨hx, hb, hml, hown, hu⟩ (c_X9_rounded l dC dI cI cZ cO tL H.size ((((v0_b : Int32).toInt64) * ((v1_c : Int32).toInt64)) + (((v0_d : Int32).toInt64) * ((v1_d : Int32).toInt64))) r_10 hm_11) (va_cwS 1 hu (gS kw_37 kw_38 kw_39 kw_40) rfl rfl rfl (by decide +kernel) ⟨Nat.le_of_ble_eq_true rfl, Nat.le_of_ble_eq_true rfl⟩) hP hD hS hA hK hG [] (by decide) rfl [none, none] 0 rfl (by decide +kernel) rfl rfl hl.1 rfl (Nat.le_of_ble_eq_true rfl) dX9_goBehind_108 (Nat.zero_le _) (Nat.zero_le _) (fun H locs hP hD hS => ?_)
  have hP : va_P (dC, dI) vwCl [(h0, .inr (8, [.int v0_a, .int v0_b, .int v0_c, .int v0_d, .int v0_e, .int v0_f])), (h1, .inr (8, [.int v1_a, .int v1_b, .int v1_c, .int v1_d, .int v1_e, .int v1_f]))] H := hP
  have hD : va_D A [(h0, .inr (8, [.int v0_a, .int v0_b, .int v0_c, .int v0_d, .int v0_e, .int v0_f])), (h1, .inr (8, [.int v1_a, .int v1_b, .int v1_c, .int v1_d, .int v1_e, .int v1_f]))] := hD
  refine lv_l2i (v := ((r_10 : Int64).toInt32)) hx hb dX9_goBehind_111 rfl ?_
  refine lv_topi (fun x_12 ex_12 => ?_)
  have hM := nm_u ex_12 hM
  refine lv_istore (lv' := [(5, .int x_12), (4, .int x_9), (3, .int x_6), (2, .int x_3), (0, .ref h0), (1, .ref h1)]) hx hb dX9_goBehind_112 hl (by decide) rfl (fun ls hl => ?_)
  refine lv_aload_n hx hb dX9_goBehind_114 rfl (lv_at hl 4 rfl) ?_
  refine lv_dup hx hb dX9_goBehind_115 rfl ?_
  refine va_get (D := (dC, dI)) (ci := 8) (v := .int v0_e) (C := RX9) (T := TX9) (N := 6) hx hb hu inX9 hown hK hP 0 rfl rfl 4 (by decide) (hu _ kw_28) (fun _ h9 => h9) rfl dX9_goBehind_116 ?_
  refine lv_aload_n hx hb dX9_goBehind_119 rfl (lv_at hl 4 rfl) ?_
  refine va_get (D := (dC, dI)) (ci := 8) (v := .int v0_a) (C := RX9) (T := TX9) (N := 6) hx hb hu inX9 hown hK hP 0 rfl rfl 0 (by decide) (hu _ kw_24) (fun _ h9 => h9) rfl dX9_goBehind_120 ?_
  refine lv_i2l (v := ((v0_a : Int32).toInt64)) hx hb dX9_goBehind_123 rfl ?_
  refine lv_aload_n hx hb dX9_goBehind_124 rfl (lv_at hl 5 rfl) ?_
  refine va_get (D := (dC, dI)) (ci := 8) (v := .int v1_e) (C := RX9) (T := TX9) (N := 6) hx hb hu inX9 hown hK hP 1 rfl rfl 4 (by decide) (hu _ kw_28) (fun _ h9 => h9) rfl dX9_goBehind_125 ?_
  refine lv_i2l (v := ((v1_e : Int32).toInt64)) hx hb dX9_goBehind_128 rfl ?_
  refine lv_lmul hx hb dX9_goBehind_129 ?_
  refine lv_aload_n hx hb dX9_goBehind_130 rfl (lv_at hl 4 rfl) ?_
  refine va_get (D := (dC, dI)) (ci := 8) (v := .int v0_c) (C := RX9) (T := TX9) (N := 6) hx hb hu inX9 hown hK hP 0 rfl rfl 2 (by decide) (hu _ kw_26) (fun _ h9 => h9) rfl dX9_goBehind_131 ?_
  refine lv_i2l (v := ((v0_c : Int32).toInt64)) hx hb dX9_goBehind_134 rfl ?_
  refine lv_aload_n hx hb dX9_goBehind_135 rfl (lv_at hl 5 rfl) ?_
  refine va_get (D := (dC, dI)) (ci := 8) (v := .int v1_f) (C := RX9) (T := TX9) (N := 6) hx hb hu inX9 hown hK hP 1 rfl rfl 5 (by decide) (hu _ kw_29) (fun _ h9 => h9) rfl dX9_goBehind_136 ?_
  refine lv_i2l (v := ((v1_f : Int32).toInt64)) hx hb dX9_goBehind_139 rfl ?_
  refine lv_lmul hx hb dX9_goBehind_140 ?_
  refine lv_ladd hx hb dX9_goBehind_141 ?_
  obtain ⟨r_13, hm_14, hM⟩ := bd1_u hM
  refine cSl (r := r_13) (As := [.long ((((v0_a : Int32).toInt64) * ((v1_e : Int32).toInt64)) + (((v0_c : Int32).toInt64) * ((v1_f : Int32).toInt64)))]) (rest := [.int v0_e, .ref h0]) ⟨hx, hb, hml, hown, hu⟩ (c_X9_rounded l dC dI cI cZ cO tL H.size ((((v0_a : Int32).toInt64) * ((v1_e : Int32).toInt64)) + (((v0_c : Int32).toInt64) * ((v1_f : Int32).toInt64))) r_13 hm_14) (va_cwS 1 hu (gS kw_37 kw_38 kw_39 kw_40) rfl rfl rfl (by decide +kernel) ⟨Nat.le_of_ble_eq_true rfl, Nat.le_of_ble_eq_true rfl⟩) hP hD hS hA hK hG [] (by decide) rfl [none, none] 0 rfl (by decide +kernel) rfl rfl hl.1 rfl (Nat.le_of_ble_eq_true rfl) dX9_goBehind_142 (Nat.zero_le _) (Nat.zero_le _) (fun H locs hP hD hS => ?_)
  have hP : va_P (dC, dI) vwCl [(h0, .inr (8, [.int v0_a, .int v0_b, .int v0_c, .int v0_d, .int v0_e, .int v0_f])), (h1, .inr (8, [.int v1_a, .int v1_b, .int v1_c, .int v1_d, .int v1_e, .int v1_f]))] H := hP
  have hD : va_D A [(h0, .inr (8, [.int v0_a, .int v0_b, .int v0_c, .int v0_d, .int v0_e, .int v0_f])), (h1, .inr (8, [.int v1_a, .int v1_b, .int v1_c, .int v1_d, .int v1_e, .int v1_f]))] := hD
  refine lv_l2i (v := ((r_13 : Int64).toInt32)) hx hb dX9_goBehind_145 rfl ?_
  refine lv_iadd hx hb dX9_goBehind_146 ?_
  refine lv_topi (fun y_15 ey_15 => ?_)
  have hM := nm_u ey_15 hM
  refine va_put (D := (dC, dI)) (ci := 8) (v := .int y_15) (ty := .int) (C := RX9) (T := TX9) (N := 6) hx hb hu inX9 tyX9 tyX9_ok nmX9 hown hK hP hD hS 0 rfl rfl 4 (by decide) (hu _ kw_28) (fun _ h9 => h9) rfl (by decide +kernel) rfl rfl (Nat.le_of_ble_eq_true rfl) dX9_goBehind_147 (fun H locs hP hD hS => ?_)
  have hP : va_P (dC, dI) vwCl [(h0, .inr (8, [.int v0_a, .int v0_b, .int v0_c, .int v0_d, .int y_15, .int v0_f])), (h1, .inr (8, [.int v1_a, .int v1_b, .int v1_c, .int v1_d, .int v1_e, .int v1_f]))] H := hP
  have hD : va_D A [(h0, .inr (8, [.int v0_a, .int v0_b, .int v0_c, .int v0_d, .int y_15, .int v0_f])), (h1, .inr (8, [.int v1_a, .int v1_b, .int v1_c, .int v1_d, .int v1_e, .int v1_f]))] := hD
  refine lv_aload_n hx hb dX9_goBehind_150 rfl (lv_at hl 4 rfl) ?_
  refine lv_dup hx hb dX9_goBehind_151 rfl ?_
  refine va_get (D := (dC, dI)) (ci := 8) (v := .int v0_f) (C := RX9) (T := TX9) (N := 6) hx hb hu inX9 hown hK hP 0 rfl rfl 5 (by decide) (hu _ kw_29) (fun _ h9 => h9) rfl dX9_goBehind_152 ?_
  refine lv_aload_n hx hb dX9_goBehind_155 rfl (lv_at hl 4 rfl) ?_
  refine va_get (D := (dC, dI)) (ci := 8) (v := .int v0_b) (C := RX9) (T := TX9) (N := 6) hx hb hu inX9 hown hK hP 0 rfl rfl 1 (by decide) (hu _ kw_25) (fun _ h9 => h9) rfl dX9_goBehind_156 ?_
  refine lv_i2l (v := ((v0_b : Int32).toInt64)) hx hb dX9_goBehind_159 rfl ?_
  refine lv_aload_n hx hb dX9_goBehind_160 rfl (lv_at hl 5 rfl) ?_
  refine va_get (D := (dC, dI)) (ci := 8) (v := .int v1_e) (C := RX9) (T := TX9) (N := 6) hx hb hu inX9 hown hK hP 1 rfl rfl 4 (by decide) (hu _ kw_28) (fun _ h9 => h9) rfl dX9_goBehind_161 ?_
  refine lv_i2l (v := ((v1_e : Int32).toInt64)) hx hb dX9_goBehind_164 rfl ?_
  refine lv_lmul hx hb dX9_goBehind_165 ?_
  refine lv_aload_n hx hb dX9_goBehind_166 rfl (lv_at hl 4 rfl) ?_
  refine va_get (D := (dC, dI)) (ci := 8) (v := .int v0_d) (C := RX9) (T := TX9) (N := 6) hx hb hu inX9 hown hK hP 0 rfl rfl 3 (by decide) (hu _ kw_27) (fun _ h9 => h9) rfl dX9_goBehind_167 ?_
  refine lv_i2l (v := ((v0_d : Int32).toInt64)) hx hb dX9_goBehind_170 rfl ?_
  refine lv_aload_n hx hb dX9_goBehind_171 rfl (lv_at hl 5 rfl) ?_
  refine va_get (D := (dC, dI)) (ci := 8) (v := .int v1_f) (C := RX9) (T := TX9) (N := 6) hx hb hu inX9 hown hK hP 1 rfl rfl 5 (by decide) (hu _ kw_29) (fun _ h9 => h9) rfl dX9_goBehind_172 ?_
  refine lv_i2l (v := ((v1_f : Int32).toInt64)) hx hb dX9_goBehind_175 rfl ?_
  refine lv_lmul hx hb dX9_goBehind_176 ?_
  refine lv_ladd hx hb dX9_goBehind_177 ?_
  obtain ⟨r_16, hm_17, hM⟩ := bd1_u hM
  refine cSl (r := r_16) (As := [.long ((((v0_b : Int32).toInt64) * ((v1_e : Int32).toInt64)) + (((v0_d : Int32).toInt64) * ((v1_f : Int32).toInt64)))]) (rest := [.int v0_f, .ref h0]) ⟨hx, hb, hml, hown, hu⟩ (c_X9_rounded l dC dI cI cZ cO tL H.size ((((v0_b : Int32).toInt64) * ((v1_e : Int32).toInt64)) + (((v0_d : Int32).toInt64) * ((v1_f : Int32).toInt64))) r_16 hm_17) (va_cwS 1 hu (gS kw_37 kw_38 kw_39 kw_40) rfl rfl rfl (by decide +kernel) ⟨Nat.le_of_ble_eq_true rfl, Nat.le_of_ble_eq_true rfl⟩) hP hD hS hA hK hG [] (by decide) rfl [none, none] 0 rfl (by decide +kernel) rfl rfl hl.1 rfl (Nat.le_of_ble_eq_true rfl) dX9_goBehind_178 (Nat.zero_le _) (Nat.zero_le _) (fun H locs hP hD hS => ?_)
  have hP : va_P (dC, dI) vwCl [(h0, .inr (8, [.int v0_a, .int v0_b, .int v0_c, .int v0_d, .int y_15, .int v0_f])), (h1, .inr (8, [.int v1_a, .int v1_b, .int v1_c, .int v1_d, .int v1_e, .int v1_f]))] H := hP
  have hD : va_D A [(h0, .inr (8, [.int v0_a, .int v0_b, .int v0_c, .int v0_d, .int y_15, .int v0_f])), (h1, .inr (8, [.int v1_a, .int v1_b, .int v1_c, .int v1_d, .int v1_e, .int v1_f]))] := hD
  refine lv_l2i (v := ((r_16 : Int64).toInt32)) hx hb dX9_goBehind_181 rfl ?_
  refine lv_iadd hx hb dX9_goBehind_182 ?_
  refine lv_topi (fun y_18 ey_18 => ?_)
  have hM := nm_u ey_18 hM
  refine va_put (D := (dC, dI)) (ci := 8) (v := .int y_18) (ty := .int) (C := RX9) (T := TX9) (N := 6) hx hb hu inX9 tyX9 tyX9_ok nmX9 hown hK hP hD hS 0 rfl rfl 5 (by decide) (hu _ kw_29) (fun _ h9 => h9) rfl (by decide +kernel) rfl rfl (Nat.le_of_ble_eq_true rfl) dX9_goBehind_183 (fun H locs hP hD hS => ?_)
  have hP : va_P (dC, dI) vwCl [(h0, .inr (8, [.int v0_a, .int v0_b, .int v0_c, .int v0_d, .int y_15, .int y_18])), (h1, .inr (8, [.int v1_a, .int v1_b, .int v1_c, .int v1_d, .int v1_e, .int v1_f]))] H := hP
  have hD : va_D A [(h0, .inr (8, [.int v0_a, .int v0_b, .int v0_c, .int v0_d, .int y_15, .int y_18])), (h1, .inr (8, [.int v1_a, .int v1_b, .int v1_c, .int v1_d, .int v1_e, .int v1_f]))] := hD
  refine lv_aload_n hx hb dX9_goBehind_186 rfl (lv_at hl 4 rfl) ?_
  refine lv_iload_n hx hb dX9_goBehind_187 rfl (lv_at hl 3 rfl) ?_
  refine va_put (D := (dC, dI)) (ci := 8) (v := .int x_3) (ty := .int) (C := RX9) (T := TX9) (N := 6) hx hb hu inX9 tyX9 tyX9_ok nmX9 hown hK hP hD hS 0 rfl rfl 0 (by decide) (hu _ kw_24) (fun _ h9 => h9) rfl (by decide +kernel) rfl rfl (Nat.le_of_ble_eq_true rfl) dX9_goBehind_188 (fun H locs hP hD hS => ?_)
  have hP : va_P (dC, dI) vwCl [(h0, .inr (8, [.int x_3, .int v0_b, .int v0_c, .int v0_d, .int y_15, .int y_18])), (h1, .inr (8, [.int v1_a, .int v1_b, .int v1_c, .int v1_d, .int v1_e, .int v1_f]))] H := hP
  have hD : va_D A [(h0, .inr (8, [.int x_3, .int v0_b, .int v0_c, .int v0_d, .int y_15, .int y_18])), (h1, .inr (8, [.int v1_a, .int v1_b, .int v1_c, .int v1_d, .int v1_e, .int v1_f]))] := hD
  refine lv_aload_n hx hb dX9_goBehind_191 rfl (lv_at hl 4 rfl) ?_
  refine lv_iload_n hx hb dX9_goBehind_192 rfl (lv_at hl 2 rfl) ?_
  refine va_put (D := (dC, dI)) (ci := 8) (v := .int x_6) (ty := .int) (C := RX9) (T := TX9) (N := 6) hx hb hu inX9 tyX9 tyX9_ok nmX9 hown hK hP hD hS 0 rfl rfl 1 (by decide) (hu _ kw_25) (fun _ h9 => h9) rfl (by decide +kernel) rfl rfl (Nat.le_of_ble_eq_true rfl) dX9_goBehind_193 (fun H locs hP hD hS => ?_)
  have hP : va_P (dC, dI) vwCl [(h0, .inr (8, [.int x_3, .int x_6, .int v0_c, .int v0_d, .int y_15, .int y_18])), (h1, .inr (8, [.int v1_a, .int v1_b, .int v1_c, .int v1_d, .int v1_e, .int v1_f]))] H := hP
  have hD : va_D A [(h0, .inr (8, [.int x_3, .int x_6, .int v0_c, .int v0_d, .int y_15, .int y_18])), (h1, .inr (8, [.int v1_a, .int v1_b, .int v1_c, .int v1_d, .int v1_e, .int v1_f]))] := hD
  refine lv_aload_n hx hb dX9_goBehind_196 rfl (lv_at hl 4 rfl) ?_
  refine lv_iload hx hb dX9_goBehind_197 (lv_at hl 1 rfl) ?_
  refine va_put (D := (dC, dI)) (ci := 8) (v := .int x_9) (ty := .int) (C := RX9) (T := TX9) (N := 6) hx hb hu inX9 tyX9 tyX9_ok nmX9 hown hK hP hD hS 0 rfl rfl 2 (by decide) (hu _ kw_26) (fun _ h9 => h9) rfl (by decide +kernel) rfl rfl (Nat.le_of_ble_eq_true rfl) dX9_goBehind_199 (fun H locs hP hD hS => ?_)
  have hP : va_P (dC, dI) vwCl [(h0, .inr (8, [.int x_3, .int x_6, .int x_9, .int v0_d, .int y_15, .int y_18])), (h1, .inr (8, [.int v1_a, .int v1_b, .int v1_c, .int v1_d, .int v1_e, .int v1_f]))] H := hP
  have hD : va_D A [(h0, .inr (8, [.int x_3, .int x_6, .int x_9, .int v0_d, .int y_15, .int y_18])), (h1, .inr (8, [.int v1_a, .int v1_b, .int v1_c, .int v1_d, .int v1_e, .int v1_f]))] := hD
  refine lv_aload_n hx hb dX9_goBehind_202 rfl (lv_at hl 4 rfl) ?_
  refine lv_iload hx hb dX9_goBehind_203 (lv_at hl 0 rfl) ?_
  refine va_put (D := (dC, dI)) (ci := 8) (v := .int x_12) (ty := .int) (C := RX9) (T := TX9) (N := 6) hx hb hu inX9 tyX9 tyX9_ok nmX9 hown hK hP hD hS 0 rfl rfl 3 (by decide) (hu _ kw_27) (fun _ h9 => h9) rfl (by decide +kernel) rfl rfl (Nat.le_of_ble_eq_true rfl) dX9_goBehind_205 (fun H locs hP hD hS => ?_)
  have hP : va_P (dC, dI) vwCl [(h0, .inr (8, [.int x_3, .int x_6, .int x_9, .int x_12, .int y_15, .int y_18])), (h1, .inr (8, [.int v1_a, .int v1_b, .int v1_c, .int v1_d, .int v1_e, .int v1_f]))] H := hP
  have hD : va_D A [(h0, .inr (8, [.int x_3, .int x_6, .int x_9, .int x_12, .int y_15, .int y_18])), (h1, .inr (8, [.int v1_a, .int v1_b, .int v1_c, .int v1_d, .int v1_e, .int v1_f]))] := hD
  have h9 := Option.some.inj hM
  subst h9
  exact W.vret hx hb hr (fun t ht hW => QMv_mk (by rw [ht]; exact hP) (va_K.moved hW.alike hK) hD (hS.F ht)) hS.2.2 dX9_goBehind_208
theorem dX9_isWhole_0 : decode cX9_isWhole 0 = .ok (.aload_n 0, 1) := by decide +kernel
theorem dX9_isWhole_1 : decode cX9_isWhole 1 = .ok (.getfield 10, 3) := by decide +kernel
theorem dX9_isWhole_4 : decode cX9_isWhole 4 = .ok (.aload_n 0, 1) := by decide +kernel
theorem dX9_isWhole_5 : decode cX9_isWhole 5 = .ok (.getfield 16, 3) := by decide +kernel
theorem dX9_isWhole_8 : decode cX9_isWhole 8 = .ok (.ior, 1) := by decide +kernel
theorem dX9_isWhole_9 : decode cX9_isWhole 9 = .ok (.aload_n 0, 1) := by decide +kernel
theorem dX9_isWhole_10 : decode cX9_isWhole 10 = .ok (.getfield 19, 3) := by decide +kernel
theorem dX9_isWhole_13 : decode cX9_isWhole 13 = .ok (.ior, 1) := by decide +kernel
theorem dX9_isWhole_14 : decode cX9_isWhole 14 = .ok (.aload_n 0, 1) := by decide +kernel
theorem dX9_isWhole_15 : decode cX9_isWhole 15 = .ok (.getfield 22, 3) := by decide +kernel
theorem dX9_isWhole_18 : decode cX9_isWhole 18 = .ok (.ior, 1) := by decide +kernel
theorem dX9_isWhole_19 : decode cX9_isWhole 19 = .ok (.aload_n 0, 1) := by decide +kernel
theorem dX9_isWhole_20 : decode cX9_isWhole 20 = .ok (.getfield 25, 3) := by decide +kernel
theorem dX9_isWhole_23 : decode cX9_isWhole 23 = .ok (.ior, 1) := by decide +kernel
theorem dX9_isWhole_24 : decode cX9_isWhole 24 = .ok (.aload_n 0, 1) := by decide +kernel
theorem dX9_isWhole_25 : decode cX9_isWhole 25 = .ok (.getfield 28, 3) := by decide +kernel
theorem dX9_isWhole_28 : decode cX9_isWhole 28 = .ok (.ior, 1) := by decide +kernel
theorem dX9_isWhole_29 : decode cX9_isWhole 29 = .ok (.ldc 49, 2) := by decide +kernel
theorem dX9_isWhole_31 : decode cX9_isWhole 31 = .ok (.iand, 1) := by decide +kernel
theorem dX9_isWhole_32 : decode cX9_isWhole 32 = .ok (.ifCond .ne 7, 3) := by decide +kernel
theorem dX9_isWhole_35 : decode cX9_isWhole 35 = .ok (.iconst 1, 1) := by decide +kernel
theorem dX9_isWhole_36 : decode cX9_isWhole 36 = .ok (.goto 4, 3) := by decide +kernel
theorem dX9_isWhole_39 : decode cX9_isWhole 39 = .ok (.iconst 0, 1) := by decide +kernel
theorem dX9_isWhole_40 : decode cX9_isWhole 40 = .ok (.ireturn, 1) := by decide +kernel
abbrev rm_X9_isWhole : Room := { frames := 0, cells := 0, slots := 0, locals := 0 }
def w_X9_isWhole : List Cond := Cond.code yX9_isWhole cX9_isWhole 1 (some .boolean) :: uw
set_option maxHeartbeats 4000000 in
set_option maxRecDepth 100000 in
theorem c_X9_isWhole (l : Launch) (dC : Nat → ClassId) (dI : Nat → Nat → Nat) (cI cZ cO : ClassId) (tL sz : Nat) (h0 : Nat) (v0_a : Int32) (v0_b : Int32) (v0_c : Int32) (v0_d : Int32) (v0_e : Int32) (v0_f : Int32) (res : Int32) (hM : m_X9_isWhole v0_a v0_b v0_c v0_d v0_e v0_f = some res) : Met l yX9_isWhole w_X9_isWhole rm_X9_isWhole (PCx [.ref h0] (dC, dI) [(cI, .int), (cZ, .boolean), (cO, .object "ListPainter$Settings")] sz tL [(h0, .inr (8, [.int v0_a, .int v0_b, .int v0_c, .int v0_d, .int v0_e, .int v0_f]))]) (QMz res (dC, dI) [(cI, .int), (cZ, .boolean), (cO, .object "ListPainter$Settings")] (va_A [(h0, .inr (8, [.int v0_a, .int v0_b, .int v0_c, .int v0_d, .int v0_e, .int v0_f]))] sz) [(h0, .inr (8, [.int v0_a, .int v0_b, .int v0_c, .int v0_d, .int v0_e, .int v0_f]))]) 0 0 (va_A [(h0, .inr (8, [.int v0_a, .int v0_b, .int v0_c, .int v0_d, .int v0_e, .int v0_f]))] sz) := by
  refine Met.ofW (cc := cX9_isWhole) (maxL := 1) (ret := (some .boolean)) (by decide) rfl ?_
  intro p e s m args below meth c s₁ B hml hv
  obtain ⟨rfl, hsz, hP, hK, hD0, hG⟩ := hv
  have hx := B.exec
  have hb := B.bytes
  have hr := B.returns
  have hu : ∀ w ∈ uw, w.before ([.ref h0] : List Value).toArray s = true := fun w h => atoms_spec (ws := w_X9_isWhole) B.pre w (List.mem_cons_of_mem _ h)
  have hown : s.vm.findClass RX9 = some m.cls := findClass_of_methodNamed B.named
  have hlocks := B.notSynchronized
  subst hsz
  have hD := hD0.self (sz := s.heap.size)
  generalize hAe : va_A [(h0, .inr (8, [.int v0_a, .int v0_b, .int v0_c, .int v0_d, .int v0_e, .int v0_f]))] s.heap.size = A at hD hG ⊢
  have hA : ∀ q : Nat, s.heap.size ≤ q → A q := fun q h => by rw [← hAe]; exact Or.inr h
  have hS : va_S A s.heap s.heap [] := va_S.rf
  have hP : va_P (dC, dI) vwCl [(h0, .inr (8, [.int v0_a, .int v0_b, .int v0_c, .int v0_d, .int v0_e, .int v0_f]))] s.heap := hP
  have hl := lv_entry ([.ref h0]) (n := 1) (Nat.le_of_ble_eq_true rfl)
  rw [lg_entry_eq]
  generalize (lg_sl ([.ref h0]) ++ List.replicate (1 - (lg_sl ([.ref h0])).length) Slot.unset).toArray = ls at hl ⊢
  have hl : lv_has ls 1 [(0, .ref h0)] := hl
  rw [m_X9_isWhole] at hM
  suffices hgo : ∀ (H : Heap) (locs : List Loc), va_P (dC, dI) vwCl [(h0, .inr (8, [.int v0_a, .int v0_b, .int v0_c, .int v0_d, .int v0_e, .int v0_f]))] H → va_D A [(h0, .inr (8, [.int v0_a, .int v0_b, .int v0_c, .int v0_d, .int v0_e, .int v0_f]))] → va_S A s.heap H locs → W p l e (headSpec w_X9_isWhole rm_X9_isWhole).room s m ([.ref h0] : List Value).toArray below meth c H locs 0 0 (MQ below (QMz res (dC, dI) [(cI, .int), (cZ, .boolean), (cO, .object "ListPainter$Settings")] A [(h0, .inr (8, [.int v0_a, .int v0_b, .int v0_c, .int v0_d, .int v0_e, .int v0_f]))]) ([.ref h0] : List Value).toArray s 0 0 A) (F0 m 0 ls []) from hgo _ _ hP hD hS
  intro H locs hP hD hS
  refine lv_aload_n hx hb dX9_isWhole_0 rfl (lv_at hl 0 rfl) ?_
  refine va_get (D := (dC, dI)) (ci := 8) (v := .int v0_a) (C := RX9) (T := TX9) (N := 6) hx hb hu inX9 hown hK hP 0 rfl rfl 0 (by decide) (hu _ kw_24) (fun _ h9 => h9) rfl dX9_isWhole_1 ?_
  refine lv_aload_n hx hb dX9_isWhole_4 rfl (lv_at hl 0 rfl) ?_
  refine va_get (D := (dC, dI)) (ci := 8) (v := .int v0_b) (C := RX9) (T := TX9) (N := 6) hx hb hu inX9 hown hK hP 0 rfl rfl 1 (by decide) (hu _ kw_25) (fun _ h9 => h9) rfl dX9_isWhole_5 ?_
  refine lv_ior hx hb dX9_isWhole_8 ?_
  refine lv_aload_n hx hb dX9_isWhole_9 rfl (lv_at hl 0 rfl) ?_
  refine va_get (D := (dC, dI)) (ci := 8) (v := .int v0_c) (C := RX9) (T := TX9) (N := 6) hx hb hu inX9 hown hK hP 0 rfl rfl 2 (by decide) (hu _ kw_26) (fun _ h9 => h9) rfl dX9_isWhole_10 ?_
  refine lv_ior hx hb dX9_isWhole_13 ?_
  refine lv_aload_n hx hb dX9_isWhole_14 rfl (lv_at hl 0 rfl) ?_
  refine va_get (D := (dC, dI)) (ci := 8) (v := .int v0_d) (C := RX9) (T := TX9) (N := 6) hx hb hu inX9 hown hK hP 0 rfl rfl 3 (by decide) (hu _ kw_27) (fun _ h9 => h9) rfl dX9_isWhole_15 ?_
  refine lv_ior hx hb dX9_isWhole_18 ?_
  refine lv_aload_n hx hb dX9_isWhole_19 rfl (lv_at hl 0 rfl) ?_
  refine va_get (D := (dC, dI)) (ci := 8) (v := .int v0_e) (C := RX9) (T := TX9) (N := 6) hx hb hu inX9 hown hK hP 0 rfl rfl 4 (by decide) (hu _ kw_28) (fun _ h9 => h9) rfl dX9_isWhole_20 ?_
  refine lv_ior hx hb dX9_isWhole_23 ?_
  refine lv_aload_n hx hb dX9_isWhole_24 rfl (lv_at hl 0 rfl) ?_
  refine va_get (D := (dC, dI)) (ci := 8) (v := .int v0_f) (C := RX9) (T := TX9) (N := 6) hx hb hu inX9 hown hK hP 0 rfl rfl 5 (by decide) (hu _ kw_29) (fun _ h9 => h9) rfl dX9_isWhole_25 ?_
  refine lv_ior hx hb dX9_isWhole_28 ?_
  refine lv_ldc (v := 65535) hx hb hown (hu _ kw_44) dX9_isWhole_29 ?_
  refine lv_iand hx hb dX9_isWhole_31 ?_
  refine lv_if_ne (tgt := 39) hx hb dX9_isWhole_32 (by decide) (fun c_1 => ?_) (fun c_1 => ?_)
  · have hM := if_f c_1 hM
    refine lv_iconst (v := 0) hx hb dX9_isWhole_39 (by decide) ?_
    have h9 := Option.some.inj hM
    subst h9
    exact W.zret (v := 0) hx hb hr (zb_n (Or.inl rfl)) (fun t ht hW => QMz_mk (Or.inl rfl) (by rw [ht]; exact hP) (va_K.moved hW.alike hK) hD (hS.F ht)) hS.2.2 dX9_isWhole_40
  · have hM := if_t c_1 hM
    refine lv_iconst (v := 1) hx hb dX9_isWhole_35 (by decide) ?_
    refine lv_goto (tgt := 40) hx hb dX9_isWhole_36 (by decide) ?_
    have h9 := Option.some.inj hM
    subst h9
    exact W.zret (v := 1) hx hb hr (zb_n (Or.inr rfl)) (fun t ht hW => QMz_mk (Or.inr rfl) (by rw [ht]; exact hP) (va_K.moved hW.alike hK) hD (hS.F ht)) hS.2.2 dX9_isWhole_40
theorem dX9_fits_0 : decode cX9_fits 0 = .ok (.lload_n 0, 1) := by decide +kernel
theorem dX9_fits_1 : decode cX9_fits 1 = .ok (.lload_n 0, 1) := by decide +kernel
theorem dX9_fits_2 : decode cX9_fits 2 = .ok (.l2i, 1) := by decide +kernel
theorem dX9_fits_3 : decode cX9_fits 3 = .ok (.i2l, 1) := by decide +kernel
theorem dX9_fits_4 : decode cX9_fits 4 = .ok (.lcmp, 1) := by decide +kernel
theorem dX9_fits_5 : decode cX9_fits 5 = .ok (.ifCond .ne 7, 3) := by decide +kernel
theorem dX9_fits_8 : decode cX9_fits 8 = .ok (.iconst 1, 1) := by decide +kernel
theorem dX9_fits_9 : decode cX9_fits 9 = .ok (.goto 4, 3) := by decide +kernel
theorem dX9_fits_12 : decode cX9_fits 12 = .ok (.iconst 0, 1) := by decide +kernel
theorem dX9_fits_13 : decode cX9_fits 13 = .ok (.ireturn, 1) := by decide +kernel
abbrev rm_X9_fits : Room := { frames := 0, cells := 0, slots := 0, locals := 0 }
def w_X9_fits : List Cond := Cond.code yX9_fits cX9_fits 2 (some .boolean) :: uw
set_option maxHeartbeats 4000000 in
set_option maxRecDepth 100000 in
theorem c_X9_fits (l : Launch) (dC : Nat → ClassId) (dI : Nat → Nat → Nat) (cI cZ cO : ClassId) (tL sz : Nat) (p0 : Int64) (res : Int32) (hM : m_X9_fits p0 = some res) : Met l yX9_fits w_X9_fits rm_X9_fits (PCx [.long p0] (dC, dI) [(cI, .int), (cZ, .boolean), (cO, .object "ListPainter$Settings")] sz tL []) (QMz res (dC, dI) [(cI, .int), (cZ, .boolean), (cO, .object "ListPainter$Settings")] (va_A [] sz) []) 0 0 (va_A [] sz) := by
  refine Met.ofW (cc := cX9_fits) (maxL := 2) (ret := (some .boolean)) (by decide) rfl ?_
  intro p e s m args below meth c s₁ B hml hv
  obtain ⟨rfl, hsz, hP, hK, hD0, hG⟩ := hv
  have hx := B.exec
  have hb := B.bytes
  have hr := B.returns
  have hu : ∀ w ∈ uw, w.before ([.long p0] : List Value).toArray s = true := fun w h => atoms_spec (ws := w_X9_fits) B.pre w (List.mem_cons_of_mem _ h)
  have hown : s.vm.findClass RX9 = some m.cls := findClass_of_methodNamed B.named
  have hlocks := B.notSynchronized
  subst hsz
  have hD := hD0.self (sz := s.heap.size)
  generalize hAe : va_A [] s.heap.size = A at hD hG ⊢
  have hA : ∀ q : Nat, s.heap.size ≤ q → A q := fun q h => by rw [← hAe]; exact Or.inr h
  have hS : va_S A s.heap s.heap [] := va_S.rf
  have hP : va_P (dC, dI) vwCl [] s.heap := hP
  have hl := lv_entry ([.long p0]) (n := 2) (Nat.le_of_ble_eq_true rfl)
  rw [lg_entry_eq]
  generalize (lg_sl ([.long p0]) ++ List.replicate (2 - (lg_sl ([.long p0])).length) Slot.unset).toArray = ls at hl ⊢
  have hl : lv_has ls 2 [(0, .long p0)] := hl
  rw [m_X9_fits] at hM
  suffices hgo : ∀ (H : Heap) (locs : List Loc), va_P (dC, dI) vwCl [] H → va_D A [] → va_S A s.heap H locs → W p l e (headSpec w_X9_fits rm_X9_fits).room s m ([.long p0] : List Value).toArray below meth c H locs 0 0 (MQ below (QMz res (dC, dI) [(cI, .int), (cZ, .boolean), (cO, .object "ListPainter$Settings")] A []) ([.long p0] : List Value).toArray s 0 0 A) (F0 m 0 ls []) from hgo _ _ hP hD hS
  intro H locs hP hD hS
  refine lv_lload_n hx hb dX9_fits_0 rfl (lv_at hl 0 rfl) ?_
  refine lv_lload_n hx hb dX9_fits_1 rfl (lv_at hl 0 rfl) ?_
  refine lv_l2i (v := ((p0 : Int64).toInt32)) hx hb dX9_fits_2 rfl ?_
  refine lv_i2l (v := ((((p0 : Int64).toInt32) : Int32).toInt64)) hx hb dX9_fits_3 rfl ?_
  refine W.lcmp hx hb dX9_fits_4 ?_
  refine lv_if_ne (tgt := 12) hx hb dX9_fits_5 (by decide) (fun c_1 => ?_) (fun c_1 => ?_)
  · have hM := if_f c_1 hM
    refine lv_iconst (v := 0) hx hb dX9_fits_12 (by decide) ?_
    have h9 := Option.some.inj hM
    subst h9
    exact W.zret (v := 0) hx hb hr (zb_n (Or.inl rfl)) (fun t ht hW => QMz_mk (Or.inl rfl) (by rw [ht]; exact hP) (va_K.moved hW.alike hK) hD (hS.F ht)) hS.2.2 dX9_fits_13
  · have hM := if_t c_1 hM
    refine lv_iconst (v := 1) hx hb dX9_fits_8 (by decide) ?_
    refine lv_goto (tgt := 13) hx hb dX9_fits_9 (by decide) ?_
    have h9 := Option.some.inj hM
    subst h9
    exact W.zret (v := 1) hx hb hr (zb_n (Or.inr rfl)) (fun t ht hW => QMz_mk (Or.inr rfl) (by rw [ht]; exact hP) (va_K.moved hW.alike hK) hD (hS.F ht)) hS.2.2 dX9_fits_13
theorem dX9_fitsBehind_0 : decode cX9_fitsBehind 0 = .ok (.aload_n 0, 1) := by decide +kernel
theorem dX9_fitsBehind_1 : decode cX9_fitsBehind 1 = .ok (.getfield 10, 3) := by decide +kernel
theorem dX9_fitsBehind_4 : decode cX9_fitsBehind 4 = .ok (.bipush 16, 2) := by decide +kernel
theorem dX9_fitsBehind_6 : decode cX9_fitsBehind 6 = .ok (.ishr, 1) := by decide +kernel
theorem dX9_fitsBehind_7 : decode cX9_fitsBehind 7 = .ok (.i2l, 1) := by decide +kernel
theorem dX9_fitsBehind_8 : decode cX9_fitsBehind 8 = .ok (.lstore_n 2, 1) := by decide +kernel
theorem dX9_fitsBehind_9 : decode cX9_fitsBehind 9 = .ok (.aload_n 0, 1) := by decide +kernel
theorem dX9_fitsBehind_10 : decode cX9_fitsBehind 10 = .ok (.getfield 16, 3) := by decide +kernel
theorem dX9_fitsBehind_13 : decode cX9_fitsBehind 13 = .ok (.bipush 16, 2) := by decide +kernel
theorem dX9_fitsBehind_15 : decode cX9_fitsBehind 15 = .ok (.ishr, 1) := by decide +kernel
theorem dX9_fitsBehind_16 : decode cX9_fitsBehind 16 = .ok (.i2l, 1) := by decide +kernel
theorem dX9_fitsBehind_17 : decode cX9_fitsBehind 17 = .ok (.lstore 4, 2) := by decide +kernel
theorem dX9_fitsBehind_19 : decode cX9_fitsBehind 19 = .ok (.aload_n 0, 1) := by decide +kernel
theorem dX9_fitsBehind_20 : decode cX9_fitsBehind 20 = .ok (.getfield 19, 3) := by decide +kernel
theorem dX9_fitsBehind_23 : decode cX9_fitsBehind 23 = .ok (.bipush 16, 2) := by decide +kernel
theorem dX9_fitsBehind_25 : decode cX9_fitsBehind 25 = .ok (.ishr, 1) := by decide +kernel
theorem dX9_fitsBehind_26 : decode cX9_fitsBehind 26 = .ok (.i2l, 1) := by decide +kernel
theorem dX9_fitsBehind_27 : decode cX9_fitsBehind 27 = .ok (.lstore 6, 2) := by decide +kernel
theorem dX9_fitsBehind_29 : decode cX9_fitsBehind 29 = .ok (.aload_n 0, 1) := by decide +kernel
theorem dX9_fitsBehind_30 : decode cX9_fitsBehind 30 = .ok (.getfield 22, 3) := by decide +kernel
theorem dX9_fitsBehind_33 : decode cX9_fitsBehind 33 = .ok (.bipush 16, 2) := by decide +kernel
theorem dX9_fitsBehind_35 : decode cX9_fitsBehind 35 = .ok (.ishr, 1) := by decide +kernel
theorem dX9_fitsBehind_36 : decode cX9_fitsBehind 36 = .ok (.i2l, 1) := by decide +kernel
theorem dX9_fitsBehind_37 : decode cX9_fitsBehind 37 = .ok (.lstore 8, 2) := by decide +kernel
theorem dX9_fitsBehind_39 : decode cX9_fitsBehind 39 = .ok (.lload_n 2, 1) := by decide +kernel
theorem dX9_fitsBehind_40 : decode cX9_fitsBehind 40 = .ok (.aload_n 1, 1) := by decide +kernel
theorem dX9_fitsBehind_41 : decode cX9_fitsBehind 41 = .ok (.getfield 10, 3) := by decide +kernel
theorem dX9_fitsBehind_44 : decode cX9_fitsBehind 44 = .ok (.i2l, 1) := by decide +kernel
theorem dX9_fitsBehind_45 : decode cX9_fitsBehind 45 = .ok (.lmul, 1) := by decide +kernel
theorem dX9_fitsBehind_46 : decode cX9_fitsBehind 46 = .ok (.lload 6, 2) := by decide +kernel
theorem dX9_fitsBehind_48 : decode cX9_fitsBehind 48 = .ok (.aload_n 1, 1) := by decide +kernel
theorem dX9_fitsBehind_49 : decode cX9_fitsBehind 49 = .ok (.getfield 16, 3) := by decide +kernel
theorem dX9_fitsBehind_52 : decode cX9_fitsBehind 52 = .ok (.i2l, 1) := by decide +kernel
theorem dX9_fitsBehind_53 : decode cX9_fitsBehind 53 = .ok (.lmul, 1) := by decide +kernel
theorem dX9_fitsBehind_54 : decode cX9_fitsBehind 54 = .ok (.ladd, 1) := by decide +kernel
theorem dX9_fitsBehind_55 : decode cX9_fitsBehind 55 = .ok (.invokestatic 50, 3) := by decide +kernel
theorem dX9_fitsBehind_58 : decode cX9_fitsBehind 58 = .ok (.ifCond .eq 132, 3) := by decide +kernel
theorem dX9_fitsBehind_61 : decode cX9_fitsBehind 61 = .ok (.lload 4, 2) := by decide +kernel
theorem dX9_fitsBehind_63 : decode cX9_fitsBehind 63 = .ok (.aload_n 1, 1) := by decide +kernel
theorem dX9_fitsBehind_64 : decode cX9_fitsBehind 64 = .ok (.getfield 10, 3) := by decide +kernel
theorem dX9_fitsBehind_67 : decode cX9_fitsBehind 67 = .ok (.i2l, 1) := by decide +kernel
theorem dX9_fitsBehind_68 : decode cX9_fitsBehind 68 = .ok (.lmul, 1) := by decide +kernel
theorem dX9_fitsBehind_69 : decode cX9_fitsBehind 69 = .ok (.lload 8, 2) := by decide +kernel
theorem dX9_fitsBehind_71 : decode cX9_fitsBehind 71 = .ok (.aload_n 1, 1) := by decide +kernel
theorem dX9_fitsBehind_72 : decode cX9_fitsBehind 72 = .ok (.getfield 16, 3) := by decide +kernel
theorem dX9_fitsBehind_75 : decode cX9_fitsBehind 75 = .ok (.i2l, 1) := by decide +kernel
theorem dX9_fitsBehind_76 : decode cX9_fitsBehind 76 = .ok (.lmul, 1) := by decide +kernel
theorem dX9_fitsBehind_77 : decode cX9_fitsBehind 77 = .ok (.ladd, 1) := by decide +kernel
theorem dX9_fitsBehind_78 : decode cX9_fitsBehind 78 = .ok (.invokestatic 50, 3) := by decide +kernel
theorem dX9_fitsBehind_81 : decode cX9_fitsBehind 81 = .ok (.ifCond .eq 109, 3) := by decide +kernel
theorem dX9_fitsBehind_84 : decode cX9_fitsBehind 84 = .ok (.lload_n 2, 1) := by decide +kernel
theorem dX9_fitsBehind_85 : decode cX9_fitsBehind 85 = .ok (.aload_n 1, 1) := by decide +kernel
theorem dX9_fitsBehind_86 : decode cX9_fitsBehind 86 = .ok (.getfield 19, 3) := by decide +kernel
theorem dX9_fitsBehind_89 : decode cX9_fitsBehind 89 = .ok (.i2l, 1) := by decide +kernel
theorem dX9_fitsBehind_90 : decode cX9_fitsBehind 90 = .ok (.lmul, 1) := by decide +kernel
theorem dX9_fitsBehind_91 : decode cX9_fitsBehind 91 = .ok (.lload 6, 2) := by decide +kernel
theorem dX9_fitsBehind_93 : decode cX9_fitsBehind 93 = .ok (.aload_n 1, 1) := by decide +kernel
theorem dX9_fitsBehind_94 : decode cX9_fitsBehind 94 = .ok (.getfield 22, 3) := by decide +kernel
theorem dX9_fitsBehind_97 : decode cX9_fitsBehind 97 = .ok (.i2l, 1) := by decide +kernel
theorem dX9_fitsBehind_98 : decode cX9_fitsBehind 98 = .ok (.lmul, 1) := by decide +kernel
theorem dX9_fitsBehind_99 : decode cX9_fitsBehind 99 = .ok (.ladd, 1) := by decide +kernel
theorem dX9_fitsBehind_100 : decode cX9_fitsBehind 100 = .ok (.invokestatic 50, 3) := by decide +kernel
theorem dX9_fitsBehind_103 : decode cX9_fitsBehind 103 = .ok (.ifCond .eq 87, 3) := by decide +kernel
theorem dX9_fitsBehind_106 : decode cX9_fitsBehind 106 = .ok (.lload 4, 2) := by decide +kernel
theorem dX9_fitsBehind_108 : decode cX9_fitsBehind 108 = .ok (.aload_n 1, 1) := by decide +kernel
theorem dX9_fitsBehind_109 : decode cX9_fitsBehind 109 = .ok (.getfield 19, 3) := by decide +kernel
theorem dX9_fitsBehind_112 : decode cX9_fitsBehind 112 = .ok (.i2l, 1) := by decide +kernel
theorem dX9_fitsBehind_113 : decode cX9_fitsBehind 113 = .ok (.lmul, 1) := by decide +kernel
theorem dX9_fitsBehind_114 : decode cX9_fitsBehind 114 = .ok (.lload 8, 2) := by decide +kernel
theorem dX9_fitsBehind_116 : decode cX9_fitsBehind 116 = .ok (.aload_n 1, 1) := by decide +kernel
theorem dX9_fitsBehind_117 : decode cX9_fitsBehind 117 = .ok (.getfield 22, 3) := by decide +kernel
theorem dX9_fitsBehind_120 : decode cX9_fitsBehind 120 = .ok (.i2l, 1) := by decide +kernel
theorem dX9_fitsBehind_121 : decode cX9_fitsBehind 121 = .ok (.lmul, 1) := by decide +kernel
theorem dX9_fitsBehind_122 : decode cX9_fitsBehind 122 = .ok (.ladd, 1) := by decide +kernel
theorem dX9_fitsBehind_123 : decode cX9_fitsBehind 123 = .ok (.invokestatic 50, 3) := by decide +kernel
theorem dX9_fitsBehind_126 : decode cX9_fitsBehind 126 = .ok (.ifCond .eq 64, 3) := by decide +kernel
theorem dX9_fitsBehind_129 : decode cX9_fitsBehind 129 = .ok (.lload_n 2, 1) := by decide +kernel
theorem dX9_fitsBehind_130 : decode cX9_fitsBehind 130 = .ok (.aload_n 1, 1) := by decide +kernel
theorem dX9_fitsBehind_131 : decode cX9_fitsBehind 131 = .ok (.getfield 25, 3) := by decide +kernel
theorem dX9_fitsBehind_134 : decode cX9_fitsBehind 134 = .ok (.i2l, 1) := by decide +kernel
theorem dX9_fitsBehind_135 : decode cX9_fitsBehind 135 = .ok (.lmul, 1) := by decide +kernel
theorem dX9_fitsBehind_136 : decode cX9_fitsBehind 136 = .ok (.lload 6, 2) := by decide +kernel
theorem dX9_fitsBehind_138 : decode cX9_fitsBehind 138 = .ok (.aload_n 1, 1) := by decide +kernel
theorem dX9_fitsBehind_139 : decode cX9_fitsBehind 139 = .ok (.getfield 28, 3) := by decide +kernel
theorem dX9_fitsBehind_142 : decode cX9_fitsBehind 142 = .ok (.i2l, 1) := by decide +kernel
theorem dX9_fitsBehind_143 : decode cX9_fitsBehind 143 = .ok (.lmul, 1) := by decide +kernel
theorem dX9_fitsBehind_144 : decode cX9_fitsBehind 144 = .ok (.ladd, 1) := by decide +kernel
theorem dX9_fitsBehind_145 : decode cX9_fitsBehind 145 = .ok (.aload_n 0, 1) := by decide +kernel
theorem dX9_fitsBehind_146 : decode cX9_fitsBehind 146 = .ok (.getfield 25, 3) := by decide +kernel
theorem dX9_fitsBehind_149 : decode cX9_fitsBehind 149 = .ok (.i2l, 1) := by decide +kernel
theorem dX9_fitsBehind_150 : decode cX9_fitsBehind 150 = .ok (.ladd, 1) := by decide +kernel
theorem dX9_fitsBehind_151 : decode cX9_fitsBehind 151 = .ok (.invokestatic 50, 3) := by decide +kernel
theorem dX9_fitsBehind_154 : decode cX9_fitsBehind 154 = .ok (.ifCond .eq 36, 3) := by decide +kernel
theorem dX9_fitsBehind_157 : decode cX9_fitsBehind 157 = .ok (.lload 4, 2) := by decide +kernel
theorem dX9_fitsBehind_159 : decode cX9_fitsBehind 159 = .ok (.aload_n 1, 1) := by decide +kernel
theorem dX9_fitsBehind_160 : decode cX9_fitsBehind 160 = .ok (.getfield 25, 3) := by decide +kernel
theorem dX9_fitsBehind_163 : decode cX9_fitsBehind 163 = .ok (.i2l, 1) := by decide +kernel
theorem dX9_fitsBehind_164 : decode cX9_fitsBehind 164 = .ok (.lmul, 1) := by decide +kernel
theorem dX9_fitsBehind_165 : decode cX9_fitsBehind 165 = .ok (.lload 8, 2) := by decide +kernel
theorem dX9_fitsBehind_167 : decode cX9_fitsBehind 167 = .ok (.aload_n 1, 1) := by decide +kernel
theorem dX9_fitsBehind_168 : decode cX9_fitsBehind 168 = .ok (.getfield 28, 3) := by decide +kernel
theorem dX9_fitsBehind_171 : decode cX9_fitsBehind 171 = .ok (.i2l, 1) := by decide +kernel
theorem dX9_fitsBehind_172 : decode cX9_fitsBehind 172 = .ok (.lmul, 1) := by decide +kernel
theorem dX9_fitsBehind_173 : decode cX9_fitsBehind 173 = .ok (.ladd, 1) := by decide +kernel
theorem dX9_fitsBehind_174 : decode cX9_fitsBehind 174 = .ok (.aload_n 0, 1) := by decide +kernel
theorem dX9_fitsBehind_175 : decode cX9_fitsBehind 175 = .ok (.getfield 28, 3) := by decide +kernel
theorem dX9_fitsBehind_178 : decode cX9_fitsBehind 178 = .ok (.i2l, 1) := by decide +kernel
theorem dX9_fitsBehind_179 : decode cX9_fitsBehind 179 = .ok (.ladd, 1) := by decide +kernel
theorem dX9_fitsBehind_180 : decode cX9_fitsBehind 180 = .ok (.invokestatic 50, 3) := by decide +kernel
theorem dX9_fitsBehind_183 : decode cX9_fitsBehind 183 = .ok (.ifCond .eq 7, 3) := by decide +kernel
theorem dX9_fitsBehind_186 : decode cX9_fitsBehind 186 = .ok (.iconst 1, 1) := by decide +kernel
theorem dX9_fitsBehind_187 : decode cX9_fitsBehind 187 = .ok (.goto 4, 3) := by decide +kernel
theorem dX9_fitsBehind_190 : decode cX9_fitsBehind 190 = .ok (.iconst 0, 1) := by decide +kernel
theorem dX9_fitsBehind_191 : decode cX9_fitsBehind 191 = .ok (.ireturn, 1) := by decide +kernel
abbrev rm_X9_fitsBehind : Room := { frames := 1, cells := 0, slots := 0, locals := 21 }
def w_X9_fitsBehind : List Cond := Cond.code yX9_fitsBehind cX9_fitsBehind 10 (some .boolean) :: uw
set_option maxHeartbeats 4000000 in
set_option maxRecDepth 100000 in
theorem c_X9_fitsBehind (l : Launch) (dC : Nat → ClassId) (dI : Nat → Nat → Nat) (cI cZ cO : ClassId) (tL sz : Nat) (h0 : Nat) (h1 : Nat) (v0_a : Int32) (v0_b : Int32) (v0_c : Int32) (v0_d : Int32) (v0_e : Int32) (v0_f : Int32) (v1_a : Int32) (v1_b : Int32) (v1_c : Int32) (v1_d : Int32) (v1_e : Int32) (v1_f : Int32) (res : Int32) (hM : m_X9_fitsBehind v0_a v0_b v0_c v0_d v0_e v0_f v1_a v1_b v1_c v1_d v1_e v1_f = some res) : Met l yX9_fitsBehind w_X9_fitsBehind rm_X9_fitsBehind (PCx [.ref h0, .ref h1] (dC, dI) [(cI, .int), (cZ, .boolean), (cO, .object "ListPainter$Settings")] sz tL [(h0, .inr (8, [.int v0_a, .int v0_b, .int v0_c, .int v0_d, .int v0_e, .int v0_f])), (h1, .inr (8, [.int v1_a, .int v1_b, .int v1_c, .int v1_d, .int v1_e, .int v1_f]))]) (QMz res (dC, dI) [(cI, .int), (cZ, .boolean), (cO, .object "ListPainter$Settings")] (va_A [(h0, .inr (8, [.int v0_a, .int v0_b, .int v0_c, .int v0_d, .int v0_e, .int v0_f])), (h1, .inr (8, [.int v1_a, .int v1_b, .int v1_c, .int v1_d, .int v1_e, .int v1_f]))] sz) [(h0, .inr (8, [.int v0_a, .int v0_b, .int v0_c, .int v0_d, .int v0_e, .int v0_f])), (h1, .inr (8, [.int v1_a, .int v1_b, .int v1_c, .int v1_d, .int v1_e, .int v1_f]))]) 0 0 (va_A [(h0, .inr (8, [.int v0_a, .int v0_b, .int v0_c, .int v0_d, .int v0_e, .int v0_f])), (h1, .inr (8, [.int v1_a, .int v1_b, .int v1_c, .int v1_d, .int v1_e, .int v1_f]))] sz) := by
  refine Met.ofW (cc := cX9_fitsBehind) (maxL := 10) (ret := (some .boolean)) (by decide) rfl ?_
  intro p e s m args below meth c s₁ B hml hv
  obtain ⟨rfl, hsz, hP, hK, hD0, hG⟩ := hv
  have hx := B.exec
  have hb := B.bytes
  have hr := B.returns
  have hu : ∀ w ∈ uw, w.before ([.ref h0, .ref h1] : List Value).toArray s = true := fun w h => atoms_spec (ws := w_X9_fitsBehind) B.pre w (List.mem_cons_of_mem _ h)
  have hown : s.vm.findClass RX9 = some m.cls := findClass_of_methodNamed B.named
  have hlocks := B.notSynchronized
  subst hsz
  have hD := hD0.self (sz := s.heap.size)
  generalize hAe : va_A [(h0, .inr (8, [.int v0_a, .int v0_b, .int v0_c, .int v0_d, .int v0_e, .int v0_f])), (h1, .inr (8, [.int v1_a, .int v1_b, .int v1_c, .int v1_d, .int v1_e, .int v1_f]))] s.heap.size = A at hD hG ⊢
  have hA : ∀ q : Nat, s.heap.size ≤ q → A q := fun q h => by rw [← hAe]; exact Or.inr h
  have hS : va_S A s.heap s.heap [] := va_S.rf
  have hP : va_P (dC, dI) vwCl [(h0, .inr (8, [.int v0_a, .int v0_b, .int v0_c, .int v0_d, .int v0_e, .int v0_f])), (h1, .inr (8, [.int v1_a, .int v1_b, .int v1_c, .int v1_d, .int v1_e, .int v1_f]))] s.heap := hP
  have hl := lv_entry ([.ref h0, .ref h1]) (n := 10) (Nat.le_of_ble_eq_true rfl)
  rw [lg_entry_eq]
  generalize (lg_sl ([.ref h0, .ref h1]) ++ List.replicate (10 - (lg_sl ([.ref h0, .ref h1])).length) Slot.unset).toArray = ls at hl ⊢
  have hl : lv_has ls 10 [(0, .ref h0), (1, .ref h1)] := hl
  rw [m_X9_fitsBehind] at hM
  suffices hgo : ∀ (H : Heap) (locs : List Loc), va_P (dC, dI) vwCl [(h0, .inr (8, [.int v0_a, .int v0_b, .int v0_c, .int v0_d, .int v0_e, .int v0_f])), (h1, .inr (8, [.int v1_a, .int v1_b, .int v1_c, .int v1_d, .int v1_e, .int v1_f]))] H → va_D A [(h0, .inr (8, [.int v0_a, .int v0_b, .int v0_c, .int v0_d, .int v0_e, .int v0_f])), (h1, .inr (8, [.int v1_a, .int v1_b, .int v1_c, .int v1_d, .int v1_e, .int v1_f]))] → va_S A s.heap H locs → W p l e (headSpec w_X9_fitsBehind rm_X9_fitsBehind).room s m ([.ref h0, .ref h1] : List Value).toArray below meth c H locs 0 0 (MQ below (QMz res (dC, dI) [(cI, .int), (cZ, .boolean), (cO, .object "ListPainter$Settings")] A [(h0, .inr (8, [.int v0_a, .int v0_b, .int v0_c, .int v0_d, .int v0_e, .int v0_f])), (h1, .inr (8, [.int v1_a, .int v1_b, .int v1_c, .int v1_d, .int v1_e, .int v1_f]))]) ([.ref h0, .ref h1] : List Value).toArray s 0 0 A) (F0 m 0 ls []) from hgo _ _ hP hD hS
  intro H locs hP hD hS
  refine lv_aload_n hx hb dX9_fitsBehind_0 rfl (lv_at hl 0 rfl) ?_
  refine va_get (D := (dC, dI)) (ci := 8) (v := .int v0_a) (C := RX9) (T := TX9) (N := 6) hx hb hu inX9 hown hK hP 0 rfl rfl 0 (by decide) (hu _ kw_24) (fun _ h9 => h9) rfl dX9_fitsBehind_1 ?_
  refine lv_bipush (v := 16) hx hb dX9_fitsBehind_4 (by decide) ?_
  refine lv_ishr hx hb dX9_fitsBehind_6 ?_
  refine lv_i2l (v := ((((v0_a : Int32) >>> (16 &&& 31)) : Int32).toInt64)) hx hb dX9_fitsBehind_7 rfl ?_
  refine lv_topl (fun x_1 ex_1 => ?_)
  have hM := nm_u ex_1 hM
  refine lv_lstore_n (lv' := [(2, .long x_1), (0, .ref h0), (1, .ref h1)]) hx hb dX9_fitsBehind_8 rfl hl (by decide) rfl (fun ls hl => ?_)
  refine lv_aload_n hx hb dX9_fitsBehind_9 rfl (lv_at hl 1 rfl) ?_
  refine va_get (D := (dC, dI)) (ci := 8) (v := .int v0_b) (C := RX9) (T := TX9) (N := 6) hx hb hu inX9 hown hK hP 0 rfl rfl 1 (by decide) (hu _ kw_25) (fun _ h9 => h9) rfl dX9_fitsBehind_10 ?_
  refine lv_bipush (v := 16) hx hb dX9_fitsBehind_13 (by decide) ?_
  refine lv_ishr hx hb dX9_fitsBehind_15 ?_
  refine lv_i2l (v := ((((v0_b : Int32) >>> (16 &&& 31)) : Int32).toInt64)) hx hb dX9_fitsBehind_16 rfl ?_
  refine lv_topl (fun x_2 ex_2 => ?_)
  have hM := nm_u ex_2 hM
  refine lv_lstore (lv' := [(4, .long x_2), (2, .long x_1), (0, .ref h0), (1, .ref h1)]) hx hb dX9_fitsBehind_17 hl (by decide) rfl (fun ls hl => ?_)
  refine lv_aload_n hx hb dX9_fitsBehind_19 rfl (lv_at hl 2 rfl) ?_
  refine va_get (D := (dC, dI)) (ci := 8) (v := .int v0_c) (C := RX9) (T := TX9) (N := 6) hx hb hu inX9 hown hK hP 0 rfl rfl 2 (by decide) (hu _ kw_26) (fun _ h9 => h9) rfl dX9_fitsBehind_20 ?_
  refine lv_bipush (v := 16) hx hb dX9_fitsBehind_23 (by decide) ?_
  refine lv_ishr hx hb dX9_fitsBehind_25 ?_
  refine lv_i2l (v := ((((v0_c : Int32) >>> (16 &&& 31)) : Int32).toInt64)) hx hb dX9_fitsBehind_26 rfl ?_
  refine lv_topl (fun x_3 ex_3 => ?_)
  have hM := nm_u ex_3 hM
  refine lv_lstore (lv' := [(6, .long x_3), (4, .long x_2), (2, .long x_1), (0, .ref h0), (1, .ref h1)]) hx hb dX9_fitsBehind_27 hl (by decide) rfl (fun ls hl => ?_)
  refine lv_aload_n hx hb dX9_fitsBehind_29 rfl (lv_at hl 3 rfl) ?_
  refine va_get (D := (dC, dI)) (ci := 8) (v := .int v0_d) (C := RX9) (T := TX9) (N := 6) hx hb hu inX9 hown hK hP 0 rfl rfl 3 (by decide) (hu _ kw_27) (fun _ h9 => h9) rfl dX9_fitsBehind_30 ?_
  refine lv_bipush (v := 16) hx hb dX9_fitsBehind_33 (by decide) ?_
  refine lv_ishr hx hb dX9_fitsBehind_35 ?_
  refine lv_i2l (v := ((((v0_d : Int32) >>> (16 &&& 31)) : Int32).toInt64)) hx hb dX9_fitsBehind_36 rfl ?_
  refine lv_topl (fun x_4 ex_4 => ?_)
  have hM := nm_u ex_4 hM
  refine lv_lstore (lv' := [(8, .long x_4), (6, .long x_3), (4, .long x_2), (2, .long x_1), (0, .ref h0), (1, .ref h1)]) hx hb dX9_fitsBehind_37 hl (by decide) rfl (fun ls hl => ?_)
  refine lv_lload_n hx hb dX9_fitsBehind_39 rfl (lv_at hl 3 rfl) ?_
  refine lv_aload_n hx hb dX9_fitsBehind_40 rfl (lv_at hl 5 rfl) ?_
  refine va_get (D := (dC, dI)) (ci := 8) (v := .int v1_a) (C := RX9) (T := TX9) (N := 6) hx hb hu inX9 hown hK hP 1 rfl rfl 0 (by decide) (hu _ kw_24) (fun _ h9 => h9) rfl dX9_fitsBehind_41 ?_
  refine lv_i2l (v := ((v1_a : Int32).toInt64)) hx hb dX9_fitsBehind_44 rfl ?_
  refine lv_lmul hx hb dX9_fitsBehind_45 ?_
  refine lv_lload hx hb dX9_fitsBehind_46 (lv_at hl 1 rfl) ?_
  refine lv_aload_n hx hb dX9_fitsBehind_48 rfl (lv_at hl 5 rfl) ?_
  refine va_get (D := (dC, dI)) (ci := 8) (v := .int v1_b) (C := RX9) (T := TX9) (N := 6) hx hb hu inX9 hown hK hP 1 rfl rfl 1 (by decide) (hu _ kw_25) (fun _ h9 => h9) rfl dX9_fitsBehind_49 ?_
  refine lv_i2l (v := ((v1_b : Int32).toInt64)) hx hb dX9_fitsBehind_52 rfl ?_
  refine lv_lmul hx hb dX9_fitsBehind_53 ?_
  refine lv_ladd hx hb dX9_fitsBehind_54 ?_
  obtain ⟨r_5, hm_6, hM⟩ := bd1_u hM
  refine cSz (r := r_5) (As := [.long ((x_1 * ((v1_a : Int32).toInt64)) + (x_3 * ((v1_b : Int32).toInt64)))]) (rest := []) ⟨hx, hb, hml, hown, hu⟩ (c_X9_fits l dC dI cI cZ cO tL H.size ((x_1 * ((v1_a : Int32).toInt64)) + (x_3 * ((v1_b : Int32).toInt64))) r_5 hm_6) (va_cwS 1 hu (gS kw_45 kw_46 kw_39 kw_47) rfl rfl rfl (by decide +kernel) ⟨Nat.le_of_ble_eq_true rfl, Nat.le_of_ble_eq_true rfl⟩) hP hD hS hA hK hG [] (by decide) rfl [none, none] 0 rfl (by decide +kernel) rfl rfl hl.1 rfl (Nat.le_of_ble_eq_true rfl) dX9_fitsBehind_55 (Nat.zero_le _) (Nat.zero_le _) (fun H locs hz_r_5 hP hD hS => ?_)
  have hP : va_P (dC, dI) vwCl [(h0, .inr (8, [.int v0_a, .int v0_b, .int v0_c, .int v0_d, .int v0_e, .int v0_f])), (h1, .inr (8, [.int v1_a, .int v1_b, .int v1_c, .int v1_d, .int v1_e, .int v1_f]))] H := hP
  have hD : va_D A [(h0, .inr (8, [.int v0_a, .int v0_b, .int v0_c, .int v0_d, .int v0_e, .int v0_f])), (h1, .inr (8, [.int v1_a, .int v1_b, .int v1_c, .int v1_d, .int v1_e, .int v1_f]))] := hD
  refine lv_if_eq (tgt := 190) hx hb dX9_fitsBehind_58 (by decide) (fun c_7 => ?_) (fun c_7 => ?_)
  · have hM := if_t c_7 hM
    refine lv_iconst (v := 0) hx hb dX9_fitsBehind_190 (by decide) ?_
    have h9 := Option.some.inj hM
    subst h9
    exact W.zret (v := 0) hx hb hr (zb_n (Or.inl rfl)) (fun t ht hW => QMz_mk (Or.inl rfl) (by rw [ht]; exact hP) (va_K.moved hW.alike hK) hD (hS.F ht)) hS.2.2 dX9_fitsBehind_191
  · have hM := if_f c_7 hM
    refine lv_lload hx hb dX9_fitsBehind_61 (lv_at hl 2 rfl) ?_
    refine lv_aload_n hx hb dX9_fitsBehind_63 rfl (lv_at hl 5 rfl) ?_
    refine va_get (D := (dC, dI)) (ci := 8) (v := .int v1_a) (C := RX9) (T := TX9) (N := 6) hx hb hu inX9 hown hK hP 1 rfl rfl 0 (by decide) (hu _ kw_24) (fun _ h9 => h9) rfl dX9_fitsBehind_64 ?_
    refine lv_i2l (v := ((v1_a : Int32).toInt64)) hx hb dX9_fitsBehind_67 rfl ?_
    refine lv_lmul hx hb dX9_fitsBehind_68 ?_
    refine lv_lload hx hb dX9_fitsBehind_69 (lv_at hl 0 rfl) ?_
    refine lv_aload_n hx hb dX9_fitsBehind_71 rfl (lv_at hl 5 rfl) ?_
    refine va_get (D := (dC, dI)) (ci := 8) (v := .int v1_b) (C := RX9) (T := TX9) (N := 6) hx hb hu inX9 hown hK hP 1 rfl rfl 1 (by decide) (hu _ kw_25) (fun _ h9 => h9) rfl dX9_fitsBehind_72 ?_
    refine lv_i2l (v := ((v1_b : Int32).toInt64)) hx hb dX9_fitsBehind_75 rfl ?_
    refine lv_lmul hx hb dX9_fitsBehind_76 ?_
    refine lv_ladd hx hb dX9_fitsBehind_77 ?_
    obtain ⟨r_8, hm_9, hM⟩ := bd1_u hM
    refine cSz (r := r_8) (As := [.long ((x_2 * ((v1_a : Int32).toInt64)) + (x_4 * ((v1_b : Int32).toInt64)))]) (rest := []) ⟨hx, hb, hml, hown, hu⟩ (c_X9_fits l dC dI cI cZ cO tL H.size ((x_2 * ((v1_a : Int32).toInt64)) + (x_4 * ((v1_b : Int32).toInt64))) r_8 hm_9) (va_cwS 1 hu (gS kw_45 kw_46 kw_39 kw_47) rfl rfl rfl (by decide +kernel) ⟨Nat.le_of_ble_eq_true rfl, Nat.le_of_ble_eq_true rfl⟩) hP hD hS hA hK hG [] (by decide) rfl [none, none] 0 rfl (by decide +kernel) rfl rfl hl.1 rfl (Nat.le_of_ble_eq_true rfl) dX9_fitsBehind_78 (Nat.zero_le _) (Nat.zero_le _) (fun H locs hz_r_8 hP hD hS => ?_)
    have hP : va_P (dC, dI) vwCl [(h0, .inr (8, [.int v0_a, .int v0_b, .int v0_c, .int v0_d, .int v0_e, .int v0_f])), (h1, .inr (8, [.int v1_a, .int v1_b, .int v1_c, .int v1_d, .int v1_e, .int v1_f]))] H := hP
    have hD : va_D A [(h0, .inr (8, [.int v0_a, .int v0_b, .int v0_c, .int v0_d, .int v0_e, .int v0_f])), (h1, .inr (8, [.int v1_a, .int v1_b, .int v1_c, .int v1_d, .int v1_e, .int v1_f]))] := hD
    refine lv_if_eq (tgt := 190) hx hb dX9_fitsBehind_81 (by decide) (fun c_10 => ?_) (fun c_10 => ?_)
    · have hM := if_t c_10 hM
      refine lv_iconst (v := 0) hx hb dX9_fitsBehind_190 (by decide) ?_
      have h9 := Option.some.inj hM
      subst h9
      exact W.zret (v := 0) hx hb hr (zb_n (Or.inl rfl)) (fun t ht hW => QMz_mk (Or.inl rfl) (by rw [ht]; exact hP) (va_K.moved hW.alike hK) hD (hS.F ht)) hS.2.2 dX9_fitsBehind_191
    · have hM := if_f c_10 hM
      refine lv_lload_n hx hb dX9_fitsBehind_84 rfl (lv_at hl 3 rfl) ?_
      refine lv_aload_n hx hb dX9_fitsBehind_85 rfl (lv_at hl 5 rfl) ?_
      refine va_get (D := (dC, dI)) (ci := 8) (v := .int v1_c) (C := RX9) (T := TX9) (N := 6) hx hb hu inX9 hown hK hP 1 rfl rfl 2 (by decide) (hu _ kw_26) (fun _ h9 => h9) rfl dX9_fitsBehind_86 ?_
      refine lv_i2l (v := ((v1_c : Int32).toInt64)) hx hb dX9_fitsBehind_89 rfl ?_
      refine lv_lmul hx hb dX9_fitsBehind_90 ?_
      refine lv_lload hx hb dX9_fitsBehind_91 (lv_at hl 1 rfl) ?_
      refine lv_aload_n hx hb dX9_fitsBehind_93 rfl (lv_at hl 5 rfl) ?_
      refine va_get (D := (dC, dI)) (ci := 8) (v := .int v1_d) (C := RX9) (T := TX9) (N := 6) hx hb hu inX9 hown hK hP 1 rfl rfl 3 (by decide) (hu _ kw_27) (fun _ h9 => h9) rfl dX9_fitsBehind_94 ?_
      refine lv_i2l (v := ((v1_d : Int32).toInt64)) hx hb dX9_fitsBehind_97 rfl ?_
      refine lv_lmul hx hb dX9_fitsBehind_98 ?_
      refine lv_ladd hx hb dX9_fitsBehind_99 ?_
      obtain ⟨r_11, hm_12, hM⟩ := bd1_u hM
      refine cSz (r := r_11) (As := [.long ((x_1 * ((v1_c : Int32).toInt64)) + (x_3 * ((v1_d : Int32).toInt64)))]) (rest := []) ⟨hx, hb, hml, hown, hu⟩ (c_X9_fits l dC dI cI cZ cO tL H.size ((x_1 * ((v1_c : Int32).toInt64)) + (x_3 * ((v1_d : Int32).toInt64))) r_11 hm_12) (va_cwS 1 hu (gS kw_45 kw_46 kw_39 kw_47) rfl rfl rfl (by decide +kernel) ⟨Nat.le_of_ble_eq_true rfl, Nat.le_of_ble_eq_true rfl⟩) hP hD hS hA hK hG [] (by decide) rfl [none, none] 0 rfl (by decide +kernel) rfl rfl hl.1 rfl (Nat.le_of_ble_eq_true rfl) dX9_fitsBehind_100 (Nat.zero_le _) (Nat.zero_le _) (fun H locs hz_r_11 hP hD hS => ?_)
      have hP : va_P (dC, dI) vwCl [(h0, .inr (8, [.int v0_a, .int v0_b, .int v0_c, .int v0_d, .int v0_e, .int v0_f])), (h1, .inr (8, [.int v1_a, .int v1_b, .int v1_c, .int v1_d, .int v1_e, .int v1_f]))] H := hP
      have hD : va_D A [(h0, .inr (8, [.int v0_a, .int v0_b, .int v0_c, .int v0_d, .int v0_e, .int v0_f])), (h1, .inr (8, [.int v1_a, .int v1_b, .int v1_c, .int v1_d, .int v1_e, .int v1_f]))] := hD
      refine lv_if_eq (tgt := 190) hx hb dX9_fitsBehind_103 (by decide) (fun c_13 => ?_) (fun c_13 => ?_)
      · have hM := if_t c_13 hM
        refine lv_iconst (v := 0) hx hb dX9_fitsBehind_190 (by decide) ?_
        have h9 := Option.some.inj hM
        subst h9
        exact W.zret (v := 0) hx hb hr (zb_n (Or.inl rfl)) (fun t ht hW => QMz_mk (Or.inl rfl) (by rw [ht]; exact hP) (va_K.moved hW.alike hK) hD (hS.F ht)) hS.2.2 dX9_fitsBehind_191
      · have hM := if_f c_13 hM
        refine lv_lload hx hb dX9_fitsBehind_106 (lv_at hl 2 rfl) ?_
        refine lv_aload_n hx hb dX9_fitsBehind_108 rfl (lv_at hl 5 rfl) ?_
        refine va_get (D := (dC, dI)) (ci := 8) (v := .int v1_c) (C := RX9) (T := TX9) (N := 6) hx hb hu inX9 hown hK hP 1 rfl rfl 2 (by decide) (hu _ kw_26) (fun _ h9 => h9) rfl dX9_fitsBehind_109 ?_
        refine lv_i2l (v := ((v1_c : Int32).toInt64)) hx hb dX9_fitsBehind_112 rfl ?_
        refine lv_lmul hx hb dX9_fitsBehind_113 ?_
        refine lv_lload hx hb dX9_fitsBehind_114 (lv_at hl 0 rfl) ?_
        refine lv_aload_n hx hb dX9_fitsBehind_116 rfl (lv_at hl 5 rfl) ?_
        refine va_get (D := (dC, dI)) (ci := 8) (v := .int v1_d) (C := RX9) (T := TX9) (N := 6) hx hb hu inX9 hown hK hP 1 rfl rfl 3 (by decide) (hu _ kw_27) (fun _ h9 => h9) rfl dX9_fitsBehind_117 ?_
        refine lv_i2l (v := ((v1_d : Int32).toInt64)) hx hb dX9_fitsBehind_120 rfl ?_
        refine lv_lmul hx hb dX9_fitsBehind_121 ?_
        refine lv_ladd hx hb dX9_fitsBehind_122 ?_
        obtain ⟨r_14, hm_15, hM⟩ := bd1_u hM
        refine cSz (r := r_14) (As := [.long ((x_2 * ((v1_c : Int32).toInt64)) + (x_4 * ((v1_d : Int32).toInt64)))]) (rest := []) ⟨hx, hb, hml, hown, hu⟩ (c_X9_fits l dC dI cI cZ cO tL H.size ((x_2 * ((v1_c : Int32).toInt64)) + (x_4 * ((v1_d : Int32).toInt64))) r_14 hm_15) (va_cwS 1 hu (gS kw_45 kw_46 kw_39 kw_47) rfl rfl rfl (by decide +kernel) ⟨Nat.le_of_ble_eq_true rfl, Nat.le_of_ble_eq_true rfl⟩) hP hD hS hA hK hG [] (by decide) rfl [none, none] 0 rfl (by decide +kernel) rfl rfl hl.1 rfl (Nat.le_of_ble_eq_true rfl) dX9_fitsBehind_123 (Nat.zero_le _) (Nat.zero_le _) (fun H locs hz_r_14 hP hD hS => ?_)
        have hP : va_P (dC, dI) vwCl [(h0, .inr (8, [.int v0_a, .int v0_b, .int v0_c, .int v0_d, .int v0_e, .int v0_f])), (h1, .inr (8, [.int v1_a, .int v1_b, .int v1_c, .int v1_d, .int v1_e, .int v1_f]))] H := hP
        have hD : va_D A [(h0, .inr (8, [.int v0_a, .int v0_b, .int v0_c, .int v0_d, .int v0_e, .int v0_f])), (h1, .inr (8, [.int v1_a, .int v1_b, .int v1_c, .int v1_d, .int v1_e, .int v1_f]))] := hD
        refine lv_if_eq (tgt := 190) hx hb dX9_fitsBehind_126 (by decide) (fun c_16 => ?_) (fun c_16 => ?_)
        · have hM := if_t c_16 hM
          refine lv_iconst (v := 0) hx hb dX9_fitsBehind_190 (by decide) ?_
          have h9 := Option.some.inj hM
          subst h9
          exact W.zret (v := 0) hx hb hr (zb_n (Or.inl rfl)) (fun t ht hW => QMz_mk (Or.inl rfl) (by rw [ht]; exact hP) (va_K.moved hW.alike hK) hD (hS.F ht)) hS.2.2 dX9_fitsBehind_191
        · have hM := if_f c_16 hM
          refine lv_lload_n hx hb dX9_fitsBehind_129 rfl (lv_at hl 3 rfl) ?_
          refine lv_aload_n hx hb dX9_fitsBehind_130 rfl (lv_at hl 5 rfl) ?_
          refine va_get (D := (dC, dI)) (ci := 8) (v := .int v1_e) (C := RX9) (T := TX9) (N := 6) hx hb hu inX9 hown hK hP 1 rfl rfl 4 (by decide) (hu _ kw_28) (fun _ h9 => h9) rfl dX9_fitsBehind_131 ?_
          refine lv_i2l (v := ((v1_e : Int32).toInt64)) hx hb dX9_fitsBehind_134 rfl ?_
          refine lv_lmul hx hb dX9_fitsBehind_135 ?_
          refine lv_lload hx hb dX9_fitsBehind_136 (lv_at hl 1 rfl) ?_
          refine lv_aload_n hx hb dX9_fitsBehind_138 rfl (lv_at hl 5 rfl) ?_
          refine va_get (D := (dC, dI)) (ci := 8) (v := .int v1_f) (C := RX9) (T := TX9) (N := 6) hx hb hu inX9 hown hK hP 1 rfl rfl 5 (by decide) (hu _ kw_29) (fun _ h9 => h9) rfl dX9_fitsBehind_139 ?_
          refine lv_i2l (v := ((v1_f : Int32).toInt64)) hx hb dX9_fitsBehind_142 rfl ?_
          refine lv_lmul hx hb dX9_fitsBehind_143 ?_
          refine lv_ladd hx hb dX9_fitsBehind_144 ?_
          refine lv_aload_n hx hb dX9_fitsBehind_145 rfl (lv_at hl 4 rfl) ?_
          refine va_get (D := (dC, dI)) (ci := 8) (v := .int v0_e) (C := RX9) (T := TX9) (N := 6) hx hb hu inX9 hown hK hP 0 rfl rfl 4 (by decide) (hu _ kw_28) (fun _ h9 => h9) rfl dX9_fitsBehind_146 ?_
          refine lv_i2l (v := ((v0_e : Int32).toInt64)) hx hb dX9_fitsBehind_149 rfl ?_
          refine lv_ladd hx hb dX9_fitsBehind_150 ?_
          obtain ⟨r_17, hm_18, hM⟩ := bd1_u hM
          refine cSz (r := r_17) (As := [.long (((x_1 * ((v1_e : Int32).toInt64)) + (x_3 * ((v1_f : Int32).toInt64))) + ((v0_e : Int32).toInt64))]) (rest := []) ⟨hx, hb, hml, hown, hu⟩ (c_X9_fits l dC dI cI cZ cO tL H.size (((x_1 * ((v1_e : Int32).toInt64)) + (x_3 * ((v1_f : Int32).toInt64))) + ((v0_e : Int32).toInt64)) r_17 hm_18) (va_cwS 1 hu (gS kw_45 kw_46 kw_39 kw_47) rfl rfl rfl (by decide +kernel) ⟨Nat.le_of_ble_eq_true rfl, Nat.le_of_ble_eq_true rfl⟩) hP hD hS hA hK hG [] (by decide) rfl [none, none] 0 rfl (by decide +kernel) rfl rfl hl.1 rfl (Nat.le_of_ble_eq_true rfl) dX9_fitsBehind_151 (Nat.zero_le _) (Nat.zero_le _) (fun H locs hz_r_17 hP hD hS => ?_)
          have hP : va_P (dC, dI) vwCl [(h0, .inr (8, [.int v0_a, .int v0_b, .int v0_c, .int v0_d, .int v0_e, .int v0_f])), (h1, .inr (8, [.int v1_a, .int v1_b, .int v1_c, .int v1_d, .int v1_e, .int v1_f]))] H := hP
          have hD : va_D A [(h0, .inr (8, [.int v0_a, .int v0_b, .int v0_c, .int v0_d, .int v0_e, .int v0_f])), (h1, .inr (8, [.int v1_a, .int v1_b, .int v1_c, .int v1_d, .int v1_e, .int v1_f]))] := hD
          refine lv_if_eq (tgt := 190) hx hb dX9_fitsBehind_154 (by decide) (fun c_19 => ?_) (fun c_19 => ?_)
          · have hM := if_t c_19 hM
            refine lv_iconst (v := 0) hx hb dX9_fitsBehind_190 (by decide) ?_
            have h9 := Option.some.inj hM
            subst h9
            exact W.zret (v := 0) hx hb hr (zb_n (Or.inl rfl)) (fun t ht hW => QMz_mk (Or.inl rfl) (by rw [ht]; exact hP) (va_K.moved hW.alike hK) hD (hS.F ht)) hS.2.2 dX9_fitsBehind_191
          · have hM := if_f c_19 hM
            refine lv_lload hx hb dX9_fitsBehind_157 (lv_at hl 2 rfl) ?_
            refine lv_aload_n hx hb dX9_fitsBehind_159 rfl (lv_at hl 5 rfl) ?_
            refine va_get (D := (dC, dI)) (ci := 8) (v := .int v1_e) (C := RX9) (T := TX9) (N := 6) hx hb hu inX9 hown hK hP 1 rfl rfl 4 (by decide) (hu _ kw_28) (fun _ h9 => h9) rfl dX9_fitsBehind_160 ?_
            refine lv_i2l (v := ((v1_e : Int32).toInt64)) hx hb dX9_fitsBehind_163 rfl ?_
            refine lv_lmul hx hb dX9_fitsBehind_164 ?_
            refine lv_lload hx hb dX9_fitsBehind_165 (lv_at hl 0 rfl) ?_
            refine lv_aload_n hx hb dX9_fitsBehind_167 rfl (lv_at hl 5 rfl) ?_
            refine va_get (D := (dC, dI)) (ci := 8) (v := .int v1_f) (C := RX9) (T := TX9) (N := 6) hx hb hu inX9 hown hK hP 1 rfl rfl 5 (by decide) (hu _ kw_29) (fun _ h9 => h9) rfl dX9_fitsBehind_168 ?_
            refine lv_i2l (v := ((v1_f : Int32).toInt64)) hx hb dX9_fitsBehind_171 rfl ?_
            refine lv_lmul hx hb dX9_fitsBehind_172 ?_
            refine lv_ladd hx hb dX9_fitsBehind_173 ?_
            refine lv_aload_n hx hb dX9_fitsBehind_174 rfl (lv_at hl 4 rfl) ?_
            refine va_get (D := (dC, dI)) (ci := 8) (v := .int v0_f) (C := RX9) (T := TX9) (N := 6) hx hb hu inX9 hown hK hP 0 rfl rfl 5 (by decide) (hu _ kw_29) (fun _ h9 => h9) rfl dX9_fitsBehind_175 ?_
            refine lv_i2l (v := ((v0_f : Int32).toInt64)) hx hb dX9_fitsBehind_178 rfl ?_
            refine lv_ladd hx hb dX9_fitsBehind_179 ?_
            obtain ⟨r_20, hm_21, hM⟩ := bd1_u hM
            refine cSz (r := r_20) (As := [.long (((x_2 * ((v1_e : Int32).toInt64)) + (x_4 * ((v1_f : Int32).toInt64))) + ((v0_f : Int32).toInt64))]) (rest := []) ⟨hx, hb, hml, hown, hu⟩ (c_X9_fits l dC dI cI cZ cO tL H.size (((x_2 * ((v1_e : Int32).toInt64)) + (x_4 * ((v1_f : Int32).toInt64))) + ((v0_f : Int32).toInt64)) r_20 hm_21) (va_cwS 1 hu (gS kw_45 kw_46 kw_39 kw_47) rfl rfl rfl (by decide +kernel) ⟨Nat.le_of_ble_eq_true rfl, Nat.le_of_ble_eq_true rfl⟩) hP hD hS hA hK hG [] (by decide) rfl [none, none] 0 rfl (by decide +kernel) rfl rfl hl.1 rfl (Nat.le_of_ble_eq_true rfl) dX9_fitsBehind_180 (Nat.zero_le _) (Nat.zero_le _) (fun H locs hz_r_20 hP hD hS => ?_)
            have hP : va_P (dC, dI) vwCl [(h0, .inr (8, [.int v0_a, .int v0_b, .int v0_c, .int v0_d, .int v0_e, .int v0_f])), (h1, .inr (8, [.int v1_a, .int v1_b, .int v1_c, .int v1_d, .int v1_e, .int v1_f]))] H := hP
            have hD : va_D A [(h0, .inr (8, [.int v0_a, .int v0_b, .int v0_c, .int v0_d, .int v0_e, .int v0_f])), (h1, .inr (8, [.int v1_a, .int v1_b, .int v1_c, .int v1_d, .int v1_e, .int v1_f]))] := hD
            refine lv_if_eq (tgt := 190) hx hb dX9_fitsBehind_183 (by decide) (fun c_22 => ?_) (fun c_22 => ?_)
            · have hM := if_t c_22 hM
              refine lv_iconst (v := 0) hx hb dX9_fitsBehind_190 (by decide) ?_
              have h9 := Option.some.inj hM
              subst h9
              exact W.zret (v := 0) hx hb hr (zb_n (Or.inl rfl)) (fun t ht hW => QMz_mk (Or.inl rfl) (by rw [ht]; exact hP) (va_K.moved hW.alike hK) hD (hS.F ht)) hS.2.2 dX9_fitsBehind_191
            · have hM := if_f c_22 hM
              refine lv_iconst (v := 1) hx hb dX9_fitsBehind_186 (by decide) ?_
              refine lv_goto (tgt := 191) hx hb dX9_fitsBehind_187 (by decide) ?_
              have h9 := Option.some.inj hM
              subst h9
              exact W.zret (v := 1) hx hb hr (zb_n (Or.inr rfl)) (fun t ht hW => QMz_mk (Or.inr rfl) (by rw [ht]; exact hP) (va_K.moved hW.alike hK) hD (hS.F ht)) hS.2.2 dX9_fitsBehind_191
