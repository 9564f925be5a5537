def m_X7_side (p0 : Int32) : Option (Int32) :=
  nm (if (p0 < 32 : Prop) then p0 else 32) (fun (x_1 : Int32) => nm (if (1 < x_1 : Prop) then x_1 else 1) (fun (x_2 : Int32) => some x_2))
theorem dX7_side_0 : decode cX7_side 0 = .ok (.iconst 1, 1) := by decide +kernel
theorem dX7_side_1 : decode cX7_side 1 = .ok (.bipush 32, 2) := by decide +kernel
theorem dX7_side_3 : decode cX7_side 3 = .ok (.iload_n 0, 1) := by decide +kernel
theorem dX7_side_4 : decode cX7_side 4 = .ok (.invokestatic 26, 3) := by decide +kernel
theorem dX7_side_7 : decode cX7_side 7 = .ok (.invokestatic 32, 3) := by decide +kernel
theorem dX7_side_10 : decode cX7_side 10 = .ok (.ireturn, 1) := by decide +kernel
abbrev rm_X7_side : Room := { frames := 1, cells := 0, slots := 0, locals := 21 }
def w_X7_side : List Cond := Cond.code yX7_side cX7_side 1 (some .int) :: uw
set_option maxHeartbeats 4000000 in
set_option maxRecDepth 100000 in
theorem c_X7_side (l : Launch) (dC : Nat → ClassId) (dI : Nat → Nat → Nat) (cI cZ cO : ClassId) (tL sz : Nat) (p0 : Int32) (res : Int32) (hM : m_X7_side p0 = some res) : Met l yX7_side w_X7_side rm_X7_side (PCx [.int p0] (dC, dI) [(cI, .int), (cZ, .boolean), (cO, .object "ListPainter$Settings")] sz tL []) (QMi res (dC, dI) [(cI, .int), (cZ, .boolean), (cO, .object "ListPainter$Settings")] (va_A [] sz) []) 0 0 (va_A [] sz) := by
  refine Met.ofW (cc := cX7_side) (maxL := 1) (ret := (some .int)) (by decide) rfl ?_
  intro p e s m args below meth c s₁ B hml hv
  obtain ⟨rfl, hsz, hP, hK, hD0, hG⟩ := hv
  have hx := B.exec
  have hb := B.bytes
  have hr := B.returns
  have hu : ∀ w ∈ uw, w.before ([.int p0] : List Value).toArray s = true := fun w h => atoms_spec (ws := w_X7_side) B.pre w (List.mem_cons_of_mem _ h)
  have hown : s.vm.findClass RX7 = some m.cls := findClass_of_methodNamed B.named
  have hlocks := B.notSynchronized
  subst hsz
  have hD := hD0.self (sz := s.heap.size)
  generalize hAe : va_A [] s.heap.size = A at hD hG ⊢
  have hA : ∀ q : Nat, s.heap.size ≤ q → A q := fun q h => by rw [← hAe]; exact Or.inr h
  have hS : va_S A s.heap s.heap [] := va_S.rf
  have hP : va_P (dC, dI) vwCl [] s.heap := hP
  have hl := lv_entry ([.int p0]) (n := 1) (Nat.le_of_ble_eq_true rfl)
  rw [lg_entry_eq]
  generalize (lg_sl ([.int p0]) ++ List.replicate (1 - (lg_sl ([.int p0])).length) Slot.unset).toArray = ls at hl ⊢
  have hl : lv_has ls 1 [(0, .int p0)] := hl
  rw [m_X7_side] at hM
  suffices hgo : ∀ (H : Heap) (locs : List Loc), va_P (dC, dI) vwCl [] H → va_D A [] → va_S A s.heap H locs → W p l e (headSpec w_X7_side rm_X7_side).room s m ([.int p0] : List Value).toArray below meth c H locs 0 0 (MQ below (QMi res (dC, dI) [(cI, .int), (cZ, .boolean), (cO, .object "ListPainter$Settings")] A []) ([.int p0] : List Value).toArray s 0 0 A) (F0 m 0 ls []) from hgo _ _ hP hD hS
  intro H locs hP hD hS
  refine lv_iconst (v := 1) hx hb dX7_side_0 (by decide) ?_
  refine lv_bipush (v := 32) hx hb dX7_side_1 (by decide) ?_
  refine lv_iload_n hx hb dX7_side_3 rfl (lv_at hl 0 rfl) ?_
  refine va_mmin hx hb (hml.trans hl.1.symm) hown (hu _ kw_778) (hu _ kw_63) (hu _ kw_60) (hu _ kw_64) (Nat.le_of_ble_eq_true rfl) (Nat.le_of_ble_eq_true rfl) (Nat.zero_le _) (Nat.zero_le _) dX7_side_4 ?_
  refine lv_topi (fun x_1 ex_1 => ?_)
  have hM := nm_u ex_1 hM
  refine va_mmax hx hb (hml.trans hl.1.symm) hown (hu _ kw_779) (hu _ kw_59) (hu _ kw_60) (hu _ kw_61) (Nat.le_of_ble_eq_true rfl) (Nat.le_of_ble_eq_true rfl) (Nat.zero_le _) (Nat.zero_le _) dX7_side_7 ?_
  refine lv_topi (fun x_2 ex_2 => ?_)
  have hM := nm_u ex_2 hM
  have h9 := Option.some.inj hM
  subst h9
  exact W.iret (v := x_2) hx hb hr (fun t ht hW => QMi_mk (by rw [ht]; exact hP) (va_K.moved hW.alike hK) hD (hS.F ht)) hS.2.2 dX7_side_10
