theorem dX12_part_0 : decode cX12_part 0 = .ok (.iload_n 0, 1) := by decide +kernel
theorem dX12_part_1 : decode cX12_part 1 = .ok (.bipush 127, 2) := by decide +kernel
theorem dX12_part_3 : decode cX12_part 3 = .ok (.iadd, 1) := by decide +kernel
theorem dX12_part_4 : decode cX12_part 4 = .ok (.sipush 255, 3) := by decide +kernel
theorem dX12_part_7 : decode cX12_part 7 = .ok (.idiv, 1) := by decide +kernel
theorem dX12_part_8 : decode cX12_part 8 = .ok (.ireturn, 1) := by decide +kernel
abbrev rm_X12_part : Room := { frames := 0, cells := 0, slots := 0, locals := 0 }
def w_X12_part : List Cond := Cond.code yX12_part cX12_part 1 (some .int) :: uw
set_option maxHeartbeats 4000000 in
set_option maxRecDepth 100000 in
theorem c_X12_part (l : Launch) (dC : Nat → ClassId) (dI : Nat → Nat → Nat) (cI cZ cO : ClassId) (tL sz : Nat) (p0 : Int32) (res : Int32) (hM : m_X12_part p0 = some res) : Met l yX12_part w_X12_part rm_X12_part (PCx [.int p0] (dC, dI) [(cI, .int), (cZ, .boolean), (cO, .object "ListPainter$Settings")] sz tL []) (QMi res (dC, dI) [(cI, .int), (cZ, .boolean), (cO, .object "ListPainter$Settings")] (va_A [] sz) []) 0 0 (va_A [] sz) := by
  refine Met.ofW (cc := cX12_part) (maxL := 1) (ret := (some .int)) (by decide) rfl ?_
  intro p e s m args below meth c s₁ B hml hv
  obtain ⟨rfl, hsz, hP, hK, hD0, hG⟩ := hv
  have hx := B.exec
  have hb := B.bytes
  have hr := B.returns
  have hu : ∀ w ∈ uw, w.before ([.int p0] : List Value).toArray s = true := fun w h => atoms_spec (ws := w_X12_part) B.pre w (List.mem_cons_of_mem _ h)
  have hown : s.vm.findClass RX12 = some m.cls := findClass_of_methodNamed B.named
  have hlocks := B.notSynchronized
  subst hsz
  have hD := hD0.self (sz := s.heap.size)
  generalize hAe : va_A [] s.heap.size = A at hD hG ⊢
  have hA : ∀ q : Nat, s.heap.size ≤ q → A q := fun q h => by rw [← hAe]; exact Or.inr h
  have hS : va_S A s.heap s.heap [] := va_S.rf
  have hP : va_P (dC, dI) vwCl [] s.heap := hP
  have hl := lv_entry ([.int p0]) (n := 1) (Nat.le_of_ble_eq_true rfl)
  rw [lg_entry_eq]
  generalize (lg_sl ([.int p0]) ++ List.replicate (1 - (lg_sl ([.int p0])).length) Slot.unset).toArray = ls at hl ⊢
  have hl : lv_has ls 1 [(0, .int p0)] := hl
  rw [m_X12_part] at hM
  suffices hgo : ∀ (H : Heap) (locs : List Loc), va_P (dC, dI) vwCl [] H → va_D A [] → va_S A s.heap H locs → W p l e (headSpec w_X12_part rm_X12_part).room s m ([.int p0] : List Value).toArray below meth c H locs 0 0 (MQ below (QMi res (dC, dI) [(cI, .int), (cZ, .boolean), (cO, .object "ListPainter$Settings")] A []) ([.int p0] : List Value).toArray s 0 0 A) (F0 m 0 ls []) from hgo _ _ hP hD hS
  intro H locs hP hD hS
  refine lv_iload_n hx hb dX12_part_0 rfl (lv_at hl 0 rfl) ?_
  refine lv_bipush (v := 127) hx hb dX12_part_1 (by decide) ?_
  refine lv_iadd hx hb dX12_part_3 ?_
  refine lv_sipush (v := 255) hx hb dX12_part_4 (by decide) ?_
  refine lv_idiv hx hb dX12_part_7 (by decide) ?_
  have h9 := Option.some.inj hM
  subst h9
  exact W.iret (v := ((p0 + 127) / 255)) hx hb hr (fun t ht hW => QMi_mk (by rw [ht]; exact hP) (va_K.moved hW.alike hK) hD (hS.F ht)) hS.2.2 dX12_part_8
theorem dX12_laid_0 : decode cX12_laid 0 = .ok (.iload_n 3, 1) := by decide +kernel
theorem dX12_laid_1 : decode cX12_laid 1 = .ok (.iconst 3, 1) := by decide +kernel
theorem dX12_laid_2 : decode cX12_laid 2 = .ok (.if_icmp .ne 30, 3) := by decide +kernel
theorem dX12_laid_5 : decode cX12_laid 5 = .ok (.iload_n 1, 1) := by decide +kernel
theorem dX12_laid_6 : decode cX12_laid 6 = .ok (.iload_n 0, 1) := by decide +kernel
theorem dX12_laid_7 : decode cX12_laid 7 = .ok (.iload_n 2, 1) := by decide +kernel
theorem dX12_laid_8 : decode cX12_laid 8 = .ok (.imul, 1) := by decide +kernel
theorem dX12_laid_9 : decode cX12_laid 9 = .ok (.invokestatic 184, 3) := by decide +kernel
theorem dX12_laid_12 : decode cX12_laid 12 = .ok (.iadd, 1) := by decide +kernel
theorem dX12_laid_13 : decode cX12_laid 13 = .ok (.istore 4, 2) := by decide +kernel
theorem dX12_laid_15 : decode cX12_laid 15 = .ok (.iload 4, 2) := by decide +kernel
theorem dX12_laid_17 : decode cX12_laid 17 = .ok (.sipush 255, 3) := by decide +kernel
theorem dX12_laid_20 : decode cX12_laid 20 = .ok (.if_icmp .le 9, 3) := by decide +kernel
theorem dX12_laid_23 : decode cX12_laid 23 = .ok (.sipush 255, 3) := by decide +kernel
theorem dX12_laid_26 : decode cX12_laid 26 = .ok (.goto 5, 3) := by decide +kernel
theorem dX12_laid_29 : decode cX12_laid 29 = .ok (.iload 4, 2) := by decide +kernel
theorem dX12_laid_31 : decode cX12_laid 31 = .ok (.ireturn, 1) := by decide +kernel
theorem dX12_laid_32 : decode cX12_laid 32 = .ok (.iload_n 3, 1) := by decide +kernel
theorem dX12_laid_33 : decode cX12_laid 33 = .ok (.iconst 2, 1) := by decide +kernel
theorem dX12_laid_34 : decode cX12_laid 34 = .ok (.if_icmp .ne 12, 3) := by decide +kernel
theorem dX12_laid_37 : decode cX12_laid 37 = .ok (.iload_n 0, 1) := by decide +kernel
theorem dX12_laid_38 : decode cX12_laid 38 = .ok (.iload_n 1, 1) := by decide +kernel
theorem dX12_laid_39 : decode cX12_laid 39 = .ok (.imul, 1) := by decide +kernel
theorem dX12_laid_40 : decode cX12_laid 40 = .ok (.invokestatic 184, 3) := by decide +kernel
theorem dX12_laid_43 : decode cX12_laid 43 = .ok (.goto 26, 3) := by decide +kernel
theorem dX12_laid_46 : decode cX12_laid 46 = .ok (.iload_n 3, 1) := by decide +kernel
theorem dX12_laid_47 : decode cX12_laid 47 = .ok (.iconst 4, 1) := by decide +kernel
theorem dX12_laid_48 : decode cX12_laid 48 = .ok (.if_icmp .ne 20, 3) := by decide +kernel
theorem dX12_laid_51 : decode cX12_laid 51 = .ok (.iload_n 0, 1) := by decide +kernel
theorem dX12_laid_52 : decode cX12_laid 52 = .ok (.iload_n 1, 1) := by decide +kernel
theorem dX12_laid_53 : decode cX12_laid 53 = .ok (.if_icmp .le 9, 3) := by decide +kernel
theorem dX12_laid_56 : decode cX12_laid 56 = .ok (.iload_n 0, 1) := by decide +kernel
theorem dX12_laid_57 : decode cX12_laid 57 = .ok (.iload_n 1, 1) := by decide +kernel
theorem dX12_laid_58 : decode cX12_laid 58 = .ok (.isub, 1) := by decide +kernel
theorem dX12_laid_59 : decode cX12_laid 59 = .ok (.goto 10, 3) := by decide +kernel
theorem dX12_laid_62 : decode cX12_laid 62 = .ok (.iload_n 1, 1) := by decide +kernel
theorem dX12_laid_63 : decode cX12_laid 63 = .ok (.iload_n 0, 1) := by decide +kernel
theorem dX12_laid_64 : decode cX12_laid 64 = .ok (.isub, 1) := by decide +kernel
theorem dX12_laid_65 : decode cX12_laid 65 = .ok (.goto 4, 3) := by decide +kernel
theorem dX12_laid_68 : decode cX12_laid 68 = .ok (.iload_n 0, 1) := by decide +kernel
theorem dX12_laid_69 : decode cX12_laid 69 = .ok (.istore 4, 2) := by decide +kernel
theorem dX12_laid_71 : decode cX12_laid 71 = .ok (.iload 4, 2) := by decide +kernel
theorem dX12_laid_73 : decode cX12_laid 73 = .ok (.iload_n 2, 1) := by decide +kernel
theorem dX12_laid_74 : decode cX12_laid 74 = .ok (.imul, 1) := by decide +kernel
theorem dX12_laid_75 : decode cX12_laid 75 = .ok (.iload_n 1, 1) := by decide +kernel
theorem dX12_laid_76 : decode cX12_laid 76 = .ok (.sipush 255, 3) := by decide +kernel
theorem dX12_laid_79 : decode cX12_laid 79 = .ok (.iload_n 2, 1) := by decide +kernel
theorem dX12_laid_80 : decode cX12_laid 80 = .ok (.isub, 1) := by decide +kernel
theorem dX12_laid_81 : decode cX12_laid 81 = .ok (.imul, 1) := by decide +kernel
theorem dX12_laid_82 : decode cX12_laid 82 = .ok (.iadd, 1) := by decide +kernel
theorem dX12_laid_83 : decode cX12_laid 83 = .ok (.invokestatic 184, 3) := by decide +kernel
theorem dX12_laid_86 : decode cX12_laid 86 = .ok (.ireturn, 1) := by decide +kernel
abbrev rm_X12_laid : Room := { frames := 1, cells := 0, slots := 0, locals := 20 }
def w_X12_laid : List Cond := Cond.code yX12_laid cX12_laid 5 (some .int) :: uw
set_option maxHeartbeats 4000000 in
set_option maxRecDepth 100000 in
theorem c_X12_laid (l : Launch) (dC : Nat → ClassId) (dI : Nat → Nat → Nat) (cI cZ cO : ClassId) (tL sz : Nat) (p0 : Int32) (p1 : Int32) (p2 : Int32) (p3 : Int32) (res : Int32) (hM : m_X12_laid p0 p1 p2 p3 = some res) : Met l yX12_laid w_X12_laid rm_X12_laid (PCx [.int p0, .int p1, .int p2, .int p3] (dC, dI) [(cI, .int), (cZ, .boolean), (cO, .object "ListPainter$Settings")] sz tL []) (QMi res (dC, dI) [(cI, .int), (cZ, .boolean), (cO, .object "ListPainter$Settings")] (va_A [] sz) []) 0 0 (va_A [] sz) := by
  refine Met.ofW (cc := cX12_laid) (maxL := 5) (ret := (some .int)) (by decide) rfl ?_
  intro p e s m args below meth c s₁ B hml hv
  obtain ⟨rfl, hsz, hP, hK, hD0, hG⟩ := hv
  have hx := B.exec
  have hb := B.bytes
  have hr := B.returns
  have hu : ∀ w ∈ uw, w.before ([.int p0, .int p1, .int p2, .int p3] : List Value).toArray s = true := fun w h => atoms_spec (ws := w_X12_laid) B.pre w (List.mem_cons_of_mem _ h)
  have hown : s.vm.findClass RX12 = some m.cls := findClass_of_methodNamed B.named
  have hlocks := B.notSynchronized
  subst hsz
  have hD := hD0.self (sz := s.heap.size)
  generalize hAe : va_A [] s.heap.size = A at hD hG ⊢
  have hA : ∀ q : Nat, s.heap.size ≤ q → A q := fun q h => by rw [← hAe]; exact Or.inr h
  have hS : va_S A s.heap s.heap [] := va_S.rf
  have hP : va_P (dC, dI) vwCl [] s.heap := hP
  have hl := lv_entry ([.int p0, .int p1, .int p2, .int p3]) (n := 5) (Nat.le_of_ble_eq_true rfl)
  rw [lg_entry_eq]
  generalize (lg_sl ([.int p0, .int p1, .int p2, .int p3]) ++ List.replicate (5 - (lg_sl ([.int p0, .int p1, .int p2, .int p3])).length) Slot.unset).toArray = ls at hl ⊢
  have hl : lv_has ls 5 [(0, .int p0), (1, .int p1), (2, .int p2), (3, .int p3)] := hl
  rw [m_X12_laid] at hM
  suffices hgo : ∀ (H : Heap) (locs : List Loc), va_P (dC, dI) vwCl [] H → va_D A [] → va_S A s.heap H locs → W p l e (headSpec w_X12_laid rm_X12_laid).room s m ([.int p0, .int p1, .int p2, .int p3] : List Value).toArray below meth c H locs 0 0 (MQ below (QMi res (dC, dI) [(cI, .int), (cZ, .boolean), (cO, .object "ListPainter$Settings")] A []) ([.int p0, .int p1, .int p2, .int p3] : List Value).toArray s 0 0 A) (F0 m 0 ls []) from hgo _ _ hP hD hS
  intro H locs hP hD hS
  refine lv_iload_n hx hb dX12_laid_0 rfl (lv_at hl 3 rfl) ?_
  refine lv_iconst (v := 3) hx hb dX12_laid_1 (by decide) ?_
  refine lv_icmp_ne (tgt := 32) hx hb dX12_laid_2 (by decide) (fun c_1 => ?_) (fun c_1 => ?_)
  · have hM := if_f c_1 hM
    refine lv_iload_n hx hb dX12_laid_32 rfl (lv_at hl 3 rfl) ?_
    refine lv_iconst (v := 2) hx hb dX12_laid_33 (by decide) ?_
    obtain ⟨K69_3, eK69_3, hM⟩ := jn_u hM
    have hJ69_3 : ∀ (s0_2 : Int32) , ∀ (H : Heap) (locs : List Loc) (ls : Array Slot), va_P (dC, dI) vwCl [] H → va_D A [] → va_S A s.heap H locs → lv_has ls 5 [(1, .int p1), (2, .int p2)] → K69_3 s0_2 = some res → W p l e (headSpec w_X12_laid rm_X12_laid).room s m ([.int p0, .int p1, .int p2, .int p3] : List Value).toArray below meth c H locs 0 0 (MQ below (QMi res (dC, dI) [(cI, .int), (cZ, .boolean), (cO, .object "ListPainter$Settings")] A []) ([.int p0, .int p1, .int p2, .int p3] : List Value).toArray s 0 0 A) (F0 m 69 ls [.int s0_2]) := by
      intro s0_2 H locs ls hP hD hS hl hM
      have hM := ja1 eK69_3 hM
      refine lv_istore (lv' := [(4, .int s0_2), (1, .int p1), (2, .int p2)]) hx hb dX12_laid_69 hl (by decide) rfl (fun ls hl => ?_)
      refine lv_iload hx hb dX12_laid_71 (lv_at hl 0 rfl) ?_
      refine lv_iload_n hx hb dX12_laid_73 rfl (lv_at hl 2 rfl) ?_
      refine lv_imul hx hb dX12_laid_74 ?_
      refine lv_iload_n hx hb dX12_laid_75 rfl (lv_at hl 1 rfl) ?_
      refine lv_sipush (v := 255) hx hb dX12_laid_76 (by decide) ?_
      refine lv_iload_n hx hb dX12_laid_79 rfl (lv_at hl 2 rfl) ?_
      refine lv_isub hx hb dX12_laid_80 ?_
      refine lv_imul hx hb dX12_laid_81 ?_
      refine lv_iadd hx hb dX12_laid_82 ?_
      obtain ⟨r_4, hm_5, hM⟩ := bd1_u hM
      refine cSi (r := r_4) (As := [.int ((s0_2 * p2) + (p1 * (255 - p2)))]) (rest := []) ⟨hx, hb, hml, hown, hu⟩ (c_X12_part l dC dI cI cZ cO tL H.size ((s0_2 * p2) + (p1 * (255 - p2))) r_4 hm_5) (va_cwS 1 hu (gS kw_360 kw_361 kw_253 kw_362) rfl rfl rfl (by decide +kernel) ⟨Nat.le_of_ble_eq_true rfl, Nat.le_of_ble_eq_true rfl⟩) hP hD hS hA hK hG [] (by decide) rfl [] 0 rfl (by decide +kernel) rfl rfl hl.1 rfl (Nat.le_of_ble_eq_true rfl) dX12_laid_83 (Nat.zero_le _) (Nat.zero_le _) (fun H locs hP hD hS => ?_)
      have hP : va_P (dC, dI) vwCl [] H := hP
      have hD : va_D A [] := hD
      have h9 := Option.some.inj hM
      subst h9
      exact W.iret (v := r_4) hx hb hr (fun t ht hW => QMi_mk (by rw [ht]; exact hP) (va_K.moved hW.alike hK) hD (hS.F ht)) hS.2.2 dX12_laid_86
    refine lv_icmp_ne (tgt := 46) hx hb dX12_laid_34 (by decide) (fun c_6 => ?_) (fun c_6 => ?_)
    · have hM := if_f c_6 hM
      refine lv_iload_n hx hb dX12_laid_46 rfl (lv_at hl 3 rfl) ?_
      refine lv_iconst (v := 4) hx hb dX12_laid_47 (by decide) ?_
      refine lv_icmp_ne (tgt := 68) hx hb dX12_laid_48 (by decide) (fun c_7 => ?_) (fun c_7 => ?_)
      · have hM := if_f c_7 hM
        refine lv_iload_n hx hb dX12_laid_68 rfl (lv_at hl 0 rfl) ?_
        exact hJ69_3 p0 H locs ls hP hD hS (lv_sub hl [1, 2] rfl) hM
      · have hM := if_t c_7 hM
        refine lv_iload_n hx hb dX12_laid_51 rfl (lv_at hl 0 rfl) ?_
        refine lv_iload_n hx hb dX12_laid_52 rfl (lv_at hl 1 rfl) ?_
        refine lv_icmp_le (tgt := 62) hx hb dX12_laid_53 (by decide) (fun c_8 => ?_) (fun c_8 => ?_)
        · have hM := if_t c_8 hM
          refine lv_iload_n hx hb dX12_laid_62 rfl (lv_at hl 1 rfl) ?_
          refine lv_iload_n hx hb dX12_laid_63 rfl (lv_at hl 0 rfl) ?_
          refine lv_isub hx hb dX12_laid_64 ?_
          refine lv_goto (tgt := 69) hx hb dX12_laid_65 (by decide) ?_
          exact hJ69_3 (p1 - p0) H locs ls hP hD hS (lv_sub hl [1, 2] rfl) hM
        · have hM := if_f c_8 hM
          refine lv_iload_n hx hb dX12_laid_56 rfl (lv_at hl 0 rfl) ?_
          refine lv_iload_n hx hb dX12_laid_57 rfl (lv_at hl 1 rfl) ?_
          refine lv_isub hx hb dX12_laid_58 ?_
          refine lv_goto (tgt := 69) hx hb dX12_laid_59 (by decide) ?_
          exact hJ69_3 (p0 - p1) H locs ls hP hD hS (lv_sub hl [1, 2] rfl) hM
    · have hM := if_t c_6 hM
      refine lv_iload_n hx hb dX12_laid_37 rfl (lv_at hl 0 rfl) ?_
      refine lv_iload_n hx hb dX12_laid_38 rfl (lv_at hl 1 rfl) ?_
      refine lv_imul hx hb dX12_laid_39 ?_
      obtain ⟨r_9, hm_10, hM⟩ := bd1_u hM
      refine cSi (r := r_9) (As := [.int (p0 * p1)]) (rest := []) ⟨hx, hb, hml, hown, hu⟩ (c_X12_part l dC dI cI cZ cO tL H.size (p0 * p1) r_9 hm_10) (va_cwS 1 hu (gS kw_360 kw_361 kw_253 kw_362) rfl rfl rfl (by decide +kernel) ⟨Nat.le_of_ble_eq_true rfl, Nat.le_of_ble_eq_true rfl⟩) hP hD hS hA hK hG [] (by decide) rfl [] 0 rfl (by decide +kernel) rfl rfl hl.1 rfl (Nat.le_of_ble_eq_true rfl) dX12_laid_40 (Nat.zero_le _) (Nat.zero_le _) (fun H locs hP hD hS => ?_)
      have hP : va_P (dC, dI) vwCl [] H := hP
      have hD : va_D A [] := hD
      refine lv_goto (tgt := 69) hx hb dX12_laid_43 (by decide) ?_
      exact hJ69_3 r_9 H locs ls hP hD hS (lv_sub hl [1, 2] rfl) hM
  · have hM := if_t c_1 hM
    refine lv_iload_n hx hb dX12_laid_5 rfl (lv_at hl 1 rfl) ?_
    refine lv_iload_n hx hb dX12_laid_6 rfl (lv_at hl 0 rfl) ?_
    refine lv_iload_n hx hb dX12_laid_7 rfl (lv_at hl 2 rfl) ?_
    refine lv_imul hx hb dX12_laid_8 ?_
    obtain ⟨r_11, hm_12, hM⟩ := bd1_u hM
    refine cSi (r := r_11) (As := [.int (p0 * p2)]) (rest := [.int p1]) ⟨hx, hb, hml, hown, hu⟩ (c_X12_part l dC dI cI cZ cO tL H.size (p0 * p2) r_11 hm_12) (va_cwS 1 hu (gS kw_360 kw_361 kw_253 kw_362) rfl rfl rfl (by decide +kernel) ⟨Nat.le_of_ble_eq_true rfl, Nat.le_of_ble_eq_true rfl⟩) hP hD hS hA hK hG [] (by decide) rfl [] 0 rfl (by decide +kernel) rfl rfl hl.1 rfl (Nat.le_of_ble_eq_true rfl) dX12_laid_9 (Nat.zero_le _) (Nat.zero_le _) (fun H locs hP hD hS => ?_)
    have hP : va_P (dC, dI) vwCl [] H := hP
    have hD : va_D A [] := hD
    refine lv_iadd hx hb dX12_laid_12 ?_
    refine lv_topi (fun x_13 ex_13 => ?_)
    have hM := nm_u ex_13 hM
    refine lv_istore (lv' := [(4, .int x_13), (0, .int p0), (1, .int p1), (2, .int p2), (3, .int p3)]) hx hb dX12_laid_13 hl (by decide) rfl (fun ls hl => ?_)
    refine lv_iload hx hb dX12_laid_15 (lv_at hl 0 rfl) ?_
    refine lv_sipush (v := 255) hx hb dX12_laid_17 (by decide) ?_
    refine lv_icmp_le (tgt := 29) hx hb dX12_laid_20 (by decide) (fun c_14 => ?_) (fun c_14 => ?_)
    · have hM := if_t c_14 hM
      refine lv_iload hx hb dX12_laid_29 (lv_at hl 0 rfl) ?_
      have h9 := Option.some.inj hM
      subst h9
      exact W.iret (v := x_13) hx hb hr (fun t ht hW => QMi_mk (by rw [ht]; exact hP) (va_K.moved hW.alike hK) hD (hS.F ht)) hS.2.2 dX12_laid_31
    · have hM := if_f c_14 hM
      refine lv_sipush (v := 255) hx hb dX12_laid_23 (by decide) ?_
      refine lv_goto (tgt := 31) hx hb dX12_laid_26 (by decide) ?_
      have h9 := Option.some.inj hM
      subst h9
      exact W.iret (v := 255) hx hb hr (fun t ht hW => QMi_mk (by rw [ht]; exact hP) (va_K.moved hW.alike hK) hD (hS.F ht)) hS.2.2 dX12_laid_31
theorem dX12_paint_0 : decode cX12_paint 0 = .ok (.iload_n 2, 1) := by decide +kernel
theorem dX12_paint_1 : decode cX12_paint 1 = .ok (.iconst 1, 1) := by decide +kernel
theorem dX12_paint_2 : decode cX12_paint 2 = .ok (.if_icmp .ne 5, 3) := by decide +kernel
theorem dX12_paint_5 : decode cX12_paint 5 = .ok (.iload_n 0, 1) := by decide +kernel
theorem dX12_paint_6 : decode cX12_paint 6 = .ok (.ireturn, 1) := by decide +kernel
theorem dX12_paint_7 : decode cX12_paint 7 = .ok (.iload_n 0, 1) := by decide +kernel
theorem dX12_paint_8 : decode cX12_paint 8 = .ok (.bipush 24, 2) := by decide +kernel
theorem dX12_paint_10 : decode cX12_paint 10 = .ok (.iushr, 1) := by decide +kernel
theorem dX12_paint_11 : decode cX12_paint 11 = .ok (.istore_n 3, 1) := by decide +kernel
theorem dX12_paint_12 : decode cX12_paint 12 = .ok (.iload_n 1, 1) := by decide +kernel
theorem dX12_paint_13 : decode cX12_paint 13 = .ok (.bipush 24, 2) := by decide +kernel
theorem dX12_paint_15 : decode cX12_paint 15 = .ok (.iushr, 1) := by decide +kernel
theorem dX12_paint_16 : decode cX12_paint 16 = .ok (.istore 4, 2) := by decide +kernel
theorem dX12_paint_18 : decode cX12_paint 18 = .ok (.iload_n 2, 1) := by decide +kernel
theorem dX12_paint_19 : decode cX12_paint 19 = .ok (.iconst 3, 1) := by decide +kernel
theorem dX12_paint_20 : decode cX12_paint 20 = .ok (.if_icmp .ne 26, 3) := by decide +kernel
theorem dX12_paint_23 : decode cX12_paint 23 = .ok (.iload_n 3, 1) := by decide +kernel
theorem dX12_paint_24 : decode cX12_paint 24 = .ok (.iload 4, 2) := by decide +kernel
theorem dX12_paint_26 : decode cX12_paint 26 = .ok (.iadd, 1) := by decide +kernel
theorem dX12_paint_27 : decode cX12_paint 27 = .ok (.sipush 255, 3) := by decide +kernel
theorem dX12_paint_30 : decode cX12_paint 30 = .ok (.if_icmp .le 9, 3) := by decide +kernel
theorem dX12_paint_33 : decode cX12_paint 33 = .ok (.sipush 255, 3) := by decide +kernel
theorem dX12_paint_36 : decode cX12_paint 36 = .ok (.goto 27, 3) := by decide +kernel
theorem dX12_paint_39 : decode cX12_paint 39 = .ok (.iload_n 3, 1) := by decide +kernel
theorem dX12_paint_40 : decode cX12_paint 40 = .ok (.iload 4, 2) := by decide +kernel
theorem dX12_paint_42 : decode cX12_paint 42 = .ok (.iadd, 1) := by decide +kernel
theorem dX12_paint_43 : decode cX12_paint 43 = .ok (.goto 20, 3) := by decide +kernel
theorem dX12_paint_46 : decode cX12_paint 46 = .ok (.sipush 255, 3) := by decide +kernel
theorem dX12_paint_49 : decode cX12_paint 49 = .ok (.iload_n 3, 1) := by decide +kernel
theorem dX12_paint_50 : decode cX12_paint 50 = .ok (.imul, 1) := by decide +kernel
theorem dX12_paint_51 : decode cX12_paint 51 = .ok (.iload 4, 2) := by decide +kernel
theorem dX12_paint_53 : decode cX12_paint 53 = .ok (.sipush 255, 3) := by decide +kernel
theorem dX12_paint_56 : decode cX12_paint 56 = .ok (.iload_n 3, 1) := by decide +kernel
theorem dX12_paint_57 : decode cX12_paint 57 = .ok (.isub, 1) := by decide +kernel
theorem dX12_paint_58 : decode cX12_paint 58 = .ok (.imul, 1) := by decide +kernel
theorem dX12_paint_59 : decode cX12_paint 59 = .ok (.iadd, 1) := by decide +kernel
theorem dX12_paint_60 : decode cX12_paint 60 = .ok (.invokestatic 184, 3) := by decide +kernel
theorem dX12_paint_63 : decode cX12_paint 63 = .ok (.istore 5, 2) := by decide +kernel
theorem dX12_paint_65 : decode cX12_paint 65 = .ok (.iload 5, 2) := by decide +kernel
theorem dX12_paint_67 : decode cX12_paint 67 = .ok (.istore 6, 2) := by decide +kernel
theorem dX12_paint_69 : decode cX12_paint 69 = .ok (.bipush 16, 2) := by decide +kernel
theorem dX12_paint_71 : decode cX12_paint 71 = .ok (.istore 7, 2) := by decide +kernel
theorem dX12_paint_73 : decode cX12_paint 73 = .ok (.iload 7, 2) := by decide +kernel
theorem dX12_paint_75 : decode cX12_paint 75 = .ok (.ifCond .lt 38, 3) := by decide +kernel
theorem dX12_paint_78 : decode cX12_paint 78 = .ok (.iload 6, 2) := by decide +kernel
theorem dX12_paint_80 : decode cX12_paint 80 = .ok (.bipush 8, 2) := by decide +kernel
theorem dX12_paint_82 : decode cX12_paint 82 = .ok (.ishl, 1) := by decide +kernel
theorem dX12_paint_83 : decode cX12_paint 83 = .ok (.iload_n 0, 1) := by decide +kernel
theorem dX12_paint_84 : decode cX12_paint 84 = .ok (.iload 7, 2) := by decide +kernel
theorem dX12_paint_86 : decode cX12_paint 86 = .ok (.ishr, 1) := by decide +kernel
theorem dX12_paint_87 : decode cX12_paint 87 = .ok (.sipush 255, 3) := by decide +kernel
theorem dX12_paint_90 : decode cX12_paint 90 = .ok (.iand, 1) := by decide +kernel
theorem dX12_paint_91 : decode cX12_paint 91 = .ok (.iload_n 1, 1) := by decide +kernel
theorem dX12_paint_92 : decode cX12_paint 92 = .ok (.iload 7, 2) := by decide +kernel
theorem dX12_paint_94 : decode cX12_paint 94 = .ok (.ishr, 1) := by decide +kernel
theorem dX12_paint_95 : decode cX12_paint 95 = .ok (.sipush 255, 3) := by decide +kernel
theorem dX12_paint_98 : decode cX12_paint 98 = .ok (.iand, 1) := by decide +kernel
theorem dX12_paint_99 : decode cX12_paint 99 = .ok (.iload_n 3, 1) := by decide +kernel
theorem dX12_paint_100 : decode cX12_paint 100 = .ok (.iload_n 2, 1) := by decide +kernel
theorem dX12_paint_101 : decode cX12_paint 101 = .ok (.invokestatic 187, 3) := by decide +kernel
theorem dX12_paint_104 : decode cX12_paint 104 = .ok (.ior, 1) := by decide +kernel
theorem dX12_paint_105 : decode cX12_paint 105 = .ok (.istore 6, 2) := by decide +kernel
theorem dX12_paint_107 : decode cX12_paint 107 = .ok (.iinc 7 (-8), 3) := by decide +kernel
theorem dX12_paint_110 : decode cX12_paint 110 = .ok (.goto (-37), 3) := by decide +kernel
theorem dX12_paint_113 : decode cX12_paint 113 = .ok (.iload 6, 2) := by decide +kernel
theorem dX12_paint_115 : decode cX12_paint 115 = .ok (.ireturn, 1) := by decide +kernel
abbrev rm_X12_paint : Room := { frames := 2, cells := 0, slots := 0, locals := 44 }
def w_X12_paint : List Cond := Cond.code yX12_paint cX12_paint 8 (some .int) :: uw
set_option maxHeartbeats 4000000 in
set_option maxRecDepth 100000 in
theorem c_X12_paint (l : Launch) (dC : Nat → ClassId) (dI : Nat → Nat → Nat) (cI cZ cO : ClassId) (tL sz : Nat) (p0 : Int32) (p1 : Int32) (p2 : Int32) (res : Int32) (hM : m_X12_paint p0 p1 p2 = some res) : Met l yX12_paint w_X12_paint rm_X12_paint (PCx [.int p0, .int p1, .int p2] (dC, dI) [(cI, .int), (cZ, .boolean), (cO, .object "ListPainter$Settings")] sz tL []) (QMi res (dC, dI) [(cI, .int), (cZ, .boolean), (cO, .object "ListPainter$Settings")] (va_A [] sz) []) 0 0 (va_A [] sz) := by
  refine Met.ofW (cc := cX12_paint) (maxL := 8) (ret := (some .int)) (by decide) rfl ?_
  intro p e s m args below meth c s₁ B hml hv
  obtain ⟨rfl, hsz, hP, hK, hD0, hG⟩ := hv
  have hx := B.exec
  have hb := B.bytes
  have hr := B.returns
  have hu : ∀ w ∈ uw, w.before ([.int p0, .int p1, .int p2] : List Value).toArray s = true := fun w h => atoms_spec (ws := w_X12_paint) B.pre w (List.mem_cons_of_mem _ h)
  have hown : s.vm.findClass RX12 = some m.cls := findClass_of_methodNamed B.named
  have hlocks := B.notSynchronized
  subst hsz
  have hD := hD0.self (sz := s.heap.size)
  generalize hAe : va_A [] s.heap.size = A at hD hG ⊢
  have hA : ∀ q : Nat, s.heap.size ≤ q → A q := fun q h => by rw [← hAe]; exact Or.inr h
  have hS : va_S A s.heap s.heap [] := va_S.rf
  have hP : va_P (dC, dI) vwCl [] s.heap := hP
  have hl := lv_entry ([.int p0, .int p1, .int p2]) (n := 8) (Nat.le_of_ble_eq_true rfl)
  rw [lg_entry_eq]
  generalize (lg_sl ([.int p0, .int p1, .int p2]) ++ List.replicate (8 - (lg_sl ([.int p0, .int p1, .int p2])).length) Slot.unset).toArray = ls at hl ⊢
  have hl : lv_has ls 8 [(0, .int p0), (1, .int p1), (2, .int p2)] := hl
  rw [m_X12_paint] at hM
  suffices hgo : ∀ (H : Heap) (locs : List Loc), va_P (dC, dI) vwCl [] H → va_D A [] → va_S A s.heap H locs → W p l e (headSpec w_X12_paint rm_X12_paint).room s m ([.int p0, .int p1, .int p2] : List Value).toArray below meth c H locs 0 0 (MQ below (QMi res (dC, dI) [(cI, .int), (cZ, .boolean), (cO, .object "ListPainter$Settings")] A []) ([.int p0, .int p1, .int p2] : List Value).toArray s 0 0 A) (F0 m 0 ls []) from hgo _ _ hP hD hS
  intro H locs hP hD hS
  refine lv_iload_n hx hb dX12_paint_0 rfl (lv_at hl 2 rfl) ?_
  refine lv_iconst (v := 1) hx hb dX12_paint_1 (by decide) ?_
  refine lv_icmp_ne (tgt := 7) hx hb dX12_paint_2 (by decide) (fun c_1 => ?_) (fun c_1 => ?_)
  · have hM := if_f c_1 hM
    refine lv_iload_n hx hb dX12_paint_7 rfl (lv_at hl 0 rfl) ?_
    refine lv_bipush (v := 24) hx hb dX12_paint_8 (by decide) ?_
    refine lv_iushr (v := ((p0 : Int32).toUInt32 >>> ((24 : Int32).toUInt32 &&& Int32.toUInt32 31)).toInt32) hx hb dX12_paint_10 rfl ?_
    refine lv_topi (fun x_2 ex_2 => ?_)
    have hM := nm_u ex_2 hM
    refine lv_istore_n (lv' := [(3, .int x_2), (0, .int p0), (1, .int p1), (2, .int p2)]) hx hb dX12_paint_11 rfl hl (by decide) rfl (fun ls hl => ?_)
    refine lv_iload_n hx hb dX12_paint_12 rfl (lv_at hl 2 rfl) ?_
    refine lv_bipush (v := 24) hx hb dX12_paint_13 (by decide) ?_
    refine lv_iushr (v := ((p1 : Int32).toUInt32 >>> ((24 : Int32).toUInt32 &&& Int32.toUInt32 31)).toInt32) hx hb dX12_paint_15 rfl ?_
    refine lv_topi (fun x_3 ex_3 => ?_)
    have hM := nm_u ex_3 hM
    refine lv_istore (lv' := [(4, .int x_3), (3, .int x_2), (0, .int p0), (1, .int p1), (2, .int p2)]) hx hb dX12_paint_16 hl (by decide) rfl (fun ls hl => ?_)
    refine lv_iload_n hx hb dX12_paint_18 rfl (lv_at hl 4 rfl) ?_
    refine lv_iconst (v := 3) hx hb dX12_paint_19 (by decide) ?_
    obtain ⟨K63_5, eK63_5, hM⟩ := jn_u hM
    have hJ63_5 : ∀ (s0_4 : Int32) , ∀ (H : Heap) (locs : List Loc) (ls : Array Slot), va_P (dC, dI) vwCl [] H → va_D A [] → va_S A s.heap H locs → lv_has ls 8 [(0, .int p0), (1, .int p1), (2, .int p2), (3, .int x_2)] → K63_5 s0_4 = some res → W p l e (headSpec w_X12_paint rm_X12_paint).room s m ([.int p0, .int p1, .int p2] : List Value).toArray below meth c H locs 0 0 (MQ below (QMi res (dC, dI) [(cI, .int), (cZ, .boolean), (cO, .object "ListPainter$Settings")] A []) ([.int p0, .int p1, .int p2] : List Value).toArray s 0 0 A) (F0 m 63 ls [.int s0_4]) := by
      intro s0_4 H locs ls hP hD hS hl hM
      have hM := ja1 eK63_5 hM
      refine lv_istore (lv' := [(5, .int s0_4), (0, .int p0), (1, .int p1), (2, .int p2), (3, .int x_2)]) hx hb dX12_paint_63 hl (by decide) rfl (fun ls hl => ?_)
      refine lv_iload hx hb dX12_paint_65 (lv_at hl 0 rfl) ?_
      refine lv_istore (lv' := [(6, .int s0_4), (5, .int s0_4), (0, .int p0), (1, .int p1), (2, .int p2), (3, .int x_2)]) hx hb dX12_paint_67 hl (by decide) rfl (fun ls hl => ?_)
      refine lv_bipush (v := 16) hx hb dX12_paint_69 (by decide) ?_
      refine lv_istore (lv' := [(7, .int 16), (6, .int s0_4), (5, .int s0_4), (0, .int p0), (1, .int p1), (2, .int p2), (3, .int x_2)]) hx hb dX12_paint_71 hl (by decide) rfl (fun ls hl => ?_)
      have hL73_8 : ∀ (n : Nat) (l6_6 : Int32) (l7_7 : Int32) , ∀ (H : Heap) (locs : List Loc) (ls : Array Slot), va_P (dC, dI) vwCl [] H → va_D A [] → va_S A s.heap H locs → lv_has ls 8 [(0, .int p0), (1, .int p1), (2, .int p2), (3, .int x_2), (6, .int l6_6), (7, .int l7_7)] → lp_X12_paint_73 p0 p1 x_2 p2 n l6_6 l7_7 = some res → W p l e (headSpec w_X12_paint rm_X12_paint).room s m ([.int p0, .int p1, .int p2] : List Value).toArray below meth c H locs 0 0 (MQ below (QMi res (dC, dI) [(cI, .int), (cZ, .boolean), (cO, .object "ListPainter$Settings")] A []) ([.int p0, .int p1, .int p2] : List Value).toArray s 0 0 A) (F0 m 73 ls []) := by
        intro n
        induction n with
        | zero =>
          intro l6_6 l7_7 H locs ls hP hD hS hl hM
          rw [lp_X12_paint_73] at hM
          exact lp0 hM
        | succ n73_8 ih73_8 =>
          intro l6_6 l7_7 H locs ls hP hD hS hl hM
          rw [lp_X12_paint_73] at hM
          refine lv_iload hx hb dX12_paint_73 (lv_at hl 5 rfl) ?_
          refine lv_if_lt (tgt := 113) hx hb dX12_paint_75 (by decide) (fun c_9 => ?_) (fun c_9 => ?_)
          · have hM := if_t c_9 hM
            refine lv_iload hx hb dX12_paint_113 (lv_at hl 4 rfl) ?_
            have h9 := Option.some.inj hM
            subst h9
            exact W.iret (v := l6_6) hx hb hr (fun t ht hW => QMi_mk (by rw [ht]; exact hP) (va_K.moved hW.alike hK) hD (hS.F ht)) hS.2.2 dX12_paint_115
          · have hM := if_f c_9 hM
            refine lv_iload hx hb dX12_paint_78 (lv_at hl 4 rfl) ?_
            refine lv_bipush (v := 8) hx hb dX12_paint_80 (by decide) ?_
            refine lv_ishl hx hb dX12_paint_82 ?_
            refine lv_iload_n hx hb dX12_paint_83 rfl (lv_at hl 0 rfl) ?_
            refine lv_iload hx hb dX12_paint_84 (lv_at hl 5 rfl) ?_
            refine lv_ishr hx hb dX12_paint_86 ?_
            refine lv_sipush (v := 255) hx hb dX12_paint_87 (by decide) ?_
            refine lv_iand hx hb dX12_paint_90 ?_
            refine lv_iload_n hx hb dX12_paint_91 rfl (lv_at hl 1 rfl) ?_
            refine lv_iload hx hb dX12_paint_92 (lv_at hl 5 rfl) ?_
            refine lv_ishr hx hb dX12_paint_94 ?_
            refine lv_sipush (v := 255) hx hb dX12_paint_95 (by decide) ?_
            refine lv_iand hx hb dX12_paint_98 ?_
            refine lv_iload_n hx hb dX12_paint_99 rfl (lv_at hl 3 rfl) ?_
            refine lv_iload_n hx hb dX12_paint_100 rfl (lv_at hl 2 rfl) ?_
            obtain ⟨r_10, hm_11, hM⟩ := bd1_u hM
            refine cSi (r := r_10) (As := [.int (((p0 : Int32) >>> (l7_7 &&& 31)) &&& 255), .int (((p1 : Int32) >>> (l7_7 &&& 31)) &&& 255), .int x_2, .int p2]) (rest := [.int ((l6_6 : Int32) <<< (8 &&& 31))]) ⟨hx, hb, hml, hown, hu⟩ (c_X12_laid l dC dI cI cZ cO tL H.size (((p0 : Int32) >>> (l7_7 &&& 31)) &&& 255) (((p1 : Int32) >>> (l7_7 &&& 31)) &&& 255) x_2 p2 r_10 hm_11) (va_cwS 4 hu (gS kw_363 kw_364 kw_253 kw_365) rfl rfl rfl (by decide +kernel) ⟨Nat.le_of_ble_eq_true rfl, Nat.le_of_ble_eq_true rfl⟩) hP hD hS hA hK hG [] (by decide) rfl [] 0 rfl (by decide +kernel) rfl rfl hl.1 rfl (Nat.le_of_ble_eq_true rfl) dX12_paint_101 (Nat.zero_le _) (Nat.zero_le _) (fun H locs hP hD hS => ?_)
            have hP : va_P (dC, dI) vwCl [] H := hP
            have hD : va_D A [] := hD
            refine lv_ior hx hb dX12_paint_104 ?_
            refine lv_topi (fun x_12 ex_12 => ?_)
            have hM := nm_u ex_12 hM
            refine lv_istore (lv' := [(6, .int x_12), (0, .int p0), (1, .int p1), (2, .int p2), (3, .int x_2), (7, .int l7_7)]) hx hb dX12_paint_105 hl (by decide) rfl (fun ls hl => ?_)
            obtain ⟨x_13, ex_13⟩ : ∃ y : Int32, y = l7_7 + (-8) := ⟨_, rfl⟩
            have hM := nm_u ex_13 hM
            refine lv_iinc (v := x_13) (lv' := [(7, .int x_13), (6, .int x_12), (0, .int p0), (1, .int p1), (2, .int p2), (3, .int x_2)]) hx hb dX12_paint_107 hl (k := 5) rfl (by rw [ex_13]; rfl) (by decide) rfl (fun ls hl => ?_)
            refine lv_goto (tgt := 73) hx hb dX12_paint_110 (by decide) ?_
            exact ih73_8 x_12 x_13 H locs ls hP hD hS (lv_sub hl [2, 3, 4, 5, 1, 0] rfl) hM
      exact hL73_8 FU s0_4 16 H locs ls hP hD hS (lv_sub hl [3, 4, 5, 6, 1, 0] rfl) hM
    refine lv_icmp_ne (tgt := 46) hx hb dX12_paint_20 (by decide) (fun c_14 => ?_) (fun c_14 => ?_)
    · have hM := if_f c_14 hM
      refine lv_sipush (v := 255) hx hb dX12_paint_46 (by decide) ?_
      refine lv_iload_n hx hb dX12_paint_49 rfl (lv_at hl 1 rfl) ?_
      refine lv_imul hx hb dX12_paint_50 ?_
      refine lv_iload hx hb dX12_paint_51 (lv_at hl 0 rfl) ?_
      refine lv_sipush (v := 255) hx hb dX12_paint_53 (by decide) ?_
      refine lv_iload_n hx hb dX12_paint_56 rfl (lv_at hl 1 rfl) ?_
      refine lv_isub hx hb dX12_paint_57 ?_
      refine lv_imul hx hb dX12_paint_58 ?_
      refine lv_iadd hx hb dX12_paint_59 ?_
      obtain ⟨r_15, hm_16, hM⟩ := bd1_u hM
      refine cSi (r := r_15) (As := [.int ((255 * x_2) + (x_3 * (255 - x_2)))]) (rest := []) ⟨hx, hb, hml, hown, hu⟩ (c_X12_part l dC dI cI cZ cO tL H.size ((255 * x_2) + (x_3 * (255 - x_2))) r_15 hm_16) (va_cwS 1 hu (gS kw_360 kw_361 kw_253 kw_362) rfl rfl rfl (by decide +kernel) ⟨Nat.le_of_ble_eq_true rfl, Nat.le_of_ble_eq_true rfl⟩) hP hD hS hA hK hG [] (by decide) rfl [] 0 rfl (by decide +kernel) rfl rfl hl.1 rfl (Nat.le_of_ble_eq_true rfl) dX12_paint_60 (Nat.zero_le _) (Nat.zero_le _) (fun H locs hP hD hS => ?_)
      have hP : va_P (dC, dI) vwCl [] H := hP
      have hD : va_D A [] := hD
      exact hJ63_5 r_15 H locs ls hP hD hS (lv_sub hl [2, 3, 4, 1] rfl) hM
    · have hM := if_t c_14 hM
      refine lv_iload_n hx hb dX12_paint_23 rfl (lv_at hl 1 rfl) ?_
      refine lv_iload hx hb dX12_paint_24 (lv_at hl 0 rfl) ?_
      refine lv_iadd hx hb dX12_paint_26 ?_
      refine lv_sipush (v := 255) hx hb dX12_paint_27 (by decide) ?_
      refine lv_icmp_le (tgt := 39) hx hb dX12_paint_30 (by decide) (fun c_17 => ?_) (fun c_17 => ?_)
      · have hM := if_t c_17 hM
        refine lv_iload_n hx hb dX12_paint_39 rfl (lv_at hl 1 rfl) ?_
        refine lv_iload hx hb dX12_paint_40 (lv_at hl 0 rfl) ?_
        refine lv_iadd hx hb dX12_paint_42 ?_
        refine lv_goto (tgt := 63) hx hb dX12_paint_43 (by decide) ?_
        exact hJ63_5 (x_2 + x_3) H locs ls hP hD hS (lv_sub hl [2, 3, 4, 1] rfl) hM
      · have hM := if_f c_17 hM
        refine lv_sipush (v := 255) hx hb dX12_paint_33 (by decide) ?_
        refine lv_goto (tgt := 63) hx hb dX12_paint_36 (by decide) ?_
        exact hJ63_5 255 H locs ls hP hD hS (lv_sub hl [2, 3, 4, 1] rfl) hM
  · have hM := if_t c_1 hM
    refine lv_iload_n hx hb dX12_paint_5 rfl (lv_at hl 0 rfl) ?_
    have h9 := Option.some.inj hM
    subst h9
    exact W.iret (v := p0) hx hb hr (fun t ht hW => QMi_mk (by rw [ht]; exact hP) (va_K.moved hW.alike hK) hD (hS.F ht)) hS.2.2 dX12_paint_6
