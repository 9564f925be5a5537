theorem dX0_allBelow_0 : decode cX0_allBelow 0 = .ok (.iload_n 1, 1) := by decide +kernel
theorem dX0_allBelow_1 : decode cX0_allBelow 1 = .ok (.istore 4, 2) := by decide +kernel
theorem dX0_allBelow_3 : decode cX0_allBelow 3 = .ok (.iload 4, 2) := by decide +kernel
theorem dX0_allBelow_5 : decode cX0_allBelow 5 = .ok (.iload_n 2, 1) := by decide +kernel
theorem dX0_allBelow_6 : decode cX0_allBelow 6 = .ok (.if_icmp .ge 32, 3) := by decide +kernel
theorem dX0_allBelow_9 : decode cX0_allBelow 9 = .ok (.aload_n 0, 1) := by decide +kernel
theorem dX0_allBelow_10 : decode cX0_allBelow 10 = .ok (.iload 4, 2) := by decide +kernel
theorem dX0_allBelow_12 : decode cX0_allBelow 12 = .ok (.invokevirtual 34, 3) := by decide +kernel
theorem dX0_allBelow_15 : decode cX0_allBelow 15 = .ok (.istore 5, 2) := by decide +kernel
theorem dX0_allBelow_17 : decode cX0_allBelow 17 = .ok (.iload 5, 2) := by decide +kernel
theorem dX0_allBelow_19 : decode cX0_allBelow 19 = .ok (.iload_n 3, 1) := by decide +kernel
theorem dX0_allBelow_20 : decode cX0_allBelow 20 = .ok (.ineg, 1) := by decide +kernel
theorem dX0_allBelow_21 : decode cX0_allBelow 21 = .ok (.if_icmp .le 9, 3) := by decide +kernel
theorem dX0_allBelow_24 : decode cX0_allBelow 24 = .ok (.iload 5, 2) := by decide +kernel
theorem dX0_allBelow_26 : decode cX0_allBelow 26 = .ok (.iload_n 3, 1) := by decide +kernel
theorem dX0_allBelow_27 : decode cX0_allBelow 27 = .ok (.if_icmp .lt 5, 3) := by decide +kernel
theorem dX0_allBelow_30 : decode cX0_allBelow 30 = .ok (.iconst 0, 1) := by decide +kernel
theorem dX0_allBelow_31 : decode cX0_allBelow 31 = .ok (.ireturn, 1) := by decide +kernel
theorem dX0_allBelow_32 : decode cX0_allBelow 32 = .ok (.iinc 4 1, 3) := by decide +kernel
theorem dX0_allBelow_35 : decode cX0_allBelow 35 = .ok (.goto (-32), 3) := by decide +kernel
theorem dX0_allBelow_38 : decode cX0_allBelow 38 = .ok (.iconst 1, 1) := by decide +kernel
theorem dX0_allBelow_39 : decode cX0_allBelow 39 = .ok (.ireturn, 1) := by decide +kernel
abbrev rm_X0_allBelow : Room := { frames := 1, cells := 0, slots := 0, locals := 21 }
def w_X0_allBelow : List Cond := Cond.code yX0_allBelow cX0_allBelow 6 (some .boolean) :: uw
set_option maxHeartbeats 4000000 in
set_option maxRecDepth 100000 in
theorem c_X0_allBelow (l : Launch) (dC : Nat → ClassId) (dI : Nat → Nat → Nat) (cI cZ cO : ClassId) (tL sz : Nat) (h0 : Nat) (h1 : Nat) (v0_count : Int32) (f1 : Nat → Int32) (p1 : Int32) (p2 : Int32) (p3 : Int32) (res : Int32) (hM : m_X0_allBelow v0_count f1 p1 p2 p3 = some res) : Met l yX0_allBelow w_X0_allBelow rm_X0_allBelow (PCx [.ref h0, .int p1, .int p2, .int p3] (dC, dI) [(cI, .int), (cZ, .boolean), (cO, .object "ListPainter$Settings")] sz tL [(h0, .inr (9, [.ref h1, .int v0_count])), (h1, .inl (cI, 1500, .inl f1))]) (QMz res (dC, dI) [(cI, .int), (cZ, .boolean), (cO, .object "ListPainter$Settings")] (va_A [(h0, .inr (9, [.ref h1, .int v0_count])), (h1, .inl (cI, 1500, .inl f1))] sz) [(h0, .inr (9, [.ref h1, .int v0_count])), (h1, .inl (cI, 1500, .inl f1))]) 0 0 (va_A [(h0, .inr (9, [.ref h1, .int v0_count])), (h1, .inl (cI, 1500, .inl f1))] sz) := by
  refine Met.ofW (cc := cX0_allBelow) (maxL := 6) (ret := (some .boolean)) (by decide) rfl ?_
  intro p e s m args below meth c s₁ B hml hv
  obtain ⟨rfl, hsz, hP, hK, hD0, hG⟩ := hv
  have hx := B.exec
  have hb := B.bytes
  have hr := B.returns
  have hu : ∀ w ∈ uw, w.before ([.ref h0, .int p1, .int p2, .int p3] : List Value).toArray s = true := fun w h => atoms_spec (ws := w_X0_allBelow) B.pre w (List.mem_cons_of_mem _ h)
  have hown : s.vm.findClass RX0 = some m.cls := findClass_of_methodNamed B.named
  have hlocks := B.notSynchronized
  subst hsz
  have hD := hD0.self (sz := s.heap.size)
  generalize hAe : va_A [(h0, .inr (9, [.ref h1, .int v0_count])), (h1, .inl (cI, 1500, .inl f1))] s.heap.size = A at hD hG ⊢
  have hA : ∀ q : Nat, s.heap.size ≤ q → A q := fun q h => by rw [← hAe]; exact Or.inr h
  have hS : va_S A s.heap s.heap [] := va_S.rf
  have hP : va_P (dC, dI) vwCl [(h0, .inr (9, [.ref h1, .int v0_count])), (h1, .inl (cI, 1500, .inl f1))] s.heap := hP
  have hl := lv_entry ([.ref h0, .int p1, .int p2, .int p3]) (n := 6) (Nat.le_of_ble_eq_true rfl)
  rw [lg_entry_eq]
  generalize (lg_sl ([.ref h0, .int p1, .int p2, .int p3]) ++ List.replicate (6 - (lg_sl ([.ref h0, .int p1, .int p2, .int p3])).length) Slot.unset).toArray = ls at hl ⊢
  have hl : lv_has ls 6 [(0, .ref h0), (1, .int p1), (2, .int p2), (3, .int p3)] := hl
  rw [m_X0_allBelow] at hM
  suffices hgo : ∀ (H : Heap) (locs : List Loc), va_P (dC, dI) vwCl [(h0, .inr (9, [.ref h1, .int v0_count])), (h1, .inl (cI, 1500, .inl f1))] H → va_D A [(h0, .inr (9, [.ref h1, .int v0_count])), (h1, .inl (cI, 1500, .inl f1))] → va_S A s.heap H locs → W p l e (headSpec w_X0_allBelow rm_X0_allBelow).room s m ([.ref h0, .int p1, .int p2, .int p3] : List Value).toArray below meth c H locs 0 0 (MQ below (QMz res (dC, dI) [(cI, .int), (cZ, .boolean), (cO, .object "ListPainter$Settings")] A [(h0, .inr (9, [.ref h1, .int v0_count])), (h1, .inl (cI, 1500, .inl f1))]) ([.ref h0, .int p1, .int p2, .int p3] : List Value).toArray s 0 0 A) (F0 m 0 ls []) from hgo _ _ hP hD hS
  intro H locs hP hD hS
  refine lv_iload_n hx hb dX0_allBelow_0 rfl (lv_at hl 1 rfl) ?_
  refine lv_istore (lv' := [(4, .int p1), (0, .ref h0), (1, .int p1), (2, .int p2), (3, .int p3)]) hx hb dX0_allBelow_1 hl (by decide) rfl (fun ls hl => ?_)
  have hL3_2 : ∀ (n : Nat) (l4_1 : Int32) , ∀ (H : Heap) (locs : List Loc) (ls : Array Slot), va_P (dC, dI) vwCl [(h0, .inr (9, [.ref h1, .int v0_count])), (h1, .inl (cI, 1500, .inl f1))] H → va_D A [(h0, .inr (9, [.ref h1, .int v0_count])), (h1, .inl (cI, 1500, .inl f1))] → va_S A s.heap H locs → lv_has ls 6 [(0, .ref h0), (2, .int p2), (3, .int p3), (4, .int l4_1)] → lp_X0_allBelow_3 p2 v0_count f1 p3 n l4_1 = some res → W p l e (headSpec w_X0_allBelow rm_X0_allBelow).room s m ([.ref h0, .int p1, .int p2, .int p3] : List Value).toArray below meth c H locs 0 0 (MQ below (QMz res (dC, dI) [(cI, .int), (cZ, .boolean), (cO, .object "ListPainter$Settings")] A [(h0, .inr (9, [.ref h1, .int v0_count])), (h1, .inl (cI, 1500, .inl f1))]) ([.ref h0, .int p1, .int p2, .int p3] : List Value).toArray s 0 0 A) (F0 m 3 ls []) := by
    intro n
    induction n with
    | zero =>
      intro l4_1 H locs ls hP hD hS hl hM
      rw [lp_X0_allBelow_3] at hM
      exact lp0 hM
    | succ n3_2 ih3_2 =>
      intro l4_1 H locs ls hP hD hS hl hM
      rw [lp_X0_allBelow_3] at hM
      refine lv_iload hx hb dX0_allBelow_3 (lv_at hl 3 rfl) ?_
      refine lv_iload_n hx hb dX0_allBelow_5 rfl (lv_at hl 1 rfl) ?_
      refine lv_icmp_ge (tgt := 38) hx hb dX0_allBelow_6 (by decide) (fun c_3 => ?_) (fun c_3 => ?_)
      · have hM := if_t c_3 hM
        refine lv_iconst (v := 1) hx hb dX0_allBelow_38 (by decide) ?_
        have h9 := Option.some.inj hM
        subst h9
        exact W.zret (v := 1) hx hb hr (zb_n (Or.inr rfl)) (fun t ht hW => QMz_mk (Or.inr rfl) (by rw [ht]; exact hP) (va_K.moved hW.alike hK) hD (hS.F ht)) hS.2.2 dX0_allBelow_39
      · have hM := if_f c_3 hM
        refine lv_aload_n hx hb dX0_allBelow_9 rfl (lv_at hl 0 rfl) ?_
        refine lv_iload hx hb dX0_allBelow_10 (lv_at hl 3 rfl) ?_
        obtain ⟨r_4, hm_5, hM⟩ := bd1_u hM
        refine cVi (r := r_4) (As := [.int l4_1]) (rest := []) ⟨hx, hb, hml, hown, hu⟩ (c_X10_word l dC dI cI cZ cO tL H.size h0 h1 v0_count f1 l4_1 r_4 hm_5) (cwV 1 hu (gV kw_215 kw_3 kw_4 kw_5 kw_6) rfl rfl rfl (by decide +kernel) ⟨Nat.le_of_ble_eq_true rfl, Nat.le_of_ble_eq_true rfl⟩) hP hD hS hA hK hG [0, 1] (by decide) rfl [some 0, some 1] 2 rfl (by decide +kernel) rfl 9 0 rfl rfl rfl rfl hl.1 rfl (Nat.le_of_ble_eq_true rfl) dX0_allBelow_12 (Nat.zero_le _) (Nat.zero_le _) (fun H locs hP hD hS => ?_)
        have hP : va_P (dC, dI) vwCl [(h0, .inr (9, [.ref h1, .int v0_count])), (h1, .inl (cI, 1500, .inl f1))] H := hP
        have hD : va_D A [(h0, .inr (9, [.ref h1, .int v0_count])), (h1, .inl (cI, 1500, .inl f1))] := hD
        refine lv_istore (lv' := [(5, .int r_4), (0, .ref h0), (2, .int p2), (3, .int p3), (4, .int l4_1)]) hx hb dX0_allBelow_15 hl (by decide) rfl (fun ls hl => ?_)
        refine lv_iload hx hb dX0_allBelow_17 (lv_at hl 0 rfl) ?_
        refine lv_iload_n hx hb dX0_allBelow_19 rfl (lv_at hl 3 rfl) ?_
        refine lv_ineg hx hb dX0_allBelow_20 ?_
        refine lv_icmp_le (tgt := 30) hx hb dX0_allBelow_21 (by decide) (fun c_6 => ?_) (fun c_6 => ?_)
        · have hM := if_t c_6 hM
          refine lv_iconst (v := 0) hx hb dX0_allBelow_30 (by decide) ?_
          have h9 := Option.some.inj hM
          subst h9
          exact W.zret (v := 0) hx hb hr (zb_n (Or.inl rfl)) (fun t ht hW => QMz_mk (Or.inl rfl) (by rw [ht]; exact hP) (va_K.moved hW.alike hK) hD (hS.F ht)) hS.2.2 dX0_allBelow_31
        · have hM := if_f c_6 hM
          refine lv_iload hx hb dX0_allBelow_24 (lv_at hl 0 rfl) ?_
          refine lv_iload_n hx hb dX0_allBelow_26 rfl (lv_at hl 3 rfl) ?_
          refine lv_icmp_lt (tgt := 32) hx hb dX0_allBelow_27 (by decide) (fun c_7 => ?_) (fun c_7 => ?_)
          · have hM := if_t c_7 hM
            obtain ⟨x_8, ex_8⟩ : ∃ y : Int32, y = l4_1 + 1 := ⟨_, rfl⟩
            have hM := nm_u ex_8 hM
            refine lv_iinc (v := x_8) (lv' := [(4, .int x_8), (5, .int r_4), (0, .ref h0), (2, .int p2), (3, .int p3)]) hx hb dX0_allBelow_32 hl (k := 4) rfl (by rw [ex_8]; rfl) (by decide) rfl (fun ls hl => ?_)
            refine lv_goto (tgt := 3) hx hb dX0_allBelow_35 (by decide) ?_
            exact ih3_2 x_8 H locs ls hP hD hS (lv_sub hl [2, 3, 4, 0] rfl) hM
          · have hM := if_f c_7 hM
            refine lv_iconst (v := 0) hx hb dX0_allBelow_30 (by decide) ?_
            have h9 := Option.some.inj hM
            subst h9
            exact W.zret (v := 0) hx hb hr (zb_n (Or.inl rfl)) (fun t ht hW => QMz_mk (Or.inl rfl) (by rw [ht]; exact hP) (va_K.moved hW.alike hK) hD (hS.F ht)) hS.2.2 dX0_allBelow_31
  exact hL3_2 FU p1 H locs ls hP hD hS (lv_sub hl [1, 3, 4, 0] rfl) hM
theorem dX0_isWithin_0 : decode cX0_isWithin 0 = .ok (.iload_n 0, 1) := by decide +kernel
theorem dX0_isWithin_1 : decode cX0_isWithin 1 = .ok (.ifCond .lt 12, 3) := by decide +kernel
theorem dX0_isWithin_4 : decode cX0_isWithin 4 = .ok (.iload_n 0, 1) := by decide +kernel
theorem dX0_isWithin_5 : decode cX0_isWithin 5 = .ok (.iload_n 1, 1) := by decide +kernel
theorem dX0_isWithin_6 : decode cX0_isWithin 6 = .ok (.if_icmp .gt 7, 3) := by decide +kernel
theorem dX0_isWithin_9 : decode cX0_isWithin 9 = .ok (.iconst 1, 1) := by decide +kernel
theorem dX0_isWithin_10 : decode cX0_isWithin 10 = .ok (.goto 4, 3) := by decide +kernel
theorem dX0_isWithin_13 : decode cX0_isWithin 13 = .ok (.iconst 0, 1) := by decide +kernel
theorem dX0_isWithin_14 : decode cX0_isWithin 14 = .ok (.ireturn, 1) := by decide +kernel
abbrev rm_X0_isWithin : Room := { frames := 0, cells := 0, slots := 0, locals := 0 }
def w_X0_isWithin : List Cond := Cond.code yX0_isWithin cX0_isWithin 2 (some .boolean) :: uw
set_option maxHeartbeats 4000000 in
set_option maxRecDepth 100000 in
theorem c_X0_isWithin (l : Launch) (dC : Nat → ClassId) (dI : Nat → Nat → Nat) (cI cZ cO : ClassId) (tL sz : Nat) (p0 : Int32) (p1 : Int32) (res : Int32) (hM : m_X0_isWithin p0 p1 = some res) : Met l yX0_isWithin w_X0_isWithin rm_X0_isWithin (PCx [.int p0, .int p1] (dC, dI) [(cI, .int), (cZ, .boolean), (cO, .object "ListPainter$Settings")] sz tL []) (QMz res (dC, dI) [(cI, .int), (cZ, .boolean), (cO, .object "ListPainter$Settings")] (va_A [] sz) []) 0 0 (va_A [] sz) := by
  refine Met.ofW (cc := cX0_isWithin) (maxL := 2) (ret := (some .boolean)) (by decide) rfl ?_
  intro p e s m args below meth c s₁ B hml hv
  obtain ⟨rfl, hsz, hP, hK, hD0, hG⟩ := hv
  have hx := B.exec
  have hb := B.bytes
  have hr := B.returns
  have hu : ∀ w ∈ uw, w.before ([.int p0, .int p1] : List Value).toArray s = true := fun w h => atoms_spec (ws := w_X0_isWithin) B.pre w (List.mem_cons_of_mem _ h)
  have hown : s.vm.findClass RX0 = some m.cls := findClass_of_methodNamed B.named
  have hlocks := B.notSynchronized
  subst hsz
  have hD := hD0.self (sz := s.heap.size)
  generalize hAe : va_A [] s.heap.size = A at hD hG ⊢
  have hA : ∀ q : Nat, s.heap.size ≤ q → A q := fun q h => by rw [← hAe]; exact Or.inr h
  have hS : va_S A s.heap s.heap [] := va_S.rf
  have hP : va_P (dC, dI) vwCl [] s.heap := hP
  have hl := lv_entry ([.int p0, .int p1]) (n := 2) (Nat.le_of_ble_eq_true rfl)
  rw [lg_entry_eq]
  generalize (lg_sl ([.int p0, .int p1]) ++ List.replicate (2 - (lg_sl ([.int p0, .int p1])).length) Slot.unset).toArray = ls at hl ⊢
  have hl : lv_has ls 2 [(0, .int p0), (1, .int p1)] := hl
  rw [m_X0_isWithin] at hM
  suffices hgo : ∀ (H : Heap) (locs : List Loc), va_P (dC, dI) vwCl [] H → va_D A [] → va_S A s.heap H locs → W p l e (headSpec w_X0_isWithin rm_X0_isWithin).room s m ([.int p0, .int p1] : List Value).toArray below meth c H locs 0 0 (MQ below (QMz res (dC, dI) [(cI, .int), (cZ, .boolean), (cO, .object "ListPainter$Settings")] A []) ([.int p0, .int p1] : List Value).toArray s 0 0 A) (F0 m 0 ls []) from hgo _ _ hP hD hS
  intro H locs hP hD hS
  refine lv_iload_n hx hb dX0_isWithin_0 rfl (lv_at hl 0 rfl) ?_
  refine lv_if_lt (tgt := 13) hx hb dX0_isWithin_1 (by decide) (fun c_1 => ?_) (fun c_1 => ?_)
  · have hM := if_t c_1 hM
    refine lv_iconst (v := 0) hx hb dX0_isWithin_13 (by decide) ?_
    have h9 := Option.some.inj hM
    subst h9
    exact W.zret (v := 0) hx hb hr (zb_n (Or.inl rfl)) (fun t ht hW => QMz_mk (Or.inl rfl) (by rw [ht]; exact hP) (va_K.moved hW.alike hK) hD (hS.F ht)) hS.2.2 dX0_isWithin_14
  · have hM := if_f c_1 hM
    refine lv_iload_n hx hb dX0_isWithin_4 rfl (lv_at hl 0 rfl) ?_
    refine lv_iload_n hx hb dX0_isWithin_5 rfl (lv_at hl 1 rfl) ?_
    refine lv_icmp_gt (tgt := 13) hx hb dX0_isWithin_6 (by decide) (fun c_2 => ?_) (fun c_2 => ?_)
    · have hM := if_t c_2 hM
      refine lv_iconst (v := 0) hx hb dX0_isWithin_13 (by decide) ?_
      have h9 := Option.some.inj hM
      subst h9
      exact W.zret (v := 0) hx hb hr (zb_n (Or.inl rfl)) (fun t ht hW => QMz_mk (Or.inl rfl) (by rw [ht]; exact hP) (va_K.moved hW.alike hK) hD (hS.F ht)) hS.2.2 dX0_isWithin_14
    · have hM := if_f c_2 hM
      refine lv_iconst (v := 1) hx hb dX0_isWithin_9 (by decide) ?_
      refine lv_goto (tgt := 14) hx hb dX0_isWithin_10 (by decide) ?_
      have h9 := Option.some.inj hM
      subst h9
      exact W.zret (v := 1) hx hb hr (zb_n (Or.inr rfl)) (fun t ht hW => QMz_mk (Or.inr rfl) (by rw [ht]; exact hP) (va_K.moved hW.alike hK) hD (hS.F ht)) hS.2.2 dX0_isWithin_14
theorem dX0_withinBounds_0 : decode cX0_withinBounds 0 = .ok (.aload_n 0, 1) := by decide +kernel
theorem dX0_withinBounds_1 : decode cX0_withinBounds 1 = .ok (.iload_n 1, 1) := by decide +kernel
theorem dX0_withinBounds_2 : decode cX0_withinBounds 2 = .ok (.invokevirtual 34, 3) := by decide +kernel
theorem dX0_withinBounds_5 : decode cX0_withinBounds 5 = .ok (.tableswitch 147 4 13 #[55, 55, 55, 147, 55, 72, 147, 84, 147, 96], 55) := by decide +kernel
theorem dX0_withinBounds_60 : decode cX0_withinBounds 60 = .ok (.aload_n 0, 1) := by decide +kernel
theorem dX0_withinBounds_61 : decode cX0_withinBounds 61 = .ok (.iload_n 1, 1) := by decide +kernel
theorem dX0_withinBounds_62 : decode cX0_withinBounds 62 = .ok (.iconst 1, 1) := by decide +kernel
theorem dX0_withinBounds_63 : decode cX0_withinBounds 63 = .ok (.iadd, 1) := by decide +kernel
theorem dX0_withinBounds_64 : decode cX0_withinBounds 64 = .ok (.iload_n 1, 1) := by decide +kernel
theorem dX0_withinBounds_65 : decode cX0_withinBounds 65 = .ok (.aload_n 0, 1) := by decide +kernel
theorem dX0_withinBounds_66 : decode cX0_withinBounds 66 = .ok (.iload_n 1, 1) := by decide +kernel
theorem dX0_withinBounds_67 : decode cX0_withinBounds 67 = .ok (.invokevirtual 41, 3) := by decide +kernel
theorem dX0_withinBounds_70 : decode cX0_withinBounds 70 = .ok (.iadd, 1) := by decide +kernel
theorem dX0_withinBounds_71 : decode cX0_withinBounds 71 = .ok (.ldc 52, 2) := by decide +kernel
theorem dX0_withinBounds_73 : decode cX0_withinBounds 73 = .ok (.invokestatic 53, 3) := by decide +kernel
theorem dX0_withinBounds_76 : decode cX0_withinBounds 76 = .ok (.ireturn, 1) := by decide +kernel
theorem dX0_withinBounds_77 : decode cX0_withinBounds 77 = .ok (.aload_n 0, 1) := by decide +kernel
theorem dX0_withinBounds_78 : decode cX0_withinBounds 78 = .ok (.iload_n 1, 1) := by decide +kernel
theorem dX0_withinBounds_79 : decode cX0_withinBounds 79 = .ok (.iconst 1, 1) := by decide +kernel
theorem dX0_withinBounds_80 : decode cX0_withinBounds 80 = .ok (.iadd, 1) := by decide +kernel
theorem dX0_withinBounds_81 : decode cX0_withinBounds 81 = .ok (.invokevirtual 34, 3) := by decide +kernel
theorem dX0_withinBounds_84 : decode cX0_withinBounds 84 = .ok (.iconst 1, 1) := by decide +kernel
theorem dX0_withinBounds_85 : decode cX0_withinBounds 85 = .ok (.invokestatic 57, 3) := by decide +kernel
theorem dX0_withinBounds_88 : decode cX0_withinBounds 88 = .ok (.ireturn, 1) := by decide +kernel
theorem dX0_withinBounds_89 : decode cX0_withinBounds 89 = .ok (.aload_n 0, 1) := by decide +kernel
theorem dX0_withinBounds_90 : decode cX0_withinBounds 90 = .ok (.iload_n 1, 1) := by decide +kernel
theorem dX0_withinBounds_91 : decode cX0_withinBounds 91 = .ok (.iconst 1, 1) := by decide +kernel
theorem dX0_withinBounds_92 : decode cX0_withinBounds 92 = .ok (.iadd, 1) := by decide +kernel
theorem dX0_withinBounds_93 : decode cX0_withinBounds 93 = .ok (.invokevirtual 34, 3) := by decide +kernel
theorem dX0_withinBounds_96 : decode cX0_withinBounds 96 = .ok (.iconst 4, 1) := by decide +kernel
theorem dX0_withinBounds_97 : decode cX0_withinBounds 97 = .ok (.invokestatic 57, 3) := by decide +kernel
theorem dX0_withinBounds_100 : decode cX0_withinBounds 100 = .ok (.ireturn, 1) := by decide +kernel
theorem dX0_withinBounds_101 : decode cX0_withinBounds 101 = .ok (.aload_n 0, 1) := by decide +kernel
theorem dX0_withinBounds_102 : decode cX0_withinBounds 102 = .ok (.iload_n 1, 1) := by decide +kernel
theorem dX0_withinBounds_103 : decode cX0_withinBounds 103 = .ok (.iconst 1, 1) := by decide +kernel
theorem dX0_withinBounds_104 : decode cX0_withinBounds 104 = .ok (.iadd, 1) := by decide +kernel
theorem dX0_withinBounds_105 : decode cX0_withinBounds 105 = .ok (.iload_n 1, 1) := by decide +kernel
theorem dX0_withinBounds_106 : decode cX0_withinBounds 106 = .ok (.iconst 3, 1) := by decide +kernel
theorem dX0_withinBounds_107 : decode cX0_withinBounds 107 = .ok (.iadd, 1) := by decide +kernel
theorem dX0_withinBounds_108 : decode cX0_withinBounds 108 = .ok (.ldc 61, 2) := by decide +kernel
theorem dX0_withinBounds_110 : decode cX0_withinBounds 110 = .ok (.invokestatic 53, 3) := by decide +kernel
theorem dX0_withinBounds_113 : decode cX0_withinBounds 113 = .ok (.ifCond .eq 37, 3) := by decide +kernel
theorem dX0_withinBounds_116 : decode cX0_withinBounds 116 = .ok (.aload_n 0, 1) := by decide +kernel
theorem dX0_withinBounds_117 : decode cX0_withinBounds 117 = .ok (.iload_n 1, 1) := by decide +kernel
theorem dX0_withinBounds_118 : decode cX0_withinBounds 118 = .ok (.iconst 3, 1) := by decide +kernel
theorem dX0_withinBounds_119 : decode cX0_withinBounds 119 = .ok (.iadd, 1) := by decide +kernel
theorem dX0_withinBounds_120 : decode cX0_withinBounds 120 = .ok (.invokevirtual 34, 3) := by decide +kernel
theorem dX0_withinBounds_123 : decode cX0_withinBounds 123 = .ok (.ldc 61, 2) := by decide +kernel
theorem dX0_withinBounds_125 : decode cX0_withinBounds 125 = .ok (.invokestatic 57, 3) := by decide +kernel
theorem dX0_withinBounds_128 : decode cX0_withinBounds 128 = .ok (.ifCond .eq 22, 3) := by decide +kernel
theorem dX0_withinBounds_131 : decode cX0_withinBounds 131 = .ok (.aload_n 0, 1) := by decide +kernel
theorem dX0_withinBounds_132 : decode cX0_withinBounds 132 = .ok (.iload_n 1, 1) := by decide +kernel
theorem dX0_withinBounds_133 : decode cX0_withinBounds 133 = .ok (.iconst 4, 1) := by decide +kernel
theorem dX0_withinBounds_134 : decode cX0_withinBounds 134 = .ok (.iadd, 1) := by decide +kernel
theorem dX0_withinBounds_135 : decode cX0_withinBounds 135 = .ok (.invokevirtual 34, 3) := by decide +kernel
theorem dX0_withinBounds_138 : decode cX0_withinBounds 138 = .ok (.ldc 61, 2) := by decide +kernel
theorem dX0_withinBounds_140 : decode cX0_withinBounds 140 = .ok (.invokestatic 57, 3) := by decide +kernel
theorem dX0_withinBounds_143 : decode cX0_withinBounds 143 = .ok (.ifCond .eq 7, 3) := by decide +kernel
theorem dX0_withinBounds_146 : decode cX0_withinBounds 146 = .ok (.iconst 1, 1) := by decide +kernel
theorem dX0_withinBounds_147 : decode cX0_withinBounds 147 = .ok (.goto 4, 3) := by decide +kernel
theorem dX0_withinBounds_150 : decode cX0_withinBounds 150 = .ok (.iconst 0, 1) := by decide +kernel
theorem dX0_withinBounds_151 : decode cX0_withinBounds 151 = .ok (.ireturn, 1) := by decide +kernel
theorem dX0_withinBounds_152 : decode cX0_withinBounds 152 = .ok (.iconst 1, 1) := by decide +kernel
theorem dX0_withinBounds_153 : decode cX0_withinBounds 153 = .ok (.ireturn, 1) := by decide +kernel
abbrev rm_X0_withinBounds : Room := { frames := 2, cells := 0, slots := 0, locals := 46 }
def w_X0_withinBounds : List Cond := Cond.code yX0_withinBounds cX0_withinBounds 2 (some .boolean) :: uw
set_option maxHeartbeats 4000000 in
set_option maxRecDepth 100000 in
theorem c_X0_withinBounds (l : Launch) (dC : Nat → ClassId) (dI : Nat → Nat → Nat) (cI cZ cO : ClassId) (tL sz : Nat) (h0 : Nat) (h1 : Nat) (v0_count : Int32) (f1 : Nat → Int32) (p1 : Int32) (res : Int32) (hM : m_X0_withinBounds v0_count f1 p1 = some res) : Met l yX0_withinBounds w_X0_withinBounds rm_X0_withinBounds (PCx [.ref h0, .int p1] (dC, dI) [(cI, .int), (cZ, .boolean), (cO, .object "ListPainter$Settings")] sz tL [(h0, .inr (9, [.ref h1, .int v0_count])), (h1, .inl (cI, 1500, .inl f1))]) (QMz res (dC, dI) [(cI, .int), (cZ, .boolean), (cO, .object "ListPainter$Settings")] (va_A [(h0, .inr (9, [.ref h1, .int v0_count])), (h1, .inl (cI, 1500, .inl f1))] sz) [(h0, .inr (9, [.ref h1, .int v0_count])), (h1, .inl (cI, 1500, .inl f1))]) 0 0 (va_A [(h0, .inr (9, [.ref h1, .int v0_count])), (h1, .inl (cI, 1500, .inl f1))] sz) := by
  refine Met.ofW (cc := cX0_withinBounds) (maxL := 2) (ret := (some .boolean)) (by decide) rfl ?_
  intro p e s m args below meth c s₁ B hml hv
  obtain ⟨rfl, hsz, hP, hK, hD0, hG⟩ := hv
  have hx := B.exec
  have hb := B.bytes
  have hr := B.returns
  have hu : ∀ w ∈ uw, w.before ([.ref h0, .int p1] : List Value).toArray s = true := fun w h => atoms_spec (ws := w_X0_withinBounds) B.pre w (List.mem_cons_of_mem _ h)
  have hown : s.vm.findClass RX0 = some m.cls := findClass_of_methodNamed B.named
  have hlocks := B.notSynchronized
  subst hsz
  have hD := hD0.self (sz := s.heap.size)
  generalize hAe : va_A [(h0, .inr (9, [.ref h1, .int v0_count])), (h1, .inl (cI, 1500, .inl f1))] s.heap.size = A at hD hG ⊢
  have hA : ∀ q : Nat, s.heap.size ≤ q → A q := fun q h => by rw [← hAe]; exact Or.inr h
  have hS : va_S A s.heap s.heap [] := va_S.rf
  have hP : va_P (dC, dI) vwCl [(h0, .inr (9, [.ref h1, .int v0_count])), (h1, .inl (cI, 1500, .inl f1))] s.heap := hP
  have hl := lv_entry ([.ref h0, .int p1]) (n := 2) (Nat.le_of_ble_eq_true rfl)
  rw [lg_entry_eq]
  generalize (lg_sl ([.ref h0, .int p1]) ++ List.replicate (2 - (lg_sl ([.ref h0, .int p1])).length) Slot.unset).toArray = ls at hl ⊢
  have hl : lv_has ls 2 [(0, .ref h0), (1, .int p1)] := hl
  rw [m_X0_withinBounds] at hM
  suffices hgo : ∀ (H : Heap) (locs : List Loc), va_P (dC, dI) vwCl [(h0, .inr (9, [.ref h1, .int v0_count])), (h1, .inl (cI, 1500, .inl f1))] H → va_D A [(h0, .inr (9, [.ref h1, .int v0_count])), (h1, .inl (cI, 1500, .inl f1))] → va_S A s.heap H locs → W p l e (headSpec w_X0_withinBounds rm_X0_withinBounds).room s m ([.ref h0, .int p1] : List Value).toArray below meth c H locs 0 0 (MQ below (QMz res (dC, dI) [(cI, .int), (cZ, .boolean), (cO, .object "ListPainter$Settings")] A [(h0, .inr (9, [.ref h1, .int v0_count])), (h1, .inl (cI, 1500, .inl f1))]) ([.ref h0, .int p1] : List Value).toArray s 0 0 A) (F0 m 0 ls []) from hgo _ _ hP hD hS
  intro H locs hP hD hS
  refine lv_aload_n hx hb dX0_withinBounds_0 rfl (lv_at hl 0 rfl) ?_
  refine lv_iload_n hx hb dX0_withinBounds_1 rfl (lv_at hl 1 rfl) ?_
  obtain ⟨r_1, hm_2, hM⟩ := bd1_u hM
  refine cVi (r := r_1) (As := [.int p1]) (rest := []) ⟨hx, hb, hml, hown, hu⟩ (c_X10_word l dC dI cI cZ cO tL H.size h0 h1 v0_count f1 p1 r_1 hm_2) (cwV 1 hu (gV kw_215 kw_3 kw_4 kw_5 kw_6) rfl rfl rfl (by decide +kernel) ⟨Nat.le_of_ble_eq_true rfl, Nat.le_of_ble_eq_true rfl⟩) hP hD hS hA hK hG [0, 1] (by decide) rfl [some 0, some 1] 2 rfl (by decide +kernel) rfl 9 0 rfl rfl rfl rfl hl.1 rfl (Nat.le_of_ble_eq_true rfl) dX0_withinBounds_2 (Nat.zero_le _) (Nat.zero_le _) (fun H locs hP hD hS => ?_)
  have hP : va_P (dC, dI) vwCl [(h0, .inr (9, [.ref h1, .int v0_count])), (h1, .inl (cI, 1500, .inl f1))] H := hP
  have hD : va_D A [(h0, .inr (9, [.ref h1, .int v0_count])), (h1, .inl (cI, 1500, .inl f1))] := hD
  obtain ⟨K60_3, eK60_3, hM⟩ := jn_u hM
  have hJ60_3 : ∀ (H : Heap) (locs : List Loc) (ls : Array Slot), va_P (dC, dI) vwCl [(h0, .inr (9, [.ref h1, .int v0_count])), (h1, .inl (cI, 1500, .inl f1))] H → va_D A [(h0, .inr (9, [.ref h1, .int v0_count])), (h1, .inl (cI, 1500, .inl f1))] → va_S A s.heap H locs → lv_has ls 2 [(0, .ref h0), (1, .int p1)] → K60_3 = some res → W p l e (headSpec w_X0_withinBounds rm_X0_withinBounds).room s m ([.ref h0, .int p1] : List Value).toArray below meth c H locs 0 0 (MQ below (QMz res (dC, dI) [(cI, .int), (cZ, .boolean), (cO, .object "ListPainter$Settings")] A [(h0, .inr (9, [.ref h1, .int v0_count])), (h1, .inl (cI, 1500, .inl f1))]) ([.ref h0, .int p1] : List Value).toArray s 0 0 A) (F0 m 60 ls []) := by
    intro H locs ls hP hD hS hl hM
    have hM := ja0 eK60_3 hM
    refine lv_aload_n hx hb dX0_withinBounds_60 rfl (lv_at hl 0 rfl) ?_
    refine lv_iload_n hx hb dX0_withinBounds_61 rfl (lv_at hl 1 rfl) ?_
    refine lv_iconst (v := 1) hx hb dX0_withinBounds_62 (by decide) ?_
    refine lv_iadd hx hb dX0_withinBounds_63 ?_
    refine lv_iload_n hx hb dX0_withinBounds_64 rfl (lv_at hl 1 rfl) ?_
    refine lv_aload_n hx hb dX0_withinBounds_65 rfl (lv_at hl 0 rfl) ?_
    refine lv_iload_n hx hb dX0_withinBounds_66 rfl (lv_at hl 1 rfl) ?_
    obtain ⟨r_4, hm_5, hM⟩ := bd1_u hM
    refine cVi (r := r_4) (As := [.int p1]) (rest := [.int p1, .int (p1 + 1), .ref h0]) ⟨hx, hb, hml, hown, hu⟩ (c_X10_lengthAt l dC dI cI cZ cO tL H.size h0 h1 v0_count f1 p1 r_4 hm_5) (cwV 1 hu (gV kw_216 kw_16 kw_17 kw_5 kw_18) rfl rfl rfl (by decide +kernel) ⟨Nat.le_of_ble_eq_true rfl, Nat.le_of_ble_eq_true rfl⟩) hP hD hS hA hK hG [0, 1] (by decide) rfl [some 0, some 1] 2 rfl (by decide +kernel) rfl 9 0 rfl rfl rfl rfl hl.1 rfl (Nat.le_of_ble_eq_true rfl) dX0_withinBounds_67 (Nat.zero_le _) (Nat.zero_le _) (fun H locs hP hD hS => ?_)
    have hP : va_P (dC, dI) vwCl [(h0, .inr (9, [.ref h1, .int v0_count])), (h1, .inl (cI, 1500, .inl f1))] H := hP
    have hD : va_D A [(h0, .inr (9, [.ref h1, .int v0_count])), (h1, .inl (cI, 1500, .inl f1))] := hD
    refine lv_iadd hx hb dX0_withinBounds_70 ?_
    refine lv_ldc (v := 67108864) hx hb hown (hu _ kw_217) dX0_withinBounds_71 ?_
    obtain ⟨r_6, hm_7, hM⟩ := bd1_u hM
    refine cSz (r := r_6) (As := [.ref h0, .int (p1 + 1), .int (p1 + r_4), .int 67108864]) (rest := []) ⟨hx, hb, hml, hown, hu⟩ (c_X0_allBelow l dC dI cI cZ cO tL H.size h0 h1 v0_count f1 (p1 + 1) (p1 + r_4) 67108864 r_6 hm_7) (va_cwS 4 hu (gS kw_218 kw_219 kw_220 kw_221) rfl rfl rfl (by decide +kernel) ⟨Nat.le_of_ble_eq_true rfl, Nat.le_of_ble_eq_true rfl⟩) hP hD hS hA hK hG [0, 1] (by decide) rfl [some 0, some 1] 2 rfl (by decide +kernel) rfl rfl hl.1 rfl (Nat.le_of_ble_eq_true rfl) dX0_withinBounds_73 (Nat.zero_le _) (Nat.zero_le _) (fun H locs hz_r_6 hP hD hS => ?_)
    have hP : va_P (dC, dI) vwCl [(h0, .inr (9, [.ref h1, .int v0_count])), (h1, .inl (cI, 1500, .inl f1))] H := hP
    have hD : va_D A [(h0, .inr (9, [.ref h1, .int v0_count])), (h1, .inl (cI, 1500, .inl f1))] := hD
    have h9 := Option.some.inj hM
    subst h9
    exact W.zret (v := r_6) hx hb hr (zb_n hz_r_6) (fun t ht hW => QMz_mk hz_r_6 (by rw [ht]; exact hP) (va_K.moved hW.alike hK) hD (hS.F ht)) hS.2.2 dX0_withinBounds_76
  by_cases c8_0 : r_1 = 4
  · have hM := if_t c8_0 hM
    refine lv_tableIn (tgt := 60) hx hb dX0_withinBounds_5 (by rw [c8_0]; decide) (by rw [c8_0]; decide) (by rw [c8_0]; rfl) (by decide) ?_
    exact hJ60_3  H locs ls hP hD hS (lv_sub hl [0, 1] rfl) hM
  · have hM := if_f c8_0 hM
    by_cases c8_1 : r_1 = 5
    · have hM := if_t c8_1 hM
      refine lv_tableIn (tgt := 60) hx hb dX0_withinBounds_5 (by rw [c8_1]; decide) (by rw [c8_1]; decide) (by rw [c8_1]; rfl) (by decide) ?_
      exact hJ60_3  H locs ls hP hD hS (lv_sub hl [0, 1] rfl) hM
    · have hM := if_f c8_1 hM
      by_cases c8_2 : r_1 = 6
      · have hM := if_t c8_2 hM
        refine lv_tableIn (tgt := 60) hx hb dX0_withinBounds_5 (by rw [c8_2]; decide) (by rw [c8_2]; decide) (by rw [c8_2]; rfl) (by decide) ?_
        exact hJ60_3  H locs ls hP hD hS (lv_sub hl [0, 1] rfl) hM
      · have hM := if_f c8_2 hM
        by_cases c8_3 : r_1 = 7
        · have hM := if_t c8_3 hM
          refine lv_tableIn (tgt := 152) hx hb dX0_withinBounds_5 (by rw [c8_3]; decide) (by rw [c8_3]; decide) (by rw [c8_3]; rfl) (by decide) ?_
          refine lv_iconst (v := 1) hx hb dX0_withinBounds_152 (by decide) ?_
          have h9 := Option.some.inj hM
          subst h9
          exact W.zret (v := 1) hx hb hr (zb_n (Or.inr rfl)) (fun t ht hW => QMz_mk (Or.inr rfl) (by rw [ht]; exact hP) (va_K.moved hW.alike hK) hD (hS.F ht)) hS.2.2 dX0_withinBounds_153
        · have hM := if_f c8_3 hM
          by_cases c8_4 : r_1 = 8
          · have hM := if_t c8_4 hM
            refine lv_tableIn (tgt := 60) hx hb dX0_withinBounds_5 (by rw [c8_4]; decide) (by rw [c8_4]; decide) (by rw [c8_4]; rfl) (by decide) ?_
            exact hJ60_3  H locs ls hP hD hS (lv_sub hl [0, 1] rfl) hM
          · have hM := if_f c8_4 hM
            by_cases c8_5 : r_1 = 9
            · have hM := if_t c8_5 hM
              refine lv_tableIn (tgt := 77) hx hb dX0_withinBounds_5 (by rw [c8_5]; decide) (by rw [c8_5]; decide) (by rw [c8_5]; rfl) (by decide) ?_
              refine lv_aload_n hx hb dX0_withinBounds_77 rfl (lv_at hl 0 rfl) ?_
              refine lv_iload_n hx hb dX0_withinBounds_78 rfl (lv_at hl 1 rfl) ?_
              refine lv_iconst (v := 1) hx hb dX0_withinBounds_79 (by decide) ?_
              refine lv_iadd hx hb dX0_withinBounds_80 ?_
              obtain ⟨r_9, hm_10, hM⟩ := bd1_u hM
              refine cVi (r := r_9) (As := [.int (p1 + 1)]) (rest := []) ⟨hx, hb, hml, hown, hu⟩ (c_X10_word l dC dI cI cZ cO tL H.size h0 h1 v0_count f1 (p1 + 1) r_9 hm_10) (cwV 1 hu (gV kw_215 kw_3 kw_4 kw_5 kw_6) rfl rfl rfl (by decide +kernel) ⟨Nat.le_of_ble_eq_true rfl, Nat.le_of_ble_eq_true rfl⟩) hP hD hS hA hK hG [0, 1] (by decide) rfl [some 0, some 1] 2 rfl (by decide +kernel) rfl 9 0 rfl rfl rfl rfl hl.1 rfl (Nat.le_of_ble_eq_true rfl) dX0_withinBounds_81 (Nat.zero_le _) (Nat.zero_le _) (fun H locs hP hD hS => ?_)
              have hP : va_P (dC, dI) vwCl [(h0, .inr (9, [.ref h1, .int v0_count])), (h1, .inl (cI, 1500, .inl f1))] H := hP
              have hD : va_D A [(h0, .inr (9, [.ref h1, .int v0_count])), (h1, .inl (cI, 1500, .inl f1))] := hD
              refine lv_iconst (v := 1) hx hb dX0_withinBounds_84 (by decide) ?_
              obtain ⟨r_11, hm_12, hM⟩ := bd1_u hM
              refine cSz (r := r_11) (As := [.int r_9, .int 1]) (rest := []) ⟨hx, hb, hml, hown, hu⟩ (c_X0_isWithin l dC dI cI cZ cO tL H.size r_9 1 r_11 hm_12) (va_cwS 2 hu (gS kw_222 kw_223 kw_220 kw_224) rfl rfl rfl (by decide +kernel) ⟨Nat.le_of_ble_eq_true rfl, Nat.le_of_ble_eq_true rfl⟩) hP hD hS hA hK hG [] (by decide) rfl [none, none] 0 rfl (by decide +kernel) rfl rfl hl.1 rfl (Nat.le_of_ble_eq_true rfl) dX0_withinBounds_85 (Nat.zero_le _) (Nat.zero_le _) (fun H locs hz_r_11 hP hD hS => ?_)
              have hP : va_P (dC, dI) vwCl [(h0, .inr (9, [.ref h1, .int v0_count])), (h1, .inl (cI, 1500, .inl f1))] H := hP
              have hD : va_D A [(h0, .inr (9, [.ref h1, .int v0_count])), (h1, .inl (cI, 1500, .inl f1))] := hD
              have h9 := Option.some.inj hM
              subst h9
              exact W.zret (v := r_11) hx hb hr (zb_n hz_r_11) (fun t ht hW => QMz_mk hz_r_11 (by rw [ht]; exact hP) (va_K.moved hW.alike hK) hD (hS.F ht)) hS.2.2 dX0_withinBounds_88
            · have hM := if_f c8_5 hM
              by_cases c8_6 : r_1 = 10
              · have hM := if_t c8_6 hM
                refine lv_tableIn (tgt := 152) hx hb dX0_withinBounds_5 (by rw [c8_6]; decide) (by rw [c8_6]; decide) (by rw [c8_6]; rfl) (by decide) ?_
                refine lv_iconst (v := 1) hx hb dX0_withinBounds_152 (by decide) ?_
                have h9 := Option.some.inj hM
                subst h9
                exact W.zret (v := 1) hx hb hr (zb_n (Or.inr rfl)) (fun t ht hW => QMz_mk (Or.inr rfl) (by rw [ht]; exact hP) (va_K.moved hW.alike hK) hD (hS.F ht)) hS.2.2 dX0_withinBounds_153
              · have hM := if_f c8_6 hM
                by_cases c8_7 : r_1 = 11
                · have hM := if_t c8_7 hM
                  refine lv_tableIn (tgt := 89) hx hb dX0_withinBounds_5 (by rw [c8_7]; decide) (by rw [c8_7]; decide) (by rw [c8_7]; rfl) (by decide) ?_
                  refine lv_aload_n hx hb dX0_withinBounds_89 rfl (lv_at hl 0 rfl) ?_
                  refine lv_iload_n hx hb dX0_withinBounds_90 rfl (lv_at hl 1 rfl) ?_
                  refine lv_iconst (v := 1) hx hb dX0_withinBounds_91 (by decide) ?_
                  refine lv_iadd hx hb dX0_withinBounds_92 ?_
                  obtain ⟨r_13, hm_14, hM⟩ := bd1_u hM
                  refine cVi (r := r_13) (As := [.int (p1 + 1)]) (rest := []) ⟨hx, hb, hml, hown, hu⟩ (c_X10_word l dC dI cI cZ cO tL H.size h0 h1 v0_count f1 (p1 + 1) r_13 hm_14) (cwV 1 hu (gV kw_215 kw_3 kw_4 kw_5 kw_6) rfl rfl rfl (by decide +kernel) ⟨Nat.le_of_ble_eq_true rfl, Nat.le_of_ble_eq_true rfl⟩) hP hD hS hA hK hG [0, 1] (by decide) rfl [some 0, some 1] 2 rfl (by decide +kernel) rfl 9 0 rfl rfl rfl rfl hl.1 rfl (Nat.le_of_ble_eq_true rfl) dX0_withinBounds_93 (Nat.zero_le _) (Nat.zero_le _) (fun H locs hP hD hS => ?_)
                  have hP : va_P (dC, dI) vwCl [(h0, .inr (9, [.ref h1, .int v0_count])), (h1, .inl (cI, 1500, .inl f1))] H := hP
                  have hD : va_D A [(h0, .inr (9, [.ref h1, .int v0_count])), (h1, .inl (cI, 1500, .inl f1))] := hD
                  refine lv_iconst (v := 4) hx hb dX0_withinBounds_96 (by decide) ?_
                  obtain ⟨r_15, hm_16, hM⟩ := bd1_u hM
                  refine cSz (r := r_15) (As := [.int r_13, .int 4]) (rest := []) ⟨hx, hb, hml, hown, hu⟩ (c_X0_isWithin l dC dI cI cZ cO tL H.size r_13 4 r_15 hm_16) (va_cwS 2 hu (gS kw_222 kw_223 kw_220 kw_224) rfl rfl rfl (by decide +kernel) ⟨Nat.le_of_ble_eq_true rfl, Nat.le_of_ble_eq_true rfl⟩) hP hD hS hA hK hG [] (by decide) rfl [none, none] 0 rfl (by decide +kernel) rfl rfl hl.1 rfl (Nat.le_of_ble_eq_true rfl) dX0_withinBounds_97 (Nat.zero_le _) (Nat.zero_le _) (fun H locs hz_r_15 hP hD hS => ?_)
                  have hP : va_P (dC, dI) vwCl [(h0, .inr (9, [.ref h1, .int v0_count])), (h1, .inl (cI, 1500, .inl f1))] H := hP
                  have hD : va_D A [(h0, .inr (9, [.ref h1, .int v0_count])), (h1, .inl (cI, 1500, .inl f1))] := hD
                  have h9 := Option.some.inj hM
                  subst h9
                  exact W.zret (v := r_15) hx hb hr (zb_n hz_r_15) (fun t ht hW => QMz_mk hz_r_15 (by rw [ht]; exact hP) (va_K.moved hW.alike hK) hD (hS.F ht)) hS.2.2 dX0_withinBounds_100
                · have hM := if_f c8_7 hM
                  by_cases c8_8 : r_1 = 12
                  · have hM := if_t c8_8 hM
                    refine lv_tableIn (tgt := 152) hx hb dX0_withinBounds_5 (by rw [c8_8]; decide) (by rw [c8_8]; decide) (by rw [c8_8]; rfl) (by decide) ?_
                    refine lv_iconst (v := 1) hx hb dX0_withinBounds_152 (by decide) ?_
                    have h9 := Option.some.inj hM
                    subst h9
                    exact W.zret (v := 1) hx hb hr (zb_n (Or.inr rfl)) (fun t ht hW => QMz_mk (Or.inr rfl) (by rw [ht]; exact hP) (va_K.moved hW.alike hK) hD (hS.F ht)) hS.2.2 dX0_withinBounds_153
                  · have hM := if_f c8_8 hM
                    by_cases c8_9 : r_1 = 13
                    · have hM := if_t c8_9 hM
                      refine lv_tableIn (tgt := 101) hx hb dX0_withinBounds_5 (by rw [c8_9]; decide) (by rw [c8_9]; decide) (by rw [c8_9]; rfl) (by decide) ?_
                      refine lv_aload_n hx hb dX0_withinBounds_101 rfl (lv_at hl 0 rfl) ?_
                      refine lv_iload_n hx hb dX0_withinBounds_102 rfl (lv_at hl 1 rfl) ?_
                      refine lv_iconst (v := 1) hx hb dX0_withinBounds_103 (by decide) ?_
                      refine lv_iadd hx hb dX0_withinBounds_104 ?_
                      refine lv_iload_n hx hb dX0_withinBounds_105 rfl (lv_at hl 1 rfl) ?_
                      refine lv_iconst (v := 3) hx hb dX0_withinBounds_106 (by decide) ?_
                      refine lv_iadd hx hb dX0_withinBounds_107 ?_
                      refine lv_ldc (v := 1000000) hx hb hown (hu _ kw_225) dX0_withinBounds_108 ?_
                      obtain ⟨r_17, hm_18, hM⟩ := bd1_u hM
                      refine cSz (r := r_17) (As := [.ref h0, .int (p1 + 1), .int (p1 + 3), .int 1000000]) (rest := []) ⟨hx, hb, hml, hown, hu⟩ (c_X0_allBelow l dC dI cI cZ cO tL H.size h0 h1 v0_count f1 (p1 + 1) (p1 + 3) 1000000 r_17 hm_18) (va_cwS 4 hu (gS kw_218 kw_219 kw_220 kw_221) rfl rfl rfl (by decide +kernel) ⟨Nat.le_of_ble_eq_true rfl, Nat.le_of_ble_eq_true rfl⟩) hP hD hS hA hK hG [0, 1] (by decide) rfl [some 0, some 1] 2 rfl (by decide +kernel) rfl rfl hl.1 rfl (Nat.le_of_ble_eq_true rfl) dX0_withinBounds_110 (Nat.zero_le _) (Nat.zero_le _) (fun H locs hz_r_17 hP hD hS => ?_)
                      have hP : va_P (dC, dI) vwCl [(h0, .inr (9, [.ref h1, .int v0_count])), (h1, .inl (cI, 1500, .inl f1))] H := hP
                      have hD : va_D A [(h0, .inr (9, [.ref h1, .int v0_count])), (h1, .inl (cI, 1500, .inl f1))] := hD
                      refine lv_if_eq (tgt := 150) hx hb dX0_withinBounds_113 (by decide) (fun c_19 => ?_) (fun c_19 => ?_)
                      · have hM := if_t c_19 hM
                        refine lv_iconst (v := 0) hx hb dX0_withinBounds_150 (by decide) ?_
                        have h9 := Option.some.inj hM
                        subst h9
                        exact W.zret (v := 0) hx hb hr (zb_n (Or.inl rfl)) (fun t ht hW => QMz_mk (Or.inl rfl) (by rw [ht]; exact hP) (va_K.moved hW.alike hK) hD (hS.F ht)) hS.2.2 dX0_withinBounds_151
                      · have hM := if_f c_19 hM
                        refine lv_aload_n hx hb dX0_withinBounds_116 rfl (lv_at hl 0 rfl) ?_
                        refine lv_iload_n hx hb dX0_withinBounds_117 rfl (lv_at hl 1 rfl) ?_
                        refine lv_iconst (v := 3) hx hb dX0_withinBounds_118 (by decide) ?_
                        refine lv_iadd hx hb dX0_withinBounds_119 ?_
                        obtain ⟨r_20, hm_21, hM⟩ := bd1_u hM
                        refine cVi (r := r_20) (As := [.int (p1 + 3)]) (rest := []) ⟨hx, hb, hml, hown, hu⟩ (c_X10_word l dC dI cI cZ cO tL H.size h0 h1 v0_count f1 (p1 + 3) r_20 hm_21) (cwV 1 hu (gV kw_215 kw_3 kw_4 kw_5 kw_6) rfl rfl rfl (by decide +kernel) ⟨Nat.le_of_ble_eq_true rfl, Nat.le_of_ble_eq_true rfl⟩) hP hD hS hA hK hG [0, 1] (by decide) rfl [some 0, some 1] 2 rfl (by decide +kernel) rfl 9 0 rfl rfl rfl rfl hl.1 rfl (Nat.le_of_ble_eq_true rfl) dX0_withinBounds_120 (Nat.zero_le _) (Nat.zero_le _) (fun H locs hP hD hS => ?_)
                        have hP : va_P (dC, dI) vwCl [(h0, .inr (9, [.ref h1, .int v0_count])), (h1, .inl (cI, 1500, .inl f1))] H := hP
                        have hD : va_D A [(h0, .inr (9, [.ref h1, .int v0_count])), (h1, .inl (cI, 1500, .inl f1))] := hD
                        refine lv_ldc (v := 1000000) hx hb hown (hu _ kw_225) dX0_withinBounds_123 ?_
                        obtain ⟨r_22, hm_23, hM⟩ := bd1_u hM
                        refine cSz (r := r_22) (As := [.int r_20, .int 1000000]) (rest := []) ⟨hx, hb, hml, hown, hu⟩ (c_X0_isWithin l dC dI cI cZ cO tL H.size r_20 1000000 r_22 hm_23) (va_cwS 2 hu (gS kw_222 kw_223 kw_220 kw_224) rfl rfl rfl (by decide +kernel) ⟨Nat.le_of_ble_eq_true rfl, Nat.le_of_ble_eq_true rfl⟩) hP hD hS hA hK hG [] (by decide) rfl [none, none] 0 rfl (by decide +kernel) rfl rfl hl.1 rfl (Nat.le_of_ble_eq_true rfl) dX0_withinBounds_125 (Nat.zero_le _) (Nat.zero_le _) (fun H locs hz_r_22 hP hD hS => ?_)
                        have hP : va_P (dC, dI) vwCl [(h0, .inr (9, [.ref h1, .int v0_count])), (h1, .inl (cI, 1500, .inl f1))] H := hP
                        have hD : va_D A [(h0, .inr (9, [.ref h1, .int v0_count])), (h1, .inl (cI, 1500, .inl f1))] := hD
                        refine lv_if_eq (tgt := 150) hx hb dX0_withinBounds_128 (by decide) (fun c_24 => ?_) (fun c_24 => ?_)
                        · have hM := if_t c_24 hM
                          refine lv_iconst (v := 0) hx hb dX0_withinBounds_150 (by decide) ?_
                          have h9 := Option.some.inj hM
                          subst h9
                          exact W.zret (v := 0) hx hb hr (zb_n (Or.inl rfl)) (fun t ht hW => QMz_mk (Or.inl rfl) (by rw [ht]; exact hP) (va_K.moved hW.alike hK) hD (hS.F ht)) hS.2.2 dX0_withinBounds_151
                        · have hM := if_f c_24 hM
                          refine lv_aload_n hx hb dX0_withinBounds_131 rfl (lv_at hl 0 rfl) ?_
                          refine lv_iload_n hx hb dX0_withinBounds_132 rfl (lv_at hl 1 rfl) ?_
                          refine lv_iconst (v := 4) hx hb dX0_withinBounds_133 (by decide) ?_
                          refine lv_iadd hx hb dX0_withinBounds_134 ?_
                          obtain ⟨r_25, hm_26, hM⟩ := bd1_u hM
                          refine cVi (r := r_25) (As := [.int (p1 + 4)]) (rest := []) ⟨hx, hb, hml, hown, hu⟩ (c_X10_word l dC dI cI cZ cO tL H.size h0 h1 v0_count f1 (p1 + 4) r_25 hm_26) (cwV 1 hu (gV kw_215 kw_3 kw_4 kw_5 kw_6) rfl rfl rfl (by decide +kernel) ⟨Nat.le_of_ble_eq_true rfl, Nat.le_of_ble_eq_true rfl⟩) hP hD hS hA hK hG [0, 1] (by decide) rfl [some 0, some 1] 2 rfl (by decide +kernel) rfl 9 0 rfl rfl rfl rfl hl.1 rfl (Nat.le_of_ble_eq_true rfl) dX0_withinBounds_135 (Nat.zero_le _) (Nat.zero_le _) (fun H locs hP hD hS => ?_)
                          have hP : va_P (dC, dI) vwCl [(h0, .inr (9, [.ref h1, .int v0_count])), (h1, .inl (cI, 1500, .inl f1))] H := hP
                          have hD : va_D A [(h0, .inr (9, [.ref h1, .int v0_count])), (h1, .inl (cI, 1500, .inl f1))] := hD
                          refine lv_ldc (v := 1000000) hx hb hown (hu _ kw_225) dX0_withinBounds_138 ?_
                          obtain ⟨r_27, hm_28, hM⟩ := bd1_u hM
                          refine cSz (r := r_27) (As := [.int r_25, .int 1000000]) (rest := []) ⟨hx, hb, hml, hown, hu⟩ (c_X0_isWithin l dC dI cI cZ cO tL H.size r_25 1000000 r_27 hm_28) (va_cwS 2 hu (gS kw_222 kw_223 kw_220 kw_224) rfl rfl rfl (by decide +kernel) ⟨Nat.le_of_ble_eq_true rfl, Nat.le_of_ble_eq_true rfl⟩) hP hD hS hA hK hG [] (by decide) rfl [none, none] 0 rfl (by decide +kernel) rfl rfl hl.1 rfl (Nat.le_of_ble_eq_true rfl) dX0_withinBounds_140 (Nat.zero_le _) (Nat.zero_le _) (fun H locs hz_r_27 hP hD hS => ?_)
                          have hP : va_P (dC, dI) vwCl [(h0, .inr (9, [.ref h1, .int v0_count])), (h1, .inl (cI, 1500, .inl f1))] H := hP
                          have hD : va_D A [(h0, .inr (9, [.ref h1, .int v0_count])), (h1, .inl (cI, 1500, .inl f1))] := hD
                          refine lv_if_eq (tgt := 150) hx hb dX0_withinBounds_143 (by decide) (fun c_29 => ?_) (fun c_29 => ?_)
                          · have hM := if_t c_29 hM
                            refine lv_iconst (v := 0) hx hb dX0_withinBounds_150 (by decide) ?_
                            have h9 := Option.some.inj hM
                            subst h9
                            exact W.zret (v := 0) hx hb hr (zb_n (Or.inl rfl)) (fun t ht hW => QMz_mk (Or.inl rfl) (by rw [ht]; exact hP) (va_K.moved hW.alike hK) hD (hS.F ht)) hS.2.2 dX0_withinBounds_151
                          · have hM := if_f c_29 hM
                            refine lv_iconst (v := 1) hx hb dX0_withinBounds_146 (by decide) ?_
                            refine lv_goto (tgt := 151) hx hb dX0_withinBounds_147 (by decide) ?_
                            have h9 := Option.some.inj hM
                            subst h9
                            exact W.zret (v := 1) hx hb hr (zb_n (Or.inr rfl)) (fun t ht hW => QMz_mk (Or.inr rfl) (by rw [ht]; exact hP) (va_K.moved hW.alike hK) hD (hS.F ht)) hS.2.2 dX0_withinBounds_151
                    · have hM := if_f c8_9 hM
                      refine lv_tableOut (tgt := 152) hx hb dX0_withinBounds_5 (by have := lv_neT (a := 4) c8_0 rfl; have := lv_neT (a := 5) c8_1 rfl; have := lv_neT (a := 6) c8_2 rfl; have := lv_neT (a := 7) c8_3 rfl; have := lv_neT (a := 8) c8_4 rfl; have := lv_neT (a := 9) c8_5 rfl; have := lv_neT (a := 10) c8_6 rfl; have := lv_neT (a := 11) c8_7 rfl; have := lv_neT (a := 12) c8_8 rfl; have := lv_neT (a := 13) c8_9 rfl; omega) (by decide) ?_
                      refine lv_iconst (v := 1) hx hb dX0_withinBounds_152 (by decide) ?_
                      have h9 := Option.some.inj hM
                      subst h9
                      exact W.zret (v := 1) hx hb hr (zb_n (Or.inr rfl)) (fun t ht hW => QMz_mk (Or.inr rfl) (by rw [ht]; exact hP) (va_K.moved hW.alike hK) hD (hS.F ht)) hS.2.2 dX0_withinBounds_153
theorem dX0_faultOfWords_0 : decode cX0_faultOfWords 0 = .ok (.aload_n 0, 1) := by decide +kernel
theorem dX0_faultOfWords_1 : decode cX0_faultOfWords 1 = .ok (.iload_n 1, 1) := by decide +kernel
theorem dX0_faultOfWords_2 : decode cX0_faultOfWords 2 = .ok (.invokevirtual 34, 3) := by decide +kernel
theorem dX0_faultOfWords_5 : decode cX0_faultOfWords 5 = .ok (.invokestatic 44, 3) := by decide +kernel
theorem dX0_faultOfWords_8 : decode cX0_faultOfWords 8 = .ok (.ifCond .ne 5, 3) := by decide +kernel
theorem dX0_faultOfWords_11 : decode cX0_faultOfWords 11 = .ok (.iconst 1, 1) := by decide +kernel
theorem dX0_faultOfWords_12 : decode cX0_faultOfWords 12 = .ok (.ireturn, 1) := by decide +kernel
theorem dX0_faultOfWords_13 : decode cX0_faultOfWords 13 = .ok (.aload_n 0, 1) := by decide +kernel
theorem dX0_faultOfWords_14 : decode cX0_faultOfWords 14 = .ok (.iload_n 1, 1) := by decide +kernel
theorem dX0_faultOfWords_15 : decode cX0_faultOfWords 15 = .ok (.invokevirtual 41, 3) := by decide +kernel
theorem dX0_faultOfWords_18 : decode cX0_faultOfWords 18 = .ok (.aload_n 0, 1) := by decide +kernel
theorem dX0_faultOfWords_19 : decode cX0_faultOfWords 19 = .ok (.getfield 25, 3) := by decide +kernel
theorem dX0_faultOfWords_22 : decode cX0_faultOfWords 22 = .ok (.iload_n 1, 1) := by decide +kernel
theorem dX0_faultOfWords_23 : decode cX0_faultOfWords 23 = .ok (.isub, 1) := by decide +kernel
theorem dX0_faultOfWords_24 : decode cX0_faultOfWords 24 = .ok (.if_icmp .le 5, 3) := by decide +kernel
theorem dX0_faultOfWords_27 : decode cX0_faultOfWords 27 = .ok (.iconst 2, 1) := by decide +kernel
theorem dX0_faultOfWords_28 : decode cX0_faultOfWords 28 = .ok (.ireturn, 1) := by decide +kernel
theorem dX0_faultOfWords_29 : decode cX0_faultOfWords 29 = .ok (.aload_n 0, 1) := by decide +kernel
theorem dX0_faultOfWords_30 : decode cX0_faultOfWords 30 = .ok (.iload_n 1, 1) := by decide +kernel
theorem dX0_faultOfWords_31 : decode cX0_faultOfWords 31 = .ok (.invokestatic 48, 3) := by decide +kernel
theorem dX0_faultOfWords_34 : decode cX0_faultOfWords 34 = .ok (.ifCond .eq 7, 3) := by decide +kernel
theorem dX0_faultOfWords_37 : decode cX0_faultOfWords 37 = .ok (.iconst 0, 1) := by decide +kernel
theorem dX0_faultOfWords_38 : decode cX0_faultOfWords 38 = .ok (.goto 4, 3) := by decide +kernel
theorem dX0_faultOfWords_41 : decode cX0_faultOfWords 41 = .ok (.iconst 3, 1) := by decide +kernel
theorem dX0_faultOfWords_42 : decode cX0_faultOfWords 42 = .ok (.ireturn, 1) := by decide +kernel
abbrev rm_X0_faultOfWords : Room := { frames := 3, cells := 0, slots := 0, locals := 67 }
def w_X0_faultOfWords : List Cond := Cond.code yX0_faultOfWords cX0_faultOfWords 2 (some .int) :: uw
set_option maxHeartbeats 4000000 in
set_option maxRecDepth 100000 in
theorem c_X0_faultOfWords (l : Launch) (dC : Nat → ClassId) (dI : Nat → Nat → Nat) (cI cZ cO : ClassId) (tL sz : Nat) (h0 : Nat) (h1 : Nat) (v0_count : Int32) (f1 : Nat → Int32) (p1 : Int32) (res : Int32) (hM : m_X0_faultOfWords v0_count f1 p1 = some res) : Met l yX0_faultOfWords w_X0_faultOfWords rm_X0_faultOfWords (PCx [.ref h0, .int p1] (dC, dI) [(cI, .int), (cZ, .boolean), (cO, .object "ListPainter$Settings")] sz tL [(h0, .inr (9, [.ref h1, .int v0_count])), (h1, .inl (cI, 1500, .inl f1))]) (QMi res (dC, dI) [(cI, .int), (cZ, .boolean), (cO, .object "ListPainter$Settings")] (va_A [(h0, .inr (9, [.ref h1, .int v0_count])), (h1, .inl (cI, 1500, .inl f1))] sz) [(h0, .inr (9, [.ref h1, .int v0_count])), (h1, .inl (cI, 1500, .inl f1))]) 0 0 (va_A [(h0, .inr (9, [.ref h1, .int v0_count])), (h1, .inl (cI, 1500, .inl f1))] sz) := by
  refine Met.ofW (cc := cX0_faultOfWords) (maxL := 2) (ret := (some .int)) (by decide) rfl ?_
  intro p e s m args below meth c s₁ B hml hv
  obtain ⟨rfl, hsz, hP, hK, hD0, hG⟩ := hv
  have hx := B.exec
  have hb := B.bytes
  have hr := B.returns
  have hu : ∀ w ∈ uw, w.before ([.ref h0, .int p1] : List Value).toArray s = true := fun w h => atoms_spec (ws := w_X0_faultOfWords) B.pre w (List.mem_cons_of_mem _ h)
  have hown : s.vm.findClass RX0 = some m.cls := findClass_of_methodNamed B.named
  have hlocks := B.notSynchronized
  subst hsz
  have hD := hD0.self (sz := s.heap.size)
  generalize hAe : va_A [(h0, .inr (9, [.ref h1, .int v0_count])), (h1, .inl (cI, 1500, .inl f1))] s.heap.size = A at hD hG ⊢
  have hA : ∀ q : Nat, s.heap.size ≤ q → A q := fun q h => by rw [← hAe]; exact Or.inr h
  have hS : va_S A s.heap s.heap [] := va_S.rf
  have hP : va_P (dC, dI) vwCl [(h0, .inr (9, [.ref h1, .int v0_count])), (h1, .inl (cI, 1500, .inl f1))] s.heap := hP
  have hl := lv_entry ([.ref h0, .int p1]) (n := 2) (Nat.le_of_ble_eq_true rfl)
  rw [lg_entry_eq]
  generalize (lg_sl ([.ref h0, .int p1]) ++ List.replicate (2 - (lg_sl ([.ref h0, .int p1])).length) Slot.unset).toArray = ls at hl ⊢
  have hl : lv_has ls 2 [(0, .ref h0), (1, .int p1)] := hl
  rw [m_X0_faultOfWords] at hM
  suffices hgo : ∀ (H : Heap) (locs : List Loc), va_P (dC, dI) vwCl [(h0, .inr (9, [.ref h1, .int v0_count])), (h1, .inl (cI, 1500, .inl f1))] H → va_D A [(h0, .inr (9, [.ref h1, .int v0_count])), (h1, .inl (cI, 1500, .inl f1))] → va_S A s.heap H locs → W p l e (headSpec w_X0_faultOfWords rm_X0_faultOfWords).room s m ([.ref h0, .int p1] : List Value).toArray below meth c H locs 0 0 (MQ below (QMi res (dC, dI) [(cI, .int), (cZ, .boolean), (cO, .object "ListPainter$Settings")] A [(h0, .inr (9, [.ref h1, .int v0_count])), (h1, .inl (cI, 1500, .inl f1))]) ([.ref h0, .int p1] : List Value).toArray s 0 0 A) (F0 m 0 ls []) from hgo _ _ hP hD hS
  intro H locs hP hD hS
  refine lv_aload_n hx hb dX0_faultOfWords_0 rfl (lv_at hl 0 rfl) ?_
  refine lv_iload_n hx hb dX0_faultOfWords_1 rfl (lv_at hl 1 rfl) ?_
  obtain ⟨r_1, hm_2, hM⟩ := bd1_u hM
  refine cVi (r := r_1) (As := [.int p1]) (rest := []) ⟨hx, hb, hml, hown, hu⟩ (c_X10_word l dC dI cI cZ cO tL H.size h0 h1 v0_count f1 p1 r_1 hm_2) (cwV 1 hu (gV kw_215 kw_3 kw_4 kw_5 kw_6) rfl rfl rfl (by decide +kernel) ⟨Nat.le_of_ble_eq_true rfl, Nat.le_of_ble_eq_true rfl⟩) hP hD hS hA hK hG [0, 1] (by decide) rfl [some 0, some 1] 2 rfl (by decide +kernel) rfl 9 0 rfl rfl rfl rfl hl.1 rfl (Nat.le_of_ble_eq_true rfl) dX0_faultOfWords_2 (Nat.zero_le _) (Nat.zero_le _) (fun H locs hP hD hS => ?_)
  have hP : va_P (dC, dI) vwCl [(h0, .inr (9, [.ref h1, .int v0_count])), (h1, .inl (cI, 1500, .inl f1))] H := hP
  have hD : va_D A [(h0, .inr (9, [.ref h1, .int v0_count])), (h1, .inl (cI, 1500, .inl f1))] := hD
  obtain ⟨r_3, hm_4, hM⟩ := bd1_u hM
  refine cSz (r := r_3) (As := [.int r_1]) (rest := []) ⟨hx, hb, hml, hown, hu⟩ (c_X10_isCommand l dC dI cI cZ cO tL H.size r_1 r_3 hm_4) (va_cwS 1 hu (gS kw_226 kw_8 kw_5 kw_9) rfl rfl rfl (by decide +kernel) ⟨Nat.le_of_ble_eq_true rfl, Nat.le_of_ble_eq_true rfl⟩) hP hD hS hA hK hG [] (by decide) rfl [none, none] 0 rfl (by decide +kernel) rfl rfl hl.1 rfl (Nat.le_of_ble_eq_true rfl) dX0_faultOfWords_5 (Nat.zero_le _) (Nat.zero_le _) (fun H locs hz_r_3 hP hD hS => ?_)
  have hP : va_P (dC, dI) vwCl [(h0, .inr (9, [.ref h1, .int v0_count])), (h1, .inl (cI, 1500, .inl f1))] H := hP
  have hD : va_D A [(h0, .inr (9, [.ref h1, .int v0_count])), (h1, .inl (cI, 1500, .inl f1))] := hD
  refine lv_if_ne (tgt := 13) hx hb dX0_faultOfWords_8 (by decide) (fun c_5 => ?_) (fun c_5 => ?_)
  · have hM := if_f c_5 hM
    refine lv_aload_n hx hb dX0_faultOfWords_13 rfl (lv_at hl 0 rfl) ?_
    refine lv_iload_n hx hb dX0_faultOfWords_14 rfl (lv_at hl 1 rfl) ?_
    obtain ⟨r_6, hm_7, hM⟩ := bd1_u hM
    refine cVi (r := r_6) (As := [.int p1]) (rest := []) ⟨hx, hb, hml, hown, hu⟩ (c_X10_lengthAt l dC dI cI cZ cO tL H.size h0 h1 v0_count f1 p1 r_6 hm_7) (cwV 1 hu (gV kw_216 kw_16 kw_17 kw_5 kw_18) rfl rfl rfl (by decide +kernel) ⟨Nat.le_of_ble_eq_true rfl, Nat.le_of_ble_eq_true rfl⟩) hP hD hS hA hK hG [0, 1] (by decide) rfl [some 0, some 1] 2 rfl (by decide +kernel) rfl 9 0 rfl rfl rfl rfl hl.1 rfl (Nat.le_of_ble_eq_true rfl) dX0_faultOfWords_15 (Nat.zero_le _) (Nat.zero_le _) (fun H locs hP hD hS => ?_)
    have hP : va_P (dC, dI) vwCl [(h0, .inr (9, [.ref h1, .int v0_count])), (h1, .inl (cI, 1500, .inl f1))] H := hP
    have hD : va_D A [(h0, .inr (9, [.ref h1, .int v0_count])), (h1, .inl (cI, 1500, .inl f1))] := hD
    refine lv_aload_n hx hb dX0_faultOfWords_18 rfl (lv_at hl 0 rfl) ?_
    refine va_getN (D := (dC, dI)) (ci := 9) (v := .int v0_count) (C := RX10) (T := TX10) (N := 2) hx hb hu inX10 hown hK hP 0 rfl rfl 1 (by decide) (gX_nest hG 62 kw_227 rfl) (fun _ h9 => h9) rfl dX0_faultOfWords_19 ?_
    refine lv_iload_n hx hb dX0_faultOfWords_22 rfl (lv_at hl 1 rfl) ?_
    refine lv_isub hx hb dX0_faultOfWords_23 ?_
    refine lv_icmp_le (tgt := 29) hx hb dX0_faultOfWords_24 (by decide) (fun c_8 => ?_) (fun c_8 => ?_)
    · have hM := if_t c_8 hM
      refine lv_aload_n hx hb dX0_faultOfWords_29 rfl (lv_at hl 0 rfl) ?_
      refine lv_iload_n hx hb dX0_faultOfWords_30 rfl (lv_at hl 1 rfl) ?_
      obtain ⟨r_9, hm_10, hM⟩ := bd1_u hM
      refine cSz (r := r_9) (As := [.ref h0, .int p1]) (rest := []) ⟨hx, hb, hml, hown, hu⟩ (c_X0_withinBounds l dC dI cI cZ cO tL H.size h0 h1 v0_count f1 p1 r_9 hm_10) (va_cwS 2 hu (gS kw_228 kw_229 kw_220 kw_230) rfl rfl rfl (by decide +kernel) ⟨Nat.le_of_ble_eq_true rfl, Nat.le_of_ble_eq_true rfl⟩) hP hD hS hA hK hG [0, 1] (by decide) rfl [some 0, some 1] 2 rfl (by decide +kernel) rfl rfl hl.1 rfl (Nat.le_of_ble_eq_true rfl) dX0_faultOfWords_31 (Nat.zero_le _) (Nat.zero_le _) (fun H locs hz_r_9 hP hD hS => ?_)
      have hP : va_P (dC, dI) vwCl [(h0, .inr (9, [.ref h1, .int v0_count])), (h1, .inl (cI, 1500, .inl f1))] H := hP
      have hD : va_D A [(h0, .inr (9, [.ref h1, .int v0_count])), (h1, .inl (cI, 1500, .inl f1))] := hD
      refine lv_if_eq (tgt := 41) hx hb dX0_faultOfWords_34 (by decide) (fun c_11 => ?_) (fun c_11 => ?_)
      · have hM := if_t c_11 hM
        refine lv_iconst (v := 3) hx hb dX0_faultOfWords_41 (by decide) ?_
        have h9 := Option.some.inj hM
        subst h9
        exact W.iret (v := 3) hx hb hr (fun t ht hW => QMi_mk (by rw [ht]; exact hP) (va_K.moved hW.alike hK) hD (hS.F ht)) hS.2.2 dX0_faultOfWords_42
      · have hM := if_f c_11 hM
        refine lv_iconst (v := 0) hx hb dX0_faultOfWords_37 (by decide) ?_
        refine lv_goto (tgt := 42) hx hb dX0_faultOfWords_38 (by decide) ?_
        have h9 := Option.some.inj hM
        subst h9
        exact W.iret (v := 0) hx hb hr (fun t ht hW => QMi_mk (by rw [ht]; exact hP) (va_K.moved hW.alike hK) hD (hS.F ht)) hS.2.2 dX0_faultOfWords_42
    · have hM := if_f c_8 hM
      refine lv_iconst (v := 2) hx hb dX0_faultOfWords_27 (by decide) ?_
      have h9 := Option.some.inj hM
      subst h9
      exact W.iret (v := 2) hx hb hr (fun t ht hW => QMi_mk (by rw [ht]; exact hP) (va_K.moved hW.alike hK) hD (hS.F ht)) hS.2.2 dX0_faultOfWords_28
  · have hM := if_t c_5 hM
    refine lv_iconst (v := 1) hx hb dX0_faultOfWords_11 (by decide) ?_
    have h9 := Option.some.inj hM
    subst h9
    exact W.iret (v := 1) hx hb hr (fun t ht hW => QMi_mk (by rw [ht]; exact hP) (va_K.moved hW.alike hK) hD (hS.F ht)) hS.2.2 dX0_faultOfWords_12
theorem dX0_faultOfLines_0 : decode cX0_faultOfLines 0 = .ok (.aload_n 0, 1) := by decide +kernel
theorem dX0_faultOfLines_1 : decode cX0_faultOfLines 1 = .ok (.getfield 18, 3) := by decide +kernel
theorem dX0_faultOfLines_4 : decode cX0_faultOfLines 4 = .ok (.ifCond .ne 6, 3) := by decide +kernel
theorem dX0_faultOfLines_7 : decode cX0_faultOfLines 7 = .ok (.bipush 6, 2) := by decide +kernel
theorem dX0_faultOfLines_9 : decode cX0_faultOfLines 9 = .ok (.ireturn, 1) := by decide +kernel
theorem dX0_faultOfLines_10 : decode cX0_faultOfLines 10 = .ok (.aload_n 0, 1) := by decide +kernel
theorem dX0_faultOfLines_11 : decode cX0_faultOfLines 11 = .ok (.dup, 1) := by decide +kernel
theorem dX0_faultOfLines_12 : decode cX0_faultOfLines 12 = .ok (.getfield 15, 3) := by decide +kernel
theorem dX0_faultOfLines_15 : decode cX0_faultOfLines 15 = .ok (.iload_n 1, 1) := by decide +kernel
theorem dX0_faultOfLines_16 : decode cX0_faultOfLines 16 = .ok (.iadd, 1) := by decide +kernel
theorem dX0_faultOfLines_17 : decode cX0_faultOfLines 17 = .ok (.putfield 15, 3) := by decide +kernel
theorem dX0_faultOfLines_20 : decode cX0_faultOfLines 20 = .ok (.aload_n 0, 1) := by decide +kernel
theorem dX0_faultOfLines_21 : decode cX0_faultOfLines 21 = .ok (.getfield 15, 3) := by decide +kernel
theorem dX0_faultOfLines_24 : decode cX0_faultOfLines 24 = .ok (.sipush 300, 3) := by decide +kernel
theorem dX0_faultOfLines_27 : decode cX0_faultOfLines 27 = .ok (.if_icmp .le 8, 3) := by decide +kernel
theorem dX0_faultOfLines_30 : decode cX0_faultOfLines 30 = .ok (.bipush 7, 2) := by decide +kernel
theorem dX0_faultOfLines_32 : decode cX0_faultOfLines 32 = .ok (.goto 4, 3) := by decide +kernel
theorem dX0_faultOfLines_35 : decode cX0_faultOfLines 35 = .ok (.iconst 0, 1) := by decide +kernel
theorem dX0_faultOfLines_36 : decode cX0_faultOfLines 36 = .ok (.ireturn, 1) := by decide +kernel
abbrev rm_X0_faultOfLines : Room := { frames := 0, cells := 0, slots := 0, locals := 0 }
def w_X0_faultOfLines : List Cond := Cond.code yX0_faultOfLines cX0_faultOfLines 2 (some .int) :: uw
set_option maxHeartbeats 4000000 in
set_option maxRecDepth 100000 in
theorem c_X0_faultOfLines (l : Launch) (dC : Nat → ClassId) (dI : Nat → Nat → Nat) (cI cZ cO : ClassId) (tL sz : Nat) (h0 : Nat) (v0_place : Int32) (v0_open : Int32) (v0_lines : Int32) (v0_begun : Int32) (p1 : Int32) (res : Int32 × Int32) (hM : m_X0_faultOfLines v0_lines v0_begun p1 = some res) : Met l yX0_faultOfLines w_X0_faultOfLines rm_X0_faultOfLines (PCx [.ref h0, .int p1] (dC, dI) [(cI, .int), (cZ, .boolean), (cO, .object "ListPainter$Settings")] sz tL [(h0, .inr (0, [.int v0_place, .int v0_open, .int v0_lines, .int v0_begun]))]) (QMi (res.1) (dC, dI) [(cI, .int), (cZ, .boolean), (cO, .object "ListPainter$Settings")] (va_A [(h0, .inr (0, [.int v0_place, .int v0_open, .int v0_lines, .int v0_begun]))] sz) [(h0, .inr (0, [.int v0_place, .int v0_open, .int (res.2), .int v0_begun]))]) 0 0 (va_A [(h0, .inr (0, [.int v0_place, .int v0_open, .int v0_lines, .int v0_begun]))] sz) := by
  refine Met.ofW (cc := cX0_faultOfLines) (maxL := 2) (ret := (some .int)) (by decide) rfl ?_
  intro p e s m args below meth c s₁ B hml hv
  obtain ⟨rfl, hsz, hP, hK, hD0, hG⟩ := hv
  have hx := B.exec
  have hb := B.bytes
  have hr := B.returns
  have hu : ∀ w ∈ uw, w.before ([.ref h0, .int p1] : List Value).toArray s = true := fun w h => atoms_spec (ws := w_X0_faultOfLines) B.pre w (List.mem_cons_of_mem _ h)
  have hown : s.vm.findClass RX0 = some m.cls := findClass_of_methodNamed B.named
  have hlocks := B.notSynchronized
  subst hsz
  have hD := hD0.self (sz := s.heap.size)
  generalize hAe : va_A [(h0, .inr (0, [.int v0_place, .int v0_open, .int v0_lines, .int v0_begun]))] s.heap.size = A at hD hG ⊢
  have hA : ∀ q : Nat, s.heap.size ≤ q → A q := fun q h => by rw [← hAe]; exact Or.inr h
  have hS : va_S A s.heap s.heap [] := va_S.rf
  have hP : va_P (dC, dI) vwCl [(h0, .inr (0, [.int v0_place, .int v0_open, .int v0_lines, .int v0_begun]))] s.heap := hP
  have hl := lv_entry ([.ref h0, .int p1]) (n := 2) (Nat.le_of_ble_eq_true rfl)
  rw [lg_entry_eq]
  generalize (lg_sl ([.ref h0, .int p1]) ++ List.replicate (2 - (lg_sl ([.ref h0, .int p1])).length) Slot.unset).toArray = ls at hl ⊢
  have hl : lv_has ls 2 [(0, .ref h0), (1, .int p1)] := hl
  rw [m_X0_faultOfLines] at hM
  suffices hgo : ∀ (H : Heap) (locs : List Loc), va_P (dC, dI) vwCl [(h0, .inr (0, [.int v0_place, .int v0_open, .int v0_lines, .int v0_begun]))] H → va_D A [(h0, .inr (0, [.int v0_place, .int v0_open, .int v0_lines, .int v0_begun]))] → va_S A s.heap H locs → W p l e (headSpec w_X0_faultOfLines rm_X0_faultOfLines).room s m ([.ref h0, .int p1] : List Value).toArray below meth c H locs 0 0 (MQ below (QMi (res.1) (dC, dI) [(cI, .int), (cZ, .boolean), (cO, .object "ListPainter$Settings")] A [(h0, .inr (0, [.int v0_place, .int v0_open, .int (res.2), .int v0_begun]))]) ([.ref h0, .int p1] : List Value).toArray s 0 0 A) (F0 m 0 ls []) from hgo _ _ hP hD hS
  intro H locs hP hD hS
  refine lv_aload_n hx hb dX0_faultOfLines_0 rfl (lv_at hl 0 rfl) ?_
  refine va_get (D := (dC, dI)) (ci := 0) (v := .int v0_begun) (C := RX0) (T := TX0) (N := 4) hx hb hu inX0 hown hK hP 0 rfl rfl 3 (by decide) (hu _ kw_231) (fun _ h9 => h9) rfl dX0_faultOfLines_1 ?_
  refine lv_if_ne (tgt := 10) hx hb dX0_faultOfLines_4 (by decide) (fun c_1 => ?_) (fun c_1 => ?_)
  · have hM := if_f c_1 hM
    refine lv_aload_n hx hb dX0_faultOfLines_10 rfl (lv_at hl 0 rfl) ?_
    refine lv_dup hx hb dX0_faultOfLines_11 rfl ?_
    refine va_get (D := (dC, dI)) (ci := 0) (v := .int v0_lines) (C := RX0) (T := TX0) (N := 4) hx hb hu inX0 hown hK hP 0 rfl rfl 2 (by decide) (hu _ kw_232) (fun _ h9 => h9) rfl dX0_faultOfLines_12 ?_
    refine lv_iload_n hx hb dX0_faultOfLines_15 rfl (lv_at hl 1 rfl) ?_
    refine lv_iadd hx hb dX0_faultOfLines_16 ?_
    refine lv_topi (fun y_2 ey_2 => ?_)
    have hM := nm_u ey_2 hM
    refine va_put (D := (dC, dI)) (ci := 0) (v := .int y_2) (ty := .int) (C := RX0) (T := TX0) (N := 4) hx hb hu inX0 tyX0 tyX0_ok nmX0 hown hK hP hD hS 0 rfl rfl 2 (by decide) (hu _ kw_232) (fun _ h9 => h9) rfl (by decide +kernel) rfl rfl (Nat.le_of_ble_eq_true rfl) dX0_faultOfLines_17 (fun H locs hP hD hS => ?_)
    have hP : va_P (dC, dI) vwCl [(h0, .inr (0, [.int v0_place, .int v0_open, .int y_2, .int v0_begun]))] H := hP
    have hD : va_D A [(h0, .inr (0, [.int v0_place, .int v0_open, .int y_2, .int v0_begun]))] := hD
    refine lv_aload_n hx hb dX0_faultOfLines_20 rfl (lv_at hl 0 rfl) ?_
    refine va_get (D := (dC, dI)) (ci := 0) (v := .int y_2) (C := RX0) (T := TX0) (N := 4) hx hb hu inX0 hown hK hP 0 rfl rfl 2 (by decide) (hu _ kw_232) (fun _ h9 => h9) rfl dX0_faultOfLines_21 ?_
    refine lv_sipush (v := 300) hx hb dX0_faultOfLines_24 (by decide) ?_
    refine lv_icmp_le (tgt := 35) hx hb dX0_faultOfLines_27 (by decide) (fun c_3 => ?_) (fun c_3 => ?_)
    · have hM := if_t c_3 hM
      refine lv_iconst (v := 0) hx hb dX0_faultOfLines_35 (by decide) ?_
      have h9 := Option.some.inj hM
      subst h9
      exact W.iret (v := 0) hx hb hr (fun t ht hW => QMi_mk (by rw [ht]; exact hP) (va_K.moved hW.alike hK) hD (hS.F ht)) hS.2.2 dX0_faultOfLines_36
    · have hM := if_f c_3 hM
      refine lv_bipush (v := 7) hx hb dX0_faultOfLines_30 (by decide) ?_
      refine lv_goto (tgt := 36) hx hb dX0_faultOfLines_32 (by decide) ?_
      have h9 := Option.some.inj hM
      subst h9
      exact W.iret (v := 7) hx hb hr (fun t ht hW => QMi_mk (by rw [ht]; exact hP) (va_K.moved hW.alike hK) hD (hS.F ht)) hS.2.2 dX0_faultOfLines_36
  · have hM := if_t c_1 hM
    refine lv_bipush (v := 6) hx hb dX0_faultOfLines_7 (by decide) ?_
    have h9 := Option.some.inj hM
    subst h9
    exact W.iret (v := 6) hx hb hr (fun t ht hW => QMi_mk (by rw [ht]; exact hP) (va_K.moved hW.alike hK) hD (hS.F ht)) hS.2.2 dX0_faultOfLines_9
theorem dX0_faultOfOrder_0 : decode cX0_faultOfOrder 0 = .ok (.iload_n 1, 1) := by decide +kernel
theorem dX0_faultOfOrder_1 : decode cX0_faultOfOrder 1 = .ok (.tableswitch 138 1 8 #[47, 72, 95, 107, 125, 131, 125, 114], 47) := by decide +kernel
theorem dX0_faultOfOrder_48 : decode cX0_faultOfOrder 48 = .ok (.aload_n 0, 1) := by decide +kernel
theorem dX0_faultOfOrder_49 : decode cX0_faultOfOrder 49 = .ok (.dup, 1) := by decide +kernel
theorem dX0_faultOfOrder_50 : decode cX0_faultOfOrder 50 = .ok (.getfield 9, 3) := by decide +kernel
theorem dX0_faultOfOrder_53 : decode cX0_faultOfOrder 53 = .ok (.iconst 1, 1) := by decide +kernel
theorem dX0_faultOfOrder_54 : decode cX0_faultOfOrder 54 = .ok (.iadd, 1) := by decide +kernel
theorem dX0_faultOfOrder_55 : decode cX0_faultOfOrder 55 = .ok (.putfield 9, 3) := by decide +kernel
theorem dX0_faultOfOrder_58 : decode cX0_faultOfOrder 58 = .ok (.aload_n 0, 1) := by decide +kernel
theorem dX0_faultOfOrder_59 : decode cX0_faultOfOrder 59 = .ok (.getfield 9, 3) := by decide +kernel
theorem dX0_faultOfOrder_62 : decode cX0_faultOfOrder 62 = .ok (.bipush 8, 2) := by decide +kernel
theorem dX0_faultOfOrder_64 : decode cX0_faultOfOrder 64 = .ok (.if_icmp .le 7, 3) := by decide +kernel
theorem dX0_faultOfOrder_67 : decode cX0_faultOfOrder 67 = .ok (.iconst 5, 1) := by decide +kernel
theorem dX0_faultOfOrder_68 : decode cX0_faultOfOrder 68 = .ok (.goto 4, 3) := by decide +kernel
theorem dX0_faultOfOrder_71 : decode cX0_faultOfOrder 71 = .ok (.iconst 0, 1) := by decide +kernel
theorem dX0_faultOfOrder_72 : decode cX0_faultOfOrder 72 = .ok (.ireturn, 1) := by decide +kernel
theorem dX0_faultOfOrder_73 : decode cX0_faultOfOrder 73 = .ok (.aload_n 0, 1) := by decide +kernel
theorem dX0_faultOfOrder_74 : decode cX0_faultOfOrder 74 = .ok (.dup, 1) := by decide +kernel
theorem dX0_faultOfOrder_75 : decode cX0_faultOfOrder 75 = .ok (.getfield 9, 3) := by decide +kernel
theorem dX0_faultOfOrder_78 : decode cX0_faultOfOrder 78 = .ok (.iconst 1, 1) := by decide +kernel
theorem dX0_faultOfOrder_79 : decode cX0_faultOfOrder 79 = .ok (.isub, 1) := by decide +kernel
theorem dX0_faultOfOrder_80 : decode cX0_faultOfOrder 80 = .ok (.putfield 9, 3) := by decide +kernel
theorem dX0_faultOfOrder_83 : decode cX0_faultOfOrder 83 = .ok (.aload_n 0, 1) := by decide +kernel
theorem dX0_faultOfOrder_84 : decode cX0_faultOfOrder 84 = .ok (.getfield 9, 3) := by decide +kernel
theorem dX0_faultOfOrder_87 : decode cX0_faultOfOrder 87 = .ok (.ifCond .ge 7, 3) := by decide +kernel
theorem dX0_faultOfOrder_90 : decode cX0_faultOfOrder 90 = .ok (.iconst 4, 1) := by decide +kernel
theorem dX0_faultOfOrder_91 : decode cX0_faultOfOrder 91 = .ok (.goto 4, 3) := by decide +kernel
theorem dX0_faultOfOrder_94 : decode cX0_faultOfOrder 94 = .ok (.iconst 0, 1) := by decide +kernel
theorem dX0_faultOfOrder_95 : decode cX0_faultOfOrder 95 = .ok (.ireturn, 1) := by decide +kernel
theorem dX0_faultOfOrder_96 : decode cX0_faultOfOrder 96 = .ok (.aload_n 0, 1) := by decide +kernel
theorem dX0_faultOfOrder_97 : decode cX0_faultOfOrder 97 = .ok (.iconst 0, 1) := by decide +kernel
theorem dX0_faultOfOrder_98 : decode cX0_faultOfOrder 98 = .ok (.putfield 15, 3) := by decide +kernel
theorem dX0_faultOfOrder_101 : decode cX0_faultOfOrder 101 = .ok (.aload_n 0, 1) := by decide +kernel
theorem dX0_faultOfOrder_102 : decode cX0_faultOfOrder 102 = .ok (.iconst 0, 1) := by decide +kernel
theorem dX0_faultOfOrder_103 : decode cX0_faultOfOrder 103 = .ok (.putfield 18, 3) := by decide +kernel
theorem dX0_faultOfOrder_106 : decode cX0_faultOfOrder 106 = .ok (.iconst 0, 1) := by decide +kernel
theorem dX0_faultOfOrder_107 : decode cX0_faultOfOrder 107 = .ok (.ireturn, 1) := by decide +kernel
theorem dX0_faultOfOrder_108 : decode cX0_faultOfOrder 108 = .ok (.aload_n 0, 1) := by decide +kernel
theorem dX0_faultOfOrder_109 : decode cX0_faultOfOrder 109 = .ok (.iconst 1, 1) := by decide +kernel
theorem dX0_faultOfOrder_110 : decode cX0_faultOfOrder 110 = .ok (.putfield 18, 3) := by decide +kernel
theorem dX0_faultOfOrder_113 : decode cX0_faultOfOrder 113 = .ok (.iconst 0, 1) := by decide +kernel
theorem dX0_faultOfOrder_114 : decode cX0_faultOfOrder 114 = .ok (.ireturn, 1) := by decide +kernel
theorem dX0_faultOfOrder_115 : decode cX0_faultOfOrder 115 = .ok (.aload_n 0, 1) := by decide +kernel
theorem dX0_faultOfOrder_116 : decode cX0_faultOfOrder 116 = .ok (.iconst 1, 1) := by decide +kernel
theorem dX0_faultOfOrder_117 : decode cX0_faultOfOrder 117 = .ok (.putfield 18, 3) := by decide +kernel
theorem dX0_faultOfOrder_120 : decode cX0_faultOfOrder 120 = .ok (.aload_n 0, 1) := by decide +kernel
theorem dX0_faultOfOrder_121 : decode cX0_faultOfOrder 121 = .ok (.iconst 4, 1) := by decide +kernel
theorem dX0_faultOfOrder_122 : decode cX0_faultOfOrder 122 = .ok (.invokevirtual 62, 3) := by decide +kernel
theorem dX0_faultOfOrder_125 : decode cX0_faultOfOrder 125 = .ok (.ireturn, 1) := by decide +kernel
theorem dX0_faultOfOrder_126 : decode cX0_faultOfOrder 126 = .ok (.aload_n 0, 1) := by decide +kernel
theorem dX0_faultOfOrder_127 : decode cX0_faultOfOrder 127 = .ok (.iconst 1, 1) := by decide +kernel
theorem dX0_faultOfOrder_128 : decode cX0_faultOfOrder 128 = .ok (.invokevirtual 62, 3) := by decide +kernel
theorem dX0_faultOfOrder_131 : decode cX0_faultOfOrder 131 = .ok (.ireturn, 1) := by decide +kernel
theorem dX0_faultOfOrder_132 : decode cX0_faultOfOrder 132 = .ok (.aload_n 0, 1) := by decide +kernel
theorem dX0_faultOfOrder_133 : decode cX0_faultOfOrder 133 = .ok (.bipush 8, 2) := by decide +kernel
theorem dX0_faultOfOrder_135 : decode cX0_faultOfOrder 135 = .ok (.invokevirtual 62, 3) := by decide +kernel
theorem dX0_faultOfOrder_138 : decode cX0_faultOfOrder 138 = .ok (.ireturn, 1) := by decide +kernel
theorem dX0_faultOfOrder_139 : decode cX0_faultOfOrder 139 = .ok (.iconst 0, 1) := by decide +kernel
theorem dX0_faultOfOrder_140 : decode cX0_faultOfOrder 140 = .ok (.ireturn, 1) := by decide +kernel
abbrev rm_X0_faultOfOrder : Room := { frames := 1, cells := 0, slots := 0, locals := 21 }
def w_X0_faultOfOrder : List Cond := Cond.code yX0_faultOfOrder cX0_faultOfOrder 2 (some .int) :: uw
set_option maxHeartbeats 4000000 in
set_option maxRecDepth 100000 in
theorem c_X0_faultOfOrder (l : Launch) (dC : Nat → ClassId) (dI : Nat → Nat → Nat) (cI cZ cO : ClassId) (tL sz : Nat) (h0 : Nat) (v0_place : Int32) (v0_open : Int32) (v0_lines : Int32) (v0_begun : Int32) (p1 : Int32) (res : Int32 × Int32 × Int32 × Int32) (hM : m_X0_faultOfOrder v0_open v0_lines v0_begun p1 = some res) : Met l yX0_faultOfOrder w_X0_faultOfOrder rm_X0_faultOfOrder (PCx [.ref h0, .int p1] (dC, dI) [(cI, .int), (cZ, .boolean), (cO, .object "ListPainter$Settings")] sz tL [(h0, .inr (0, [.int v0_place, .int v0_open, .int v0_lines, .int v0_begun]))]) (QMi (res.1) (dC, dI) [(cI, .int), (cZ, .boolean), (cO, .object "ListPainter$Settings")] (va_A [(h0, .inr (0, [.int v0_place, .int v0_open, .int v0_lines, .int v0_begun]))] sz) [(h0, .inr (0, [.int v0_place, .int (res.2.1), .int (res.2.2.1), .int (res.2.2.2)]))]) 0 0 (va_A [(h0, .inr (0, [.int v0_place, .int v0_open, .int v0_lines, .int v0_begun]))] sz) := by
  refine Met.ofW (cc := cX0_faultOfOrder) (maxL := 2) (ret := (some .int)) (by decide) rfl ?_
  intro p e s m args below meth c s₁ B hml hv
  obtain ⟨rfl, hsz, hP, hK, hD0, hG⟩ := hv
  have hx := B.exec
  have hb := B.bytes
  have hr := B.returns
  have hu : ∀ w ∈ uw, w.before ([.ref h0, .int p1] : List Value).toArray s = true := fun w h => atoms_spec (ws := w_X0_faultOfOrder) B.pre w (List.mem_cons_of_mem _ h)
  have hown : s.vm.findClass RX0 = some m.cls := findClass_of_methodNamed B.named
  have hlocks := B.notSynchronized
  subst hsz
  have hD := hD0.self (sz := s.heap.size)
  generalize hAe : va_A [(h0, .inr (0, [.int v0_place, .int v0_open, .int v0_lines, .int v0_begun]))] s.heap.size = A at hD hG ⊢
  have hA : ∀ q : Nat, s.heap.size ≤ q → A q := fun q h => by rw [← hAe]; exact Or.inr h
  have hS : va_S A s.heap s.heap [] := va_S.rf
  have hP : va_P (dC, dI) vwCl [(h0, .inr (0, [.int v0_place, .int v0_open, .int v0_lines, .int v0_begun]))] s.heap := hP
  have hl := lv_entry ([.ref h0, .int p1]) (n := 2) (Nat.le_of_ble_eq_true rfl)
  rw [lg_entry_eq]
  generalize (lg_sl ([.ref h0, .int p1]) ++ List.replicate (2 - (lg_sl ([.ref h0, .int p1])).length) Slot.unset).toArray = ls at hl ⊢
  have hl : lv_has ls 2 [(0, .ref h0), (1, .int p1)] := hl
  rw [m_X0_faultOfOrder] at hM
  suffices hgo : ∀ (H : Heap) (locs : List Loc), va_P (dC, dI) vwCl [(h0, .inr (0, [.int v0_place, .int v0_open, .int v0_lines, .int v0_begun]))] H → va_D A [(h0, .inr (0, [.int v0_place, .int v0_open, .int v0_lines, .int v0_begun]))] → va_S A s.heap H locs → W p l e (headSpec w_X0_faultOfOrder rm_X0_faultOfOrder).room s m ([.ref h0, .int p1] : List Value).toArray below meth c H locs 0 0 (MQ below (QMi (res.1) (dC, dI) [(cI, .int), (cZ, .boolean), (cO, .object "ListPainter$Settings")] A [(h0, .inr (0, [.int v0_place, .int (res.2.1), .int (res.2.2.1), .int (res.2.2.2)]))]) ([.ref h0, .int p1] : List Value).toArray s 0 0 A) (F0 m 0 ls []) from hgo _ _ hP hD hS
  intro H locs hP hD hS
  refine lv_iload_n hx hb dX0_faultOfOrder_0 rfl (lv_at hl 1 rfl) ?_
  obtain ⟨K126_1, eK126_1, hM⟩ := jn_u hM
  have hJ126_1 : ∀ (H : Heap) (locs : List Loc) (ls : Array Slot), va_P (dC, dI) vwCl [(h0, .inr (0, [.int v0_place, .int v0_open, .int v0_lines, .int v0_begun]))] H → va_D A [(h0, .inr (0, [.int v0_place, .int v0_open, .int v0_lines, .int v0_begun]))] → va_S A s.heap H locs → lv_has ls 2 [(0, .ref h0)] → K126_1 = some res → W p l e (headSpec w_X0_faultOfOrder rm_X0_faultOfOrder).room s m ([.ref h0, .int p1] : List Value).toArray below meth c H locs 0 0 (MQ below (QMi (res.1) (dC, dI) [(cI, .int), (cZ, .boolean), (cO, .object "ListPainter$Settings")] A [(h0, .inr (0, [.int v0_place, .int (res.2.1), .int (res.2.2.1), .int (res.2.2.2)]))]) ([.ref h0, .int p1] : List Value).toArray s 0 0 A) (F0 m 126 ls []) := by
    intro H locs ls hP hD hS hl hM
    have hM := ja0 eK126_1 hM
    refine lv_aload_n hx hb dX0_faultOfOrder_126 rfl (lv_at hl 0 rfl) ?_
    refine lv_iconst (v := 1) hx hb dX0_faultOfOrder_127 (by decide) ?_
    obtain ⟨r_2, v0_3, hm_4, hM⟩ := bd2_u hM
    refine cVi (r := r_2) (As := [.int 1]) (rest := []) ⟨hx, hb, hml, hown, hu⟩ (c_X0_faultOfLines l dC dI cI cZ cO tL H.size h0 v0_place v0_open v0_lines v0_begun 1 (r_2, v0_3) hm_4) (cwV 1 hu (gV kw_233 kw_234 kw_235 kw_220 kw_236) rfl rfl rfl (by decide +kernel) ⟨Nat.le_of_ble_eq_true rfl, Nat.le_of_ble_eq_true rfl⟩) hP hD hS hA hK hG [0] (by decide) rfl [some 0] 1 rfl (by decide +kernel) rfl 0 0 rfl rfl rfl rfl hl.1 rfl (Nat.le_of_ble_eq_true rfl) dX0_faultOfOrder_128 (Nat.zero_le _) (Nat.zero_le _) (fun H locs hP hD hS => ?_)
    have hP : va_P (dC, dI) vwCl [(h0, .inr (0, [.int v0_place, .int v0_open, .int v0_3, .int v0_begun]))] H := hP
    have hD : va_D A [(h0, .inr (0, [.int v0_place, .int v0_open, .int v0_3, .int v0_begun]))] := hD
    have h9 := Option.some.inj hM
    subst h9
    exact W.iret (v := r_2) hx hb hr (fun t ht hW => QMi_mk (by rw [ht]; exact hP) (va_K.moved hW.alike hK) hD (hS.F ht)) hS.2.2 dX0_faultOfOrder_131
  by_cases c5_0 : p1 = 1
  · have hM := if_t c5_0 hM
    refine lv_tableIn (tgt := 48) hx hb dX0_faultOfOrder_1 (by rw [c5_0]; decide) (by rw [c5_0]; decide) (by rw [c5_0]; rfl) (by decide) ?_
    refine lv_aload_n hx hb dX0_faultOfOrder_48 rfl (lv_at hl 0 rfl) ?_
    refine lv_dup hx hb dX0_faultOfOrder_49 rfl ?_
    refine va_get (D := (dC, dI)) (ci := 0) (v := .int v0_open) (C := RX0) (T := TX0) (N := 4) hx hb hu inX0 hown hK hP 0 rfl rfl 1 (by decide) (hu _ kw_237) (fun _ h9 => h9) rfl dX0_faultOfOrder_50 ?_
    refine lv_iconst (v := 1) hx hb dX0_faultOfOrder_53 (by decide) ?_
    refine lv_iadd hx hb dX0_faultOfOrder_54 ?_
    refine lv_topi (fun y_6 ey_6 => ?_)
    have hM := nm_u ey_6 hM
    refine va_put (D := (dC, dI)) (ci := 0) (v := .int y_6) (ty := .int) (C := RX0) (T := TX0) (N := 4) hx hb hu inX0 tyX0 tyX0_ok nmX0 hown hK hP hD hS 0 rfl rfl 1 (by decide) (hu _ kw_237) (fun _ h9 => h9) rfl (by decide +kernel) rfl rfl (Nat.le_of_ble_eq_true rfl) dX0_faultOfOrder_55 (fun H locs hP hD hS => ?_)
    have hP : va_P (dC, dI) vwCl [(h0, .inr (0, [.int v0_place, .int y_6, .int v0_lines, .int v0_begun]))] H := hP
    have hD : va_D A [(h0, .inr (0, [.int v0_place, .int y_6, .int v0_lines, .int v0_begun]))] := hD
    refine lv_aload_n hx hb dX0_faultOfOrder_58 rfl (lv_at hl 0 rfl) ?_
    refine va_get (D := (dC, dI)) (ci := 0) (v := .int y_6) (C := RX0) (T := TX0) (N := 4) hx hb hu inX0 hown hK hP 0 rfl rfl 1 (by decide) (hu _ kw_237) (fun _ h9 => h9) rfl dX0_faultOfOrder_59 ?_
    refine lv_bipush (v := 8) hx hb dX0_faultOfOrder_62 (by decide) ?_
    refine lv_icmp_le (tgt := 71) hx hb dX0_faultOfOrder_64 (by decide) (fun c_7 => ?_) (fun c_7 => ?_)
    · have hM := if_t c_7 hM
      refine lv_iconst (v := 0) hx hb dX0_faultOfOrder_71 (by decide) ?_
      have h9 := Option.some.inj hM
      subst h9
      exact W.iret (v := 0) hx hb hr (fun t ht hW => QMi_mk (by rw [ht]; exact hP) (va_K.moved hW.alike hK) hD (hS.F ht)) hS.2.2 dX0_faultOfOrder_72
    · have hM := if_f c_7 hM
      refine lv_iconst (v := 5) hx hb dX0_faultOfOrder_67 (by decide) ?_
      refine lv_goto (tgt := 72) hx hb dX0_faultOfOrder_68 (by decide) ?_
      have h9 := Option.some.inj hM
      subst h9
      exact W.iret (v := 5) hx hb hr (fun t ht hW => QMi_mk (by rw [ht]; exact hP) (va_K.moved hW.alike hK) hD (hS.F ht)) hS.2.2 dX0_faultOfOrder_72
  · have hM := if_f c5_0 hM
    by_cases c5_1 : p1 = 2
    · have hM := if_t c5_1 hM
      refine lv_tableIn (tgt := 73) hx hb dX0_faultOfOrder_1 (by rw [c5_1]; decide) (by rw [c5_1]; decide) (by rw [c5_1]; rfl) (by decide) ?_
      refine lv_aload_n hx hb dX0_faultOfOrder_73 rfl (lv_at hl 0 rfl) ?_
      refine lv_dup hx hb dX0_faultOfOrder_74 rfl ?_
      refine va_get (D := (dC, dI)) (ci := 0) (v := .int v0_open) (C := RX0) (T := TX0) (N := 4) hx hb hu inX0 hown hK hP 0 rfl rfl 1 (by decide) (hu _ kw_237) (fun _ h9 => h9) rfl dX0_faultOfOrder_75 ?_
      refine lv_iconst (v := 1) hx hb dX0_faultOfOrder_78 (by decide) ?_
      refine lv_isub hx hb dX0_faultOfOrder_79 ?_
      refine lv_topi (fun y_8 ey_8 => ?_)
      have hM := nm_u ey_8 hM
      refine va_put (D := (dC, dI)) (ci := 0) (v := .int y_8) (ty := .int) (C := RX0) (T := TX0) (N := 4) hx hb hu inX0 tyX0 tyX0_ok nmX0 hown hK hP hD hS 0 rfl rfl 1 (by decide) (hu _ kw_237) (fun _ h9 => h9) rfl (by decide +kernel) rfl rfl (Nat.le_of_ble_eq_true rfl) dX0_faultOfOrder_80 (fun H locs hP hD hS => ?_)
      have hP : va_P (dC, dI) vwCl [(h0, .inr (0, [.int v0_place, .int y_8, .int v0_lines, .int v0_begun]))] H := hP
      have hD : va_D A [(h0, .inr (0, [.int v0_place, .int y_8, .int v0_lines, .int v0_begun]))] := hD
      refine lv_aload_n hx hb dX0_faultOfOrder_83 rfl (lv_at hl 0 rfl) ?_
      refine va_get (D := (dC, dI)) (ci := 0) (v := .int y_8) (C := RX0) (T := TX0) (N := 4) hx hb hu inX0 hown hK hP 0 rfl rfl 1 (by decide) (hu _ kw_237) (fun _ h9 => h9) rfl dX0_faultOfOrder_84 ?_
      refine lv_if_ge (tgt := 94) hx hb dX0_faultOfOrder_87 (by decide) (fun c_9 => ?_) (fun c_9 => ?_)
      · have hM := if_t c_9 hM
        refine lv_iconst (v := 0) hx hb dX0_faultOfOrder_94 (by decide) ?_
        have h9 := Option.some.inj hM
        subst h9
        exact W.iret (v := 0) hx hb hr (fun t ht hW => QMi_mk (by rw [ht]; exact hP) (va_K.moved hW.alike hK) hD (hS.F ht)) hS.2.2 dX0_faultOfOrder_95
      · have hM := if_f c_9 hM
        refine lv_iconst (v := 4) hx hb dX0_faultOfOrder_90 (by decide) ?_
        refine lv_goto (tgt := 95) hx hb dX0_faultOfOrder_91 (by decide) ?_
        have h9 := Option.some.inj hM
        subst h9
        exact W.iret (v := 4) hx hb hr (fun t ht hW => QMi_mk (by rw [ht]; exact hP) (va_K.moved hW.alike hK) hD (hS.F ht)) hS.2.2 dX0_faultOfOrder_95
    · have hM := if_f c5_1 hM
      by_cases c5_2 : p1 = 3
      · have hM := if_t c5_2 hM
        refine lv_tableIn (tgt := 96) hx hb dX0_faultOfOrder_1 (by rw [c5_2]; decide) (by rw [c5_2]; decide) (by rw [c5_2]; rfl) (by decide) ?_
        refine lv_aload_n hx hb dX0_faultOfOrder_96 rfl (lv_at hl 0 rfl) ?_
        refine lv_iconst (v := 0) hx hb dX0_faultOfOrder_97 (by decide) ?_
        refine va_put (D := (dC, dI)) (ci := 0) (v := .int 0) (ty := .int) (C := RX0) (T := TX0) (N := 4) hx hb hu inX0 tyX0 tyX0_ok nmX0 hown hK hP hD hS 0 rfl rfl 2 (by decide) (hu _ kw_232) (fun _ h9 => h9) rfl (by decide +kernel) rfl rfl (Nat.le_of_ble_eq_true rfl) dX0_faultOfOrder_98 (fun H locs hP hD hS => ?_)
        have hP : va_P (dC, dI) vwCl [(h0, .inr (0, [.int v0_place, .int v0_open, .int 0, .int v0_begun]))] H := hP
        have hD : va_D A [(h0, .inr (0, [.int v0_place, .int v0_open, .int 0, .int v0_begun]))] := hD
        refine lv_aload_n hx hb dX0_faultOfOrder_101 rfl (lv_at hl 0 rfl) ?_
        refine lv_iconst (v := 0) hx hb dX0_faultOfOrder_102 (by decide) ?_
        refine va_put (D := (dC, dI)) (ci := 0) (v := .int 0) (ty := .boolean) (C := RX0) (T := TX0) (N := 4) hx hb hu inX0 tyX0 tyX0_ok nmX0 hown hK hP hD hS 0 rfl rfl 3 (by decide) (hu _ kw_231) (fun _ h9 => h9) rfl (by decide +kernel) (zb_n (Or.inl rfl)) (zb_f (Or.inl rfl)) (Nat.le_of_ble_eq_true rfl) dX0_faultOfOrder_103 (fun H locs hP hD hS => ?_)
        have hP : va_P (dC, dI) vwCl [(h0, .inr (0, [.int v0_place, .int v0_open, .int 0, .int 0]))] H := hP
        have hD : va_D A [(h0, .inr (0, [.int v0_place, .int v0_open, .int 0, .int 0]))] := hD
        refine lv_iconst (v := 0) hx hb dX0_faultOfOrder_106 (by decide) ?_
        have h9 := Option.some.inj hM
        subst h9
        exact W.iret (v := 0) hx hb hr (fun t ht hW => QMi_mk (by rw [ht]; exact hP) (va_K.moved hW.alike hK) hD (hS.F ht)) hS.2.2 dX0_faultOfOrder_107
      · have hM := if_f c5_2 hM
        by_cases c5_3 : p1 = 4
        · have hM := if_t c5_3 hM
          refine lv_tableIn (tgt := 108) hx hb dX0_faultOfOrder_1 (by rw [c5_3]; decide) (by rw [c5_3]; decide) (by rw [c5_3]; rfl) (by decide) ?_
          refine lv_aload_n hx hb dX0_faultOfOrder_108 rfl (lv_at hl 0 rfl) ?_
          refine lv_iconst (v := 1) hx hb dX0_faultOfOrder_109 (by decide) ?_
          refine va_put (D := (dC, dI)) (ci := 0) (v := .int 1) (ty := .boolean) (C := RX0) (T := TX0) (N := 4) hx hb hu inX0 tyX0 tyX0_ok nmX0 hown hK hP hD hS 0 rfl rfl 3 (by decide) (hu _ kw_231) (fun _ h9 => h9) rfl (by decide +kernel) (zb_n (Or.inr rfl)) (zb_f (Or.inr rfl)) (Nat.le_of_ble_eq_true rfl) dX0_faultOfOrder_110 (fun H locs hP hD hS => ?_)
          have hP : va_P (dC, dI) vwCl [(h0, .inr (0, [.int v0_place, .int v0_open, .int v0_lines, .int 1]))] H := hP
          have hD : va_D A [(h0, .inr (0, [.int v0_place, .int v0_open, .int v0_lines, .int 1]))] := hD
          refine lv_iconst (v := 0) hx hb dX0_faultOfOrder_113 (by decide) ?_
          have h9 := Option.some.inj hM
          subst h9
          exact W.iret (v := 0) hx hb hr (fun t ht hW => QMi_mk (by rw [ht]; exact hP) (va_K.moved hW.alike hK) hD (hS.F ht)) hS.2.2 dX0_faultOfOrder_114
        · have hM := if_f c5_3 hM
          by_cases c5_4 : p1 = 5
          · have hM := if_t c5_4 hM
            refine lv_tableIn (tgt := 126) hx hb dX0_faultOfOrder_1 (by rw [c5_4]; decide) (by rw [c5_4]; decide) (by rw [c5_4]; rfl) (by decide) ?_
            exact hJ126_1  H locs ls hP hD hS (lv_sub hl [0] rfl) hM
          · have hM := if_f c5_4 hM
            by_cases c5_5 : p1 = 6
            · have hM := if_t c5_5 hM
              refine lv_tableIn (tgt := 132) hx hb dX0_faultOfOrder_1 (by rw [c5_5]; decide) (by rw [c5_5]; decide) (by rw [c5_5]; rfl) (by decide) ?_
              refine lv_aload_n hx hb dX0_faultOfOrder_132 rfl (lv_at hl 0 rfl) ?_
              refine lv_bipush (v := 8) hx hb dX0_faultOfOrder_133 (by decide) ?_
              obtain ⟨r_10, v0_11, hm_12, hM⟩ := bd2_u hM
              refine cVi (r := r_10) (As := [.int 8]) (rest := []) ⟨hx, hb, hml, hown, hu⟩ (c_X0_faultOfLines l dC dI cI cZ cO tL H.size h0 v0_place v0_open v0_lines v0_begun 8 (r_10, v0_11) hm_12) (cwV 1 hu (gV kw_233 kw_234 kw_235 kw_220 kw_236) rfl rfl rfl (by decide +kernel) ⟨Nat.le_of_ble_eq_true rfl, Nat.le_of_ble_eq_true rfl⟩) hP hD hS hA hK hG [0] (by decide) rfl [some 0] 1 rfl (by decide +kernel) rfl 0 0 rfl rfl rfl rfl hl.1 rfl (Nat.le_of_ble_eq_true rfl) dX0_faultOfOrder_135 (Nat.zero_le _) (Nat.zero_le _) (fun H locs hP hD hS => ?_)
              have hP : va_P (dC, dI) vwCl [(h0, .inr (0, [.int v0_place, .int v0_open, .int v0_11, .int v0_begun]))] H := hP
              have hD : va_D A [(h0, .inr (0, [.int v0_place, .int v0_open, .int v0_11, .int v0_begun]))] := hD
              have h9 := Option.some.inj hM
              subst h9
              exact W.iret (v := r_10) hx hb hr (fun t ht hW => QMi_mk (by rw [ht]; exact hP) (va_K.moved hW.alike hK) hD (hS.F ht)) hS.2.2 dX0_faultOfOrder_138
            · have hM := if_f c5_5 hM
              by_cases c5_6 : p1 = 7
              · have hM := if_t c5_6 hM
                refine lv_tableIn (tgt := 126) hx hb dX0_faultOfOrder_1 (by rw [c5_6]; decide) (by rw [c5_6]; decide) (by rw [c5_6]; rfl) (by decide) ?_
                exact hJ126_1  H locs ls hP hD hS (lv_sub hl [0] rfl) hM
              · have hM := if_f c5_6 hM
                by_cases c5_7 : p1 = 8
                · have hM := if_t c5_7 hM
                  refine lv_tableIn (tgt := 115) hx hb dX0_faultOfOrder_1 (by rw [c5_7]; decide) (by rw [c5_7]; decide) (by rw [c5_7]; rfl) (by decide) ?_
                  refine lv_aload_n hx hb dX0_faultOfOrder_115 rfl (lv_at hl 0 rfl) ?_
                  refine lv_iconst (v := 1) hx hb dX0_faultOfOrder_116 (by decide) ?_
                  refine va_put (D := (dC, dI)) (ci := 0) (v := .int 1) (ty := .boolean) (C := RX0) (T := TX0) (N := 4) hx hb hu inX0 tyX0 tyX0_ok nmX0 hown hK hP hD hS 0 rfl rfl 3 (by decide) (hu _ kw_231) (fun _ h9 => h9) rfl (by decide +kernel) (zb_n (Or.inr rfl)) (zb_f (Or.inr rfl)) (Nat.le_of_ble_eq_true rfl) dX0_faultOfOrder_117 (fun H locs hP hD hS => ?_)
                  have hP : va_P (dC, dI) vwCl [(h0, .inr (0, [.int v0_place, .int v0_open, .int v0_lines, .int 1]))] H := hP
                  have hD : va_D A [(h0, .inr (0, [.int v0_place, .int v0_open, .int v0_lines, .int 1]))] := hD
                  refine lv_aload_n hx hb dX0_faultOfOrder_120 rfl (lv_at hl 0 rfl) ?_
                  refine lv_iconst (v := 4) hx hb dX0_faultOfOrder_121 (by decide) ?_
                  obtain ⟨r_13, v0_14, hm_15, hM⟩ := bd2_u hM
                  refine cVi (r := r_13) (As := [.int 4]) (rest := []) ⟨hx, hb, hml, hown, hu⟩ (c_X0_faultOfLines l dC dI cI cZ cO tL H.size h0 v0_place v0_open v0_lines 1 4 (r_13, v0_14) hm_15) (cwV 1 hu (gV kw_233 kw_234 kw_235 kw_220 kw_236) rfl rfl rfl (by decide +kernel) ⟨Nat.le_of_ble_eq_true rfl, Nat.le_of_ble_eq_true rfl⟩) hP hD hS hA hK hG [0] (by decide) rfl [some 0] 1 rfl (by decide +kernel) rfl 0 0 rfl rfl rfl rfl hl.1 rfl (Nat.le_of_ble_eq_true rfl) dX0_faultOfOrder_122 (Nat.zero_le _) (Nat.zero_le _) (fun H locs hP hD hS => ?_)
                  have hP : va_P (dC, dI) vwCl [(h0, .inr (0, [.int v0_place, .int v0_open, .int v0_14, .int 1]))] H := hP
                  have hD : va_D A [(h0, .inr (0, [.int v0_place, .int v0_open, .int v0_14, .int 1]))] := hD
                  have h9 := Option.some.inj hM
                  subst h9
                  exact W.iret (v := r_13) hx hb hr (fun t ht hW => QMi_mk (by rw [ht]; exact hP) (va_K.moved hW.alike hK) hD (hS.F ht)) hS.2.2 dX0_faultOfOrder_125
                · have hM := if_f c5_7 hM
                  refine lv_tableOut (tgt := 139) hx hb dX0_faultOfOrder_1 (by have := lv_neT (a := 1) c5_0 rfl; have := lv_neT (a := 2) c5_1 rfl; have := lv_neT (a := 3) c5_2 rfl; have := lv_neT (a := 4) c5_3 rfl; have := lv_neT (a := 5) c5_4 rfl; have := lv_neT (a := 6) c5_5 rfl; have := lv_neT (a := 7) c5_6 rfl; have := lv_neT (a := 8) c5_7 rfl; omega) (by decide) ?_
                  refine lv_iconst (v := 0) hx hb dX0_faultOfOrder_139 (by decide) ?_
                  have h9 := Option.some.inj hM
                  subst h9
                  exact W.iret (v := 0) hx hb hr (fun t ht hW => QMi_mk (by rw [ht]; exact hP) (va_K.moved hW.alike hK) hD (hS.F ht)) hS.2.2 dX0_faultOfOrder_140
theorem dX0_lookOver_0 : decode cX0_lookOver 0 = .ok (.aload_n 0, 1) := by decide +kernel
theorem dX0_lookOver_1 : decode cX0_lookOver 1 = .ok (.iconst 0, 1) := by decide +kernel
theorem dX0_lookOver_2 : decode cX0_lookOver 2 = .ok (.putfield 9, 3) := by decide +kernel
theorem dX0_lookOver_5 : decode cX0_lookOver 5 = .ok (.aload_n 0, 1) := by decide +kernel
theorem dX0_lookOver_6 : decode cX0_lookOver 6 = .ok (.iconst 0, 1) := by decide +kernel
theorem dX0_lookOver_7 : decode cX0_lookOver 7 = .ok (.putfield 15, 3) := by decide +kernel
theorem dX0_lookOver_10 : decode cX0_lookOver 10 = .ok (.aload_n 0, 1) := by decide +kernel
theorem dX0_lookOver_11 : decode cX0_lookOver 11 = .ok (.iconst 0, 1) := by decide +kernel
theorem dX0_lookOver_12 : decode cX0_lookOver 12 = .ok (.putfield 18, 3) := by decide +kernel
theorem dX0_lookOver_15 : decode cX0_lookOver 15 = .ok (.aload_n 0, 1) := by decide +kernel
theorem dX0_lookOver_16 : decode cX0_lookOver 16 = .ok (.iconst 0, 1) := by decide +kernel
theorem dX0_lookOver_17 : decode cX0_lookOver 17 = .ok (.putfield 22, 3) := by decide +kernel
theorem dX0_lookOver_20 : decode cX0_lookOver 20 = .ok (.aload_n 0, 1) := by decide +kernel
theorem dX0_lookOver_21 : decode cX0_lookOver 21 = .ok (.getfield 22, 3) := by decide +kernel
theorem dX0_lookOver_24 : decode cX0_lookOver 24 = .ok (.aload_n 1, 1) := by decide +kernel
theorem dX0_lookOver_25 : decode cX0_lookOver 25 = .ok (.getfield 25, 3) := by decide +kernel
theorem dX0_lookOver_28 : decode cX0_lookOver 28 = .ok (.if_icmp .ge 55, 3) := by decide +kernel
theorem dX0_lookOver_31 : decode cX0_lookOver 31 = .ok (.aload_n 1, 1) := by decide +kernel
theorem dX0_lookOver_32 : decode cX0_lookOver 32 = .ok (.aload_n 0, 1) := by decide +kernel
theorem dX0_lookOver_33 : decode cX0_lookOver 33 = .ok (.getfield 22, 3) := by decide +kernel
theorem dX0_lookOver_36 : decode cX0_lookOver 36 = .ok (.invokestatic 30, 3) := by decide +kernel
theorem dX0_lookOver_39 : decode cX0_lookOver 39 = .ok (.istore_n 2, 1) := by decide +kernel
theorem dX0_lookOver_40 : decode cX0_lookOver 40 = .ok (.iload_n 2, 1) := by decide +kernel
theorem dX0_lookOver_41 : decode cX0_lookOver 41 = .ok (.ifCond .ne 16, 3) := by decide +kernel
theorem dX0_lookOver_44 : decode cX0_lookOver 44 = .ok (.aload_n 0, 1) := by decide +kernel
theorem dX0_lookOver_45 : decode cX0_lookOver 45 = .ok (.aload_n 1, 1) := by decide +kernel
theorem dX0_lookOver_46 : decode cX0_lookOver 46 = .ok (.aload_n 0, 1) := by decide +kernel
theorem dX0_lookOver_47 : decode cX0_lookOver 47 = .ok (.getfield 22, 3) := by decide +kernel
theorem dX0_lookOver_50 : decode cX0_lookOver 50 = .ok (.invokevirtual 34, 3) := by decide +kernel
theorem dX0_lookOver_53 : decode cX0_lookOver 53 = .ok (.invokevirtual 38, 3) := by decide +kernel
theorem dX0_lookOver_56 : decode cX0_lookOver 56 = .ok (.istore_n 2, 1) := by decide +kernel
theorem dX0_lookOver_57 : decode cX0_lookOver 57 = .ok (.iload_n 2, 1) := by decide +kernel
theorem dX0_lookOver_58 : decode cX0_lookOver 58 = .ok (.ifCond .eq 5, 3) := by decide +kernel
theorem dX0_lookOver_61 : decode cX0_lookOver 61 = .ok (.iload_n 2, 1) := by decide +kernel
theorem dX0_lookOver_62 : decode cX0_lookOver 62 = .ok (.ireturn, 1) := by decide +kernel
theorem dX0_lookOver_63 : decode cX0_lookOver 63 = .ok (.aload_n 0, 1) := by decide +kernel
theorem dX0_lookOver_64 : decode cX0_lookOver 64 = .ok (.dup, 1) := by decide +kernel
theorem dX0_lookOver_65 : decode cX0_lookOver 65 = .ok (.getfield 22, 3) := by decide +kernel
theorem dX0_lookOver_68 : decode cX0_lookOver 68 = .ok (.aload_n 1, 1) := by decide +kernel
theorem dX0_lookOver_69 : decode cX0_lookOver 69 = .ok (.aload_n 0, 1) := by decide +kernel
theorem dX0_lookOver_70 : decode cX0_lookOver 70 = .ok (.getfield 22, 3) := by decide +kernel
theorem dX0_lookOver_73 : decode cX0_lookOver 73 = .ok (.invokevirtual 41, 3) := by decide +kernel
theorem dX0_lookOver_76 : decode cX0_lookOver 76 = .ok (.iadd, 1) := by decide +kernel
theorem dX0_lookOver_77 : decode cX0_lookOver 77 = .ok (.putfield 22, 3) := by decide +kernel
theorem dX0_lookOver_80 : decode cX0_lookOver 80 = .ok (.goto (-60), 3) := by decide +kernel
theorem dX0_lookOver_83 : decode cX0_lookOver 83 = .ok (.aload_n 0, 1) := by decide +kernel
theorem dX0_lookOver_84 : decode cX0_lookOver 84 = .ok (.getfield 9, 3) := by decide +kernel
theorem dX0_lookOver_87 : decode cX0_lookOver 87 = .ok (.ifCond .le 8, 3) := by decide +kernel
theorem dX0_lookOver_90 : decode cX0_lookOver 90 = .ok (.bipush 8, 2) := by decide +kernel
theorem dX0_lookOver_92 : decode cX0_lookOver 92 = .ok (.goto 4, 3) := by decide +kernel
theorem dX0_lookOver_95 : decode cX0_lookOver 95 = .ok (.iconst 0, 1) := by decide +kernel
theorem dX0_lookOver_96 : decode cX0_lookOver 96 = .ok (.ireturn, 1) := by decide +kernel
abbrev rm_X0_lookOver : Room := { frames := 4, cells := 0, slots := 0, locals := 88 }
def w_X0_lookOver : List Cond := Cond.code yX0_lookOver cX0_lookOver 3 (some .int) :: uw
set_option maxHeartbeats 4000000 in
set_option maxRecDepth 100000 in
theorem c_X0_lookOver (l : Launch) (dC : Nat → ClassId) (dI : Nat → Nat → Nat) (cI cZ cO : ClassId) (tL sz : Nat) (h0 : Nat) (h1 : Nat) (h2 : Nat) (v0_place : Int32) (v0_open : Int32) (v0_lines : Int32) (v0_begun : Int32) (v1_count : Int32) (f2 : Nat → Int32) (res : Int32 × Int32 × Int32 × Int32 × Int32) (hM : m_X0_lookOver v0_place v0_open v0_lines v0_begun v1_count f2 = some res) : Met l yX0_lookOver w_X0_lookOver rm_X0_lookOver (PCx [.ref h0, .ref h1] (dC, dI) [(cI, .int), (cZ, .boolean), (cO, .object "ListPainter$Settings")] sz tL [(h0, .inr (0, [.int v0_place, .int v0_open, .int v0_lines, .int v0_begun])), (h1, .inr (9, [.ref h2, .int v1_count])), (h2, .inl (cI, 1500, .inl f2))]) (QMi (res.1) (dC, dI) [(cI, .int), (cZ, .boolean), (cO, .object "ListPainter$Settings")] (va_A [(h0, .inr (0, [.int v0_place, .int v0_open, .int v0_lines, .int v0_begun])), (h1, .inr (9, [.ref h2, .int v1_count])), (h2, .inl (cI, 1500, .inl f2))] sz) [(h0, .inr (0, [.int (res.2.1), .int (res.2.2.1), .int (res.2.2.2.1), .int (res.2.2.2.2)])), (h1, .inr (9, [.ref h2, .int v1_count])), (h2, .inl (cI, 1500, .inl f2))]) 0 0 (va_A [(h0, .inr (0, [.int v0_place, .int v0_open, .int v0_lines, .int v0_begun])), (h1, .inr (9, [.ref h2, .int v1_count])), (h2, .inl (cI, 1500, .inl f2))] sz) := by
  refine Met.ofW (cc := cX0_lookOver) (maxL := 3) (ret := (some .int)) (by decide) rfl ?_
  intro p e s m args below meth c s₁ B hml hv
  obtain ⟨rfl, hsz, hP, hK, hD0, hG⟩ := hv
  have hx := B.exec
  have hb := B.bytes
  have hr := B.returns
  have hu : ∀ w ∈ uw, w.before ([.ref h0, .ref h1] : List Value).toArray s = true := fun w h => atoms_spec (ws := w_X0_lookOver) B.pre w (List.mem_cons_of_mem _ h)
  have hown : s.vm.findClass RX0 = some m.cls := findClass_of_methodNamed B.named
  have hlocks := B.notSynchronized
  subst hsz
  have hD := hD0.self (sz := s.heap.size)
  generalize hAe : va_A [(h0, .inr (0, [.int v0_place, .int v0_open, .int v0_lines, .int v0_begun])), (h1, .inr (9, [.ref h2, .int v1_count])), (h2, .inl (cI, 1500, .inl f2))] s.heap.size = A at hD hG ⊢
  have hA : ∀ q : Nat, s.heap.size ≤ q → A q := fun q h => by rw [← hAe]; exact Or.inr h
  have hS : va_S A s.heap s.heap [] := va_S.rf
  have hP : va_P (dC, dI) vwCl [(h0, .inr (0, [.int v0_place, .int v0_open, .int v0_lines, .int v0_begun])), (h1, .inr (9, [.ref h2, .int v1_count])), (h2, .inl (cI, 1500, .inl f2))] s.heap := hP
  have hl := lv_entry ([.ref h0, .ref h1]) (n := 3) (Nat.le_of_ble_eq_true rfl)
  rw [lg_entry_eq]
  generalize (lg_sl ([.ref h0, .ref h1]) ++ List.replicate (3 - (lg_sl ([.ref h0, .ref h1])).length) Slot.unset).toArray = ls at hl ⊢
  have hl : lv_has ls 3 [(0, .ref h0), (1, .ref h1)] := hl
  rw [m_X0_lookOver] at hM
  suffices hgo : ∀ (H : Heap) (locs : List Loc), va_P (dC, dI) vwCl [(h0, .inr (0, [.int v0_place, .int v0_open, .int v0_lines, .int v0_begun])), (h1, .inr (9, [.ref h2, .int v1_count])), (h2, .inl (cI, 1500, .inl f2))] H → va_D A [(h0, .inr (0, [.int v0_place, .int v0_open, .int v0_lines, .int v0_begun])), (h1, .inr (9, [.ref h2, .int v1_count])), (h2, .inl (cI, 1500, .inl f2))] → va_S A s.heap H locs → W p l e (headSpec w_X0_lookOver rm_X0_lookOver).room s m ([.ref h0, .ref h1] : List Value).toArray below meth c H locs 0 0 (MQ below (QMi (res.1) (dC, dI) [(cI, .int), (cZ, .boolean), (cO, .object "ListPainter$Settings")] A [(h0, .inr (0, [.int (res.2.1), .int (res.2.2.1), .int (res.2.2.2.1), .int (res.2.2.2.2)])), (h1, .inr (9, [.ref h2, .int v1_count])), (h2, .inl (cI, 1500, .inl f2))]) ([.ref h0, .ref h1] : List Value).toArray s 0 0 A) (F0 m 0 ls []) from hgo _ _ hP hD hS
  intro H locs hP hD hS
  refine lv_aload_n hx hb dX0_lookOver_0 rfl (lv_at hl 0 rfl) ?_
  refine lv_iconst (v := 0) hx hb dX0_lookOver_1 (by decide) ?_
  refine va_put (D := (dC, dI)) (ci := 0) (v := .int 0) (ty := .int) (C := RX0) (T := TX0) (N := 4) hx hb hu inX0 tyX0 tyX0_ok nmX0 hown hK hP hD hS 0 rfl rfl 1 (by decide) (hu _ kw_237) (fun _ h9 => h9) rfl (by decide +kernel) rfl rfl (Nat.le_of_ble_eq_true rfl) dX0_lookOver_2 (fun H locs hP hD hS => ?_)
  have hP : va_P (dC, dI) vwCl [(h0, .inr (0, [.int v0_place, .int 0, .int v0_lines, .int v0_begun])), (h1, .inr (9, [.ref h2, .int v1_count])), (h2, .inl (cI, 1500, .inl f2))] H := hP
  have hD : va_D A [(h0, .inr (0, [.int v0_place, .int 0, .int v0_lines, .int v0_begun])), (h1, .inr (9, [.ref h2, .int v1_count])), (h2, .inl (cI, 1500, .inl f2))] := hD
  refine lv_aload_n hx hb dX0_lookOver_5 rfl (lv_at hl 0 rfl) ?_
  refine lv_iconst (v := 0) hx hb dX0_lookOver_6 (by decide) ?_
  refine va_put (D := (dC, dI)) (ci := 0) (v := .int 0) (ty := .int) (C := RX0) (T := TX0) (N := 4) hx hb hu inX0 tyX0 tyX0_ok nmX0 hown hK hP hD hS 0 rfl rfl 2 (by decide) (hu _ kw_232) (fun _ h9 => h9) rfl (by decide +kernel) rfl rfl (Nat.le_of_ble_eq_true rfl) dX0_lookOver_7 (fun H locs hP hD hS => ?_)
  have hP : va_P (dC, dI) vwCl [(h0, .inr (0, [.int v0_place, .int 0, .int 0, .int v0_begun])), (h1, .inr (9, [.ref h2, .int v1_count])), (h2, .inl (cI, 1500, .inl f2))] H := hP
  have hD : va_D A [(h0, .inr (0, [.int v0_place, .int 0, .int 0, .int v0_begun])), (h1, .inr (9, [.ref h2, .int v1_count])), (h2, .inl (cI, 1500, .inl f2))] := hD
  refine lv_aload_n hx hb dX0_lookOver_10 rfl (lv_at hl 0 rfl) ?_
  refine lv_iconst (v := 0) hx hb dX0_lookOver_11 (by decide) ?_
  refine va_put (D := (dC, dI)) (ci := 0) (v := .int 0) (ty := .boolean) (C := RX0) (T := TX0) (N := 4) hx hb hu inX0 tyX0 tyX0_ok nmX0 hown hK hP hD hS 0 rfl rfl 3 (by decide) (hu _ kw_231) (fun _ h9 => h9) rfl (by decide +kernel) (zb_n (Or.inl rfl)) (zb_f (Or.inl rfl)) (Nat.le_of_ble_eq_true rfl) dX0_lookOver_12 (fun H locs hP hD hS => ?_)
  have hP : va_P (dC, dI) vwCl [(h0, .inr (0, [.int v0_place, .int 0, .int 0, .int 0])), (h1, .inr (9, [.ref h2, .int v1_count])), (h2, .inl (cI, 1500, .inl f2))] H := hP
  have hD : va_D A [(h0, .inr (0, [.int v0_place, .int 0, .int 0, .int 0])), (h1, .inr (9, [.ref h2, .int v1_count])), (h2, .inl (cI, 1500, .inl f2))] := hD
  refine lv_aload_n hx hb dX0_lookOver_15 rfl (lv_at hl 0 rfl) ?_
  refine lv_iconst (v := 0) hx hb dX0_lookOver_16 (by decide) ?_
  refine va_put (D := (dC, dI)) (ci := 0) (v := .int 0) (ty := .int) (C := RX0) (T := TX0) (N := 4) hx hb hu inX0 tyX0 tyX0_ok nmX0 hown hK hP hD hS 0 rfl rfl 0 (by decide) (hu _ kw_238) (fun _ h9 => h9) rfl (by decide +kernel) rfl rfl (Nat.le_of_ble_eq_true rfl) dX0_lookOver_17 (fun H locs hP hD hS => ?_)
  have hP : va_P (dC, dI) vwCl [(h0, .inr (0, [.int 0, .int 0, .int 0, .int 0])), (h1, .inr (9, [.ref h2, .int v1_count])), (h2, .inl (cI, 1500, .inl f2))] H := hP
  have hD : va_D A [(h0, .inr (0, [.int 0, .int 0, .int 0, .int 0])), (h1, .inr (9, [.ref h2, .int v1_count])), (h2, .inl (cI, 1500, .inl f2))] := hD
  obtain ⟨K83_5, eK83_5, hM⟩ := jn_u hM
  have hJ83_5 : ∀ (v0_1 : Int32) (v0_2 : Int32) (v0_3 : Int32) (v0_4 : Int32) , ∀ (H : Heap) (locs : List Loc) (ls : Array Slot), va_P (dC, dI) vwCl [(h0, .inr (0, [.int v0_1, .int v0_2, .int v0_3, .int v0_4])), (h1, .inr (9, [.ref h2, .int v1_count])), (h2, .inl (cI, 1500, .inl f2))] H → va_D A [(h0, .inr (0, [.int v0_1, .int v0_2, .int v0_3, .int v0_4])), (h1, .inr (9, [.ref h2, .int v1_count])), (h2, .inl (cI, 1500, .inl f2))] → va_S A s.heap H locs → lv_has ls 3 [(0, .ref h0)] → K83_5 v0_1 v0_2 v0_3 v0_4 = some res → W p l e (headSpec w_X0_lookOver rm_X0_lookOver).room s m ([.ref h0, .ref h1] : List Value).toArray below meth c H locs 0 0 (MQ below (QMi (res.1) (dC, dI) [(cI, .int), (cZ, .boolean), (cO, .object "ListPainter$Settings")] A [(h0, .inr (0, [.int (res.2.1), .int (res.2.2.1), .int (res.2.2.2.1), .int (res.2.2.2.2)])), (h1, .inr (9, [.ref h2, .int v1_count])), (h2, .inl (cI, 1500, .inl f2))]) ([.ref h0, .ref h1] : List Value).toArray s 0 0 A) (F0 m 83 ls []) := by
    intro v0_1 v0_2 v0_3 v0_4 H locs ls hP hD hS hl hM
    have hM := ja4 eK83_5 hM
    refine lv_aload_n hx hb dX0_lookOver_83 rfl (lv_at hl 0 rfl) ?_
    refine va_get (D := (dC, dI)) (ci := 0) (v := .int v0_2) (C := RX0) (T := TX0) (N := 4) hx hb hu inX0 hown hK hP 0 rfl rfl 1 (by decide) (hu _ kw_237) (fun _ h9 => h9) rfl dX0_lookOver_84 ?_
    refine lv_if_le (tgt := 95) hx hb dX0_lookOver_87 (by decide) (fun c_6 => ?_) (fun c_6 => ?_)
    · have hM := if_t c_6 hM
      refine lv_iconst (v := 0) hx hb dX0_lookOver_95 (by decide) ?_
      have h9 := Option.some.inj hM
      subst h9
      exact W.iret (v := 0) hx hb hr (fun t ht hW => QMi_mk (by rw [ht]; exact hP) (va_K.moved hW.alike hK) hD (hS.F ht)) hS.2.2 dX0_lookOver_96
    · have hM := if_f c_6 hM
      refine lv_bipush (v := 8) hx hb dX0_lookOver_90 (by decide) ?_
      refine lv_goto (tgt := 96) hx hb dX0_lookOver_92 (by decide) ?_
      have h9 := Option.some.inj hM
      subst h9
      exact W.iret (v := 8) hx hb hr (fun t ht hW => QMi_mk (by rw [ht]; exact hP) (va_K.moved hW.alike hK) hD (hS.F ht)) hS.2.2 dX0_lookOver_96
  have hL20_11 : ∀ (n : Nat) (v0_7 : Int32) (v0_8 : Int32) (v0_9 : Int32) (v0_10 : Int32) , ∀ (H : Heap) (locs : List Loc) (ls : Array Slot), va_P (dC, dI) vwCl [(h0, .inr (0, [.int v0_7, .int v0_8, .int v0_9, .int v0_10])), (h1, .inr (9, [.ref h2, .int v1_count])), (h2, .inl (cI, 1500, .inl f2))] H → va_D A [(h0, .inr (0, [.int v0_7, .int v0_8, .int v0_9, .int v0_10])), (h1, .inr (9, [.ref h2, .int v1_count])), (h2, .inl (cI, 1500, .inl f2))] → va_S A s.heap H locs → lv_has ls 3 [(0, .ref h0), (1, .ref h1)] → lp_X0_lookOver_20 v1_count K83_5 f2 n v0_7 v0_8 v0_9 v0_10 = some res → W p l e (headSpec w_X0_lookOver rm_X0_lookOver).room s m ([.ref h0, .ref h1] : List Value).toArray below meth c H locs 0 0 (MQ below (QMi (res.1) (dC, dI) [(cI, .int), (cZ, .boolean), (cO, .object "ListPainter$Settings")] A [(h0, .inr (0, [.int (res.2.1), .int (res.2.2.1), .int (res.2.2.2.1), .int (res.2.2.2.2)])), (h1, .inr (9, [.ref h2, .int v1_count])), (h2, .inl (cI, 1500, .inl f2))]) ([.ref h0, .ref h1] : List Value).toArray s 0 0 A) (F0 m 20 ls []) := by
    intro n
    induction n with
    | zero =>
      intro v0_7 v0_8 v0_9 v0_10 H locs ls hP hD hS hl hM
      rw [lp_X0_lookOver_20] at hM
      exact lp0 hM
    | succ n20_11 ih20_11 =>
      intro v0_7 v0_8 v0_9 v0_10 H locs ls hP hD hS hl hM
      rw [lp_X0_lookOver_20] at hM
      refine lv_aload_n hx hb dX0_lookOver_20 rfl (lv_at hl 0 rfl) ?_
      refine va_get (D := (dC, dI)) (ci := 0) (v := .int v0_7) (C := RX0) (T := TX0) (N := 4) hx hb hu inX0 hown hK hP 0 rfl rfl 0 (by decide) (hu _ kw_238) (fun _ h9 => h9) rfl dX0_lookOver_21 ?_
      refine lv_aload_n hx hb dX0_lookOver_24 rfl (lv_at hl 1 rfl) ?_
      refine va_getN (D := (dC, dI)) (ci := 9) (v := .int v1_count) (C := RX10) (T := TX10) (N := 2) hx hb hu inX10 hown hK hP 1 rfl rfl 1 (by decide) (gX_nest hG 62 kw_227 rfl) (fun _ h9 => h9) rfl dX0_lookOver_25 ?_
      refine lv_icmp_ge (tgt := 83) hx hb dX0_lookOver_28 (by decide) (fun c_12 => ?_) (fun c_12 => ?_)
      · have hM := if_t c_12 hM
        exact hJ83_5 v0_7 v0_8 v0_9 v0_10 H locs ls hP hD hS (lv_sub hl [0] rfl) hM
      · have hM := if_f c_12 hM
        refine lv_aload_n hx hb dX0_lookOver_31 rfl (lv_at hl 1 rfl) ?_
        refine lv_aload_n hx hb dX0_lookOver_32 rfl (lv_at hl 0 rfl) ?_
        refine va_get (D := (dC, dI)) (ci := 0) (v := .int v0_7) (C := RX0) (T := TX0) (N := 4) hx hb hu inX0 hown hK hP 0 rfl rfl 0 (by decide) (hu _ kw_238) (fun _ h9 => h9) rfl dX0_lookOver_33 ?_
        obtain ⟨r_13, hm_14, hM⟩ := bd1_u hM
        refine cSi (r := r_13) (As := [.ref h1, .int v0_7]) (rest := []) ⟨hx, hb, hml, hown, hu⟩ (c_X0_faultOfWords l dC dI cI cZ cO tL H.size h1 h2 v1_count f2 v0_7 r_13 hm_14) (va_cwS 2 hu (gS kw_239 kw_240 kw_220 kw_241) rfl rfl rfl (by decide +kernel) ⟨Nat.le_of_ble_eq_true rfl, Nat.le_of_ble_eq_true rfl⟩) hP hD hS hA hK hG [1, 2] (by decide) rfl [none, some 0, some 1] 2 rfl (by decide +kernel) rfl rfl hl.1 rfl (Nat.le_of_ble_eq_true rfl) dX0_lookOver_36 (Nat.zero_le _) (Nat.zero_le _) (fun H locs hP hD hS => ?_)
        have hP : va_P (dC, dI) vwCl [(h0, .inr (0, [.int v0_7, .int v0_8, .int v0_9, .int v0_10])), (h1, .inr (9, [.ref h2, .int v1_count])), (h2, .inl (cI, 1500, .inl f2))] H := hP
        have hD : va_D A [(h0, .inr (0, [.int v0_7, .int v0_8, .int v0_9, .int v0_10])), (h1, .inr (9, [.ref h2, .int v1_count])), (h2, .inl (cI, 1500, .inl f2))] := hD
        refine lv_istore_n (lv' := [(2, .int r_13), (0, .ref h0), (1, .ref h1)]) hx hb dX0_lookOver_39 rfl hl (by decide) rfl (fun ls hl => ?_)
        refine lv_iload_n hx hb dX0_lookOver_40 rfl (lv_at hl 0 rfl) ?_
        obtain ⟨K57_19, eK57_19, hM⟩ := jn_u hM
        have hJ57_19 : ∀ (l2_15 : Int32) (v0_16 : Int32) (v0_17 : Int32) (v0_18 : Int32) , ∀ (H : Heap) (locs : List Loc) (ls : Array Slot), va_P (dC, dI) vwCl [(h0, .inr (0, [.int v0_7, .int v0_16, .int v0_17, .int v0_18])), (h1, .inr (9, [.ref h2, .int v1_count])), (h2, .inl (cI, 1500, .inl f2))] H → va_D A [(h0, .inr (0, [.int v0_7, .int v0_16, .int v0_17, .int v0_18])), (h1, .inr (9, [.ref h2, .int v1_count])), (h2, .inl (cI, 1500, .inl f2))] → va_S A s.heap H locs → lv_has ls 3 [(0, .ref h0), (1, .ref h1), (2, .int l2_15)] → K57_19 l2_15 v0_16 v0_17 v0_18 = some res → W p l e (headSpec w_X0_lookOver rm_X0_lookOver).room s m ([.ref h0, .ref h1] : List Value).toArray below meth c H locs 0 0 (MQ below (QMi (res.1) (dC, dI) [(cI, .int), (cZ, .boolean), (cO, .object "ListPainter$Settings")] A [(h0, .inr (0, [.int (res.2.1), .int (res.2.2.1), .int (res.2.2.2.1), .int (res.2.2.2.2)])), (h1, .inr (9, [.ref h2, .int v1_count])), (h2, .inl (cI, 1500, .inl f2))]) ([.ref h0, .ref h1] : List Value).toArray s 0 0 A) (F0 m 57 ls []) := by
          intro l2_15 v0_16 v0_17 v0_18 H locs ls hP hD hS hl hM
          have hM := ja4 eK57_19 hM
          refine lv_iload_n hx hb dX0_lookOver_57 rfl (lv_at hl 2 rfl) ?_
          refine lv_if_eq (tgt := 63) hx hb dX0_lookOver_58 (by decide) (fun c_20 => ?_) (fun c_20 => ?_)
          · have hM := if_t c_20 hM
            refine lv_aload_n hx hb dX0_lookOver_63 rfl (lv_at hl 0 rfl) ?_
            refine lv_dup hx hb dX0_lookOver_64 rfl ?_
            refine va_get (D := (dC, dI)) (ci := 0) (v := .int v0_7) (C := RX0) (T := TX0) (N := 4) hx hb hu inX0 hown hK hP 0 rfl rfl 0 (by decide) (hu _ kw_238) (fun _ h9 => h9) rfl dX0_lookOver_65 ?_
            refine lv_aload_n hx hb dX0_lookOver_68 rfl (lv_at hl 1 rfl) ?_
            refine lv_aload_n hx hb dX0_lookOver_69 rfl (lv_at hl 0 rfl) ?_
            refine va_get (D := (dC, dI)) (ci := 0) (v := .int v0_7) (C := RX0) (T := TX0) (N := 4) hx hb hu inX0 hown hK hP 0 rfl rfl 0 (by decide) (hu _ kw_238) (fun _ h9 => h9) rfl dX0_lookOver_70 ?_
            obtain ⟨r_21, hm_22, hM⟩ := bd1_u hM
            refine cVi (r := r_21) (As := [.int v0_7]) (rest := [.int v0_7, .ref h0]) ⟨hx, hb, hml, hown, hu⟩ (c_X10_lengthAt l dC dI cI cZ cO tL H.size h1 h2 v1_count f2 v0_7 r_21 hm_22) (cwV 1 hu (gV kw_216 kw_16 kw_17 kw_5 kw_18) rfl rfl rfl (by decide +kernel) ⟨Nat.le_of_ble_eq_true rfl, Nat.le_of_ble_eq_true rfl⟩) hP hD hS hA hK hG [1, 2] (by decide) rfl [none, some 0, some 1] 2 rfl (by decide +kernel) rfl 9 1 rfl rfl rfl rfl hl.1 rfl (Nat.le_of_ble_eq_true rfl) dX0_lookOver_73 (Nat.zero_le _) (Nat.zero_le _) (fun H locs hP hD hS => ?_)
            have hP : va_P (dC, dI) vwCl [(h0, .inr (0, [.int v0_7, .int v0_16, .int v0_17, .int v0_18])), (h1, .inr (9, [.ref h2, .int v1_count])), (h2, .inl (cI, 1500, .inl f2))] H := hP
            have hD : va_D A [(h0, .inr (0, [.int v0_7, .int v0_16, .int v0_17, .int v0_18])), (h1, .inr (9, [.ref h2, .int v1_count])), (h2, .inl (cI, 1500, .inl f2))] := hD
            refine lv_iadd hx hb dX0_lookOver_76 ?_
            refine lv_topi (fun y_23 ey_23 => ?_)
            have hM := nm_u ey_23 hM
            refine va_put (D := (dC, dI)) (ci := 0) (v := .int y_23) (ty := .int) (C := RX0) (T := TX0) (N := 4) hx hb hu inX0 tyX0 tyX0_ok nmX0 hown hK hP hD hS 0 rfl rfl 0 (by decide) (hu _ kw_238) (fun _ h9 => h9) rfl (by decide +kernel) rfl rfl (Nat.le_of_ble_eq_true rfl) dX0_lookOver_77 (fun H locs hP hD hS => ?_)
            have hP : va_P (dC, dI) vwCl [(h0, .inr (0, [.int y_23, .int v0_16, .int v0_17, .int v0_18])), (h1, .inr (9, [.ref h2, .int v1_count])), (h2, .inl (cI, 1500, .inl f2))] H := hP
            have hD : va_D A [(h0, .inr (0, [.int y_23, .int v0_16, .int v0_17, .int v0_18])), (h1, .inr (9, [.ref h2, .int v1_count])), (h2, .inl (cI, 1500, .inl f2))] := hD
            refine lv_goto (tgt := 20) hx hb dX0_lookOver_80 (by decide) ?_
            exact ih20_11 y_23 v0_16 v0_17 v0_18 H locs ls hP hD hS (lv_sub hl [0, 1] rfl) hM
          · have hM := if_f c_20 hM
            refine lv_iload_n hx hb dX0_lookOver_61 rfl (lv_at hl 2 rfl) ?_
            have h9 := Option.some.inj hM
            subst h9
            exact W.iret (v := l2_15) hx hb hr (fun t ht hW => QMi_mk (by rw [ht]; exact hP) (va_K.moved hW.alike hK) hD (hS.F ht)) hS.2.2 dX0_lookOver_62
        refine lv_if_ne (tgt := 57) hx hb dX0_lookOver_41 (by decide) (fun c_24 => ?_) (fun c_24 => ?_)
        · have hM := if_f c_24 hM
          exact hJ57_19 r_13 v0_8 v0_9 v0_10 H locs ls hP hD hS (lv_sub hl [1, 2, 0] rfl) hM
        · have hM := if_t c_24 hM
          refine lv_aload_n hx hb dX0_lookOver_44 rfl (lv_at hl 1 rfl) ?_
          refine lv_aload_n hx hb dX0_lookOver_45 rfl (lv_at hl 2 rfl) ?_
          refine lv_aload_n hx hb dX0_lookOver_46 rfl (lv_at hl 1 rfl) ?_
          refine va_get (D := (dC, dI)) (ci := 0) (v := .int v0_7) (C := RX0) (T := TX0) (N := 4) hx hb hu inX0 hown hK hP 0 rfl rfl 0 (by decide) (hu _ kw_238) (fun _ h9 => h9) rfl dX0_lookOver_47 ?_
          obtain ⟨r_25, hm_26, hM⟩ := bd1_u hM
          refine cVi (r := r_25) (As := [.int v0_7]) (rest := [.ref h0]) ⟨hx, hb, hml, hown, hu⟩ (c_X10_word l dC dI cI cZ cO tL H.size h1 h2 v1_count f2 v0_7 r_25 hm_26) (cwV 1 hu (gV kw_215 kw_3 kw_4 kw_5 kw_6) rfl rfl rfl (by decide +kernel) ⟨Nat.le_of_ble_eq_true rfl, Nat.le_of_ble_eq_true rfl⟩) hP hD hS hA hK hG [1, 2] (by decide) rfl [none, some 0, some 1] 2 rfl (by decide +kernel) rfl 9 1 rfl rfl rfl rfl hl.1 rfl (Nat.le_of_ble_eq_true rfl) dX0_lookOver_50 (Nat.zero_le _) (Nat.zero_le _) (fun H locs hP hD hS => ?_)
          have hP : va_P (dC, dI) vwCl [(h0, .inr (0, [.int v0_7, .int v0_8, .int v0_9, .int v0_10])), (h1, .inr (9, [.ref h2, .int v1_count])), (h2, .inl (cI, 1500, .inl f2))] H := hP
          have hD : va_D A [(h0, .inr (0, [.int v0_7, .int v0_8, .int v0_9, .int v0_10])), (h1, .inr (9, [.ref h2, .int v1_count])), (h2, .inl (cI, 1500, .inl f2))] := hD
          obtain ⟨r_27, v0_28, v0_29, v0_30, hm_31, hM⟩ := bd4_u hM
          refine cVi (r := r_27) (As := [.int r_25]) (rest := []) ⟨hx, hb, hml, hown, hu⟩ (c_X0_faultOfOrder l dC dI cI cZ cO tL H.size h0 v0_7 v0_8 v0_9 v0_10 r_25 (r_27, v0_28, v0_29, v0_30) hm_31) (cwV 1 hu (gV kw_242 kw_243 kw_244 kw_220 kw_245) rfl rfl rfl (by decide +kernel) ⟨Nat.le_of_ble_eq_true rfl, Nat.le_of_ble_eq_true rfl⟩) hP hD hS hA hK hG [0] (by decide) rfl [some 0, none, none] 1 rfl (by decide +kernel) rfl 0 0 rfl rfl rfl rfl hl.1 rfl (Nat.le_of_ble_eq_true rfl) dX0_lookOver_53 (Nat.zero_le _) (Nat.zero_le _) (fun H locs hP hD hS => ?_)
          have hP : va_P (dC, dI) vwCl [(h0, .inr (0, [.int v0_7, .int v0_28, .int v0_29, .int v0_30])), (h1, .inr (9, [.ref h2, .int v1_count])), (h2, .inl (cI, 1500, .inl f2))] H := hP
          have hD : va_D A [(h0, .inr (0, [.int v0_7, .int v0_28, .int v0_29, .int v0_30])), (h1, .inr (9, [.ref h2, .int v1_count])), (h2, .inl (cI, 1500, .inl f2))] := hD
          refine lv_istore_n (lv' := [(2, .int r_27), (0, .ref h0), (1, .ref h1)]) hx hb dX0_lookOver_56 rfl hl (by decide) rfl (fun ls hl => ?_)
          exact hJ57_19 r_27 v0_28 v0_29 v0_30 H locs ls hP hD hS (lv_sub hl [1, 2, 0] rfl) hM
  exact hL20_11 FU 0 0 0 0 H locs ls hP hD hS (lv_sub hl [0, 1] rfl) hM
