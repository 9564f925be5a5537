theorem dX12_state_0 : decode cX12_state 0 = .ok (.iload_n 1, 1) := by decide +kernel
theorem dX12_state_1 : decode cX12_state 1 = .ok (.ifCond .eq 8, 3) := by decide +kernel
theorem dX12_state_4 : decode cX12_state 4 = .ok (.iload_n 1, 1) := by decide +kernel
theorem dX12_state_5 : decode cX12_state 5 = .ok (.iconst 2, 1) := by decide +kernel
theorem dX12_state_6 : decode cX12_state 6 = .ok (.if_icmp .ne 21, 3) := by decide +kernel
theorem dX12_state_9 : decode cX12_state 9 = .ok (.iload_n 1, 1) := by decide +kernel
theorem dX12_state_10 : decode cX12_state 10 = .ok (.ifCond .ne 12, 3) := by decide +kernel
theorem dX12_state_13 : decode cX12_state 13 = .ok (.aload_n 0, 1) := by decide +kernel
theorem dX12_state_14 : decode cX12_state 14 = .ok (.getfield 16, 3) := by decide +kernel
theorem dX12_state_17 : decode cX12_state 17 = .ok (.iconst 0, 1) := by decide +kernel
theorem dX12_state_18 : decode cX12_state 18 = .ok (.iaload, 1) := by decide +kernel
theorem dX12_state_19 : decode cX12_state 19 = .ok (.goto 7, 3) := by decide +kernel
theorem dX12_state_22 : decode cX12_state 22 = .ok (.aload_n 0, 1) := by decide +kernel
theorem dX12_state_23 : decode cX12_state 23 = .ok (.getfield 19, 3) := by decide +kernel
theorem dX12_state_26 : decode cX12_state 26 = .ok (.ireturn, 1) := by decide +kernel
theorem dX12_state_27 : decode cX12_state 27 = .ok (.aload_n 0, 1) := by decide +kernel
theorem dX12_state_28 : decode cX12_state 28 = .ok (.getfield 81, 3) := by decide +kernel
theorem dX12_state_31 : decode cX12_state 31 = .ok (.ifCond .eq 13, 3) := by decide +kernel
theorem dX12_state_34 : decode cX12_state 34 = .ok (.iload_n 1, 1) := by decide +kernel
theorem dX12_state_35 : decode cX12_state 35 = .ok (.ifCond .lt 9, 3) := by decide +kernel
theorem dX12_state_38 : decode cX12_state 38 = .ok (.iload_n 1, 1) := by decide +kernel
theorem dX12_state_39 : decode cX12_state 39 = .ok (.bipush 18, 2) := by decide +kernel
theorem dX12_state_41 : decode cX12_state 41 = .ok (.if_icmp .le 7, 3) := by decide +kernel
theorem dX12_state_44 : decode cX12_state 44 = .ok (.ldc_w 297, 3) := by decide +kernel
theorem dX12_state_47 : decode cX12_state 47 = .ok (.ireturn, 1) := by decide +kernel
theorem dX12_state_48 : decode cX12_state 48 = .ok (.iload_n 1, 1) := by decide +kernel
theorem dX12_state_49 : decode cX12_state 49 = .ok (.tableswitch 134 1 18 #[87, 134, 94, 101, 109, 134, 134, 134, 134, 134, 134, 134, 134, 134, 134, 117, 124, 129], 87) := by decide +kernel
theorem dX12_state_136 : decode cX12_state 136 = .ok (.aload_n 0, 1) := by decide +kernel
theorem dX12_state_137 : decode cX12_state 137 = .ok (.getfield 32, 3) := by decide +kernel
theorem dX12_state_140 : decode cX12_state 140 = .ok (.iconst 0, 1) := by decide +kernel
theorem dX12_state_141 : decode cX12_state 141 = .ok (.iaload, 1) := by decide +kernel
theorem dX12_state_142 : decode cX12_state 142 = .ok (.ireturn, 1) := by decide +kernel
theorem dX12_state_143 : decode cX12_state 143 = .ok (.aload_n 0, 1) := by decide +kernel
theorem dX12_state_144 : decode cX12_state 144 = .ok (.getfield 29, 3) := by decide +kernel
theorem dX12_state_147 : decode cX12_state 147 = .ok (.iconst 0, 1) := by decide +kernel
theorem dX12_state_148 : decode cX12_state 148 = .ok (.iaload, 1) := by decide +kernel
theorem dX12_state_149 : decode cX12_state 149 = .ok (.ireturn, 1) := by decide +kernel
theorem dX12_state_150 : decode cX12_state 150 = .ok (.aload_n 0, 1) := by decide +kernel
theorem dX12_state_151 : decode cX12_state 151 = .ok (.getfield 23, 3) := by decide +kernel
theorem dX12_state_154 : decode cX12_state 154 = .ok (.bipush 10, 2) := by decide +kernel
theorem dX12_state_156 : decode cX12_state 156 = .ok (.iaload, 1) := by decide +kernel
theorem dX12_state_157 : decode cX12_state 157 = .ok (.ireturn, 1) := by decide +kernel
theorem dX12_state_158 : decode cX12_state 158 = .ok (.aload_n 0, 1) := by decide +kernel
theorem dX12_state_159 : decode cX12_state 159 = .ok (.getfield 23, 3) := by decide +kernel
theorem dX12_state_162 : decode cX12_state 162 = .ok (.bipush 11, 2) := by decide +kernel
theorem dX12_state_164 : decode cX12_state 164 = .ok (.iaload, 1) := by decide +kernel
theorem dX12_state_165 : decode cX12_state 165 = .ok (.ireturn, 1) := by decide +kernel
theorem dX12_state_166 : decode cX12_state 166 = .ok (.aload_n 0, 1) := by decide +kernel
theorem dX12_state_167 : decode cX12_state 167 = .ok (.getfield 51, 3) := by decide +kernel
theorem dX12_state_170 : decode cX12_state 170 = .ok (.iconst 0, 1) := by decide +kernel
theorem dX12_state_171 : decode cX12_state 171 = .ok (.iaload, 1) := by decide +kernel
theorem dX12_state_172 : decode cX12_state 172 = .ok (.ireturn, 1) := by decide +kernel
theorem dX12_state_173 : decode cX12_state 173 = .ok (.aload_n 0, 1) := by decide +kernel
theorem dX12_state_174 : decode cX12_state 174 = .ok (.getfield 113, 3) := by decide +kernel
theorem dX12_state_177 : decode cX12_state 177 = .ok (.ireturn, 1) := by decide +kernel
theorem dX12_state_178 : decode cX12_state 178 = .ok (.aload_n 0, 1) := by decide +kernel
theorem dX12_state_179 : decode cX12_state 179 = .ok (.getfield 116, 3) := by decide +kernel
theorem dX12_state_182 : decode cX12_state 182 = .ok (.ireturn, 1) := by decide +kernel
theorem dX12_state_183 : decode cX12_state 183 = .ok (.iload_n 1, 1) := by decide +kernel
theorem dX12_state_184 : decode cX12_state 184 = .ok (.bipush 10, 2) := by decide +kernel
theorem dX12_state_186 : decode cX12_state 186 = .ok (.if_icmp .ge 12, 3) := by decide +kernel
theorem dX12_state_189 : decode cX12_state 189 = .ok (.aload_n 0, 1) := by decide +kernel
theorem dX12_state_190 : decode cX12_state 190 = .ok (.getfield 23, 3) := by decide +kernel
theorem dX12_state_193 : decode cX12_state 193 = .ok (.iload_n 1, 1) := by decide +kernel
theorem dX12_state_194 : decode cX12_state 194 = .ok (.iaload, 1) := by decide +kernel
theorem dX12_state_195 : decode cX12_state 195 = .ok (.goto 12, 3) := by decide +kernel
theorem dX12_state_198 : decode cX12_state 198 = .ok (.aload_n 0, 1) := by decide +kernel
theorem dX12_state_199 : decode cX12_state 199 = .ok (.getfield 23, 3) := by decide +kernel
theorem dX12_state_202 : decode cX12_state 202 = .ok (.iload_n 1, 1) := by decide +kernel
theorem dX12_state_203 : decode cX12_state 203 = .ok (.bipush 10, 2) := by decide +kernel
theorem dX12_state_205 : decode cX12_state 205 = .ok (.isub, 1) := by decide +kernel
theorem dX12_state_206 : decode cX12_state 206 = .ok (.iaload, 1) := by decide +kernel
theorem dX12_state_207 : decode cX12_state 207 = .ok (.ireturn, 1) := by decide +kernel
abbrev rm_X12_state : Room := { frames := 0, cells := 0, slots := 0, locals := 0 }
def w_X12_state : List Cond := Cond.code yX12_state cX12_state 2 (some .int) :: uw
set_option maxHeartbeats 4000000 in
set_option maxRecDepth 100000 in
theorem c_X12_state (l : Launch) (dC : Nat → ClassId) (dI : Nat → Nat → Nat) (cI cZ cO : ClassId) (tL sz : Nat) (h0 : Nat) (h1 : Nat) (h2 : Nat) (h3 : Nat) (h4 : Nat) (h5 : Nat) (g0_sheet : Nat) (g0_words : Nat) (g0_saved : Nat) (g0_points : Nat) (g0_px : Nat) (g0_py : Nat) (g0_begins : Nat) (g0_begun : Nat) (g0_lastX : Nat) (g0_lastY : Nat) (g0_startX : Nat) (g0_startY : Nat) (g0_startPoint : Nat) (g0_both : Nat) (g0_cut : Nat) (v0_wide : Int32) (v0_tall : Int32) (v0_good : Int32) (v0_faultPlace : Int32) (v0_made : Int32) (v0_fills : Int32) (v0_painted : Int32) (v0_other : Int32) (f1 : Nat → Int32) (f2 : Nat → Int32) (f3 : Nat → Int32) (f4 : Nat → Int32) (f5 : Nat → Int32) (p1 : Int32) (res : Int32) (hM : m_X12_state v0_good v0_faultPlace v0_fills v0_painted f1 f2 f3 f4 f5 p1 = some res) : Met l yX12_state w_X12_state rm_X12_state (PCx [.ref h0, .int p1] (dC, dI) [(cI, .int), (cZ, .boolean), (cO, .object "ListPainter$Settings")] sz tL [(h0, .inr (11, [.int v0_wide, .int v0_tall, .ref g0_sheet, .ref g0_words, .ref h5, .int v0_good, .int v0_faultPlace, .int v0_made, .int v0_fills, .int v0_painted, .ref h2, .ref g0_saved, .ref h3, .ref h4, .ref g0_points, .ref g0_px, .ref g0_py, .ref g0_begins, .ref g0_begun, .ref h1, .ref g0_lastX, .ref g0_lastY, .ref g0_startX, .ref g0_startY, .ref g0_startPoint, .ref g0_both, .ref g0_cut, .int v0_other])), (h1, .inl (cI, 2, .inl f1)), (h2, .inl (cI, 24, .inl f2)), (h3, .inl (cI, 2, .inl f3)), (h4, .inl (cI, 2, .inl f4)), (h5, .inl (cI, 3, .inl f5))]) (QMi res (dC, dI) [(cI, .int), (cZ, .boolean), (cO, .object "ListPainter$Settings")] (va_A [(h0, .inr (11, [.int v0_wide, .int v0_tall, .ref g0_sheet, .ref g0_words, .ref h5, .int v0_good, .int v0_faultPlace, .int v0_made, .int v0_fills, .int v0_painted, .ref h2, .ref g0_saved, .ref h3, .ref h4, .ref g0_points, .ref g0_px, .ref g0_py, .ref g0_begins, .ref g0_begun, .ref h1, .ref g0_lastX, .ref g0_lastY, .ref g0_startX, .ref g0_startY, .ref g0_startPoint, .ref g0_both, .ref g0_cut, .int v0_other])), (h1, .inl (cI, 2, .inl f1)), (h2, .inl (cI, 24, .inl f2)), (h3, .inl (cI, 2, .inl f3)), (h4, .inl (cI, 2, .inl f4)), (h5, .inl (cI, 3, .inl f5))] sz) [(h0, .inr (11, [.int v0_wide, .int v0_tall, .ref g0_sheet, .ref g0_words, .ref h5, .int v0_good, .int v0_faultPlace, .int v0_made, .int v0_fills, .int v0_painted, .ref h2, .ref g0_saved, .ref h3, .ref h4, .ref g0_points, .ref g0_px, .ref g0_py, .ref g0_begins, .ref g0_begun, .ref h1, .ref g0_lastX, .ref g0_lastY, .ref g0_startX, .ref g0_startY, .ref g0_startPoint, .ref g0_both, .ref g0_cut, .int v0_other])), (h1, .inl (cI, 2, .inl f1)), (h2, .inl (cI, 24, .inl f2)), (h3, .inl (cI, 2, .inl f3)), (h4, .inl (cI, 2, .inl f4)), (h5, .inl (cI, 3, .inl f5))]) 0 0 (va_A [(h0, .inr (11, [.int v0_wide, .int v0_tall, .ref g0_sheet, .ref g0_words, .ref h5, .int v0_good, .int v0_faultPlace, .int v0_made, .int v0_fills, .int v0_painted, .ref h2, .ref g0_saved, .ref h3, .ref h4, .ref g0_points, .ref g0_px, .ref g0_py, .ref g0_begins, .ref g0_begun, .ref h1, .ref g0_lastX, .ref g0_lastY, .ref g0_startX, .ref g0_startY, .ref g0_startPoint, .ref g0_both, .ref g0_cut, .int v0_other])), (h1, .inl (cI, 2, .inl f1)), (h2, .inl (cI, 24, .inl f2)), (h3, .inl (cI, 2, .inl f3)), (h4, .inl (cI, 2, .inl f4)), (h5, .inl (cI, 3, .inl f5))] sz) := by
  refine Met.ofW (cc := cX12_state) (maxL := 2) (ret := (some .int)) (by decide) rfl ?_
  intro p e s m args below meth c s₁ B hml hv
  obtain ⟨rfl, hsz, hP, hK, hD0, hG⟩ := hv
  have hx := B.exec
  have hb := B.bytes
  have hr := B.returns
  have hu : ∀ w ∈ uw, w.before ([.ref h0, .int p1] : List Value).toArray s = true := fun w h => atoms_spec (ws := w_X12_state) B.pre w (List.mem_cons_of_mem _ h)
  have hown : s.vm.findClass RX12 = some m.cls := findClass_of_methodNamed B.named
  have hlocks := B.notSynchronized
  subst hsz
  have hD := hD0.self (sz := s.heap.size)
  generalize hAe : va_A [(h0, .inr (11, [.int v0_wide, .int v0_tall, .ref g0_sheet, .ref g0_words, .ref h5, .int v0_good, .int v0_faultPlace, .int v0_made, .int v0_fills, .int v0_painted, .ref h2, .ref g0_saved, .ref h3, .ref h4, .ref g0_points, .ref g0_px, .ref g0_py, .ref g0_begins, .ref g0_begun, .ref h1, .ref g0_lastX, .ref g0_lastY, .ref g0_startX, .ref g0_startY, .ref g0_startPoint, .ref g0_both, .ref g0_cut, .int v0_other])), (h1, .inl (cI, 2, .inl f1)), (h2, .inl (cI, 24, .inl f2)), (h3, .inl (cI, 2, .inl f3)), (h4, .inl (cI, 2, .inl f4)), (h5, .inl (cI, 3, .inl f5))] s.heap.size = A at hD hG ⊢
  have hA : ∀ q : Nat, s.heap.size ≤ q → A q := fun q h => by rw [← hAe]; exact Or.inr h
  have hS : va_S A s.heap s.heap [] := va_S.rf
  have hP : va_P (dC, dI) vwCl [(h0, .inr (11, [.int v0_wide, .int v0_tall, .ref g0_sheet, .ref g0_words, .ref h5, .int v0_good, .int v0_faultPlace, .int v0_made, .int v0_fills, .int v0_painted, .ref h2, .ref g0_saved, .ref h3, .ref h4, .ref g0_points, .ref g0_px, .ref g0_py, .ref g0_begins, .ref g0_begun, .ref h1, .ref g0_lastX, .ref g0_lastY, .ref g0_startX, .ref g0_startY, .ref g0_startPoint, .ref g0_both, .ref g0_cut, .int v0_other])), (h1, .inl (cI, 2, .inl f1)), (h2, .inl (cI, 24, .inl f2)), (h3, .inl (cI, 2, .inl f3)), (h4, .inl (cI, 2, .inl f4)), (h5, .inl (cI, 3, .inl f5))] s.heap := hP
  have hl := lv_entry ([.ref h0, .int p1]) (n := 2) (Nat.le_of_ble_eq_true rfl)
  rw [lg_entry_eq]
  generalize (lg_sl ([.ref h0, .int p1]) ++ List.replicate (2 - (lg_sl ([.ref h0, .int p1])).length) Slot.unset).toArray = ls at hl ⊢
  have hl : lv_has ls 2 [(0, .ref h0), (1, .int p1)] := hl
  rw [m_X12_state] at hM
  suffices hgo : ∀ (H : Heap) (locs : List Loc), va_P (dC, dI) vwCl [(h0, .inr (11, [.int v0_wide, .int v0_tall, .ref g0_sheet, .ref g0_words, .ref h5, .int v0_good, .int v0_faultPlace, .int v0_made, .int v0_fills, .int v0_painted, .ref h2, .ref g0_saved, .ref h3, .ref h4, .ref g0_points, .ref g0_px, .ref g0_py, .ref g0_begins, .ref g0_begun, .ref h1, .ref g0_lastX, .ref g0_lastY, .ref g0_startX, .ref g0_startY, .ref g0_startPoint, .ref g0_both, .ref g0_cut, .int v0_other])), (h1, .inl (cI, 2, .inl f1)), (h2, .inl (cI, 24, .inl f2)), (h3, .inl (cI, 2, .inl f3)), (h4, .inl (cI, 2, .inl f4)), (h5, .inl (cI, 3, .inl f5))] H → va_D A [(h0, .inr (11, [.int v0_wide, .int v0_tall, .ref g0_sheet, .ref g0_words, .ref h5, .int v0_good, .int v0_faultPlace, .int v0_made, .int v0_fills, .int v0_painted, .ref h2, .ref g0_saved, .ref h3, .ref h4, .ref g0_points, .ref g0_px, .ref g0_py, .ref g0_begins, .ref g0_begun, .ref h1, .ref g0_lastX, .ref g0_lastY, .ref g0_startX, .ref g0_startY, .ref g0_startPoint, .ref g0_both, .ref g0_cut, .int v0_other])), (h1, .inl (cI, 2, .inl f1)), (h2, .inl (cI, 24, .inl f2)), (h3, .inl (cI, 2, .inl f3)), (h4, .inl (cI, 2, .inl f4)), (h5, .inl (cI, 3, .inl f5))] → va_S A s.heap H locs → W p l e (headSpec w_X12_state rm_X12_state).room s m ([.ref h0, .int p1] : List Value).toArray below meth c H locs 0 0 (MQ below (QMi res (dC, dI) [(cI, .int), (cZ, .boolean), (cO, .object "ListPainter$Settings")] A [(h0, .inr (11, [.int v0_wide, .int v0_tall, .ref g0_sheet, .ref g0_words, .ref h5, .int v0_good, .int v0_faultPlace, .int v0_made, .int v0_fills, .int v0_painted, .ref h2, .ref g0_saved, .ref h3, .ref h4, .ref g0_points, .ref g0_px, .ref g0_py, .ref g0_begins, .ref g0_begun, .ref h1, .ref g0_lastX, .ref g0_lastY, .ref g0_startX, .ref g0_startY, .ref g0_startPoint, .ref g0_both, .ref g0_cut, .int v0_other])), (h1, .inl (cI, 2, .inl f1)), (h2, .inl (cI, 24, .inl f2)), (h3, .inl (cI, 2, .inl f3)), (h4, .inl (cI, 2, .inl f4)), (h5, .inl (cI, 3, .inl f5))]) ([.ref h0, .int p1] : List Value).toArray s 0 0 A) (F0 m 0 ls []) from hgo _ _ hP hD hS
  intro H locs hP hD hS
  refine lv_iload_n hx hb dX12_state_0 rfl (lv_at hl 1 rfl) ?_
  obtain ⟨K9_1, eK9_1, hM⟩ := jn_u hM
  have hJ9_1 : ∀ (H : Heap) (locs : List Loc) (ls : Array Slot), va_P (dC, dI) vwCl [(h0, .inr (11, [.int v0_wide, .int v0_tall, .ref g0_sheet, .ref g0_words, .ref h5, .int v0_good, .int v0_faultPlace, .int v0_made, .int v0_fills, .int v0_painted, .ref h2, .ref g0_saved, .ref h3, .ref h4, .ref g0_points, .ref g0_px, .ref g0_py, .ref g0_begins, .ref g0_begun, .ref h1, .ref g0_lastX, .ref g0_lastY, .ref g0_startX, .ref g0_startY, .ref g0_startPoint, .ref g0_both, .ref g0_cut, .int v0_other])), (h1, .inl (cI, 2, .inl f1)), (h2, .inl (cI, 24, .inl f2)), (h3, .inl (cI, 2, .inl f3)), (h4, .inl (cI, 2, .inl f4)), (h5, .inl (cI, 3, .inl f5))] H → va_D A [(h0, .inr (11, [.int v0_wide, .int v0_tall, .ref g0_sheet, .ref g0_words, .ref h5, .int v0_good, .int v0_faultPlace, .int v0_made, .int v0_fills, .int v0_painted, .ref h2, .ref g0_saved, .ref h3, .ref h4, .ref g0_points, .ref g0_px, .ref g0_py, .ref g0_begins, .ref g0_begun, .ref h1, .ref g0_lastX, .ref g0_lastY, .ref g0_startX, .ref g0_startY, .ref g0_startPoint, .ref g0_both, .ref g0_cut, .int v0_other])), (h1, .inl (cI, 2, .inl f1)), (h2, .inl (cI, 24, .inl f2)), (h3, .inl (cI, 2, .inl f3)), (h4, .inl (cI, 2, .inl f4)), (h5, .inl (cI, 3, .inl f5))] → va_S A s.heap H locs → lv_has ls 2 [(0, .ref h0), (1, .int p1)] → K9_1 = some res → W p l e (headSpec w_X12_state rm_X12_state).room s m ([.ref h0, .int p1] : List Value).toArray below meth c H locs 0 0 (MQ below (QMi res (dC, dI) [(cI, .int), (cZ, .boolean), (cO, .object "ListPainter$Settings")] A [(h0, .inr (11, [.int v0_wide, .int v0_tall, .ref g0_sheet, .ref g0_words, .ref h5, .int v0_good, .int v0_faultPlace, .int v0_made, .int v0_fills, .int v0_painted, .ref h2, .ref g0_saved, .ref h3, .ref h4, .ref g0_points, .ref g0_px, .ref g0_py, .ref g0_begins, .ref g0_begun, .ref h1, .ref g0_lastX, .ref g0_lastY, .ref g0_startX, .ref g0_startY, .ref g0_startPoint, .ref g0_both, .ref g0_cut, .int v0_other])), (h1, .inl (cI, 2, .inl f1)), (h2, .inl (cI, 24, .inl f2)), (h3, .inl (cI, 2, .inl f3)), (h4, .inl (cI, 2, .inl f4)), (h5, .inl (cI, 3, .inl f5))]) ([.ref h0, .int p1] : List Value).toArray s 0 0 A) (F0 m 9 ls []) := by
    intro H locs ls hP hD hS hl hM
    have hM := ja0 eK9_1 hM
    refine lv_iload_n hx hb dX12_state_9 rfl (lv_at hl 1 rfl) ?_
    refine lv_if_ne (tgt := 22) hx hb dX12_state_10 (by decide) (fun c_2 => ?_) (fun c_2 => ?_)
    · have hM := if_f c_2 hM
      refine lv_aload_n hx hb dX12_state_22 rfl (lv_at hl 0 rfl) ?_
      refine va_get (D := (dC, dI)) (ci := 11) (v := .int v0_faultPlace) (C := RX12) (T := TX12) (N := 28) hx hb hu inX12 hown hK hP 0 rfl rfl 6 (by decide) (hu _ kw_319) (fun _ h9 => h9) rfl dX12_state_23 ?_
      have h9 := Option.some.inj hM
      subst h9
      exact W.iret (v := v0_faultPlace) hx hb hr (fun t ht hW => QMi_mk (by rw [ht]; exact hP) (va_K.moved hW.alike hK) hD (hS.F ht)) hS.2.2 dX12_state_26
    · have hM := if_t c_2 hM
      refine lv_aload_n hx hb dX12_state_13 rfl (lv_at hl 0 rfl) ?_
      refine va_get (D := (dC, dI)) (ci := 11) (v := .ref h5) (C := RX12) (T := TX12) (N := 28) hx hb hu inX12 hown hK hP 0 rfl rfl 4 (by decide) (hu _ kw_248) (fun _ h9 => h9) rfl dX12_state_14 ?_
      refine lv_iconst (v := 0) hx hb dX12_state_17 (by decide) ?_
      obtain ⟨g_3, hM⟩ := gd_u hM
      refine va_iald hx hb hK hP 5 0 rfl rfl (inb_v g_3) dX12_state_18 ?_
      refine lv_topi (fun a_4 ea_4 => ?_)
      have hM := nm_u ea_4 hM
      refine lv_goto (tgt := 26) hx hb dX12_state_19 (by decide) ?_
      have h9 := Option.some.inj hM
      subst h9
      exact W.iret (v := a_4) hx hb hr (fun t ht hW => QMi_mk (by rw [ht]; exact hP) (va_K.moved hW.alike hK) hD (hS.F ht)) hS.2.2 dX12_state_26
  refine lv_if_eq (tgt := 9) hx hb dX12_state_1 (by decide) (fun c_5 => ?_) (fun c_5 => ?_)
  · have hM := if_t c_5 hM
    exact hJ9_1  H locs ls hP hD hS (lv_sub hl [0, 1] rfl) hM
  · have hM := if_f c_5 hM
    refine lv_iload_n hx hb dX12_state_4 rfl (lv_at hl 1 rfl) ?_
    refine lv_iconst (v := 2) hx hb dX12_state_5 (by decide) ?_
    refine lv_icmp_ne (tgt := 27) hx hb dX12_state_6 (by decide) (fun c_6 => ?_) (fun c_6 => ?_)
    · have hM := if_f c_6 hM
      refine lv_aload_n hx hb dX12_state_27 rfl (lv_at hl 0 rfl) ?_
      refine va_get (D := (dC, dI)) (ci := 11) (v := .int v0_good) (C := RX12) (T := TX12) (N := 28) hx hb hu inX12 hown hK hP 0 rfl rfl 5 (by decide) (hu _ kw_246) (fun _ h9 => h9) rfl dX12_state_28 ?_
      refine lv_if_eq (tgt := 44) hx hb dX12_state_31 (by decide) (fun c_7 => ?_) (fun c_7 => ?_)
      · have hM := if_t c_7 hM
        refine lv_ldcw (v := (-2000000000)) hx hb hown (hu _ kw_384) dX12_state_44 ?_
        have h9 := Option.some.inj hM
        subst h9
        exact W.iret (v := (-2000000000)) hx hb hr (fun t ht hW => QMi_mk (by rw [ht]; exact hP) (va_K.moved hW.alike hK) hD (hS.F ht)) hS.2.2 dX12_state_47
      · have hM := if_f c_7 hM
        refine lv_iload_n hx hb dX12_state_34 rfl (lv_at hl 1 rfl) ?_
        refine lv_if_lt (tgt := 44) hx hb dX12_state_35 (by decide) (fun c_8 => ?_) (fun c_8 => ?_)
        · have hM := if_t c_8 hM
          refine lv_ldcw (v := (-2000000000)) hx hb hown (hu _ kw_384) dX12_state_44 ?_
          have h9 := Option.some.inj hM
          subst h9
          exact W.iret (v := (-2000000000)) hx hb hr (fun t ht hW => QMi_mk (by rw [ht]; exact hP) (va_K.moved hW.alike hK) hD (hS.F ht)) hS.2.2 dX12_state_47
        · have hM := if_f c_8 hM
          refine lv_iload_n hx hb dX12_state_38 rfl (lv_at hl 1 rfl) ?_
          refine lv_bipush (v := 18) hx hb dX12_state_39 (by decide) ?_
          refine lv_icmp_le (tgt := 48) hx hb dX12_state_41 (by decide) (fun c_9 => ?_) (fun c_9 => ?_)
          · have hM := if_t c_9 hM
            refine lv_iload_n hx hb dX12_state_48 rfl (lv_at hl 1 rfl) ?_
            obtain ⟨K183_10, eK183_10, hM⟩ := jn_u hM
            have hJ183_10 : ∀ (H : Heap) (locs : List Loc) (ls : Array Slot), va_P (dC, dI) vwCl [(h0, .inr (11, [.int v0_wide, .int v0_tall, .ref g0_sheet, .ref g0_words, .ref h5, .int v0_good, .int v0_faultPlace, .int v0_made, .int v0_fills, .int v0_painted, .ref h2, .ref g0_saved, .ref h3, .ref h4, .ref g0_points, .ref g0_px, .ref g0_py, .ref g0_begins, .ref g0_begun, .ref h1, .ref g0_lastX, .ref g0_lastY, .ref g0_startX, .ref g0_startY, .ref g0_startPoint, .ref g0_both, .ref g0_cut, .int v0_other])), (h1, .inl (cI, 2, .inl f1)), (h2, .inl (cI, 24, .inl f2)), (h3, .inl (cI, 2, .inl f3)), (h4, .inl (cI, 2, .inl f4)), (h5, .inl (cI, 3, .inl f5))] H → va_D A [(h0, .inr (11, [.int v0_wide, .int v0_tall, .ref g0_sheet, .ref g0_words, .ref h5, .int v0_good, .int v0_faultPlace, .int v0_made, .int v0_fills, .int v0_painted, .ref h2, .ref g0_saved, .ref h3, .ref h4, .ref g0_points, .ref g0_px, .ref g0_py, .ref g0_begins, .ref g0_begun, .ref h1, .ref g0_lastX, .ref g0_lastY, .ref g0_startX, .ref g0_startY, .ref g0_startPoint, .ref g0_both, .ref g0_cut, .int v0_other])), (h1, .inl (cI, 2, .inl f1)), (h2, .inl (cI, 24, .inl f2)), (h3, .inl (cI, 2, .inl f3)), (h4, .inl (cI, 2, .inl f4)), (h5, .inl (cI, 3, .inl f5))] → va_S A s.heap H locs → lv_has ls 2 [(0, .ref h0), (1, .int p1)] → K183_10 = some res → W p l e (headSpec w_X12_state rm_X12_state).room s m ([.ref h0, .int p1] : List Value).toArray below meth c H locs 0 0 (MQ below (QMi res (dC, dI) [(cI, .int), (cZ, .boolean), (cO, .object "ListPainter$Settings")] A [(h0, .inr (11, [.int v0_wide, .int v0_tall, .ref g0_sheet, .ref g0_words, .ref h5, .int v0_good, .int v0_faultPlace, .int v0_made, .int v0_fills, .int v0_painted, .ref h2, .ref g0_saved, .ref h3, .ref h4, .ref g0_points, .ref g0_px, .ref g0_py, .ref g0_begins, .ref g0_begun, .ref h1, .ref g0_lastX, .ref g0_lastY, .ref g0_startX, .ref g0_startY, .ref g0_startPoint, .ref g0_both, .ref g0_cut, .int v0_other])), (h1, .inl (cI, 2, .inl f1)), (h2, .inl (cI, 24, .inl f2)), (h3, .inl (cI, 2, .inl f3)), (h4, .inl (cI, 2, .inl f4)), (h5, .inl (cI, 3, .inl f5))]) ([.ref h0, .int p1] : List Value).toArray s 0 0 A) (F0 m 183 ls []) := by
              intro H locs ls hP hD hS hl hM
              have hM := ja0 eK183_10 hM
              refine lv_iload_n hx hb dX12_state_183 rfl (lv_at hl 1 rfl) ?_
              refine lv_bipush (v := 10) hx hb dX12_state_184 (by decide) ?_
              refine lv_icmp_ge (tgt := 198) hx hb dX12_state_186 (by decide) (fun c_11 => ?_) (fun c_11 => ?_)
              · have hM := if_t c_11 hM
                refine lv_aload_n hx hb dX12_state_198 rfl (lv_at hl 0 rfl) ?_
                refine va_get (D := (dC, dI)) (ci := 11) (v := .ref h2) (C := RX12) (T := TX12) (N := 28) hx hb hu inX12 hown hK hP 0 rfl rfl 10 (by decide) (hu _ kw_269) (fun _ h9 => h9) rfl dX12_state_199 ?_
                refine lv_iload_n hx hb dX12_state_202 rfl (lv_at hl 1 rfl) ?_
                refine lv_bipush (v := 10) hx hb dX12_state_203 (by decide) ?_
                refine lv_isub hx hb dX12_state_205 ?_
                obtain ⟨g_12, hM⟩ := gd_u hM
                refine va_iald hx hb hK hP 2 0 rfl rfl (inb_v g_12) dX12_state_206 ?_
                refine lv_topi (fun a_13 ea_13 => ?_)
                have hM := nm_u ea_13 hM
                have h9 := Option.some.inj hM
                subst h9
                exact W.iret (v := a_13) hx hb hr (fun t ht hW => QMi_mk (by rw [ht]; exact hP) (va_K.moved hW.alike hK) hD (hS.F ht)) hS.2.2 dX12_state_207
              · have hM := if_f c_11 hM
                refine lv_aload_n hx hb dX12_state_189 rfl (lv_at hl 0 rfl) ?_
                refine va_get (D := (dC, dI)) (ci := 11) (v := .ref h2) (C := RX12) (T := TX12) (N := 28) hx hb hu inX12 hown hK hP 0 rfl rfl 10 (by decide) (hu _ kw_269) (fun _ h9 => h9) rfl dX12_state_190 ?_
                refine lv_iload_n hx hb dX12_state_193 rfl (lv_at hl 1 rfl) ?_
                obtain ⟨g_14, hM⟩ := gd_u hM
                refine va_iald hx hb hK hP 2 0 rfl rfl (inb_v g_14) dX12_state_194 ?_
                refine lv_topi (fun a_15 ea_15 => ?_)
                have hM := nm_u ea_15 hM
                refine lv_goto (tgt := 207) hx hb dX12_state_195 (by decide) ?_
                have h9 := Option.some.inj hM
                subst h9
                exact W.iret (v := a_15) hx hb hr (fun t ht hW => QMi_mk (by rw [ht]; exact hP) (va_K.moved hW.alike hK) hD (hS.F ht)) hS.2.2 dX12_state_207
            by_cases c16_0 : p1 = 1
            · have hM := if_t c16_0 hM
              refine lv_tableIn (tgt := 136) hx hb dX12_state_49 (by rw [c16_0]; decide) (by rw [c16_0]; decide) (by rw [c16_0]; rfl) (by decide) ?_
              refine lv_aload_n hx hb dX12_state_136 rfl (lv_at hl 0 rfl) ?_
              refine va_get (D := (dC, dI)) (ci := 11) (v := .ref h4) (C := RX12) (T := TX12) (N := 28) hx hb hu inX12 hown hK hP 0 rfl rfl 13 (by decide) (hu _ kw_282) (fun _ h9 => h9) rfl dX12_state_137 ?_
              refine lv_iconst (v := 0) hx hb dX12_state_140 (by decide) ?_
              obtain ⟨g_17, hM⟩ := gd_u hM
              refine va_iald hx hb hK hP 4 0 rfl rfl (inb_v g_17) dX12_state_141 ?_
              refine lv_topi (fun a_18 ea_18 => ?_)
              have hM := nm_u ea_18 hM
              have h9 := Option.some.inj hM
              subst h9
              exact W.iret (v := a_18) hx hb hr (fun t ht hW => QMi_mk (by rw [ht]; exact hP) (va_K.moved hW.alike hK) hD (hS.F ht)) hS.2.2 dX12_state_142
            · have hM := if_f c16_0 hM
              by_cases c16_1 : p1 = 2
              · have hM := if_t c16_1 hM
                refine lv_tableIn (tgt := 183) hx hb dX12_state_49 (by rw [c16_1]; decide) (by rw [c16_1]; decide) (by rw [c16_1]; rfl) (by decide) ?_
                exact hJ183_10  H locs ls hP hD hS (lv_sub hl [0, 1] rfl) hM
              · have hM := if_f c16_1 hM
                by_cases c16_2 : p1 = 3
                · have hM := if_t c16_2 hM
                  refine lv_tableIn (tgt := 143) hx hb dX12_state_49 (by rw [c16_2]; decide) (by rw [c16_2]; decide) (by rw [c16_2]; rfl) (by decide) ?_
                  refine lv_aload_n hx hb dX12_state_143 rfl (lv_at hl 0 rfl) ?_
                  refine va_get (D := (dC, dI)) (ci := 11) (v := .ref h3) (C := RX12) (T := TX12) (N := 28) hx hb hu inX12 hown hK hP 0 rfl rfl 12 (by decide) (hu _ kw_281) (fun _ h9 => h9) rfl dX12_state_144 ?_
                  refine lv_iconst (v := 0) hx hb dX12_state_147 (by decide) ?_
                  obtain ⟨g_19, hM⟩ := gd_u hM
                  refine va_iald hx hb hK hP 3 0 rfl rfl (inb_v g_19) dX12_state_148 ?_
                  refine lv_topi (fun a_20 ea_20 => ?_)
                  have hM := nm_u ea_20 hM
                  have h9 := Option.some.inj hM
                  subst h9
                  exact W.iret (v := a_20) hx hb hr (fun t ht hW => QMi_mk (by rw [ht]; exact hP) (va_K.moved hW.alike hK) hD (hS.F ht)) hS.2.2 dX12_state_149
                · have hM := if_f c16_2 hM
                  by_cases c16_3 : p1 = 4
                  · have hM := if_t c16_3 hM
                    refine lv_tableIn (tgt := 150) hx hb dX12_state_49 (by rw [c16_3]; decide) (by rw [c16_3]; decide) (by rw [c16_3]; rfl) (by decide) ?_
                    refine lv_aload_n hx hb dX12_state_150 rfl (lv_at hl 0 rfl) ?_
                    refine va_get (D := (dC, dI)) (ci := 11) (v := .ref h2) (C := RX12) (T := TX12) (N := 28) hx hb hu inX12 hown hK hP 0 rfl rfl 10 (by decide) (hu _ kw_269) (fun _ h9 => h9) rfl dX12_state_151 ?_
                    refine lv_bipush (v := 10) hx hb dX12_state_154 (by decide) ?_
                    obtain ⟨g_21, hM⟩ := gd_u hM
                    refine va_iald hx hb hK hP 2 0 rfl rfl (inb_v g_21) dX12_state_156 ?_
                    refine lv_topi (fun a_22 ea_22 => ?_)
                    have hM := nm_u ea_22 hM
                    have h9 := Option.some.inj hM
                    subst h9
                    exact W.iret (v := a_22) hx hb hr (fun t ht hW => QMi_mk (by rw [ht]; exact hP) (va_K.moved hW.alike hK) hD (hS.F ht)) hS.2.2 dX12_state_157
                  · have hM := if_f c16_3 hM
                    by_cases c16_4 : p1 = 5
                    · have hM := if_t c16_4 hM
                      refine lv_tableIn (tgt := 158) hx hb dX12_state_49 (by rw [c16_4]; decide) (by rw [c16_4]; decide) (by rw [c16_4]; rfl) (by decide) ?_
                      refine lv_aload_n hx hb dX12_state_158 rfl (lv_at hl 0 rfl) ?_
                      refine va_get (D := (dC, dI)) (ci := 11) (v := .ref h2) (C := RX12) (T := TX12) (N := 28) hx hb hu inX12 hown hK hP 0 rfl rfl 10 (by decide) (hu _ kw_269) (fun _ h9 => h9) rfl dX12_state_159 ?_
                      refine lv_bipush (v := 11) hx hb dX12_state_162 (by decide) ?_
                      obtain ⟨g_23, hM⟩ := gd_u hM
                      refine va_iald hx hb hK hP 2 0 rfl rfl (inb_v g_23) dX12_state_164 ?_
                      refine lv_topi (fun a_24 ea_24 => ?_)
                      have hM := nm_u ea_24 hM
                      have h9 := Option.some.inj hM
                      subst h9
                      exact W.iret (v := a_24) hx hb hr (fun t ht hW => QMi_mk (by rw [ht]; exact hP) (va_K.moved hW.alike hK) hD (hS.F ht)) hS.2.2 dX12_state_165
                    · have hM := if_f c16_4 hM
                      by_cases c16_5 : p1 = 6
                      · have hM := if_t c16_5 hM
                        refine lv_tableIn (tgt := 183) hx hb dX12_state_49 (by rw [c16_5]; decide) (by rw [c16_5]; decide) (by rw [c16_5]; rfl) (by decide) ?_
                        exact hJ183_10  H locs ls hP hD hS (lv_sub hl [0, 1] rfl) hM
                      · have hM := if_f c16_5 hM
                        by_cases c16_6 : p1 = 7
                        · have hM := if_t c16_6 hM
                          refine lv_tableIn (tgt := 183) hx hb dX12_state_49 (by rw [c16_6]; decide) (by rw [c16_6]; decide) (by rw [c16_6]; rfl) (by decide) ?_
                          exact hJ183_10  H locs ls hP hD hS (lv_sub hl [0, 1] rfl) hM
                        · have hM := if_f c16_6 hM
                          by_cases c16_7 : p1 = 8
                          · have hM := if_t c16_7 hM
                            refine lv_tableIn (tgt := 183) hx hb dX12_state_49 (by rw [c16_7]; decide) (by rw [c16_7]; decide) (by rw [c16_7]; rfl) (by decide) ?_
                            exact hJ183_10  H locs ls hP hD hS (lv_sub hl [0, 1] rfl) hM
                          · have hM := if_f c16_7 hM
                            by_cases c16_8 : p1 = 9
                            · have hM := if_t c16_8 hM
                              refine lv_tableIn (tgt := 183) hx hb dX12_state_49 (by rw [c16_8]; decide) (by rw [c16_8]; decide) (by rw [c16_8]; rfl) (by decide) ?_
                              exact hJ183_10  H locs ls hP hD hS (lv_sub hl [0, 1] rfl) hM
                            · have hM := if_f c16_8 hM
                              by_cases c16_9 : p1 = 10
                              · have hM := if_t c16_9 hM
                                refine lv_tableIn (tgt := 183) hx hb dX12_state_49 (by rw [c16_9]; decide) (by rw [c16_9]; decide) (by rw [c16_9]; rfl) (by decide) ?_
                                exact hJ183_10  H locs ls hP hD hS (lv_sub hl [0, 1] rfl) hM
                              · have hM := if_f c16_9 hM
                                by_cases c16_10 : p1 = 11
                                · have hM := if_t c16_10 hM
                                  refine lv_tableIn (tgt := 183) hx hb dX12_state_49 (by rw [c16_10]; decide) (by rw [c16_10]; decide) (by rw [c16_10]; rfl) (by decide) ?_
                                  exact hJ183_10  H locs ls hP hD hS (lv_sub hl [0, 1] rfl) hM
                                · have hM := if_f c16_10 hM
                                  by_cases c16_11 : p1 = 12
                                  · have hM := if_t c16_11 hM
                                    refine lv_tableIn (tgt := 183) hx hb dX12_state_49 (by rw [c16_11]; decide) (by rw [c16_11]; decide) (by rw [c16_11]; rfl) (by decide) ?_
                                    exact hJ183_10  H locs ls hP hD hS (lv_sub hl [0, 1] rfl) hM
                                  · have hM := if_f c16_11 hM
                                    by_cases c16_12 : p1 = 13
                                    · have hM := if_t c16_12 hM
                                      refine lv_tableIn (tgt := 183) hx hb dX12_state_49 (by rw [c16_12]; decide) (by rw [c16_12]; decide) (by rw [c16_12]; rfl) (by decide) ?_
                                      exact hJ183_10  H locs ls hP hD hS (lv_sub hl [0, 1] rfl) hM
                                    · have hM := if_f c16_12 hM
                                      by_cases c16_13 : p1 = 14
                                      · have hM := if_t c16_13 hM
                                        refine lv_tableIn (tgt := 183) hx hb dX12_state_49 (by rw [c16_13]; decide) (by rw [c16_13]; decide) (by rw [c16_13]; rfl) (by decide) ?_
                                        exact hJ183_10  H locs ls hP hD hS (lv_sub hl [0, 1] rfl) hM
                                      · have hM := if_f c16_13 hM
                                        by_cases c16_14 : p1 = 15
                                        · have hM := if_t c16_14 hM
                                          refine lv_tableIn (tgt := 183) hx hb dX12_state_49 (by rw [c16_14]; decide) (by rw [c16_14]; decide) (by rw [c16_14]; rfl) (by decide) ?_
                                          exact hJ183_10  H locs ls hP hD hS (lv_sub hl [0, 1] rfl) hM
                                        · have hM := if_f c16_14 hM
                                          by_cases c16_15 : p1 = 16
                                          · have hM := if_t c16_15 hM
                                            refine lv_tableIn (tgt := 166) hx hb dX12_state_49 (by rw [c16_15]; decide) (by rw [c16_15]; decide) (by rw [c16_15]; rfl) (by decide) ?_
                                            refine lv_aload_n hx hb dX12_state_166 rfl (lv_at hl 0 rfl) ?_
                                            refine va_get (D := (dC, dI)) (ci := 11) (v := .ref h1) (C := RX12) (T := TX12) (N := 28) hx hb hu inX12 hown hK hP 0 rfl rfl 19 (by decide) (hu _ kw_273) (fun _ h9 => h9) rfl dX12_state_167 ?_
                                            refine lv_iconst (v := 0) hx hb dX12_state_170 (by decide) ?_
                                            obtain ⟨g_25, hM⟩ := gd_u hM
                                            refine va_iald hx hb hK hP 1 0 rfl rfl (inb_v g_25) dX12_state_171 ?_
                                            refine lv_topi (fun a_26 ea_26 => ?_)
                                            have hM := nm_u ea_26 hM
                                            have h9 := Option.some.inj hM
                                            subst h9
                                            exact W.iret (v := a_26) hx hb hr (fun t ht hW => QMi_mk (by rw [ht]; exact hP) (va_K.moved hW.alike hK) hD (hS.F ht)) hS.2.2 dX12_state_172
                                          · have hM := if_f c16_15 hM
                                            by_cases c16_16 : p1 = 17
                                            · have hM := if_t c16_16 hM
                                              refine lv_tableIn (tgt := 173) hx hb dX12_state_49 (by rw [c16_16]; decide) (by rw [c16_16]; decide) (by rw [c16_16]; rfl) (by decide) ?_
                                              refine lv_aload_n hx hb dX12_state_173 rfl (lv_at hl 0 rfl) ?_
                                              refine va_get (D := (dC, dI)) (ci := 11) (v := .int v0_fills) (C := RX12) (T := TX12) (N := 28) hx hb hu inX12 hown hK hP 0 rfl rfl 8 (by decide) (hu _ kw_320) (fun _ h9 => h9) rfl dX12_state_174 ?_
                                              have h9 := Option.some.inj hM
                                              subst h9
                                              exact W.iret (v := v0_fills) hx hb hr (fun t ht hW => QMi_mk (by rw [ht]; exact hP) (va_K.moved hW.alike hK) hD (hS.F ht)) hS.2.2 dX12_state_177
                                            · have hM := if_f c16_16 hM
                                              by_cases c16_17 : p1 = 18
                                              · have hM := if_t c16_17 hM
                                                refine lv_tableIn (tgt := 178) hx hb dX12_state_49 (by rw [c16_17]; decide) (by rw [c16_17]; decide) (by rw [c16_17]; rfl) (by decide) ?_
                                                refine lv_aload_n hx hb dX12_state_178 rfl (lv_at hl 0 rfl) ?_
                                                refine va_get (D := (dC, dI)) (ci := 11) (v := .int v0_painted) (C := RX12) (T := TX12) (N := 28) hx hb hu inX12 hown hK hP 0 rfl rfl 9 (by decide) (hu _ kw_321) (fun _ h9 => h9) rfl dX12_state_179 ?_
                                                have h9 := Option.some.inj hM
                                                subst h9
                                                exact W.iret (v := v0_painted) hx hb hr (fun t ht hW => QMi_mk (by rw [ht]; exact hP) (va_K.moved hW.alike hK) hD (hS.F ht)) hS.2.2 dX12_state_182
                                              · have hM := if_f c16_17 hM
                                                refine lv_tableOut (tgt := 183) hx hb dX12_state_49 (by have := lv_neT (a := 1) c16_0 rfl; have := lv_neT (a := 2) c16_1 rfl; have := lv_neT (a := 3) c16_2 rfl; have := lv_neT (a := 4) c16_3 rfl; have := lv_neT (a := 5) c16_4 rfl; have := lv_neT (a := 6) c16_5 rfl; have := lv_neT (a := 7) c16_6 rfl; have := lv_neT (a := 8) c16_7 rfl; have := lv_neT (a := 9) c16_8 rfl; have := lv_neT (a := 10) c16_9 rfl; have := lv_neT (a := 11) c16_10 rfl; have := lv_neT (a := 12) c16_11 rfl; have := lv_neT (a := 13) c16_12 rfl; have := lv_neT (a := 14) c16_13 rfl; have := lv_neT (a := 15) c16_14 rfl; have := lv_neT (a := 16) c16_15 rfl; have := lv_neT (a := 17) c16_16 rfl; have := lv_neT (a := 18) c16_17 rfl; omega) (by decide) ?_
                                                exact hJ183_10  H locs ls hP hD hS (lv_sub hl [0, 1] rfl) hM
          · have hM := if_f c_9 hM
            refine lv_ldcw (v := (-2000000000)) hx hb hown (hu _ kw_384) dX12_state_44 ?_
            have h9 := Option.some.inj hM
            subst h9
            exact W.iret (v := (-2000000000)) hx hb hr (fun t ht hW => QMi_mk (by rw [ht]; exact hP) (va_K.moved hW.alike hK) hD (hS.F ht)) hS.2.2 dX12_state_47
    · have hM := if_t c_6 hM
      exact hJ9_1  H locs ls hP hD hS (lv_sub hl [0, 1] rfl) hM
