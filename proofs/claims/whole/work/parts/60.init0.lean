def clp (w : Int32) : Int32 := if 1 ≤ w then (if w ≤ 32 then w else 32) else 1
def QIv (D : va_G) (tys : List (ClassId × FieldType)) (A : Nat → Prop) (ws : (Nat → Nat) → va_W) : Array Value → State → Outcome → State → Prop := va_Qv (fun (_ : Nat → Nat) => True) (fun u t => va_P D vwCl (ws u) t.heap ∧ va_K D vwCl tys t ∧ va_D A (ws u)) A
theorem QIv_mk {D : va_G} {tys : List (ClassId × FieldType)} {A : Nat → Prop} {ws : (Nat → Nat) → va_W} {av : Array Value} {st t : State} (u : Nat → Nat) (hP : va_P D vwCl (ws u) t.heap) (hK : va_K D vwCl tys t) (hD : va_D A (ws u)) (hF : va_F A st t) : QIv D tys A ws av st (.returned none) t := ⟨⟨u, rfl, trivial, hP, hK, hD⟩, hF⟩
theorem ka_i {D : va_G} {cl : List vw_C} {cI cZ cO cA : ClassId} {C : String} {s : State} (h : va_K D cl ([(cI, .int), (cZ, .boolean), (cO, .object C)] ++ [(cA, .int)]) s) : cA = cI := by
  have h0 := (h.2 0 _ rfl).2
  have h3 := (h.2 3 _ rfl).2
  exact Option.some.inj (h3.symm.trans h0)
theorem ka_z {D : va_G} {cl : List vw_C} {cI cZ cO cA : ClassId} {C : String} {s : State} (h : va_K D cl ([(cI, .int), (cZ, .boolean), (cO, .object C)] ++ [(cA, .boolean)]) s) : cA = cZ := by
  have h0 := (h.2 1 _ rfl).2
  have h3 := (h.2 3 _ rfl).2
  exact Option.some.inj (h3.symm.trans h0)
theorem ka_o {D : va_G} {cl : List vw_C} {cI cZ cO cA : ClassId} {C : String} {s : State} (h : va_K D cl ([(cI, .int), (cZ, .boolean), (cO, .object C)] ++ [(cA, .object C)]) s) : cA = cO := by
  obtain ⟨_, _, _, _, _, h0⟩ := (h.2 2 _ rfl).2
  obtain ⟨_, _, _, _, _, h3⟩ := (h.2 3 _ rfl).2
  exact Option.some.inj (h3.symm.trans h0)
section INITS
variable {p : Program} {l : Launch} {e : Env} {R : Room} {s : State} {m : MethodId} {args : Array Value} {below : List Frame} {meth : Method} {c : Code} {H : Heap} {locs : List Loc} {cells slots : Nat} {Q : State → Prop}
variable {y : MethodName} {bytes cc : ByteArray} {maxL nL n index pc mc ms : Nat} {rm : Room} {own host : String} {b tL : Nat} {As rest st0 : List Value} {ls : Array Slot} {D : va_G} {tys : List (ClassId × FieldType)} {A : Nat → Prop} {ws wr : va_W} {w1 : (Nat → Nat) → va_W} {cell0 : va_E} {wds : List Cond}
theorem cIc (S : CallFix p m c cc nL s args uw own) (hM : Met l y wds rm (PCx (.ref b :: As) D tys H.size tL [(b, cell0)]) (QIv D tys (va_A [(b, cell0)] H.size) w1) mc ms (va_A [(b, cell0)] H.size)) (cw : CallB R s args own index y bytes maxL none wds rm mc ms n ∧ y.name = "<init>" ∧ (Cond.instanceMethod y).before args s = true)
    (hP : va_P D vwCl ws H) (hD : va_D A ws) (hS : va_S A s.heap H locs) (hA : ∀ q, s.heap.size ≤ q → A q) (hK : va_K D vwCl tys s) (hG : gX tL A s s.heap) (k : Nat) (isR : List Nat) (hC : ws[k]? = some (b, cell0)) (hR : isR.map (fun i => ws[i]?) = wr.map some) (hnd : va_nd isR = true) (hdis : ∀ i ∈ isR, i ∉ [k])
    (hn : As.length = n) (hsize : ls.size = nL) (hst : st0 = As.reverse ++ .ref b :: rest) (hroom : (rest.map fun v => v.category).sum ≤ 8) (hdg : decode cc pc = .ok (.invokespecial index, 3)) (hcl : cells + mc ≤ R.cells) (hsl : slots + ms ≤ R.slots)
    (kk : ∀ (u : Nat → Nat) (H1 : Heap) (locs1 : List Loc), va_P D vwCl (wr ++ w1 u) H1 → va_D A (wr ++ w1 u) → va_S A s.heap H1 locs1 → W p l e R s m args below meth c H1 locs1 (cells + mc) (slots + ms) Q (F0 m (pc + 3) ls rest)) :
    W p l e R s m args below meth c H locs cells slots Q (F0 m pc ls st0) := by
  subst hst
  have hC' : [k].map (fun i => ws[i]?) = ([(b, cell0)] : va_W).map some := by simp [hC]
  have hFc := va_free hD hS hA [k] hC'
  have hPc : va_P D vwCl [(b, cell0)] H := wsubP hP [k] hC'
  have hDc : va_D A [(b, cell0)] := hD.sub [k] (by simp [va_nd]) hC'
  refine va_callv (va_runI (As := As) (rest := rest) S hM cw ⟨PCx_blind, fun U hU hW => ⟨rfl, by rw [hU], by rw [hU]; exact hPc, va_K.moved hW.alike hK, hDc.weaken (fun _ _ _ _ => trivial), gX_call hG hS hU hW hFc⟩⟩ rfl hn hsize rfl (lv_room hroom) hdg ⟨hcl, hsl⟩) hS (fun q _ h => hFc q h) hFc (fun u t H1 locs1 ht hvm hw hB hz1 hk1 hS1 => ?_)
  obtain ⟨hP1, hK1, hD1⟩ := hB
  rw [ht] at hP1
  obtain ⟨hP2, hD2⟩ := va_join hP hD [k] isR hC' hR hnd hdis hk1 hFc hP1 hD1
  exact kk u H1 locs1 hP2 hD2 hS1
theorem cIN (S : CallFix p m c cc nL s args uw own) (hM : Met l y wds rm (PCx (.ref b :: As) D tys H.size tL [(b, cell0)]) (QIv D tys (va_A [(b, cell0)] H.size) w1) mc ms (va_A [(b, cell0)] H.size)) (cw : va_CN R s args own index y host bytes maxL none wds rm mc ms n ∧ y.name = "<init>" ∧ (Cond.instanceMethod y).before args s = true)
    (hP : va_P D vwCl ws H) (hD : va_D A ws) (hS : va_S A s.heap H locs) (hA : ∀ q, s.heap.size ≤ q → A q) (hK : va_K D vwCl tys s) (hG : gX tL A s s.heap) (k : Nat) (isR : List Nat) (hC : ws[k]? = some (b, cell0)) (hR : isR.map (fun i => ws[i]?) = wr.map some) (hnd : va_nd isR = true) (hdis : ∀ i ∈ isR, i ∉ [k])
    (hn : As.length = n) (hsize : ls.size = nL) (hst : st0 = As.reverse ++ .ref b :: rest) (hroom : (rest.map fun v => v.category).sum ≤ 8) (hdg : decode cc pc = .ok (.invokespecial index, 3)) (hcl : cells + mc ≤ R.cells) (hsl : slots + ms ≤ R.slots)
    (kk : ∀ (u : Nat → Nat) (H1 : Heap) (locs1 : List Loc), va_P D vwCl (wr ++ w1 u) H1 → va_D A (wr ++ w1 u) → va_S A s.heap H1 locs1 → W p l e R s m args below meth c H1 locs1 (cells + mc) (slots + ms) Q (F0 m (pc + 3) ls rest)) :
    W p l e R s m args below meth c H locs cells slots Q (F0 m pc ls st0) := by
  subst hst
  have hC' : [k].map (fun i => ws[i]?) = ([(b, cell0)] : va_W).map some := by simp [hC]
  have hFc := va_free hD hS hA [k] hC'
  have hPc : va_P D vwCl [(b, cell0)] H := wsubP hP [k] hC'
  have hDc : va_D A [(b, cell0)] := hD.sub [k] (by simp [va_nd]) hC'
  refine va_callv (va_runIN (As := As) (rest := rest) S hM cw ⟨PCx_blind, fun U hU hW => ⟨rfl, by rw [hU], by rw [hU]; exact hPc, va_K.moved hW.alike hK, hDc.weaken (fun _ _ _ _ => trivial), gX_call hG hS hU hW hFc⟩⟩ rfl hn hsize rfl (lv_room hroom) hdg ⟨hcl, hsl⟩) hS (fun q _ h => hFc q h) hFc (fun u t H1 locs1 ht hvm hw hB hz1 hk1 hS1 => ?_)
  obtain ⟨hP1, hK1, hD1⟩ := hB
  rw [ht] at hP1
  obtain ⟨hP2, hD2⟩ := va_join hP hD [k] isR hC' hR hnd hdis hk1 hFc hP1 hD1
  exact kk u H1 locs1 hP2 hD2 hS1
end INITS
