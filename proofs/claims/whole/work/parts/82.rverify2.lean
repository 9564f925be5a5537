theorem rv_use {n : Nat} (hn : n ≤ 1500) {sz wd : Nat → Int32} (hs : sz 0 = nI n) {K : Int32 → Int32 → Int32 → Option (Int32 × Int32 × Int32 × Int32 × Int32 × (Nat → Int32) × (Nat → Int32) × (Nat → Int32) × (Nat → Int32) × (Nat → Int32) × (Nat → Int32))} {R : Option (Int32 × Int32 × Int32 × Int32 × Int32 × (Nat → Int32) × (Nat → Int32) × (Nat → Int32) × (Nat → Int32) × (Nat → Int32) × (Nat → Int32))}
    (h : ∀ x : Int32, (vr wd n FU 0 0 0 false).1 ≤ 7 → ((vr wd n FU 0 0 0 false).1 = 0 → x = nI (vr wd n FU 0 0 0 false).2.2.1 ∧ (vr wd n FU 0 0 0 false).2.2.1 ≤ 8 ∧ vplace wd n = n) → K (nI (vplace wd n)) x (nI (vr wd n FU 0 0 0 false).1) = R) : lp_X12_verify_12 sz K wd FU 0 0 0 0 0 = R := by
  rcases rv_loop hn hs K FU 0 0 0 false (by omega) (by show n + 1 < 0 + 1000000; omega) (by omega) (by omega) with ⟨h1, h2, h3, h4⟩ | ⟨h1, h2, h3, x, h4⟩
  · refine Eq.trans (show lp_X12_verify_12 sz K wd FU 0 0 0 0 0 = _ from h4) ?_
    have := h (nI (vr wd n FU 0 0 0 false).2.2.1) (by omega) (fun _ => ⟨rfl, h3, h2⟩)
    rw [h1, show vplace wd n = n from h2] at this
    exact this
  · refine Eq.trans (show lp_X12_verify_12 sz K wd FU 0 0 0 0 0 = _ from h4) ?_
    exact h x h2 (fun q => absurd q h1)
theorem rverify_ok {n : Nat} (hn : n ≤ 1500) {sz wd : Nat → Int32} (hs : sz 0 = nI n) (wide tall good fp fills painted : Int32) (told saves at_ points begun lines : Nat → Int32) : ∃ told' : Nat → Int32, m_X12_verify wide tall good fp fills painted sz wd told saves at_ points begun lines = some (nI (vfault wd n), (if vfault wd n = 0 then 1 else 0), (if vfault wd n = 0 then (-2) else nI (vplace wd n)), 0, 0, told', upd saves 0 0, upd at_ 0 0, upd points 0 0, upd begun 0 (vp_nar .boolean 0), upd lines 0 0) ∧ R12 0 told' (-16777216) 0 65536 0 0 65536 0 0 0 0 wide tall ∧ ∀ j, 12 ≤ j → told' j = told j := by
  obtain ⟨told', hb, hr, hk⟩ := begin_ok (m := 0) (by omega) wide tall told saves at_ points begun lines
  refine ⟨told', ?_, hr, fun j hj => hk j (Or.inr (by omega))⟩
  unfold m_X12_verify
  rw [jn_s]
  refine rv_use hn hs (fun x h7 hx => ?_)
  unfold vfault
  generalize hv : vr wd n FU 0 0 0 false = q at h7 hx ⊢
  obtain ⟨ft, p, o, k, b⟩ := q
  simp only at h7 hx ⊢
  have hb' : m_X12_begin wide tall told saves at_ points begun lines 0 = _ := hb
  simp only [jn_s, inb_0_3, gd_s, nm_s, tn_0, hs, hb', bd6_s]
  by_cases h0 : ft = 0
  · subst h0
    obtain ⟨rfl, ho, hp⟩ := hx rfl
    by_cases o0 : o = 0
    · subst o0
      rfl
    · rw [if_pos (show nI 0 = (0 : Int32) from rfl), if_neg (show ¬ nI o ≤ (0 : Int32) from nI_nle (by omega) (by omega)), if_neg (by decide), if_neg (by decide), if_pos rfl, if_neg o0, hp]
      rfl
  · have hf : ¬ nI ft = (0 : Int32) := nI_ne0 (by omega) (by omega)
    have hf2 : ¬ nI ft ≤ (0 : Int32) := nI_nle (by omega) (by omega)
    rw [if_neg hf, if_neg hf, if_neg hf2, if_neg h0, if_neg h0, if_neg h0]
