def PJ (W H n m : Nat) (f M wd0 sz0 : Nat → Int32) (p q k no nl np : Nat) (c : CM) (r : RF) (row wd sz : Nat → Int32) : Prop :=
  (n ≤ 1500) ∧ (m ≤ n) ∧ (p ≤ n) ∧ (q ≤ m) ∧ (k ≤ q) ∧ (q ≤ p) ∧ (∀ j, p ≤ j → j < n → row j = f j) ∧ (∀ j, j < m → wd (1500 + j) = M j) ∧ (∀ j, j < k → row j = wd (3000 + j)) ∧ (∀ j, j < 1500 → wd j = wd0 j) ∧ (sz 0 = sz0 0) ∧ (sz 1 = nI m) ∧ (sz 2 = nI k) ∧ (k = q → ∀ j, j < k → wd (3000 + j) = M j) ∧ (VL f n p no nl (decide (0 < np))) ∧ (VL M m q no nl (decide (0 < np))) ∧ (PV row k no nl (decide (0 < np))) ∧ (RM 1 W H no np nl c r) ∧ (3 * np ≤ p + 3 * nl)
theorem PJ.hn {W H n m : Nat} {f M wd0 sz0 : Nat → Int32} {p q k no nl np : Nat} {c : CM} {r : RF} {row wd sz : Nat → Int32} (h : PJ W H n m f M wd0 sz0 p q k no nl np c r row wd sz) : n ≤ 1500 := h.1
theorem PJ.hmn {W H n m : Nat} {f M wd0 sz0 : Nat → Int32} {p q k no nl np : Nat} {c : CM} {r : RF} {row wd sz : Nat → Int32} (h : PJ W H n m f M wd0 sz0 p q k no nl np c r row wd sz) : m ≤ n := h.2.1
theorem PJ.hp {W H n m : Nat} {f M wd0 sz0 : Nat → Int32} {p q k no nl np : Nat} {c : CM} {r : RF} {row wd sz : Nat → Int32} (h : PJ W H n m f M wd0 sz0 p q k no nl np c r row wd sz) : p ≤ n := h.2.2.1
theorem PJ.hq {W H n m : Nat} {f M wd0 sz0 : Nat → Int32} {p q k no nl np : Nat} {c : CM} {r : RF} {row wd sz : Nat → Int32} (h : PJ W H n m f M wd0 sz0 p q k no nl np c r row wd sz) : q ≤ m := h.2.2.2.1
theorem PJ.hk {W H n m : Nat} {f M wd0 sz0 : Nat → Int32} {p q k no nl np : Nat} {c : CM} {r : RF} {row wd sz : Nat → Int32} (h : PJ W H n m f M wd0 sz0 p q k no nl np c r row wd sz) : k ≤ q := h.2.2.2.2.1
theorem PJ.hqp {W H n m : Nat} {f M wd0 sz0 : Nat → Int32} {p q k no nl np : Nat} {c : CM} {r : RF} {row wd sz : Nat → Int32} (h : PJ W H n m f M wd0 sz0 p q k no nl np c r row wd sz) : q ≤ p := h.2.2.2.2.2.1
theorem PJ.tail {W H n m : Nat} {f M wd0 sz0 : Nat → Int32} {p q k no nl np : Nat} {c : CM} {r : RF} {row wd sz : Nat → Int32} (h : PJ W H n m f M wd0 sz0 p q k no nl np c r row wd sz) : ∀ j, p ≤ j → j < n → row j = f j := h.2.2.2.2.2.2.1
theorem PJ.inp {W H n m : Nat} {f M wd0 sz0 : Nat → Int32} {p q k no nl np : Nat} {c : CM} {r : RF} {row wd sz : Nat → Int32} (h : PJ W H n m f M wd0 sz0 p q k no nl np c r row wd sz) : ∀ j, j < m → wd (1500 + j) = M j := h.2.2.2.2.2.2.2.1
theorem PJ.out {W H n m : Nat} {f M wd0 sz0 : Nat → Int32} {p q k no nl np : Nat} {c : CM} {r : RF} {row wd sz : Nat → Int32} (h : PJ W H n m f M wd0 sz0 p q k no nl np c r row wd sz) : ∀ j, j < k → row j = wd (3000 + j) := h.2.2.2.2.2.2.2.2.1
theorem PJ.low {W H n m : Nat} {f M wd0 sz0 : Nat → Int32} {p q k no nl np : Nat} {c : CM} {r : RF} {row wd sz : Nat → Int32} (h : PJ W H n m f M wd0 sz0 p q k no nl np c r row wd sz) : ∀ j, j < 1500 → wd j = wd0 j := h.2.2.2.2.2.2.2.2.2.1
theorem PJ.s0 {W H n m : Nat} {f M wd0 sz0 : Nat → Int32} {p q k no nl np : Nat} {c : CM} {r : RF} {row wd sz : Nat → Int32} (h : PJ W H n m f M wd0 sz0 p q k no nl np c r row wd sz) : sz 0 = sz0 0 := h.2.2.2.2.2.2.2.2.2.2.1
theorem PJ.s1 {W H n m : Nat} {f M wd0 sz0 : Nat → Int32} {p q k no nl np : Nat} {c : CM} {r : RF} {row wd sz : Nat → Int32} (h : PJ W H n m f M wd0 sz0 p q k no nl np c r row wd sz) : sz 1 = nI m := h.2.2.2.2.2.2.2.2.2.2.2.1
theorem PJ.s2 {W H n m : Nat} {f M wd0 sz0 : Nat → Int32} {p q k no nl np : Nat} {c : CM} {r : RF} {row wd sz : Nat → Int32} (h : PJ W H n m f M wd0 sz0 p q k no nl np c r row wd sz) : sz 2 = nI k := h.2.2.2.2.2.2.2.2.2.2.2.2.1
theorem PJ.same {W H n m : Nat} {f M wd0 sz0 : Nat → Int32} {p q k no nl np : Nat} {c : CM} {r : RF} {row wd sz : Nat → Int32} (h : PJ W H n m f M wd0 sz0 p q k no nl np c r row wd sz) : k = q → ∀ j, j < k → wd (3000 + j) = M j := h.2.2.2.2.2.2.2.2.2.2.2.2.2.1
theorem PJ.vin {W H n m : Nat} {f M wd0 sz0 : Nat → Int32} {p q k no nl np : Nat} {c : CM} {r : RF} {row wd sz : Nat → Int32} (h : PJ W H n m f M wd0 sz0 p q k no nl np c r row wd sz) : VL f n p no nl (decide (0 < np)) := h.2.2.2.2.2.2.2.2.2.2.2.2.2.2.1
theorem PJ.vim {W H n m : Nat} {f M wd0 sz0 : Nat → Int32} {p q k no nl np : Nat} {c : CM} {r : RF} {row wd sz : Nat → Int32} (h : PJ W H n m f M wd0 sz0 p q k no nl np c r row wd sz) : VL M m q no nl (decide (0 < np)) := h.2.2.2.2.2.2.2.2.2.2.2.2.2.2.2.1
theorem PJ.vout {W H n m : Nat} {f M wd0 sz0 : Nat → Int32} {p q k no nl np : Nat} {c : CM} {r : RF} {row wd sz : Nat → Int32} (h : PJ W H n m f M wd0 sz0 p q k no nl np c r row wd sz) : PV row k no nl (decide (0 < np)) := h.2.2.2.2.2.2.2.2.2.2.2.2.2.2.2.2.1
theorem PJ.mach {W H n m : Nat} {f M wd0 sz0 : Nat → Int32} {p q k no nl np : Nat} {c : CM} {r : RF} {row wd sz : Nat → Int32} (h : PJ W H n m f M wd0 sz0 p q k no nl np c r row wd sz) : RM 1 W H no np nl c r := h.2.2.2.2.2.2.2.2.2.2.2.2.2.2.2.2.2.1
theorem PJ.bd {W H n m : Nat} {f M wd0 sz0 : Nat → Int32} {p q k no nl np : Nat} {c : CM} {r : RF} {row wd sz : Nat → Int32} (h : PJ W H n m f M wd0 sz0 p q k no nl np c r row wd sz) : 3 * np ≤ p + 3 * nl := h.2.2.2.2.2.2.2.2.2.2.2.2.2.2.2.2.2.2
theorem PJ.keep {W H n m : Nat} {f M wd0 sz0 : Nat → Int32} {p q k no nl np : Nat} {c : CM} {r : RF} {row wd sz : Nat → Int32} (h : PJ W H n m f M wd0 sz0 p q k no nl np c r row wd sz) (hW : W ≤ 32) (hH : H ≤ 32) (hp : p < n) (hqm : q + cl (f p) ≤ m) (hM : ∀ j, j < cl (f p) → M (q + j) = f (p + j)) : ∃ (np' : Nat) (c' : CM) (r' : RF) (row' wd' sz' : Nat → Int32), m_X3_follow (nI n) row c.opn c.col c.way c.a c.b c.c c.d c.e c.f c.x c.y c.u c.v c.na c.nb c.nc c.nd c.ne c.nf c.pts c.lns c.fst c.ftx c.fty c.ltx c.lty c.lx c.ly c.gy c.xs c.ys c.bg c.sc c.sw c.sa c.sb c.sC c.sd c.se c.sf c.sx c.sy c.su c.sv (nI p) = some (c'.opn, c'.col, c'.way, c'.a, c'.b, c'.c, c'.d, c'.e, c'.f, c'.x, c'.y, c'.u, c'.v, c'.na, c'.nb, c'.nc, c'.nd, c'.ne, c'.nf, c'.pts, c'.lns, c'.fst, c'.ftx, c'.fty, c'.ltx, c'.lty, c'.lx, c'.ly, c'.gy, c'.xs, c'.ys, c'.bg, c'.sc, c'.sw, c'.sa, c'.sb, c'.sC, c'.sd, c'.se, c'.sf, c'.sx, c'.sy, c'.su, c'.sv) ∧ (f p ≠ 9 → m_X12_follow wd r.told r.cut r.both r.points r.px r.py r.begins r.startX r.startY r.startPoint r.begun r.lines r.lastX r.lastY r.saves r.saved 1 (nI (1500 + q)) = some (r'.told, r'.cut, r'.both, r'.points, r'.px, r'.py, r'.begins, r'.startX, r'.startY, r'.startPoint, r'.begun, r'.lines, r'.lastX, r'.lastY, r'.saves, r'.saved)) ∧ (f p = 9 → r' = r) ∧ SCf c c' (f p) (f (p + 1)) no ∧ m_X10_moveDown (nI n) row (nI p) (nI k) (nI (cl (f p))) = some row' ∧ m_X12_keepCommand wd sz (nI (1500 + q)) = some (wd', sz') ∧ (ord (f p) no nl (decide (0 < np))).2.2.2 = decide (0 < np') ∧ PJ W H n m f M wd0 sz0 (p + cl (f p)) (q + cl (f p)) (k + cl (f p)) (ord (f p) no nl (decide (0 < np))).2.1 (ord (f p) no nl (decide (0 < np))).2.2.1 np' c' r' row' wd' sz' ∧ RFr 1 r r' := by
  obtain ⟨k1, k2, k3⟩ := h.vin.step h.hn hp
  have hc := cl_ge (f p)
  have hn := h.hn
  have hmn := h.hmn
  have hk := h.hk
  have hqp := h.hqp
  have hl := (fw_len k1).1
  have hb := h.bd
  have M0 : M q = f p := hM 0 (by omega)
  obtain ⟨v1, v2, v3⟩ := h.vim.step (by omega) (show q < m by omega)
  rw [M0] at v2 v3
  have ra : row p = f p := h.tail p (Nat.le_refl _) hp
  have rj : ∀ j, j < cl (f p) → row (p + j) = f (p + j) := fun j hj => h.tail _ (by omega) (by omega)
  have wj : ∀ j, j < cl (f p) → wd (1500 + q + j) = f (p + j) := fun j hj => by rw [Nat.add_assoc, h.inp _ (by omega), hM j hj]
  have wa : wd (1500 + q) = f p := wj 0 (by omega)
  obtain ⟨row', m1, m2, m3⟩ := moveDown_ok hn (show k ≤ p by omega) hl row
  obtain ⟨wd', sz', e1, e2, e3, e4, e5⟩ := keepCmd_ok (p := 1500 + q) (k := k) (wd := wd) (z := sz) (by rw [wa]; omega) (by rw [wa]; omega) h.s2
  rw [wa] at e2 e3 e4
  have hin : ∀ j, j < m → wd' (1500 + j) = M j := fun j hj => by rw [e3 _ (by omega)]; exact h.inp j hj
  have hout : ∀ j, j < k + cl (f p) → row' j = wd' (3000 + j) := fun j hj => by
    by_cases z : j < k
    · rw [m3 j (Or.inl z), e3 _ (by omega)]
      exact h.out j z
    · obtain ⟨i, rfl⟩ : ∃ i, j = k + i := ⟨j - k, by omega⟩
      rw [m2 i (by omega), ← Nat.add_assoc, e2 i (by omega), rj i (by omega), wj i (by omega)]
  have hsame : k + cl (f p) = q + cl (f p) → ∀ j, j < k + cl (f p) → wd' (3000 + j) = M j := fun ek j hj => by
    have ek' : k = q := by omega
    by_cases z : j < k
    · rw [e3 _ (by omega)]
      exact h.same ek' j z
    · obtain ⟨i, rfl⟩ : ∃ i, j = k + i := ⟨j - k, by omega⟩
      rw [← Nat.add_assoc, e2 i (by omega), wj i (by omega), ek', hM i (by omega)]
  have hvo := h.vout.step (g' := row') (fun j hj => m3 j (Or.inl hj)) k1 (fun j hj => (m2 j hj).trans (rj j hj)) k2
  have fin : ∀ (np' : Nat) (c' : CM) (r' : RF), (ord (f p) no nl (decide (0 < np))).2.2.2 = decide (0 < np') → RM 1 W H (ord (f p) no nl (decide (0 < np))).2.1 np' (ord (f p) no nl (decide (0 < np))).2.2.1 c' r' → 3 * np' ≤ p + cl (f p) + 3 * (ord (f p) no nl (decide (0 < np))).2.2.1 → PJ W H n m f M wd0 sz0 (p + cl (f p)) (q + cl (f p)) (k + cl (f p)) (ord (f p) no nl (decide (0 < np))).2.1 (ord (f p) no nl (decide (0 < np))).2.2.1 np' c' r' row' wd' sz' := fun np' c' r' b1 b2 b3 => ⟨hn, hmn, hl, hqm, by omega, by omega, fun j j1 j2 => by rw [m3 j (by omega)]; exact h.tail j (by omega) j2, hin, hout, fun j hj => by rw [e3 _ (by omega)]; exact h.low j hj, (e5 0 (by omega)).trans h.s0, (e5 1 (by omega)).trans h.s1, e4, hsame, by rw [← b1]; exact k3, by rw [← b1]; exact v3, by rw [← b1]; exact hvo, b2, b3⟩
  by_cases h9 : f p = 9
  · have e9 : (ord (f p) no nl (decide (0 < np))) = (0, no, nl, decide (0 < np)) := by rw [h9]; simp [ord]
    exact ⟨np, c, r, row', wd', sz', follow_9 hn hp (ra.trans h9) c, fun z => absurd h9 z, fun _ => rfl, by unfold SCf est; rw [h9]; simp, m1, e1, by rw [e9], fin np c r (by rw [e9]) (by rw [e9]; exact h.mach) (by rw [e9]; dsimp only; omega), RFr.refl 1 r⟩
  · have hw' : fw row n p = 0 := fw_mv k1 rj hl
    have ho : 1500 + q - p + p = 1500 + q := by omega
    obtain ⟨np', b1, b2, c', r', x1, x2, x3, x4, x5⟩ := follow_ok (f := row) (wd := wd) (o := 1500 + q - p) (p := p) (by omega) h.mach hn (by omega) (by rw [ra]; exact hl) (by rw [ra, ho]; exact fun j hj => (rj j hj).trans (wj j hj).symm) hW hH hw' (by rw [ra]; exact h9) (by rw [ra]; exact k2) hb
    rw [ho] at x2
    have x3' : SCf c c' (f p) (f (p + 1)) no := by
      by_cases z : f p = 10 ∨ f p = 11
      · have hcl : cl (f p) = 2 := by rcases z with z | z <;> rw [z] <;> rfl
        rw [ra, rj 1 (by omega)] at x3
        exact x3
      · unfold SCf est at x3 ⊢
        rw [ra] at x3
        rw [if_neg (show ¬ f p = 10 from fun y => z (Or.inl y)), if_neg (show ¬ f p = 11 from fun y => z (Or.inr y))] at x3 ⊢
        exact x3
    rw [ra] at b1 b2 x4
    exact ⟨np', c', r', row', wd', sz', x1, fun _ => x2, fun z => absurd z h9, x3', m1, e1, b2, fin np' c' r' b2 x4 b1, x5⟩
theorem lockE2 {W H n m : Nat} {f M wd0 sz0 : Nat → Int32} (hW : W ≤ 32) (hH : H ≤ 32) (lf ob : Int32) (s : SX) : ∀ (F fu gu p q k no nl np : Nat) (c : CM) (r : RF) (row wd sz : Nat → Int32) (cur : Int32) (st : Nat → Int32), E1 f n M m F p q no cur st → F ≤ fu → F ≤ gu → PJ W H n m f M wd0 sz0 p q k no nl np c r row wd sz → c.col = cur → (∀ i, i < no → c.sc i = st i) → ∃ (k' nl' np' : Nat) (c' : CM) (r' : RF) (row' wd' sz' : Nat → Int32), (∀ K : Int32 → Int32 → Int32 → Int32 → Int32 → Int32 → Int32 → Int32 → Int32 → Int32 → Int32 → Int32 → Int32 → Int32 → Int32 → Int32 → Int32 → Int32 → Int32 → Int32 → Int32 → Int32 → Int32 → Int32 → Int32 → Int32 → (Nat → Int32) → Int32 → Int32 → Int32 → Int32 → Int32 → Int32 → Int32 → Int32 → Int32 → Int32 → Int32 → Int32 → Int32 → Int32 → Int32 → Int32 → Int32 → Int32 → Int32 → Int32 → Int32 → Int32 → (Nat → Int32) → (Nat → Int32) → (Nat → Int32) → (Nat → Int32) → (Nat → Int32) → (Nat → Int32) → (Nat → Int32) → (Nat → Int32) → (Nat → Int32) → (Nat → Int32) → (Nat → Int32) → (Nat → Int32) → (Nat → Int32) → (Nat → Int32) → (Nat → Int32) → Option (Int32 × Int32 × Int32 × Int32 × Int32 × Int32 × Int32 × Int32 × Int32 × Int32 × Int32 × Int32 × Int32 × Int32 × Int32 × Int32 × Int32 × Int32 × Int32 × Int32 × Int32 × Int32 × Int32 × Int32 × Int32 × Int32 × Int32 × Int32 × (Nat → Int32) × Int32 × Int32 × Int32 × Int32 × Int32 × Int32 × Int32 × Int32 × Int32 × Int32 × Int32 × Int32 × Int32 × Int32 × Int32 × Int32 × Int32 × Int32 × Int32 × Int32 × Int32 × Int32 × (Nat → Int32) × (Nat → Int32) × (Nat → Int32) × (Nat → Int32) × (Nat → Int32) × (Nat → Int32) × (Nat → Int32) × (Nat → Int32) × (Nat → Int32) × (Nat → Int32) × (Nat → Int32) × (Nat → Int32) × (Nat → Int32) × (Nat → Int32) × (Nat → Int32)), lp_X8_goThrough_33 (nI n) K lf 4 fu (nI k) (nI p) ob (-1) c.opn c.col c.way c.a c.b c.c c.d c.e c.f c.x c.y c.u c.v c.pts c.lns c.fst c.ftx c.fty c.ltx c.lty c.lx c.ly c.gy row s.ta s.tb s.tc s.td s.te s.tf s.xa s.xb s.xc s.xd s.xe s.xf s.cx s.cy s.cu s.cv c.na c.nb c.nc c.nd c.ne c.nf c.xs c.ys c.bg c.sc c.sw c.sa c.sb c.sC c.sd c.se c.sf c.sx c.sy c.su c.sv = K (nI k') ob (-1) c'.opn c'.col c'.way c'.a c'.b c'.c c'.d c'.e c'.f c'.x c'.y c'.u c'.v c'.pts c'.lns c'.fst c'.ftx c'.fty c'.ltx c'.lty c'.lx c'.ly c'.gy row' s.ta s.tb s.tc s.td s.te s.tf s.xa s.xb s.xc s.xd s.xe s.xf s.cx s.cy s.cu s.cv c'.na c'.nb c'.nc c'.nd c'.ne c'.nf c'.xs c'.ys c'.bg c'.sc c'.sw c'.sa c'.sb c'.sC c'.sd c'.se c'.sf c'.sx c'.sy c'.su c'.sv) ∧ (∀ K : (Nat → Int32) → (Nat → Int32) → (Nat → Int32) → (Nat → Int32) → (Nat → Int32) → (Nat → Int32) → (Nat → Int32) → (Nat → Int32) → (Nat → Int32) → (Nat → Int32) → (Nat → Int32) → (Nat → Int32) → (Nat → Int32) → (Nat → Int32) → (Nat → Int32) → (Nat → Int32) → (Nat → Int32) → (Nat → Int32) → Option (Int32 × (Nat → Int32) × (Nat → Int32) × (Nat → Int32) × (Nat → Int32) × (Nat → Int32) × (Nat → Int32) × (Nat → Int32) × (Nat → Int32) × (Nat → Int32) × (Nat → Int32) × (Nat → Int32) × (Nat → Int32) × (Nat → Int32) × (Nat → Int32) × (Nat → Int32) × (Nat → Int32) × (Nat → Int32) × (Nat → Int32) × (Nat → Int32)), lp_X12_passE_8 K 11 gu (nI (1500 + q)) sz r.told r.saves r.points r.begun r.lines wd r.cut r.both r.px r.py r.begins r.startX r.startY r.startPoint r.lastX r.lastY r.saved = K sz' r'.told r'.saves r'.points r'.begun r'.lines wd' r'.cut r'.both r'.px r'.py r'.begins r'.startX r'.startY r'.startPoint r'.lastX r'.lastY r'.saved) ∧ PJ W H n m f M wd0 sz0 n m k' 0 nl' np' c' r' row' wd' sz' ∧ RFr 1 r r' := by
  intro F
  induction F with
  | zero => intro fu gu p q k no nl np c r row wd sz cur st h; exact absurd h (by simp [E1])
  | succ F ih =>
    intro fu gu p q k no nl np c r row wd sz cur st hE h1 h2 h hcur hst
    have hn := h.hn
    have hmn := h.hmn
    have hqp := h.hqp
    obtain ⟨fu, rfl⟩ : ∃ j, fu = j + 1 := ⟨fu - 1, by omega⟩
    obtain ⟨gu, rfl⟩ : ∃ j, gu = j + 1 := ⟨gu - 1, by omega⟩
    rcases hE with ⟨rfl, rfl⟩ | ⟨hp, e1, e2, e3⟩ | ⟨hp, e1, e2, e3, e4⟩
    · have h0 : no = 0 := (VL.fin (Nat.le_refl _)).mp h.vin
      subst h0
      refine ⟨k, nl, np, c, r, row, wd, sz, fun K => gt_end hn (Nat.le_refl _) (by omega) K _ _ _ _ _ _ _ _ _, fun K => ?_, h, RFr.refl 1 r⟩
      rw [lp_X12_passE_8, endPlace_ok h.s1, bd1_s, if_pos (nI_le (Nat.le_refl _) (by omega))]
    · have ra : row p = f p := h.tail p (Nat.le_refl _) hp
      have hj : ¬ nI p = (-1 : Int32) := by
        intro z
        have := nI_ti (show p < 2 ^ 31 by omega)
        rw [z] at this
        have e1 : (-1 : Int32).toInt = -1 := by decide
        omega
      have hcl : cl (f p) = 2 := by rw [e1]; rfl
      obtain ⟨q1, q2, q3⟩ := h.vin.step hn hp
      have q4 := (fw_len q1).1
      have eo : ord (f p) no nl (decide (0 < np)) = (0, no, nl, decide (0 < np)) := by rw [e1]; simp [ord]
      rw [eo, hcl] at q3
      rw [hcl] at q4
      have htr : TL row n p := ⟨_, _, _, VL.tail hn 1500 p _ _ _ (by omega) h.tail h.vin⟩
      have edE : dE row n p 10 cur = dE f n p 10 cur := by
        unfold dE
        rw [h.tail (p + 1) (by omega) (by omega), (fb_tail (S := SE 10) hn 1500 (p + 2) (by omega) (fun j j1 j2 => h.tail j (by omega) j2)).2]
      have hg := goesE_y (lf := lf) (ob := ob) (ja := -1) (s := s) (c := c) hn hp (Or.inl ⟨rfl, hcur.symm⟩) (ra.trans e1) htr
      rw [edE, e2] at hg
      have hs : PJ W H n m f M wd0 sz0 (p + 2) q k no nl np c r row wd sz := ⟨hn, hmn, q4, h.hq, h.hk, by omega, fun j j1 j2 => h.tail j (by omega) j2, h.inp, h.out, h.low, h.s0, h.s1, h.s2, h.same, q3, h.vim, h.vout, h.mach, by have := h.bd; omega⟩
      obtain ⟨k', nl', np', c', r', row', wd', sz', b1, b2, b3, b4⟩ := ih fu (gu + 1) (p + 2) q k no nl np c r row wd sz cur st e3 (by omega) (by omega) hs hcur hst
      refine ⟨k', nl', np', c', r', row', wd', sz', fun K => ?_, b2, b3, b4⟩
      rw [gt_skip hn hp hj hg, if_neg (by decide), ra, hcl]
      exact b1 K
    · have ra : row p = f p := h.tail p (Nat.le_refl _) hp
      have hc := cl_ge (f p)
      have hj : ¬ nI p = (-1 : Int32) := by
        intro z
        have := nI_ti (show p < 2 ^ 31 by omega)
        rw [z] at this
        have e1 : (-1 : Int32).toInt = -1 := by decide
        omega
      obtain ⟨q1, q2, q3⟩ := h.vin.step hn hp
      obtain ⟨q4, q5, q6⟩ := fw_len q1
      have M0 : M q = f p := e2 0 (by omega)
      have htr : TL row n p := ⟨_, _, _, VL.tail hn 1500 p _ _ _ (by omega) h.tail h.vin⟩
      have htM : TL M m q := ⟨_, _, _, h.vim⟩
      have t11 : r.told 23 = c.way := h.mach.2.2.2.1.2.2.2.2.2.2.2.2.2.2.2
      have edE : ∀ w cu : Int32, cl (f p) = 2 → dE row n p w cu = dE f n p w cu := by
        intro w cu hcl
        unfold dE
        rw [h.tail (p + 1) (by omega) (by omega), (fb_tail (S := SE w) hn 1500 (p + 2) (by omega) (fun j j1 j2 => h.tail j (by omega) j2)).2]
      by_cases hd : f p = 11 ∧ dE f n p 11 c.way = true
      · have hcl : cl (f p) = 2 := by rw [hd.1]; rfl
        have eo : ord (f p) no nl (decide (0 < np)) = (0, no, nl, decide (0 < np)) := by rw [hd.1]; simp [ord]
        obtain ⟨v1, v2, v3⟩ := h.vim.step (by omega) (show q < m by omega)
        rw [M0, eo, hcl] at v3
        rw [eo, hcl] at q3
        have es : est 10 (f p) (f (p + 1)) no cur st = (cur, st) := by
          unfold est
          rw [hd.1, if_neg (by decide), if_neg (by decide), if_neg (by decide)]
        have en : nst (f p) no = no := by
          unfold nst
          rw [hd.1, if_neg (by decide), if_neg (by decide)]
        rw [es, en, hcl] at e4
        rw [hcl] at e3 e2 q4
        have hg := goesE_y (lf := lf) (ob := ob) (ja := -1) (s := s) (c := c) hn hp (Or.inr ⟨rfl, rfl⟩) (ra.trans hd.1) htr
        rw [edE _ _ hcl, hd.2] at hg
        have hdM : dE M m q 11 c.way = true := by
          have := hd.2
          unfold dE at this ⊢
          rw [e2 1 (by omega), ← fb_E1 hn (by omega) (by decide) F _ _ _ _ _ e4]
          exact this
        have hs : PJ W H n m f M wd0 sz0 (p + 2) (q + 2) k no nl np c r row wd sz := ⟨hn, hmn, by omega, by omega, by have := h.hk; omega, by omega, fun j j1 j2 => h.tail j (by omega) j2, h.inp, h.out, h.low, h.s0, h.s1, h.s2, fun z => by have := h.hk; omega, q3, v3, h.vout, h.mach, by have := h.bd; omega⟩
        obtain ⟨k', nl', np', c', r', row', wd', sz', b1, b2, b3, b4⟩ := ih fu gu (p + 2) (q + 2) k no nl np c r row wd sz cur st e4 (by omega) (by omega) hs hcur hst
        refine ⟨k', nl', np', c', r', row', wd', sz', fun K => ?_, fun K => ?_, b3, b4⟩
        · rw [gt_skip hn hp hj hg, if_neg (by decide), ra, hcl]
          exact b1 K
        · rw [refE_skip (by omega) (show q < m by omega) htM h.s1 h.inp (Or.inr ⟨rfl, t11⟩) (M0.trans hd.1) hdM, M0, hcl]
          exact b2 K
      · obtain ⟨np1, c1, r1, row1, wd1, sz1, m1, m2, m3, m4, m5, m6, m7, m8, m9⟩ := h.keep hW hH hp e3 e2
        have hno : f p = 2 → no ≠ 0 := fun z y => by
          rw [z, y] at q2
          simp [ord] at q2
        rw [← hcur] at e4
        obtain ⟨y1, y2⟩ := est_rel (w := 10) (st := st) m4.1 hst hno
        rw [ord_nst q5 q6 q2] at m8
        obtain ⟨k', nl', np', c', r', row', wd', sz', b1, b2, b3, b4⟩ := ih fu gu (p + cl (f p)) (q + cl (f p)) (k + cl (f p)) _ _ np1 c1 r1 row1 wd1 sz1 _ _ e4 (by omega) (by omega) m8 y1 y2
        have hg : m_X8_goes lf ob (-1) (nI n) row s.ta s.tb s.tc s.td s.te s.tf s.xa s.xb s.xc s.xd s.xe s.xf c.col c.way c.a c.b c.c c.d c.e c.f s.cx s.cy s.cu s.cv c.x c.y c.u c.v c.pts c.lx c.ly c.gy 4 (nI p) (row p) = some (0, ob, -1, row, s.ta, s.tb, s.tc, s.td, s.te, s.tf, s.xa, s.xb, s.xc, s.xd, s.xe, s.xf, s.cx, s.cy, s.cu, s.cv) := by
          by_cases c10 : f p = 10
          · have hcl : cl (f p) = 2 := by rw [c10]; rfl
            have hg := goesE_y (lf := lf) (ob := ob) (ja := -1) (s := s) (c := c) hn hp (Or.inl ⟨rfl, rfl⟩) (ra.trans c10) htr
            rw [edE _ _ hcl, show dE f n p 10 c.col = false from Bool.eq_false_iff.mpr (fun z => e1 ⟨c10, by rw [hcur] at z; exact z⟩)] at hg
            exact hg
          · by_cases c11 : f p = 11
            · have hcl : cl (f p) = 2 := by rw [c11]; rfl
              have hg := goesE_y (lf := lf) (ob := ob) (ja := -1) (s := s) (c := c) hn hp (Or.inr ⟨rfl, rfl⟩) (ra.trans c11) htr
              rw [edE _ _ hcl, show dE f n p 11 c.way = false from Bool.eq_false_iff.mpr (fun z => hd ⟨c11, z⟩)] at hg
              exact hg
            · exact goesE_n (by rw [ra]; exact c10) (by rw [ra]; exact c11)
        have hdM : ¬ (M q = 11 ∧ dE M m q 11 c.way = true) := by
          intro z
          have c11 : f p = 11 := M0.symm.trans z.1
          have hcl : cl (f p) = 2 := by rw [c11]; rfl
          refine hd ⟨c11, ?_⟩
          have z2 := z.2
          rw [hcl] at e4 e2
          unfold dE at z2 ⊢
          rw [e2 1 (by omega), ← fb_E1 hn (by omega) (by decide) F _ _ _ _ _ e4] at z2
          exact z2
        have wa1 : wd1 (1500 + q) = M q := m8.inp q (by omega)
        refine ⟨k', nl', np', c', r', row', wd', sz', fun K => ?_, fun K => ?_, b3, m9.tr b4⟩
        · rw [gt_keep hn hp hj hg m1 (by rw [ra]; exact m5), ra]
          exact b1 K
        · rw [refE_keep (by omega) (show q < m by omega) htM h.s1 h.inp (Or.inr ⟨rfl, t11⟩) hdM (by rw [M0]; exact m2) (by rw [M0]; exact m3) m6 wa1, M0]
          exact b2 K
