set_option maxRecDepth 16384
/-! reading a law: the loops -/
theorem gloop_1 {α β : Type} {f : α → Option (α ⊕ β)} {a : α} {b : β} {n : Nat} (h : f a = some (.inr b)) (hn : 0 < n) : gloop f n a = some b := gloop_run (fun _ => a) 0 b (fun k hk => by omega) h hn
theorem takes_y {n a s x N : Nat} {b : Nat → Nat} {d : gm} (hd : gTd n b d) (h4 : d.1 55 4 = nI a) (han : a ≤ n) (h5 : d.1 55 5 = 0) (hN : 700 < N) (es : s = pScan (pBl b) n a) (q : pBt n b s = nI x) : m_X10_takesSign N 55 (nI x) d = some (1, dAt d (s + 1)) := by
  subst es
  have hs := pScan_le (p := pBl b) han
  have hn := hd.1
  have hd2 := gTd_f hd (frm_F (dAt_f d (pScan (pBl b) n a)))
  unfold m_X10_takesSign; simp only [gj_e]
  rw [gc_1 (show gck 55 = 10 from rfl), if_pos h5, gb_x (blanks_d hd h4 han hN), dAt_4, gb_x (bt_d hd2 (by omega)), if_pos q, if_neg (show ¬ (1 : Int32) = 0 by decide), gv_e, gc_1 (Or.inr trivial), n_s, show gm_r (dAt d (pScan (pBl b) n a)) 55 (upd ((dAt d (pScan (pBl b) n a)).1 55) 4 (nI (pScan (pBl b) n a + 1))) = dAt (dAt d (pScan (pBl b) n a)) (pScan (pBl b) n a + 1) from rfl, dAt_a]
theorem takes_no {n a s x N : Nat} {b : Nat → Nat} {d : gm} (hd : gTd n b d) (h4 : d.1 55 4 = nI a) (han : a ≤ n) (h5 : d.1 55 5 = 0) (hN : 700 < N) (es : s = pScan (pBl b) n a) (q : ¬ pBt n b s = nI x) : m_X10_takesSign N 55 (nI x) d = some (0, dAt d s) := by
  subst es
  have hs := pScan_le (p := pBl b) han
  have hn := hd.1
  have hd2 := gTd_f hd (frm_F (dAt_f d (pScan (pBl b) n a)))
  unfold m_X10_takesSign; simp only [gj_e]
  rw [gc_1 (show gck 55 = 10 from rfl), if_pos h5, gb_x (blanks_d hd h4 han hN), dAt_4, gb_x (bt_d hd2 (by omega)), if_neg q, if_pos trivial, gc_1 (Or.inl trivial)]
def gLq (n : Nat) (b : Nat → Nat) (t z h l a : Nat) (c d : gm) (B : (Int32 × gm) ⊕ gm) (Y : gm ⊕ gm) : Prop := (∃ c2 d2 a2 z2, B = .inr c2 ∧ (Y = .inl d2 ∨ Y = .inr d2) ∧ gIn n b c2 d2 a2 ∧ a ≤ a2 ∧ z2 + a ≤ z + a2 ∧ gCd t z2 (h + 1) c2 d2 ∧ d2.1 55 8 = nI l ∧ flC t c c2 ∧ flD d d2 ∧ c2.1 1 7 = c.1 1 7) ∨ ∃ c2 d2, B = .inl (0, c2) ∧ (Y = .inl d2 ∨ Y = .inr d2) ∧ flC t c c2 ∧ flD d d2 ∧ gFl n c2 d2
/-- a round of a loop: no sign, or a sign and its mark -/
def gLs (n : Nat) (b : Nat → Nat) (t : Nat) (uc : gm → Option (Int32 × gm)) (ud : gm → Option gm) (fc : Int32 → gm → Option ((Int32 × gm) ⊕ ((Int32 × gm) ⊕ gm))) (fd : gm → Option (gm ⊕ (gm ⊕ gm))) : Prop := ∀ k c d a, k < 150 → gIn n b c d a → (fc (nI k) c = some (.inr (.inr (cPk c (pScan (pBl b) n a)))) ∧ fd d = some (.inr (.inl (dAt d (pScan (pBl b) n a))))) ∨ (∃ j c25, 2 ≤ j ∧ j ≤ 8 ∧ pScan (pBl b) n a < n ∧ frc c c25 ∧ c25.1 1 3 = nI (pScan (pBl b) n a + 1) ∧ fc (nI k) c = gb2 (uc c25) (fun (r27 : Int32) (c28 : gm) => (if r27 = 0 then some (.inr (.inl (0, c28))) else gb (m_X3_add t (nI j) 0 c28) (fun (c32 : gm) => gv (nI k + 1) (fun (x33 : Int32) => some (.inl (x33, c32)))))) ∧ fd d = gb (ud (dAt d (pScan (pBl b) n a + 1))) (fun (c19 : gm) => gb (m_X10_notes 55 (nI j) 0 c19) (fun (c22 : gm) => some (.inl c22))))
theorem lp_two {n N t l hb z h a : Nat} {b : Nat → Nat} {uc : gm → Option (Int32 × gm)} {ud : gm → Option gm} {fc : Int32 → gm → Option ((Int32 × gm) ⊕ ((Int32 × gm) ⊕ gm))} {fd : gm → Option (gm ⊕ (gm ⊕ gm))} {c d : gm} (ht : t = 33 ∨ t = 38) (hN : 700 < N) (U : ∀ z h a c d, h ≤ hb → gLi n b t z h l a c d → gLo n b t z h l a c d (uc c) (ud d)) (FF : ∀ d, ¬ d.1 55 5 = 0 → fd d = some (.inr (.inr d))) (S : gLs n b t uc ud fc fd) (hh : h + 1 ≤ hb) (hI : gLi n b t z (h + 1) l a c d) : ∃ B Y, gloop (gu2 fc) N (0, c) = some B ∧ gloop fd N d = some Y ∧ gLq n b t z h l a c d B Y := by
  obtain ⟨I0, C0, hz, h150, h8⟩ := hI
  have han := I0.2.2.2.2.1
  refine gloop_two2 (fun r (A : Int32 × gm) (x : gm) => ∃ k c8 a8 z8, r + a8 = n ∧ 2 * k + a ≤ a8 ∧ A = (nI k, c8) ∧ gIn n b c8 x a8 ∧ z8 + a ≤ z + a8 ∧ gCd t z8 (h + 1) c8 x ∧ x.1 55 8 = nI l ∧ flC t c c8 ∧ flD d x ∧ c8.1 1 7 = c.1 1 7) (gLq n b t z h l a c d) ?_ ⟨0, c, a, z, (by omega : (n - a) + a = n), by omega, rfl, I0, by omega, C0, h8, flC_r t c, flD_r d, rfl⟩ (by omega)
  rintro r A x ⟨k, c8, a8, z8, hr, hk, rfl, I8, hz8, C8, L8, F8, D8, K8⟩
  have ha8 := I8.2.2.2.2.1
  have hs := pScan_le (p := pBl b) ha8
  have S8 := S k c8 x a8 (by omega) I8
  generalize pScan (pBl b) n a8 = s at *
  rcases S8 with ⟨s1, s2⟩ | ⟨j, c25, j2, j8, hsn, fc25, c253, s1, s2⟩
  · right
    have f1 := cPk_f c8 s
    have f2 := dAt_f x s
    refine ⟨.inr (cPk c8 s), .inl (dAt x s), s1, Or.inl s2, Or.inl ⟨_, _, s, z8, rfl, Or.inl rfl, gIn_o I8 ⟨f1, f2, (cPk_s c8 s).1, dAt_4 x s, hs.2⟩, by omega, by omega, gCd_o ht C8 (frc_F f1) (frm_F f2), by rw [f2.2.2 8 (by omega)]; exact L8, flC_t F8 (flC_f (frc_F f1)), flD_t D8 (flD_f (frm_F f2)), by rw [f1.2.2 7 (by omega) (by omega) (by omega)]; exact K8⟩⟩
  have f2 := dAt_f x (s + 1)
  have I25 : gIn n b c25 (dAt x (s + 1)) (s + 1) := gIn_o I8 ⟨fc25, f2, c253, dAt_4 _ _, by omega⟩
  have C25 := gCd_o ht C8 (frc_F fc25) (frm_F f2)
  have L25 : (dAt x (s + 1)).1 55 8 = nI l := by rw [f2.2.2 8 (by omega)]; exact L8
  rcases U z8 (h + 1) (s + 1) c25 (dAt x (s + 1)) hh ⟨I25, C25, by omega, h150, L25⟩ with ⟨c28, d28, a28, z28, e1, e2, I28, ha28, hz28, C28, L28, F28, D28, K28⟩ | ⟨c28, d28, e1, e2, F28, D28, g28⟩
  · left
    have ha28n := I28.2.2.2.2.1
    obtain ⟨c32, d32, m1, m2, C32, F32, D32, k1, k2, k56, k55⟩ := emit (h2 := h + 1) (x := nI j) (y := 0) C28 (by omega) ht I28.2.2.2.2.2 (Or.inr ⟨by omega, by omega, j, j2, j8, rfl⟩)
    refine ⟨(nI (k + 1), c32), d32, n - a28, ?_, by rw [s2, gb_x e2, gb_x m2], by omega, k + 1, c32, a28, z28 + 1, by omega, by omega, rfl, gIn_d (gIn_c I28 k1 k2) (fun k hk => k55 k (by omega)) k56, by omega, C32, by rw [k55 8 (by omega)]; exact L28, flC_t F8 (flC_t (flC_f (frc_F fc25)) (flC_t F28 F32)), flD_t D8 (flD_t (flD_f (frm_F f2)) (flD_t D28 D32)), by rw [k1, K28, fc25.2.2 7 (by omega) (by omega) (by omega)]; exact K8⟩
    show fc (nI k) c8 = _
    rw [s1, gb2_x e1, if_neg (by decide), gb_x m1, gv_e, n_s]
  · right
    have h6 := gFl_5 g28
    refine ⟨.inl (0, c28), .inr d28, ?_, Or.inr ⟨d28, by rw [s2, gb_x e2, gb_x (notes_f h6)], FF d28 h6⟩, Or.inr ⟨c28, d28, rfl, Or.inr rfl, flC_t F8 (flC_t (flC_f (frc_F fc25)) F28), flD_t D8 (flD_t (flD_f (frm_F f2)) D28), g28⟩⟩
    show fc (nI k) c8 = _
    rw [s1, gb2_x e1, if_pos rfl]
theorem gsm_d {Y : gm ⊕ gm} {d : gm} (h : Y = .inl d ∨ Y = .inr d) : gsm (fun (c8 : gm) => some c8) Y = some d := by rcases h with rfl | rfl <;> rfl
/-- a first part, and a loop -/
theorem ch_two {n N t l hb z h a : Nat} {b : Nat → Nat} {uc : gm → Option (Int32 × gm)} {ud : gm → Option gm} {fc : Int32 → gm → Option ((Int32 × gm) ⊕ ((Int32 × gm) ⊕ gm))} {fd : gm → Option (gm ⊕ (gm ⊕ gm))} {c d : gm} (ht : t = 33 ∨ t = 38) (hN : 700 < N) (U : ∀ z h a c d, h ≤ hb → gLi n b t z h l a c d → gLo n b t z h l a c d (uc c) (ud d)) (FF : ∀ d, ¬ d.1 55 5 = 0 → fd d = some (.inr (.inr d))) (S : gLs n b t uc ud fc fd) (hh : h + 1 ≤ hb) (hI : gLi n b t z h l a c d) : gLo n b t z h l a c d (gc (gck t = 3) (gb2 (uc c) (fun (r4 : Int32) (c5 : gm) => (if r4 = 0 then some (0, c5) else gb (gloop (gu2 fc) N (0, c5)) (gsm (fun (c10 : gm) => some (1, c10))))))) (gc (gck 55 = 10) (gb (ud d) (fun (c5 : gm) => gb (gloop fd N c5) (gsm (fun (c8 : gm) => some c8))))) := by
  have kt : gck t = 3 := hI.2.1.1
  have hz := hI.2.2.1
  have h150 := hI.2.2.2.1
  rw [gc_1 kt, gc_1 (show gck 55 = 10 from rfl)]
  rcases U z h a c d (by omega) hI with ⟨c2, d2, a2, z2, e1, e2, I2, ha2, hz2, C2, L2, F2, D2, K2⟩ | ⟨c2, d2, e1, e2, F2, D2, g2⟩
  · obtain ⟨B, Y, l1, l2, hB⟩ := lp_two ht hN U FF S hh ⟨I2, C2, by omega, h150, L2⟩
    rw [gb2_x e1, if_neg (by decide), gb_x l1, gb_x e2, gb_x l2]
    rcases hB with ⟨c3, d3, a3, z3, rfl, hY, I3, ha3, hz3, C3, L3, F3, D3, K3⟩ | ⟨c3, d3, rfl, hY, F3, D3, g3⟩
    · exact Or.inl ⟨c3, d3, a3, z3, gsm_e2, gsm_d hY, I3, by omega, by omega, C3, L3, flC_t F2 F3, flD_t D2 D3, by rw [K3, K2]⟩
    · exact Or.inr ⟨c3, d3, gsm_e1, gsm_d hY, flC_t F2 F3, flD_t D2 D3, g3⟩
  · exact Or.inr ⟨c2, d2, by rw [gb2_x e1, if_pos rfl], by rw [gb_x e2, gb_x (gloop_1 (FF d2 (gFl_5 g2)) (by omega))]; rfl, F2, D2, g2⟩
theorem prod_s {n N t l : Nat} {b : Nat → Nat} {rc : Nat → Nat → Nat → Int32 → gm → Option (Int32 × gm)} {rd : Nat → Nat → gm → Option gm} (hN : 700 < N) : gLs n b t (m_X3_readUnit rc N t 1 (nI l)) (m_X10_one rd N 55) (fun (y8 : Int32) (c9 : gm) => m_X3_readProduct_L13 rc N t 1 (nI l) y8 c9) (fun (c7 : gm) => m_X10_product_L4 rd N 55 c7) := by
  intro k c d a hk hI
  obtain ⟨hc, hd, h3, h4, han, h5⟩ := hI
  have hn := hc.1
  have hs := pScan_le (p := pBl b) han
  have hx := pScan_x (p := pBl b) han
  have e1 := peek_c hc h3 han hN
  have fc := cPk_f c (pScan (pBl b) n a)
  have e1' := peek_c (gTc_f hc (frc_F fc)) (cPk_s c _).1 hs.2 hN
  rw [pScan_e hx] at e1'
  have ty : ∀ x, pBt n b (pScan (pBl b) n a) = nI x → m_X10_takesSign N 55 (nI x) d = some (1, dAt d (pScan (pBl b) n a + 1)) := fun x q => takes_y hd h4 han h5 hN rfl q
  have tn : ∀ x, ¬ pBt n b (pScan (pBl b) n a) = nI x → m_X10_takesSign N 55 (nI x) d = some (0, dAt d (pScan (pBl b) n a)) := fun x q => takes_no hd h4 han h5 hN rfl q
  have fd := dAt_f d (pScan (pBl b) n a)
  have h52 : (dAt d (pScan (pBl b) n a)).1 55 5 = 0 := by rw [fd.2.2 5 (by omega)]; exact h5
  have ty2 : ∀ x, pBt n b (pScan (pBl b) n a) = nI x → m_X10_takesSign N 55 (nI x) (dAt d (pScan (pBl b) n a)) = some (1, dAt d (pScan (pBl b) n a + 1)) := fun x q => by rw [takes_y (gTd_f hd (frm_F fd)) (dAt_4 _ _) hs.2 h52 hN (pScan_e hx).symm q, dAt_a]
  have tn2 : ∀ x, ¬ pBt n b (pScan (pBl b) n a) = nI x → m_X10_takesSign N 55 (nI x) (dAt d (pScan (pBl b) n a)) = some (0, dAt d (pScan (pBl b) n a)) := fun x q => by rw [takes_no (gTd_f hd (frm_F fd)) (dAt_4 _ _) hs.2 h52 hN (pScan_e hx).symm q, dAt_a]
  have hsn : ∀ x, x < 256 → pBt n b (pScan (pBl b) n a) = nI x → pScan (pBl b) n a < n := by
    intro x hx q
    rcases Nat.lt_or_ge (pScan (pBl b) n a) n with q2 | q2
    · exact q2
    · exfalso
      unfold pBt at q
      rw [if_neg (by omega), n_nn (by omega)] at q
      exact q
  generalize pScan (pBl b) n a = s at *
  have kk : ¬ 150 ≤ nI k := by rw [n_l150, n_le (by decide) (by omega)]; omega
  have X0 : ∀ j, 2 ≤ j → j ≤ 8 → m_X3_productMark (pBt n b s) = some (nI j) → m_X3_readProduct_L13 rc N t 1 (nI l) (nI k) c = gb2 (m_X3_readUnit rc N t 1 (nI l) (cAt (cPk (cPk c s) s) (s + 1))) (fun (r27 : Int32) (c28 : gm) => (if r27 = 0 then some (.inr (.inl (0, c28))) else gb (m_X3_add t (nI j) 0 c28) (fun (c32 : gm) => gv (nI k + 1) (fun (x33 : Int32) => some (.inl (x33, c32)))))) := by
    intro j j2 j8 e
    unfold m_X3_readProduct_L13
    rw [if_neg kk, gc_1 (show gck 1 = 7 from rfl), gb2_x e1, gb_x e, if_neg (show ¬ nI j < 0 by rw [n_l0, n_lt (by omega) (by decide)]; omega), gb2_x e1', gb_x e, gv_e, (cPk_s (cPk c s) s).1, n_s]
    rfl
  have fr : frc c (cAt (cPk (cPk c s) s) (s + 1)) := frc_t fc (frc_t (cPk_f (cPk c s) s) (cAt_f _ _))
  by_cases q42 : pBt n b s = nI 42
  · right
    refine ⟨4, _, by omega, by omega, hsn 42 (by omega) q42, fr, cAt_3 _ _, X0 4 (by omega) (by omega) (by rw [q42]; rfl), ?_⟩
    show m_X10_product_L4 rd N 55 d = _
    unfold m_X10_product_L4; simp only [gj_e]
    rw [if_pos h5, show m_X10_takesSign N 55 42 d = some (1, dAt d (s + 1)) from ty 42 q42, gb2_e, if_neg (show ¬ (1 : Int32) = 0 by decide), gu2_e, if_neg (show ¬ (4 : Int32) = -1 by decide)]
    rfl
  by_cases q47 : pBt n b s = nI 47
  · right
    refine ⟨5, _, by omega, by omega, hsn 47 (by omega) q47, fr, cAt_3 _ _, X0 5 (by omega) (by omega) (by rw [q47]; rfl), ?_⟩
    show m_X10_product_L4 rd N 55 d = _
    unfold m_X10_product_L4; simp only [gj_e]
    rw [if_pos h5, show m_X10_takesSign N 55 42 d = some (0, dAt d s) from tn 42 q42, gb2_e, if_pos (show (0 : Int32) = 0 from rfl), show m_X10_takesSign N 55 47 (dAt d s) = some (1, dAt d (s + 1)) from ty2 47 q47, gb2_e, if_neg (show ¬ (1 : Int32) = 0 by decide), gu2_e, if_neg (show ¬ (5 : Int32) = -1 by decide)]
    rfl
  by_cases q37 : pBt n b s = nI 37
  · right
    refine ⟨6, _, by omega, by omega, hsn 37 (by omega) q37, fr, cAt_3 _ _, X0 6 (by omega) (by omega) (by rw [q37]; rfl), ?_⟩
    show m_X10_product_L4 rd N 55 d = _
    unfold m_X10_product_L4; simp only [gj_e]
    rw [if_pos h5, show m_X10_takesSign N 55 42 d = some (0, dAt d s) from tn 42 q42, gb2_e, if_pos (show (0 : Int32) = 0 from rfl), show m_X10_takesSign N 55 47 (dAt d s) = some (0, dAt d s) from tn2 47 q47, gb2_e, if_pos (show (0 : Int32) = 0 from rfl), show m_X10_takesSign N 55 37 (dAt d s) = some (1, dAt d (s + 1)) from ty2 37 q37, gb2_e, if_neg (show ¬ (1 : Int32) = 0 by decide), gu2_e, if_neg (show ¬ (6 : Int32) = -1 by decide)]
    rfl
  left
  constructor
  · show m_X3_readProduct_L13 rc N t 1 (nI l) (nI k) c = _
    unfold m_X3_readProduct_L13 m_X3_productMark
    rw [if_neg kk, gc_1 (show gck 1 = 7 from rfl), gb2_x e1, if_neg (show ¬ pBt n b s = 42 from q42), if_neg (show ¬ pBt n b s = 47 from q47), if_neg (show ¬ pBt n b s = 37 from q37), gb_e, if_pos (by decide)]
  · show m_X10_product_L4 rd N 55 d = _
    unfold m_X10_product_L4; simp only [gj_e]
    rw [if_pos h5, show m_X10_takesSign N 55 42 d = some (0, dAt d s) from tn 42 q42, gb2_e, if_pos (show (0 : Int32) = 0 from rfl), show m_X10_takesSign N 55 47 (dAt d s) = some (0, dAt d s) from tn2 47 q47, gb2_e, if_pos (show (0 : Int32) = 0 from rfl), show m_X10_takesSign N 55 37 (dAt d s) = some (0, dAt d s) from tn2 37 q37, gb2_e, if_pos (show (0 : Int32) = 0 from rfl), gu2_e, if_pos (show (-1 : Int32) = -1 from rfl)]
theorem sum_s {n N t l : Nat} {b : Nat → Nat} {rc : Nat → Nat → Nat → Int32 → gm → Option (Int32 × gm)} {rd : Nat → Nat → gm → Option gm} (hN : 700 < N) : gLs n b t (m_X3_readProduct rc N t 1 (nI l)) (m_X10_product rd N 55) (fun (y8 : Int32) (c9 : gm) => m_X3_readSum_L13 rc N t 1 (nI l) y8 c9) (fun (c7 : gm) => m_X10_sum_L4 rd N 55 c7) := by
  intro k c d a hk hI
  obtain ⟨hc, hd, h3, h4, han, h5⟩ := hI
  have hn := hc.1
  have hs := pScan_le (p := pBl b) han
  have hx := pScan_x (p := pBl b) han
  have e1 := peek_c hc h3 han hN
  have fc := cPk_f c (pScan (pBl b) n a)
  have e1' := peek_c (gTc_f hc (frc_F fc)) (cPk_s c _).1 hs.2 hN
  rw [pScan_e hx] at e1'
  have ty : ∀ x, pBt n b (pScan (pBl b) n a) = nI x → m_X10_takesSign N 55 (nI x) d = some (1, dAt d (pScan (pBl b) n a + 1)) := fun x q => takes_y hd h4 han h5 hN rfl q
  have tn : ∀ x, ¬ pBt n b (pScan (pBl b) n a) = nI x → m_X10_takesSign N 55 (nI x) d = some (0, dAt d (pScan (pBl b) n a)) := fun x q => takes_no hd h4 han h5 hN rfl q
  have fd := dAt_f d (pScan (pBl b) n a)
  have h52 : (dAt d (pScan (pBl b) n a)).1 55 5 = 0 := by rw [fd.2.2 5 (by omega)]; exact h5
  have ty2 : ∀ x, pBt n b (pScan (pBl b) n a) = nI x → m_X10_takesSign N 55 (nI x) (dAt d (pScan (pBl b) n a)) = some (1, dAt d (pScan (pBl b) n a + 1)) := fun x q => by rw [takes_y (gTd_f hd (frm_F fd)) (dAt_4 _ _) hs.2 h52 hN (pScan_e hx).symm q, dAt_a]
  have tn2 : ∀ x, ¬ pBt n b (pScan (pBl b) n a) = nI x → m_X10_takesSign N 55 (nI x) (dAt d (pScan (pBl b) n a)) = some (0, dAt d (pScan (pBl b) n a)) := fun x q => by rw [takes_no (gTd_f hd (frm_F fd)) (dAt_4 _ _) hs.2 h52 hN (pScan_e hx).symm q, dAt_a]
  have hsn : ∀ x, x < 256 → pBt n b (pScan (pBl b) n a) = nI x → pScan (pBl b) n a < n := by
    intro x hx q
    rcases Nat.lt_or_ge (pScan (pBl b) n a) n with q2 | q2
    · exact q2
    · exfalso
      unfold pBt at q
      rw [if_neg (by omega), n_nn (by omega)] at q
      exact q
  generalize pScan (pBl b) n a = s at *
  have kk : ¬ 150 ≤ nI k := by rw [n_l150, n_le (by decide) (by omega)]; omega
  have X0 : ∀ j, 2 ≤ j → j ≤ 8 → m_X3_sumMark (pBt n b s) = some (nI j) → m_X3_readSum_L13 rc N t 1 (nI l) (nI k) c = gb2 (m_X3_readProduct rc N t 1 (nI l) (cAt (cPk (cPk c s) s) (s + 1))) (fun (r27 : Int32) (c28 : gm) => (if r27 = 0 then some (.inr (.inl (0, c28))) else gb (m_X3_add t (nI j) 0 c28) (fun (c32 : gm) => gv (nI k + 1) (fun (x33 : Int32) => some (.inl (x33, c32)))))) := by
    intro j j2 j8 e
    unfold m_X3_readSum_L13
    rw [if_neg kk, gc_1 (show gck 1 = 7 from rfl), gb2_x e1, gb_x e, if_neg (show ¬ nI j < 0 by rw [n_l0, n_lt (by omega) (by decide)]; omega), gb2_x e1', gb_x e, gv_e, (cPk_s (cPk c s) s).1, n_s]
    rfl
  have fr : frc c (cAt (cPk (cPk c s) s) (s + 1)) := frc_t fc (frc_t (cPk_f (cPk c s) s) (cAt_f _ _))
  by_cases q43 : pBt n b s = nI 43
  · right
    refine ⟨2, _, by omega, by omega, hsn 43 (by omega) q43, fr, cAt_3 _ _, X0 2 (by omega) (by omega) (by rw [q43]; rfl), ?_⟩
    show m_X10_sum_L4 rd N 55 d = _
    unfold m_X10_sum_L4; simp only [gj_e]
    rw [if_pos h5, show m_X10_takesSign N 55 43 d = some (1, dAt d (s + 1)) from ty 43 q43, gb2_e, if_neg (show ¬ (1 : Int32) = 0 by decide), gu2_e, if_neg (show ¬ (2 : Int32) = -1 by decide)]
    rfl
  by_cases q45 : pBt n b s = nI 45
  · right
    refine ⟨3, _, by omega, by omega, hsn 45 (by omega) q45, fr, cAt_3 _ _, X0 3 (by omega) (by omega) (by rw [q45]; rfl), ?_⟩
    show m_X10_sum_L4 rd N 55 d = _
    unfold m_X10_sum_L4; simp only [gj_e]
    rw [if_pos h5, show m_X10_takesSign N 55 43 d = some (0, dAt d s) from tn 43 q43, gb2_e, if_pos (show (0 : Int32) = 0 from rfl), show m_X10_takesSign N 55 45 (dAt d s) = some (1, dAt d (s + 1)) from ty2 45 q45, gb2_e, if_neg (show ¬ (1 : Int32) = 0 by decide), gu2_e, if_neg (show ¬ (3 : Int32) = -1 by decide)]
    rfl
  left
  constructor
  · show m_X3_readSum_L13 rc N t 1 (nI l) (nI k) c = _
    unfold m_X3_readSum_L13 m_X3_sumMark
    rw [if_neg kk, gc_1 (show gck 1 = 7 from rfl), gb2_x e1, if_neg (show ¬ pBt n b s = 43 from q43), if_neg (show ¬ pBt n b s = 45 from q45), gb_e, if_pos (by decide)]
  · show m_X10_sum_L4 rd N 55 d = _
    unfold m_X10_sum_L4; simp only [gj_e]
    rw [if_pos h5, show m_X10_takesSign N 55 43 d = some (0, dAt d s) from tn 43 q43, gb2_e, if_pos (show (0 : Int32) = 0 from rfl), show m_X10_takesSign N 55 45 (dAt d s) = some (0, dAt d s) from tn2 45 q45, gb2_e, if_pos (show (0 : Int32) = 0 from rfl), gu2_e, if_pos (show (-1 : Int32) = -1 from rfl)]
/-- behind a fault nothing happens -/
theorem one_f {N : Nat} {rd : Nat → Nat → gm → Option gm} {d : gm} (h : ¬ d.1 55 5 = 0) : m_X10_one rd N 55 d = some d := by rw [one_e, gc_1 (show gck 55 = 10 from rfl), if_neg h]
theorem pl_f {N : Nat} {rd : Nat → Nat → gm → Option gm} {d : gm} (h : ¬ d.1 55 5 = 0) : m_X10_product_L4 rd N 55 d = some (.inr (.inr d)) := by unfold m_X10_product_L4; rw [if_neg h]
theorem sl_f {N : Nat} {rd : Nat → Nat → gm → Option gm} {d : gm} (h : ¬ d.1 55 5 = 0) : m_X10_sum_L4 rd N 55 d = some (.inr (.inr d)) := by unfold m_X10_sum_L4; rw [if_neg h]
theorem prod_f {N : Nat} {rd : Nat → Nat → gm → Option gm} {d : gm} (h : ¬ d.1 55 5 = 0) (hN : 0 < N) : m_X10_product rd N 55 d = some d := by
  unfold m_X10_product
  rw [gc_1 (show gck 55 = 10 from rfl), gb_x (one_f h), gb_x (gloop_1 (pl_f h) hN)]
  rfl
theorem sum_f {N : Nat} {rd : Nat → Nat → gm → Option gm} {d : gm} (h : ¬ d.1 55 5 = 0) (hN : 0 < N) : m_X10_sum_b rd N 55 d = some d := by
  unfold m_X10_sum_b
  rw [gc_1 (show gck 55 = 10 from rfl), gb_x (prod_f h hN), gb_x (gloop_1 (sl_f h) hN)]
  rfl
theorem sum_two {n N t : Nat} {b : Nat → Nat} (ht : t = 33 ∨ t = 38) (hN : 700 < N) : ∀ dd l, l ≤ 6 → 7 ≤ l + dd → gRc n b t l N (m_X3_readSum (dd + 1)) (m_X10_sum (dd + 1)) := by
  intro dd
  induction dd with
  | zero => intro l hl hd; omega
  | succ dd ih =>
    intro l hl hd z h a c d hh hI
    have U' : ∀ z h a c d, h ≤ 3 * l + 2 → gLi n b t z h l a c d → gLo n b t z h l a c d (m_X3_readUnit (m_X3_readSum (dd + 1)) N t 1 (nI l) c) (m_X10_one (m_X10_sum (dd + 1)) N 55 d) := fun z h a c d h1 h2 => unit_two (fun q => ih (l + 1) (by omega) (by omega)) (fun d hd => sum_f hd (by omega)) hl h1 ht hN h2
    have P : ∀ z h a c d, h ≤ 3 * l + 1 → gLi n b t z h l a c d → gLo n b t z h l a c d (m_X3_readProduct (m_X3_readSum (dd + 1)) N t 1 (nI l) c) (m_X10_product (m_X10_sum (dd + 1)) N 55 d) := fun z h a c d h1 h2 => ch_two ht hN U' (fun d hd => pl_f hd) (prod_s hN) (by omega) h2
    exact ch_two ht hN P (fun d hd => sl_f hd) (sum_s hN) (by omega) hI
