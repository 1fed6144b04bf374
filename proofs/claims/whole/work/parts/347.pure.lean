set_option maxRecDepth 16384
/-! reading a work: all of it -/
theorem nest_two {n th l N : Nat} {b : Nat → Nat} {W : gm → gm → Nat → Nat → Prop} {rc : rC} {rd : rD} (hW : gLc W) (H : l < 6 → gRn n b th W (l + 1) N rc rd) (hl0 : 1 ≤ l) (hl : l ≤ 6) (hN : 700 < N) : gRn n b th (gWs th W) l N (m_X8_readSteps_b rc) (m_X10_readsStep_b rd) := by
  intro z a c d hI
  obtain ⟨B, y, l1, l2, hB⟩ := nest_lp hW H hl0 hl hI hN
  obtain ⟨I0, h15, h26, hza, h150, h8, h59, hth⟩ := hI
  obtain ⟨hc, hd, h3, h4, han, h5⟩ := id I0
  have hn := hc.1
  have X0 : m_X8_readSteps_b rc N 15 1 (nI th) (nI l) c = gsm (fun (c4 : gm) => some (1, c4)) B := by
    unfold m_X8_readSteps_b
    rw [gb_x l1]
  have Y0 : nsD (m_X10_readsStep_b rd) N d = m_X10_sign N 55 93 y := by
    unfold nsD
    rw [gb_x (blanks_d hd h4 han hN), gb_x l2]
  unfold nsC
  rw [X0, Y0]
  rcases hB with ⟨c2, s, rfl, hs, q93, hx, I2, z2, hz2, hz2m, c215, d226, W2, L2, F2, D2, K2⟩ | ⟨c2, d1, rfl, c23, tc2, F2, D1, d14, rfl⟩ | ⟨c2, rfl, F2, D2, g2⟩
  · rw [gsm_e1, gb2_e, if_neg (by decide)]
    rcases sign_two (x := 93) I2 hN (by decide) with ⟨c3, d3, a3, ha3, t1, t2, hO⟩ | ⟨c3, d3, t1, t2, hO⟩
    · left
      refine ⟨c3, d3, a3, z2, t1, t2, gIn_o I2 hO, hz2, by omega, by rw [hO.1.1 15 (by omega)]; exact c215, by rw [hO.2.1.2.2 26 (by omega)]; exact d226, gWs_l hW c2 y c3 d3 _ _ W2 ⟨fun j _ _ => by rw [hO.1.1 16 (by omega)], fun j _ _ => hO.2.1.1 _ (by omega)⟩, by rw [hO.2.1.2.2 8 (by omega)]; exact L2, fwC_t F2 (fwC_f (frc_F hO.1)) (Nat.le_refl z), fwD_t D2 (fwD_f (frm_F hO.2.1)) (Nat.le_refl z), by rw [hO.1.2.2 7 (by omega) (by omega) (by omega)]; exact K2⟩
    · right
      exact ⟨c3, d3, t1, t2, fwC_t F2 (fwC_f hO.1) (Nat.le_refl z), fwD_t D2 (fwD_f hO.2.1) (Nat.le_refl z), hO.2.2⟩
  · right
    have hf : ¬ (dFl d1 1 n).1 55 5 = 0 := dFl_5 (by omega) (by omega)
    rw [gsm_e2, gb2_e, if_neg (by decide), sign_f hf]
    have e1 := peek_c tc2 c23 (Nat.le_refl n) hN
    rw [pScan_e (show ¬ (n < n ∧ pBl b n = true) by omega)] at e1
    have g := gNo_w (n := n) (k := 1) (q := n) (c := cPk c2 n) (d := d1) (by omega) (by omega) (by omega) (Nat.le_refl n) d14
    refine ⟨cFl (cPk c2 n) 1 n, dFl d1 1 n, ?_, rfl, fwC_t F2 (fwC_t (fwC_f (frc_F (cPk_f c2 n))) (fwC_f g.1) (Nat.le_refl z)) (Nat.le_refl z), fwD_t D1 (fwD_f g.2.1) (Nat.le_refl z), g.2.2⟩
    unfold m_X7_takeSign
    rw [gc_1 (show gck 1 = 7 from rfl), gb2_x e1, if_neg (show ¬ pBt n b n = 93 by unfold pBt; rw [if_neg (by omega)]; decide)]
    exact fail3 (cPk c2 n) 1 n (cPk_s c2 n).2
  · right
    have h6 := gFl_5 g2
    exact ⟨c2, y, by rw [gsm_e1, gb2_e, if_pos rfl], sign_f h6, F2, D2, g2⟩
theorem steps_two {n th N : Nat} {b : Nat → Nat} (hN : 700 < N) : ∀ dp l, 1 ≤ l → l + dp = 6 → ∀ dd, dp + 1 ≤ dd → gRn n b th (gWn th (dp + 1)) l N (m_X8_readSteps dd) (m_X10_readsStep dd) := by
  intro dp
  induction dp with
  | zero =>
    intro l h1 h2 dd hd
    obtain ⟨e, rfl⟩ : ∃ e, dd = e + 1 := ⟨dd - 1, by omega⟩
    exact nest_two (gWn_l 0) (fun q => by omega) h1 (by omega) hN
  | succ dp ih =>
    intro l h1 h2 dd hd
    obtain ⟨e, rfl⟩ : ∃ e, dd = e + 1 := ⟨dd - 1, by omega⟩
    exact nest_two (gWn_l (dp + 1)) (fun q => ih (l + 1) (by omega) (by omega) e (by omega)) h1 (by omega) hN
/-- the outermost loop -/
def gPo (n : Nat) (b : Nat → Nat) (th : Nat) (W : gm → gm → Nat → Nat → Prop) (c d : gm) (B : (Int32 × gm) ⊕ gm) (y : gm) : Prop := (∃ c2 s, B = .inr c2 ∧ gSt2 n b th W 0 0 0 c d c2 y s) ∨ ∃ c2, B = .inl (0, c2) ∧ fwC 0 c c2 ∧ fwD 0 d y ∧ gFl n c2 y
theorem top_lp {n th N : Nat} {b : Nat → Nat} {W : gm → gm → Nat → Nat → Prop} {rc : rC} {rd : rD} {c d : gm} (hW : gLc W) (H : gRn n b th W 1 N rc rd) (hrd : m_X10_readsStep 12 = m_X10_readsStep_b rd) (hc : gTc n b c) (hd : gTd n b d) (h3 : c.1 1 3 = nI 0) (h4 : d.1 55 4 = nI (pScan (pBl b) n 0)) (h5 : d.1 55 5 = 0) (h15 : c.1 15 1 = nI 0) (h26 : d.1 55 26 = nI 0) (h150 : n ≤ 150) (h8 : d.1 55 8 = nI 0) (h59 : d.1 59 0 = nI th) (hth : th ≤ 8) (hN : 700 < N) : ∃ B y, gloop (gu2 (fun (y2 : Int32) (c3 : gm) => m_X8_readSteps_L3 rc N 15 1 (nI th) 0 y2 c3)) N (0, c) = some B ∧ gloop (fun (c18 : gm) => m_X10_work_L72 N 55 c18) N d = some y ∧ gPo n b th W c d B y := by
  refine gloop_two2 (fun r (A : Int32 × gm) (x : gm) => ∃ k c8 a8 z8, r + a8 = n ∧ 4 * k ≤ a8 ∧ A = (nI k, c8) ∧ a8 ≤ n ∧ gTc n b c8 ∧ gTd n b x ∧ c8.1 1 3 = nI a8 ∧ x.1 55 4 = nI (pScan (pBl b) n a8) ∧ x.1 55 5 = 0 ∧ 4 * z8 ≤ a8 ∧ c8.1 15 1 = nI z8 ∧ x.1 55 26 = nI z8 ∧ gWs th W c8 x 0 z8 ∧ x.1 55 8 = nI 0 ∧ fwC 0 c c8 ∧ fwD 0 d x ∧ c8.1 1 7 = c.1 1 7) (gPo n b th W c d) ?_ ⟨0, c, 0, 0, (by omega : n + 0 = n), by omega, rfl, by omega, hc, hd, h3, h4, h5, by omega, h15, h26, gWs_n _ _ _ _ _, h8, fwC_r 0 c, fwD_r 0 d, rfl⟩ (by omega)
  rintro r A x ⟨k, c8, a8, z8, hr, hk, rfl, ha8, tc, td, g3, g4, g5, hzm, g15, g26, gW, L8, F8, D8, K8⟩
  have hs := pScan_le (p := pBl b) ha8
  have hx := pScan_x (p := pBl b) ha8
  have em := more_c tc g3 ha8 hN
  generalize pScan (pBl b) n a8 = s at *
  have kk : ¬ 38 ≤ nI k := by rw [n_l38, n_le (by decide) (by omega)]; omega
  have hck := cPk_f c8 s
  have hc10 := gTc_f tc (frc_F hck)
  have hb : gNb n b x s := ⟨td, g4, hs.2, g5, hx⟩
  by_cases q : s < n
  rotate_left
  · right
    refine ⟨.inr (cPk c8 s), x, ?_, Or.inl ?_, Or.inl ⟨cPk c8 s, s, rfl, ⟨hc10, td, (cPk_s c8 s).1, g4, hs.2, g5⟩, z8, by omega, by omega, by rw [hck.1 15 (by omega)]; exact g15, g26, gWs_l hW c8 x _ x _ _ gW ⟨fun j _ _ => by rw [hck.1 16 (by omega)], fun _ _ _ => rfl⟩, L8, fwC_t F8 (fwC_f (frc_F hck)) (Nat.le_refl 0), D8, by rw [hck.2.2 7 (by omega) (by omega) (by omega)]; exact K8⟩⟩
    · show m_X8_readSteps_L3 rc N 15 1 (nI th) 0 (nI k) c8 = _
      unfold m_X8_readSteps_L3
      rw [if_neg kk, gc_1 (show gck 1 = 7 from rfl), gb2_x em, if_neg q, if_pos rfl]
    · unfold m_X10_work_L72
      rw [if_pos g5, td.2.1, g4, if_pos (by rw [n_le (by omega) (by omega)]; omega)]
  have eC : m_X8_readSteps_L3 rc N 15 1 (nI th) 0 (nI k) c8 = rdB rc N (nI th) (nI 0) (nI k) (cPk c8 s) := by
    unfold m_X8_readSteps_L3
    simp only [gj_e]
    rw [if_neg kk, gc_1 (show gck 1 = 7 from rfl), gb2_x em, if_pos q, if_neg (show ¬ (1 : Int32) = 0 by decide), if_pos (show (0 : Int32) ≤ 0 by decide), rdB_e]
    rfl
  have eD : ∀ d2, m_X10_readsStep_b rd N 55 x = some d2 → m_X10_work_L72 N 55 x = gb (m_X10_blanks N 55 d2) (fun (c64 : gm) => some (.inl c64)) := by
    intro d2 e
    unfold m_X10_work_L72
    rw [if_pos g5, td.2.1, g4, if_neg (by rw [n_le (by omega) (by omega)]; omega), hrd, gb_x e]
  rcases st_go (l := 0) (z := 0) (a := 0) (c := c) (d := d) hW (fun _ => H) (by omega) hb hc10 (cPk_s _ s).1 hck hs.1 (by omega) (by omega) (by omega) g15 g26 gW h150 L8 h59 hth F8 D8 K8 hN with ⟨c2, d2, a2, e1, e2, ha2, I2, z2, hz2, hz2m, c215, d226, W2, L2, F2, D2, K2⟩ | ⟨c2, d2, e1, e2, F2, D2, g2⟩
  · left
    obtain ⟨tc2, td2, c23, d24, ha2n, d25⟩ := id I2
    have fa := dAt_f d2 (pScan (pBl b) n a2)
    refine ⟨(nI (k + 1), c2), dAt d2 (pScan (pBl b) n a2), n - a2, ?_, by rw [eD d2 e2, gb_x (blanks_d td2 d24 ha2n hN)], by omega, k + 1, c2, a2, z2, by omega, by omega, rfl, ha2n, tc2, gTd_f td2 (frm_F fa), c23, dAt_4 _ _, by rw [fa.2.2 5 (by omega)]; exact d25, by omega, c215, by rw [fa.2.2 26 (by omega)]; exact d226, gWs_l hW c2 d2 c2 _ _ _ W2 ⟨fun _ _ _ => rfl, fun j _ _ => fa.1 _ (by omega)⟩, by rw [fa.2.2 8 (by omega)]; exact L2, F2, fwD_t D2 (fwD_f (frm_F fa)) (Nat.le_refl 0), K2⟩
    show m_X8_readSteps_L3 rc N 15 1 (nI th) 0 (nI k) c8 = _
    rw [eC]
    unfold rdB
    rw [gb2_x e1, if_neg (by decide), gv_e, n_s]
  · right
    obtain ⟨a3, ha3, e4⟩ := gFl_t g2
    have h6 := gFl_5 g2
    have td2 : gTd n b d2 := ⟨hd.1, by rw [D2.2.2 2 (by omega)]; exact hd.2.1, fun j hj => by rw [D2.1 56 (by omega) (by omega)]; exact hd.2.2 j hj⟩
    have fa := dAt_f d2 (pScan (pBl b) n a3)
    refine ⟨.inl (0, c2), dAt d2 (pScan (pBl b) n a3), ?_, Or.inr ⟨dAt d2 (pScan (pBl b) n a3), by rw [eD d2 e2, gb_x (blanks_d td2 e4 ha3 hN)], ?_⟩, Or.inr ⟨c2, rfl, F2, fwD_t D2 (fwD_f (frm_F fa)) (Nat.le_refl 0), ?_⟩⟩
    · show m_X8_readSteps_L3 rc N 15 1 (nI th) 0 (nI k) c8 = _
      rw [eC]
      unfold rdB
      rw [gb2_x e1, if_pos rfl]
    · unfold m_X10_work_L72
      rw [fa.2.2 5 (by omega), if_neg h6]
    · obtain ⟨k, q, a9, k1, k3, hq, ha9, c6, c7, d5, d6, d4⟩ := g2
      exact ⟨k, q, _, k1, k3, hq, (pScan_le (p := pBl b) ha3).2, c6, c7, by rw [fa.2.2 5 (by omega)]; exact d5, by rw [fa.2.2 6 (by omega)]; exact d6, dAt_4 _ _⟩
/-- the whole text of a work -/
theorem work_rd {n th N : Nat} {b : Nat → Nat} {c d : gm} (hc : gTc n b c) (hd : gTd n b d) (h150 : n ≤ 150) (h3 : c.1 1 3 = nI 0) (h4 : d.1 55 4 = nI (pScan (pBl b) n 0)) (h5 : d.1 55 5 = 0) (h8 : d.1 55 8 = nI 0) (h59 : d.1 59 0 = nI th) (hth : th ≤ 8) (hN : 700 < N) : (∃ c2 d2 z2, z2 < 38 ∧ m_X8_readFrom N 15 1 (nI th) c = some (1, c2) ∧ gloop (fun (c18 : gm) => m_X10_work_L72 N 55 c18) N (gm_r d 55 (upd (d.1 55) 26 0)) = some d2 ∧ d2.1 55 5 = 0 ∧ c2.1 15 1 = nI z2 ∧ d2.1 55 26 = nI z2 ∧ gWn th 7 c2 d2 0 z2 ∧ fwC 0 c c2 ∧ fwD 0 d d2 ∧ c2.1 1 7 = c.1 1 7) ∨ (∃ c2 d2, m_X8_readFrom N 15 1 (nI th) c = some (0, c2) ∧ gloop (fun (c18 : gm) => m_X10_work_L72 N 55 c18) N (gm_r d 55 (upd (d.1 55) 26 0)) = some d2 ∧ fwC 0 c c2 ∧ fwD 0 d d2 ∧ gFl n c2 d2) := by
  obtain ⟨c3, ec3⟩ : ∃ q, q = gm_r c 15 (upd (c.1 15) 1 0) := ⟨_, rfl⟩
  obtain ⟨d3, ed3⟩ : ∃ q, q = gm_r d 55 (upd (d.1 55) 26 0) := ⟨_, rfl⟩
  have F3 : fwC 0 c c3 := by rw [ec3]; exact ⟨fun i _ i2 _ => gr_n _ _ i2, rfl, fun k _ => by rw [gr_n _ _ (by omega)], fun j hj => by omega⟩
  have D3 : fwD 0 d d3 := by rw [ed3]; exact ⟨fun i i1 _ => gr_n _ _ i1, rfl, fun k hk => by rw [gr_s, up_n _ _ (by omega)]⟩
  have c31 : c3.1 1 = c.1 1 := by rw [ec3, gr_n _ _ (by omega)]
  have hc3 : gTc n b c3 := ⟨hc.1, by rw [c31]; exact hc.2.1, fun j hj => by rw [ec3, gr_n _ _ (by omega)]; exact hc.2.2 j hj⟩
  have hd3 : gTd n b d3 := ⟨hd.1, by rw [ed3, gr_s, up_n _ _ (by omega)]; exact hd.2.1, fun j hj => by rw [ed3, gr_n _ _ (by omega)]; exact hd.2.2 j hj⟩
  obtain ⟨B, y, l1, l2, hB⟩ := top_lp (rc := m_X8_readSteps 11) (rd := m_X10_readsStep 11) (gWn_l (th := th) 6) (steps_two hN 5 1 (by omega) (by omega) 11 (by omega)) rfl hc3 hd3 (by rw [c31]; exact h3) (by rw [ed3, gr_s, up_n _ _ (by omega)]; exact h4) (by rw [ed3, gr_s, up_n _ _ (by omega)]; exact h5) (by rw [ec3, gr_s, up_s]; rfl) (by rw [ed3, gr_s, up_s]; rfl) h150 (by rw [ed3, gr_s, up_n _ _ (by omega)]; exact h8) (by rw [ed3, gr_n _ _ (by omega)]; exact h59) hth hN
  have X0 : m_X8_readFrom N 15 1 (nI th) c = gb2 (gsm (fun (c4 : gm) => some (1, c4)) B) (fun (r5 : Int32) (c6 : gm) => gc (r5 = 0 ∨ r5 = 1) (some (r5, c6))) := by
    unfold m_X8_readFrom
    rw [gc_1 (show gck 15 = 8 from rfl), gv_e, ← ec3]
    show gb2 (m_X8_readSteps_b (m_X8_readSteps 11) N 15 1 (nI th) 0 c3) _ = _
    unfold m_X8_readSteps_b
    rw [gb_x l1]
  rw [X0, ← ed3, l2]
  rcases hB with ⟨c2, s, rfl, I2, z2, hz2, hz2m, c215, d226, W2, L2, F2, D2, K2⟩ | ⟨c2, rfl, F2, D2, g2⟩
  · left
    have := I2.2.2.2.2.1
    exact ⟨c2, y, z2, by omega, by rw [gsm_e2, gb2_e, gc_1 (Or.inr rfl)], rfl, I2.2.2.2.2.2, c215, d226, W2, fwC_t F3 F2 (Nat.le_refl 0), fwD_t D3 D2 (Nat.le_refl 0), by rw [K2, c31]⟩
  · right
    exact ⟨c2, y, by rw [gsm_e1, gb2_e, gc_1 (Or.inl rfl)], rfl, fwC_t F3 F2 (Nat.le_refl 0), fwD_t D3 D2 (Nat.le_refl 0), g2⟩
