set_option maxRecDepth 16384
/-! reading a work: any step, and the loops -/
theorem stC_e (rc : rC) (N : Nat) (th l : Int32) (c : gm) : stC rc N th l c = stX N (m_X8_readStep rc N 15 1 th l c) := rfl
/-- no step here: a fault on both sides -/
theorem rs_no {n s N : Nat} {b : Nat → Nat} {rd : rD} {c d : gm} (hb : gNb n b d s) (hc : gTc n b c) (h3 : c.1 1 3 = nI s) (h4 : c.1 1 4 = nI s) (hw : pScan (pLt b) n s = s) (hN : 700 < N) : m_X10_readsStep_b rd N 55 d = some (dFl d 1 s) := by
  have hf : ¬ (dFl d 1 s).1 55 5 = 0 := dFl_5 (by omega) (by omega)
  rcases kind_two (e := s) hb hc h3 h4 hw.symm hN with ⟨k, hk, hx, -, -⟩ | ⟨-, kn⟩
  · omega
  rw [rs_e, gc_1 (show gck 55 = 10 from rfl), gb2_x kn, if_pos rfl, hb.2.1, show m_X10_wrong 55 1 (nI s) d = some (dFl d 1 s) from wrong_d hb.2.2.2.1 1 s, gb_e]
  unfold rsO rsM
  rw [if_neg (show ¬ (-1 : Int32) = 5 by decide), if_neg hf]
theorem step_two {n th l z s N : Nat} {b : Nat → Nat} {W : gm → gm → Nat → Nat → Prop} {rc : rC} {rd : rD} {c d : gm} (hW : gLc W) (H : l < 6 → gRn n b th W (l + 1) N rc rd) (hl : l ≤ 6) (hb : gNb n b d s) (hc : gTc n b c) (h3 : c.1 1 3 = nI s) (h1 : c.1 15 1 = nI z) (h26 : d.1 55 26 = nI z) (hzs : 4 * z ≤ s) (h150 : n ≤ 150) (h8 : d.1 55 8 = nI l) (h59 : d.1 59 0 = nI th) (hth : th ≤ 8) (hN : 700 < N) : gWo n b th W l z s c d (stC rc N (nI th) (nI l) c) (m_X10_readsStep_b rd N 55 d) := by
  obtain ⟨hd, d4, hsn, d5, hx⟩ := id hb
  have hz : z < 38 := by omega
  have w := word_c hc h3 hsn hN
  rw [pScan_e hx] at w
  obtain ⟨e, ee⟩ : ∃ e, e = pScan (pLt b) n s := ⟨_, rfl⟩
  have hpw := pScan_le (p := pLt b) hsn
  rw [← ee] at w hpw
  rw [stC_e, rstep_e, gc_1 (show gck 1 = 7 from rfl)]
  have cf0 := cPk_f c s
  rcases w with ⟨hse, w1⟩ | ⟨hse, w1⟩
  rotate_left
  · have g := gNo_w (n := n) (k := 1) (q := s) (c := cPk c s) (d := d) (by omega) (by omega) (by omega) hsn d4
    rw [gb2_x w1, if_pos rfl, rs_no hb (gTc_f hc (frc_F cf0)) (cPk_s c s).1 (cPk_s c s).2 (by rw [← ee]; exact hse) hN]
    exact bad_two (a7 := 0) (d1 := dFl d 1 s) rfl rfl hz (fwC_f (frc_F cf0)) (fwD_r z d) g ⟨fun _ _ _ => rfl, rfl, fun _ _ _ => rfl, gFl_t g.2.2⟩
  have cf := frc_t cf0 (cAt_f (cPk c s) e)
  have w3 := cAt_3 (cPk c s) e
  have w4 : (cAt (cPk c s) e).1 1 4 = nI s := by unfold cAt; rw [gr_s, up_n _ _ (by omega)]; exact (cPk_s c s).2
  have hc10 := gTc_f hc (frc_F cf)
  have h115 : (cAt (cPk c s) e).1 15 1 = nI z := by rw [cf.1 15 (by omega)]; exact h1
  rw [gb2_x w1, if_neg (by decide), gc_1 (show gck 15 = 8 from rfl), gv_e, h115]
  generalize cAt (cPk c s) e = c5 at *
  have fin : ∀ x y, gWo n b th W l z s c5 d x y → gWo n b th W l z s c d x y := by
    rintro x y (⟨c2, d2, a2, z2, e1, e2, i, q1, q2, q3, q4, q5, q6, q7, q8, q9⟩ | ⟨c2, d2, e1, e2, q7, q8, q9⟩)
    · exact Or.inl ⟨c2, d2, a2, z2, e1, e2, i, q1, q2, q3, q4, q5, q6, fwC_t (fwC_f (frc_F cf)) q7 (Nat.le_refl z), q8, by rw [q9, cf.2.2 7 (by omega) (by omega) (by omega)]⟩
    · exact Or.inr ⟨c2, d2, e1, e2, fwC_t (fwC_f (frc_F cf)) q7 (Nat.le_refl z), q8, q9⟩
  refine fin _ _ ?_
  rw [rs_e, gc_1 (show gck 55 = 10 from rfl)]
  rcases kind_two (e := e) hb hc10 w3 w4 ee hN with ⟨k, hk, hk3, kw, kn⟩ | ⟨kw, kn⟩
  · rw [kw, gb2_x kn, if_neg (show ¬ nI k = -1 by rw [n_ne (by omega)]; exact id)]
    by_cases k5 : k = 5
    · subst k5
      exact again_two hW H hl hb hc10 w3 w4 ee hk3 h115 h26 hzs h150 h8 h59 hth hN
    · unfold rsO
      rw [if_neg (show ¬ nI k = 5 by rw [n_l5, n_eq (by omega) (by decide)]; exact k5)]
      exact simple_two (by omega) hb hc10 w3 ee hk3 h115 h26 hz h8 h59 hth hN
  · have g := gNo_w (n := n) (k := 1) (q := s) (c := c5) (d := d) (by omega) (by omega) (by omega) hsn d4
    have hf := gFl_5 g.2.2
    have eO : rsO rd N (-1) (dFl d 1 s) = some (dFl d 1 s) := by
      unfold rsO rsM
      rw [if_neg (show ¬ (-1 : Int32) = 5 by decide), if_neg hf]
    rw [kw, gb2_x kn, if_pos rfl, d4, show m_X10_wrong 55 1 (nI s) d = some (dFl d 1 s) from wrong_d d5 1 s, gb_e, eO]
    exact bad_two (a7 := 0) (d1 := dFl d 1 s) (fail3 c5 1 s w4) rfl hz (fwC_r z c5) (fwD_r z d) g ⟨fun _ _ _ => rfl, rfl, fun _ _ _ => rfl, gFl_t g.2.2⟩
/-- the class's round: a step and its sign -/
def rdB (rc : rC) (N : Nat) (th l y2 : Int32) (c12 : gm) : Option ((Int32 × gm) ⊕ ((Int32 × gm) ⊕ gm)) := gb2 (stC rc N th l c12) (fun (r21 : Int32) (c22 : gm) => (if r21 = 0 then some (.inr (.inl (0, c22))) else gv (y2 + 1) (fun (x24 : Int32) => some (.inl (x24, c22)))))
theorem rdB_e (rc : rC) (N : Nat) (th l y2 : Int32) (c12 : gm) : gc (gck 15 = 8) (gb2 (m_X8_readStep rc N 15 1 th l c12) (fun (r17 : Int32) (c18 : gm) => (if r17 = 0 then some (.inr (.inl (0, c18))) else gb2 (m_X7_takeSign N 1 59 c18) (fun (r21 : Int32) (c22 : gm) => (if r21 = 0 then some (.inr (.inl (0, c22))) else gv (y2 + 1) (fun (x24 : Int32) => some (.inl (x24, c22)))))))) = rdB rc N th l y2 c12 := by
  rw [gc_1 (show gck 15 = 8 from rfl)]
  unfold rdB stC
  rcases m_X8_readStep rc N 15 1 th l c12 with _ | ⟨r, c⟩
  · rfl
  · rw [gb2_e, gb2_e]
    by_cases q : r = 0
    · rw [if_pos q, if_pos q, gb2_e, if_pos rfl]
    · rw [if_neg q, if_neg q]
/-- what a loop over steps comes to; s where it stands -/
def gSt2 (n : Nat) (b : Nat → Nat) (th : Nat) (W : gm → gm → Nat → Nat → Prop) (l z a : Nat) (c d c2 d2 : gm) (s : Nat) : Prop := gIn n b c2 d2 s ∧ ∃ z2, z ≤ z2 ∧ 4 * z2 + a ≤ 4 * z + s ∧ c2.1 15 1 = nI z2 ∧ d2.1 55 26 = nI z2 ∧ gWs th W c2 d2 z z2 ∧ d2.1 55 8 = nI l ∧ fwC z c c2 ∧ fwD z d d2 ∧ c2.1 1 7 = c.1 1 7
theorem st_go {n th l z a a8 z8 s N : Nat} {b : Nat → Nat} {W : gm → gm → Nat → Nat → Prop} {rc : rC} {rd : rD} {c d c8 x c12 : gm} (hW : gLc W) (H : l < 6 → gRn n b th W (l + 1) N rc rd) (hl : l ≤ 6) (hb : gNb n b x s) (hc : gTc n b c12) (h3 : c12.1 1 3 = nI s) (hf : frc c8 c12) (hs : a8 ≤ s) (ha8 : 4 * z8 + a ≤ 4 * z + a8) (hza : 4 * z ≤ a) (hz8 : z ≤ z8) (h1 : c8.1 15 1 = nI z8) (h26 : x.1 55 26 = nI z8) (hS : gWs th W c8 x z z8) (h150 : n ≤ 150) (h8 : x.1 55 8 = nI l) (h59 : d.1 59 0 = nI th) (hth : th ≤ 8) (F8 : fwC z c c8) (D8 : fwD z d x) (K8 : c8.1 1 7 = c.1 1 7) (hN : 700 < N) : (∃ c2 d2 a2, stC rc N (nI th) (nI l) c12 = some (1, c2) ∧ m_X10_readsStep_b rd N 55 x = some d2 ∧ s + 4 ≤ a2 ∧ gSt2 n b th W l z a c d c2 d2 a2) ∨ ∃ c2 d2, stC rc N (nI th) (nI l) c12 = some (0, c2) ∧ m_X10_readsStep_b rd N 55 x = some d2 ∧ fwC z c c2 ∧ fwD z d d2 ∧ gFl n c2 d2 := by
  have x59 : x.1 59 0 = nI th := by rw [D8.1 59 (by omega) (by omega)]; exact h59
  rcases step_two hW H hl hb hc h3 (by rw [hf.1 15 (by omega)]; exact h1) h26 (by omega) h150 h8 x59 hth hN with ⟨c2, d2, a2, z2, e1, e2, I2, hzz, hza2, c15, d26, S2, L2, F2, D2, K2⟩ | ⟨c2, d2, e1, e2, F2, D2, g2⟩
  · left
    have F12 : fwC z8 c8 c12 := fwC_f (frc_F hf)
    have F82 : fwC z8 c8 c2 := fwC_t F12 F2 (Nat.le_refl z8)
    refine ⟨c2, d2, a2, e1, e2, by omega, I2, z2, by omega, by omega, c15, d26, gWs_c (gWs_l hW c8 x c2 d2 _ _ hS ⟨fun j _ j2 => F82.2.2.2 j j2, fun j _ j2 => D2.1 _ (by omega) (by omega)⟩) S2, L2, fwC_t F8 F82 hz8, fwD_t D8 D2 hz8, by rw [K2, hf.2.2 7 (by omega) (by omega) (by omega)]; exact K8⟩
  · right
    exact ⟨c2, d2, e1, e2, fwC_t F8 (fwC_t (fwC_f (frc_F hf)) F2 (Nat.le_refl z8)) hz8, fwD_t D8 D2 hz8, g2⟩
def gPn (n : Nat) (b : Nat → Nat) (th : Nat) (W : gm → gm → Nat → Nat → Prop) (l z a : Nat) (c d : gm) (B : (Int32 × gm) ⊕ gm) (y : gm) : Prop := (∃ c2 s, B = .inl (1, c2) ∧ s < n ∧ pBt n b s = 93 ∧ ¬ (s < n ∧ pBl b s = true) ∧ gSt2 n b th W l z a c d c2 y s) ∨ (∃ c2 d1, B = .inr c2 ∧ c2.1 1 3 = nI n ∧ gTc n b c2 ∧ fwC z c c2 ∧ fwD z d d1 ∧ d1.1 55 4 = nI n ∧ y = dFl d1 1 n) ∨ ∃ c2, B = .inl (0, c2) ∧ fwC z c c2 ∧ fwD z d y ∧ gFl n c2 y
theorem nest_lp {n th l z a N : Nat} {b : Nat → Nat} {W : gm → gm → Nat → Nat → Prop} {rc : rC} {rd : rD} {c d : gm} (hW : gLc W) (H : l < 6 → gRn n b th W (l + 1) N rc rd) (hl0 : 1 ≤ l) (hl : l ≤ 6) (hI : gWi n b th l z a c d) (hN : 700 < N) : ∃ B y, gloop (gu2 (fun (y2 : Int32) (c3 : gm) => m_X8_readSteps_L3 rc N 15 1 (nI th) (nI l) y2 c3)) N (0, c) = some B ∧ gloop (fun (c49 : gm) => m_X10_readsStep_L182 (m_X10_readsStep_b rd) N 55 c49) N (dAt d (pScan (pBl b) n a)) = some y ∧ gPn n b th W l z a c d B y := by
  obtain ⟨I0, h15, h26, hza, h150, h8, h59, hth⟩ := hI
  obtain ⟨hc, hd, h3, h4, han, h5⟩ := id I0
  have f0 := dAt_f d (pScan (pBl b) n a)
  refine gloop_two2 (fun r (A : Int32 × gm) (x : gm) => ∃ k c8 a8 z8, r + a8 = n ∧ 4 * k + a ≤ a8 ∧ A = (nI k, c8) ∧ a8 ≤ n ∧ gTc n b c8 ∧ gTd n b x ∧ c8.1 1 3 = nI a8 ∧ x.1 55 4 = nI (pScan (pBl b) n a8) ∧ x.1 55 5 = 0 ∧ z ≤ z8 ∧ 4 * z8 + a ≤ 4 * z + a8 ∧ c8.1 15 1 = nI z8 ∧ x.1 55 26 = nI z8 ∧ gWs th W c8 x z z8 ∧ x.1 55 8 = nI l ∧ fwC z c c8 ∧ fwD z d x ∧ c8.1 1 7 = c.1 1 7) (gPn n b th W l z a c d) ?_ ⟨0, c, a, z, (by omega : (n - a) + a = n), by omega, rfl, han, hc, gTd_f hd (frm_F f0), h3, dAt_4 _ _, by rw [f0.2.2 5 (by omega)]; exact h5, Nat.le_refl z, by omega, h15, by rw [f0.2.2 26 (by omega)]; exact h26, gWs_n _ _ _ _ _, by rw [f0.2.2 8 (by omega)]; exact h8, fwC_r z c, fwD_f (frm_F f0), rfl⟩ (by omega)
  rintro r A x ⟨k, c8, a8, z8, hr, hk, rfl, ha8, tc, td, g3, g4, g5, hzz, hzm, g15, g26, gW, L8, F8, D8, K8⟩
  have hs := pScan_le (p := pBl b) ha8
  have hx := pScan_x (p := pBl b) ha8
  have em := more_c tc g3 ha8 hN
  generalize pScan (pBl b) n a8 = s at *
  have kk : ¬ 38 ≤ nI k := by rw [n_l38, n_le (by decide) (by omega)]; omega
  have hck := cPk_f c8 s
  have hc10 := gTc_f tc (frc_F hck)
  have hb : gNb n b x s := ⟨td, g4, hs.2, g5, hx⟩
  by_cases q : s < n
  rotate_left
  · right
    have hsn : s = n := by omega
    subst hsn
    have hw : pScan (pLt b) s s = s := pScan_e (by omega)
    have ers := rs_no (rd := rd) hb hc10 (cPk_s c8 s).1 (cPk_s c8 s).2 hw hN
    have tdf : gTd s b (dFl x 1 s) := ⟨td.1, by unfold dFl; rw [gr_s, up_n _ _ (by omega), up_n _ _ (by omega)]; exact td.2.1, fun j hj => by unfold dFl; rw [gr_n _ _ (by omega)]; exact td.2.2 j hj⟩
    have e4 : (dFl x 1 s).1 55 4 = nI s := by unfold dFl; rw [gr_s, up_n _ _ (by omega), up_n _ _ (by omega)]; exact g4
    have eb := blanks_d tdf e4 (Nat.le_refl s) hN
    rw [pScan_e (show ¬ (s < s ∧ pBl b s = true) by omega), dAt_i e4] at eb
    have hf : ¬ (dFl x 1 s).1 55 5 = 0 := dFl_5 (by omega) (by omega)
    refine ⟨.inr (cPk c8 s), dFl x 1 s, ?_, Or.inr ⟨dFl x 1 s, ?_, ?_⟩, Or.inr (Or.inl ⟨cPk c8 s, x, rfl, (cPk_s c8 s).1, hc10, fwC_t F8 (fwC_f (frc_F hck)) (Nat.le_refl z), D8, g4, rfl⟩)⟩
    · show m_X8_readSteps_L3 rc N 15 1 (nI th) (nI l) (nI k) c8 = _
      unfold m_X8_readSteps_L3
      rw [if_neg kk, gc_1 (show gck 1 = 7 from rfl), gb2_x em, if_neg q, if_pos rfl]
    · unfold m_X10_readsStep_L182
      rw [if_pos g5, g4, gb_x (bt_d (j := s) td (by omega)), if_neg (show ¬ pBt s b s = 93 by unfold pBt; rw [if_neg q]; decide), gb_x ers, gb_x eb]
    · unfold m_X10_readsStep_L182
      rw [if_neg hf]
  have e28 := peek_c hc10 (cPk_s c8 s).1 hs.2 hN
  rw [pScan_e hx] at e28
  have hck2 := frc_t hck (cPk_f (cPk c8 s) s)
  have eC : m_X8_readSteps_L3 rc N 15 1 (nI th) (nI l) (nI k) c8 = (if pBt n b s = 93 then some (.inr (.inl (1, cPk (cPk c8 s) s))) else rdB rc N (nI th) (nI l) (nI k) (cPk (cPk c8 s) s)) := by
    unfold m_X8_readSteps_L3
    simp only [gj_e]
    rw [if_neg kk, gc_1 (show gck 1 = 7 from rfl), gb2_x em, if_pos q, if_neg (show ¬ (1 : Int32) = 0 by decide), if_neg (show ¬ nI l ≤ 0 by rw [n_l0, n_le (by omega) (by decide)]; omega), gb2_x e28, rdB_e]
  by_cases q93 : pBt n b s = 93
  · right
    refine ⟨.inl (1, cPk (cPk c8 s) s), x, ?_, Or.inl ?_, Or.inl ⟨_, s, rfl, q, q93, hx, ⟨gTc_f tc (frc_F hck2), td, (cPk_s _ s).1, g4, hs.2, g5⟩, z8, hzz, by omega, by rw [hck2.1 15 (by omega)]; exact g15, g26, gWs_l hW c8 x _ x _ _ gW ⟨fun j _ _ => by rw [hck2.1 16 (by omega)], fun _ _ _ => rfl⟩, L8, fwC_t F8 (fwC_f (frc_F hck2)) (Nat.le_refl z), D8, by rw [hck2.2.2 7 (by omega) (by omega) (by omega)]; exact K8⟩⟩
    · show m_X8_readSteps_L3 rc N 15 1 (nI th) (nI l) (nI k) c8 = _
      rw [eC, if_pos q93]
    · unfold m_X10_readsStep_L182
      rw [if_pos g5, g4, gb_x (bt_d (j := s) td (by omega)), if_pos q93]
  have eD : ∀ d2, m_X10_readsStep_b rd N 55 x = some d2 → m_X10_readsStep_L182 (m_X10_readsStep_b rd) N 55 x = gb (m_X10_blanks N 55 d2) (fun (c64 : gm) => some (.inl c64)) := by
    intro d2 e
    unfold m_X10_readsStep_L182
    rw [if_pos g5, g4, gb_x (bt_d (j := s) td (by omega)), if_neg q93, gb_x e]
  rcases st_go (c := c) (d := d) hW H hl hb (gTc_f tc (frc_F hck2)) (cPk_s _ s).1 hck2 hs.1 hzm hza hzz g15 g26 gW h150 L8 h59 hth F8 D8 K8 hN with ⟨c2, d2, a2, e1, e2, ha2, I2, z2, hz2, hz2m, c215, d226, W2, L2, F2, D2, K2⟩ | ⟨c2, d2, e1, e2, F2, D2, g2⟩
  · left
    obtain ⟨tc2, td2, c23, d24, ha2n, d25⟩ := id I2
    have fa := dAt_f d2 (pScan (pBl b) n a2)
    refine ⟨(nI (k + 1), c2), dAt d2 (pScan (pBl b) n a2), n - a2, ?_, by rw [eD d2 e2, gb_x (blanks_d td2 d24 ha2n hN)], by omega, k + 1, c2, a2, z2, by omega, by omega, rfl, ha2n, tc2, gTd_f td2 (frm_F fa), c23, dAt_4 _ _, by rw [fa.2.2 5 (by omega)]; exact d25, hz2, hz2m, c215, by rw [fa.2.2 26 (by omega)]; exact d226, gWs_l hW c2 d2 c2 _ _ _ W2 ⟨fun _ _ _ => rfl, fun j _ _ => fa.1 _ (by omega)⟩, by rw [fa.2.2 8 (by omega)]; exact L2, F2, fwD_t D2 (fwD_f (frm_F fa)) (Nat.le_refl z), K2⟩
    show m_X8_readSteps_L3 rc N 15 1 (nI th) (nI l) (nI k) c8 = _
    rw [eC, if_neg q93]
    unfold rdB
    rw [gb2_x e1, if_neg (by decide), gv_e, n_s]
  · right
    obtain ⟨a3, ha3, e4⟩ := gFl_t g2
    have h6 := gFl_5 g2
    have td2 : gTd n b d2 := ⟨hd.1, by rw [D2.2.2 2 (by omega)]; exact hd.2.1, fun j hj => by rw [D2.1 56 (by omega) (by omega)]; exact hd.2.2 j hj⟩
    have fa := dAt_f d2 (pScan (pBl b) n a3)
    refine ⟨.inl (0, c2), dAt d2 (pScan (pBl b) n a3), ?_, Or.inr ⟨dAt d2 (pScan (pBl b) n a3), by rw [eD d2 e2, gb_x (blanks_d td2 e4 ha3 hN)], ?_⟩, Or.inr (Or.inr ⟨c2, rfl, F2, fwD_t D2 (fwD_f (frm_F fa)) (Nat.le_refl z), ?_⟩)⟩
    · show m_X8_readSteps_L3 rc N 15 1 (nI th) (nI l) (nI k) c8 = _
      rw [eC, if_neg q93]
      unfold rdB
      rw [gb2_x e1, if_pos rfl]
    · unfold m_X10_readsStep_L182
      rw [fa.2.2 5 (by omega), if_neg h6]
    · obtain ⟨k, q, a9, k1, k3, hq, ha9, c6, c7, d5, d6, d4⟩ := g2
      exact ⟨k, q, _, k1, k3, hq, (pScan_le (p := pBl b) ha3).2, c6, c7, by rw [fa.2.2 5 (by omega)]; exact d5, by rw [fa.2.2 6 (by omega)]; exact d6, dAt_4 _ _⟩
