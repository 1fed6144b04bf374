set_option maxRecDepth 16384
/-! the law -/
theorem cPk_a (c : gm) (s : Nat) : cPk (cAt c s) s = cPk c s := by unfold cPk cAt; rw [gr_s, gr_r, up_up]
theorem unit_at {n N t a : Nat} {b : Nat → Nat} {rc : Nat → Nat → Nat → Int32 → gm → Option (Int32 × gm)} {x : Int32} {c : gm} (hc : gTc n b c) (h3 : c.1 1 3 = nI a) (han : a ≤ n) (hN : 700 < N) : m_X3_readUnit rc N t 1 x (cAt c (pScan (pBl b) n a)) = m_X3_readUnit rc N t 1 x c := by
  have hs := pScan_le (p := pBl b) han
  have hx := pScan_x (p := pBl b) han
  have e1 := peek_c hc h3 han hN
  have e2 := peek_c (gTc_f hc (frc_F (cAt_f c (pScan (pBl b) n a)))) (cAt_3 c _) hs.2 hN
  rw [pScan_e hx, cPk_a] at e2
  unfold m_X3_readUnit
  rw [gc_1 (show gck 1 = 7 from rfl), gc_1 (show gck 1 = 7 from rfl), gb2_x e1, gb2_x e2]
theorem sum_at {n N t a dd : Nat} {b : Nat → Nat} {x : Int32} {c : gm} (hc : gTc n b c) (h3 : c.1 1 3 = nI a) (han : a ≤ n) (hN : 700 < N) : m_X3_readSum (dd + 1) N t 1 x (cAt c (pScan (pBl b) n a)) = m_X3_readSum (dd + 1) N t 1 x c := by
  show m_X3_readSum_b (m_X3_readSum dd) N t 1 x _ = m_X3_readSum_b (m_X3_readSum dd) N t 1 x c
  unfold m_X3_readSum_b m_X3_readProduct
  rw [unit_at hc h3 han hN]
/-- what reading the whole text of a law comes to -/
theorem law_rd {n N t : Nat} {b : Nat → Nat} {c d : gm} (hc : gTc n b c) (hd : gTd n b d) (h150 : n ≤ 150) (h3 : c.1 1 3 = nI 0) (h4 : d.1 55 4 = nI (pScan (pBl b) n 0)) (h5 : d.1 55 5 = 0) (h8 : d.1 55 8 = nI 0) (ht : t = 33 ∨ t = 38) (hN : 700 < N) : (∃ c2 d2 z2, m_X3_readFrom N t 1 c = some (1, c2) ∧ gb (m_X10_sum 12 N 55 (gm_r d 55 (upd (d.1 55) 18 0))) (fun (c18 : gm) => m_X10_blanks N 55 c18) = some d2 ∧ d2.1 55 2 ≤ d2.1 55 4 ∧ d2.1 55 5 = 0 ∧ gCd t z2 1 c2 d2 ∧ flC t c c2 ∧ flD d d2 ∧ c2.1 1 7 = c.1 1 7) ∨ (∃ c2 d2 s, m_X3_readFrom N t 1 c = some (0, c2) ∧ gb (m_X10_sum 12 N 55 (gm_r d 55 (upd (d.1 55) 18 0))) (fun (c18 : gm) => m_X10_blanks N 55 c18) = some d2 ∧ d2.1 55 5 = 0 ∧ ¬ d2.1 55 2 ≤ d2.1 55 4 ∧ d2.1 55 4 = nI s ∧ s ≤ n ∧ c2.1 1 6 = nI 1 ∧ c2.1 1 7 = nI s ∧ flC t c c2 ∧ flD d d2) ∨ (∃ c2 d2, m_X3_readFrom N t 1 c = some (0, c2) ∧ gb (m_X10_sum 12 N 55 (gm_r d 55 (upd (d.1 55) 18 0))) (fun (c18 : gm) => m_X10_blanks N 55 c18) = some d2 ∧ flC t c c2 ∧ flD d d2 ∧ gFl n c2 d2) := by
  have hn := hc.1
  have kt : gck t = 3 := by rcases ht with rfl | rfl <;> rfl
  obtain ⟨c3, ec3⟩ : ∃ q, q = gm_r c t (upd (c.1 t) 4 0) := ⟨_, rfl⟩
  obtain ⟨d3, ed3⟩ : ∃ q, q = gm_r d 55 (upd (d.1 55) 18 0) := ⟨_, rfl⟩
  have F3 : flC t c c3 := by rw [ec3]; exact ⟨fun i _ i2 _ _ => gr_n _ _ i2, rfl, fun k _ => by rw [gr_n _ _ (by omega)]⟩
  have D3 : flD d d3 := by rw [ed3]; exact ⟨fun i i1 _ => gr_n _ _ i1, rfl, fun k hk => by rw [gr_s, up_n _ _ (by omega)]⟩
  have hc3 : gTc n b c3 := ⟨hc.1, by rw [F3.2.2 2 (by omega)]; exact hc.2.1, fun j hj => by rw [F3.1 2 (by omega) (by omega) (by omega) (by omega)]; exact hc.2.2 j hj⟩
  have hd3 : gTd n b d3 := ⟨hd.1, by rw [ed3, gr_s, up_n _ _ (by omega)]; exact hd.2.1, fun j hj => by rw [ed3, gr_n _ _ (by omega)]; exact hd.2.2 j hj⟩
  have c31 : c3.1 1 = c.1 1 := by rw [ec3, gr_n _ _ (by omega)]
  have c33 : c3.1 1 3 = nI 0 := by rw [c31]; exact h3
  have hs := pScan_le (p := pBl b) (Nat.zero_le n)
  have ea := sum_at (t := t) (dd := 11) (x := 0) hc3 c33 (Nat.zero_le n) hN
  have fa := cAt_f c3 (pScan (pBl b) n 0)
  have I4 : gIn n b (cAt c3 (pScan (pBl b) n 0)) d3 (pScan (pBl b) n 0) := ⟨gTc_f hc3 (frc_F fa), hd3, cAt_3 _ _, by rw [ed3, gr_s, up_n _ _ (by omega)]; exact h4, hs.2, by rw [ed3, gr_s, up_n _ _ (by omega)]; exact h5⟩
  have C4 : gCd t 0 0 (cAt c3 (pScan (pBl b) n 0)) d3 := ⟨kt, by omega, by rw [fa.1 t (by omega), ec3, gr_s, up_s]; rfl, by rw [ed3, gr_s, up_s]; rfl, fun k hk => by omega, fun _ => 0, rfl, rfl, fun k hk => by omega⟩
  have F4 : flC t c (cAt c3 (pScan (pBl b) n 0)) := flC_t F3 (flC_f (frc_F fa))
  have K4 : (cAt c3 (pScan (pBl b) n 0)).1 1 7 = c.1 1 7 := by rw [fa.2.2 7 (by omega) (by omega) (by omega), c31]
  have X0 : m_X3_readFrom N t 1 c = gb2 (m_X3_readSum 12 N t 1 0 (cAt c3 (pScan (pBl b) n 0))) (fun (r5 : Int32) (c6 : gm) => (if r5 = 0 then some (0, c6) else gc (gck 1 = 7) (gb2 (m_X7_hasMore N 1 c6) (fun (r11 : Int32) (c12 : gm) => (if r11 = 0 then some (1, c12) else gb2 (m_X7_fail 1 1 (c12.1 1 4) c12) (fun (r15 : Int32) (c16 : gm) => (if r15 = 0 then some (0, c16) else some (1, c16)))))))) := by
    unfold m_X3_readFrom
    rw [gc_1 kt, gv_e, ← ec3, ← ea]
  rw [X0, ← ed3]
  generalize cAt c3 (pScan (pBl b) n 0) = c4 at *
  have R : gLo n b t 0 0 0 (pScan (pBl b) n 0) c4 d3 (m_X3_readSum 12 N t 1 0 c4) (m_X10_sum 12 N 55 d3) := sum_two ht hN 11 0 (by omega) (by omega) 0 0 _ c4 d3 (by omega) ⟨I4, C4, by omega, h150, by rw [ed3, gr_s, up_n _ _ (by omega)]; exact h8⟩
  rcases R with ⟨c2, d2, a2, z2, e1, e2, I2, ha2, hz2, C2, L2, F2, D2, K2⟩ | ⟨c2, d2, e1, e2, F2, D2, g2⟩
  rotate_left
  · right; right
    obtain ⟨a3, ha3, e4⟩ := gFl_t g2
    have hd2 : gTd n b d2 := ⟨hd.1, by rw [D2.2.2 2 (by omega)]; exact hd3.2.1, fun j hj => by rw [D2.1 56 (by omega) (by omega)]; exact hd3.2.2 j hj⟩
    have fb := dAt_f d2 (pScan (pBl b) n a3)
    refine ⟨c2, dAt d2 (pScan (pBl b) n a3), by rw [gb2_x e1, if_pos rfl], by rw [gb_x e2, blanks_d hd2 e4 ha3 hN], flC_t F4 F2, flD_t D3 (flD_t D2 (flD_f (frm_F fb))), ?_⟩
    obtain ⟨k, q, a9, k1, k3, hq, ha9, c6, c7, d5, d6, d4⟩ := g2
    exact ⟨k, q, _, k1, k3, hq, (pScan_le (p := pBl b) ha3).2, c6, c7, by rw [fb.2.2 5 (by omega)]; exact d5, by rw [fb.2.2 6 (by omega)]; exact d6, dAt_4 _ _⟩
  obtain ⟨tc2, td2, g3, g4, ha2n, g5⟩ := id I2
  have em := more_c tc2 g3 ha2n hN
  have eb := blanks_d td2 g4 ha2n hN
  have hs2 := pScan_le (p := pBl b) ha2n
  generalize pScan (pBl b) n a2 = s at *
  have f1 := cPk_f c2 s
  have f2 := dAt_f d2 s
  have u2 : (dAt d2 s).1 55 2 = nI n := by rw [f2.2.2 2 (by omega)]; exact td2.2.1
  by_cases q : s < n
  · right; left
    refine ⟨cFl (cPk c2 s) 1 s, dAt d2 s, s, ?_, by rw [gb_x e2, eb], by rw [f2.2.2 5 (by omega)]; exact g5, by rw [u2, dAt_4, n_le (by omega) (by omega)]; omega, dAt_4 _ _, hs2.2, ?_, ?_, ?_, flD_t D3 (flD_t D2 (flD_f (frm_F f2)))⟩
    · rw [gb2_x e1, if_neg (by decide), gc_1 (show gck 1 = 7 from rfl), gb2_x em, if_pos q, if_neg (by decide), (cPk_s c2 s).2, show m_X7_fail 1 1 (nI s) (cPk c2 s) = some (0, cFl (cPk c2 s) 1 s) from fail_c _ 1 s, gb2_e, if_pos rfl]
    · unfold cFl; rw [gr_s, up_n _ _ (by omega), up_s]
    · unfold cFl; rw [gr_s, up_s]
    · exact flC_t F4 (flC_t F2 (flC_t (flC_f (frc_F f1)) (flC_f ⟨fun i hi => gr_n _ _ hi, rfl, fun k hk => by unfold cFl; rw [gr_s, up_n _ _ (by omega), up_n _ _ (by omega)]⟩)))
  · left
    refine ⟨cPk c2 s, dAt d2 s, z2, ?_, by rw [gb_x e2, eb], by rw [u2, dAt_4, n_le (by omega) (by omega)]; omega, by rw [f2.2.2 5 (by omega)]; exact g5, gCd_o ht C2 (frc_F f1) (frm_F f2), flC_t F4 (flC_t F2 (flC_f (frc_F f1))), flD_t D3 (flD_t D2 (flD_f (frm_F f2))), by rw [f1.2.2 7 (by omega) (by omega) (by omega), K2, K4]⟩
    rw [gb2_x e1, if_neg (by decide), gc_1 (show gck 1 = 7 from rfl), gb2_x em, if_neg q, if_pos rfl]
theorem gk_rl2 : gck 245 = 25 ∧ gck 84 = 25 ∧ gal 245 = 160 ∧ gal 84 = 160 := by decide
theorem law_ok {th m p z N : Nat} {c d c3 y : gm} (h : gRl th m p c d) (hN : 300 < N) (f2 : c3.2 = c.2) (f1 : ∀ i, i ≠ 1 → i ≠ c.2.2 1 → i ≠ c.2.2 1 + 1 → i ≠ c.2.2 1 + 2 → c3.1 i = c.1 i) (g1 : c3.1 1 1 = nI 0) (g7 : c3.1 1 7 = -1) (f3 : ∀ i, i ≠ 55 → (i < 246 ∨ 405 < i) → y.1 i = d.1 i) (h1 : y.1 55 1 = nI 0) (hs : y.1 55 0 = 0) (hss : ∀ s, 9 ≤ s → s ≠ 18 → y.1 55 s = d.1 55 s) (hC : gCd (c.2.2 1) z 1 c3 y) : ∃ c8 y2, gv (gm_k c3 1 (c3.2.2 0)) (fun (c19 : gm) => gv (gm_k c19 0 (c3.2.2 1)) (fun (c20 : gm) => some ((1 : Int32), c20))) = some (1, c8) ∧ gv (gm_r y 55 (upd (y.1 55) 3 (-1))) (fun (c25 : gm) => gv (gm_r c25 55 (upd (c25.1 55) 17 (c25.1 55 18))) (fun (c26 : gm) => gb (m_X10_lays N 245 84 (c26.1 55 17) c26) (fun (c35 : gm) => some ((1 : Int32), c35)))) = some (1, y2) ∧ gRl th m p c8 y2 ∧ y2.1 55 0 = 0 := by
  obtain ⟨hP, hp, hR2, hTo, hTp, hCn, hBk, hPs, hIm⟩ := id h
  have hq := gPt_q hP
  have hq3 := gPt_3 hP
  obtain ⟨kt, z150, c34, y18, hrow, D, D0, Dz, DD⟩ := id hC
  have e22 : c3.2.2 = c.2.2 := by rw [f2]
  have z1 : 1 ≤ z := by
    rcases Nat.eq_zero_or_pos z with q | q
    · rw [q, D0] at Dz; omega
    · exact q
  obtain ⟨y1, ey1⟩ : ∃ q, q = gm_r y 55 (upd (upd (y.1 55) 3 (-1)) 17 (nI z)) := ⟨_, rfl⟩
  obtain ⟨y2, ey2, fy2, hy2⟩ := lays_d (a1 := 245) (a2 := 84) (w := 2) (L := 160) (m := z) (N := N) (d := y1) gk_rl2.1 gk_rl2.2.1 gk_rl2.2.2.1 gk_rl2.2.2.2 (fun k hk => gk_rla k hk) (fun k hk => gk_law k hk) (by omega) (by omega) (by omega) (by omega) hN
  have y255 : y2.1 55 = upd (upd (y.1 55) 3 (-1)) 17 (nI z) := by rw [fy2.1 55 (by omega), ey1, gr_s]
  obtain ⟨c8, ec8⟩ : ∃ q, q = gm_k (gm_k c3 1 (c.2.2 0)) 0 (c.2.2 1) := ⟨_, rfl⟩
  have c81 : c8.1 = c3.1 := by rw [ec8]; rfl
  have c80 : c8.2.2 0 = c.2.2 1 := by rw [ec8, gk_s]
  have c811 : c8.2.2 1 = c.2.2 0 := by rw [ec8, gk_n _ _ (by omega), gk_s]
  have c82 : c8.2.2 2 = c.2.2 2 := by rw [ec8, gk_n _ _ (by omega), gk_n _ _ (by omega), e22]
  have c83 : c8.2.2 3 = c.2.2 3 := by rw [ec8, gk_n _ _ (by omega), gk_n _ _ (by omega), e22]
  refine ⟨c8, y2, ?_, ?_, ?_, by rw [y255, up_n _ _ (by omega), up_n _ _ (by omega)]; exact hs⟩
  · rw [gv_e, gv_e, e22, ← ec8]
  · have ee : gm_r (gm_r y 55 (upd (y.1 55) 3 (-1))) 55 (upd ((gm_r y 55 (upd (y.1 55) 3 (-1))).1 55) 17 ((gm_r y 55 (upd (y.1 55) 3 (-1))).1 55 18)) = y1 := by rw [gr_s, gr_r, up_n _ _ (show 18 ≠ 3 by omega), y18, ← ey1]
    rw [gv_e, gv_e, ee, show y1.1 55 17 = nI z by rw [ey1, gr_s, up_s], gb_x ey2]
  refine gRl_nw h ?_ ?_ ?_ (fun i hi => by rw [c81]; exact f1 i (by omega) (by omega) (by omega) (by omega)) (by rw [c81]; exact g1) (fun k hk => by rw [y255, up_n _ _ (by omega), up_n _ _ (by omega), hss k (by omega) (by omega)]) (by rw [y255, up_n _ _ (by omega), up_n _ _ (by omega)]; exact h1) (fun i hi => by rw [fy2.1 i (by omega), ey1, gr_n _ _ (by omega), f3 i (by omega) (by omega)]) (by rw [c81, g7, y255, up_n _ _ (by omega), up_s])
  · unfold gPt
    rw [c80, c811, c82, c83]
    exact ⟨hP.1.elim (fun q => Or.inr ⟨q.2, q.1⟩) (fun q => Or.inl ⟨q.2, q.1⟩), hP.2⟩
  · rw [c80]
    refine ⟨kt, z, c3.1 (c.2.2 1 + 1), c3.1 (c.2.2 1 + 2), D, ⟨z150, D0, by omega, DD⟩, by rw [c81]; exact c34, fun k hk => by rw [c81]; exact ⟨rfl, rfl⟩, Or.inr ⟨z1, by rw [y255, up_s], fun k hk => ?_⟩⟩
    rw [← (hrow k hk).1, ← (hrow k hk).2]
    have a0 := hy2 k hk 0 (by omega)
    have a1 := hy2 k hk 1 (by omega)
    rw [show 84 + 1 + k = 85 + k by omega, show 245 + 1 + k = 246 + k by omega, ey1, gr_n _ _ (by omega)] at a0 a1
    exact ⟨a0, a1⟩
  · rw [c82]
    obtain ⟨z, hz, b1, b2, b3⟩ := hBk
    refine ⟨z, hz, by rw [c81, f1 _ (by omega) (by omega) (by omega) (by omega)]; exact b1, by rw [y255, up_n _ _ (by omega), up_n _ _ (by omega), hss 32 (by omega) (by omega)]; exact b2, fun k hk => ?_⟩
    rw [c81, f1 (c.2.2 2 + 1) (by omega) (by omega) (by omega) (by omega), f1 (c.2.2 2 + 2) (by omega) (by omega) (by omega) (by omega), f1 (c.2.2 2 + 3) (by omega) (by omega) (by omega) (by omega), fy2.1 (407 + k) (by omega), ey1, gr_n _ _ (by omega), f3 (407 + k) (by omega) (by omega)]
    exact b3 k hk
theorem law_two {th m p n : Nat} {c d : gm} (h : gRl th m p c d) (hn : 700 < n) (a : Int32) : gAns 1 0 (m_X9_law n 0 a c) (m_X10_law n 55 a d) := by
  have hZ := gRl_dZ h
  have z0 := dZ_0 d
  obtain ⟨hP, hp, ⟨hS, hRw, hM, hL⟩, hTo, hTp, hCn, hBk, hPs, hIm⟩ := id hZ
  obtain ⟨T, b, hT6, eT1, eT2, hb⟩ := gTp_b hTp
  have hq := gPt_q hP
  have hq3 := gPt_3 hP
  have kb : gck (c.2.2 1) = 3 := by rcases hq3.2 with q | q <;> rw [q] <;> rfl
  by_cases q : 0 ≤ a ∧ a ≤ nI T
  · obtain ⟨k, hkT, rfl⟩ := i_ex (by omega) q
    by_cases q6 : k ≤ 150
    rotate_left
    · refine ans_i (v := 0) (d := d) hZ (by decide) ?_ ?_
      · unfold m_X9_law; simp only [gj_e]
        rw [if_neg (i_nlt q.1), gc_1 (show gck 0 = 9 from rfl), eT1, if_neg (i_nlt q.2), if_pos (show (150 : Int32) < nI k by rw [n_l150, n_lt (by decide) (by omega)]; omega), gc_1 (show gck 0 = 9 from rfl), gbx_x2 (dm_0 c)]
      · unfold m_X10_law; simp only [gj_e]
        rw [gc_1 (show gck 55 = 10 from rfl), gv_e, show gm_r d 55 (upd (d.1 55) 0 0) = dZ d from rfl, eT2, gb_x (in_1 q), if_neg (by decide), if_neg (show ¬ nI k ≤ 150 by rw [n_l150, n_le (by omega) (by decide)]; omega), gb2_x (bd_i z0 (by decide)), if_neg (by decide)]
    obtain ⟨c1, d1, eo, es, ⟨tc, td, o3, o4, o5, o7, o8⟩, f1, f2, g1, g7, f3, f4, h1, hs⟩ := opened (k := k) (N := n) hkT hT6 hb hn
    have e122 : c1.2.2 = c.2.2 := by rw [f2]
    obtain ⟨sr, esr⟩ : ∃ q, q = c.2.2 1 := ⟨_, rfl⟩
    rw [← esr] at kb hq3
    have X0 : ∀ r c3, m_X3_readFrom n sr 1 c1 = some (r, c3) → m_X9_law n 0 (nI k) c = gok (if r = 0 then some (((c3.1 1 6) - 10), c3) else gv (gm_k c3 1 (c3.2.2 0)) (fun (c19 : gm) => gv (gm_k c19 0 (c3.2.2 1)) (fun (c20 : gm) => some ((1 : Int32), c20)))) := by
      intro r c3 er2
      unfold m_X9_law; simp only [gj_e]
      rw [if_neg (i_nlt q.1), gc_1 (show gck 0 = 9 from rfl), eT1, if_neg (i_nlt q.2), if_neg (show ¬ (150 : Int32) < nI k by rw [n_l150, n_lt (by decide) (by omega)]; omega), gc_1 (show gck 0 = 9 from rfl), gbx_x1 (dm_1 c), gb_x eo, e122, ← esr, gc_1 kb, gb2_x er2]
    have Y0 : ∀ y, gb (m_X10_sum 12 n 55 (gm_r d1 55 (upd (d1.1 55) 18 0))) (fun (c18 : gm) => m_X10_blanks n 55 c18) = some y → m_X10_law n 55 (nI k) d = (if (y.1 55 5) = 0 then (if (y.1 55 2) ≤ (y.1 55 4) then (if (y.1 55 5) = 0 then gv (gm_r y 55 (upd (y.1 55) 3 (-1))) (fun (c25 : gm) => gv (gm_r c25 55 (upd (c25.1 55) 17 (c25.1 55 18))) (fun (c26 : gm) => gb (m_X10_lays n 245 84 (c26.1 55 17) c26) (fun (c35 : gm) => some (1, c35)))) else gb2 (m_X10_ends 55 y) (fun (r37 : Int32) (c38 : gm) => some (r37, c38))) else gb (m_X10_wrong 55 1 (y.1 55 4) y) (fun (c43 : gm) => (if (c43.1 55 5) = 0 then gv (gm_r c43 55 (upd (c43.1 55) 3 (-1))) (fun (c25 : gm) => gv (gm_r c25 55 (upd (c25.1 55) 17 (c25.1 55 18))) (fun (c26 : gm) => gb (m_X10_lays n 245 84 (c26.1 55 17) c26) (fun (c35 : gm) => some (1, c35)))) else gb2 (m_X10_ends 55 c43) (fun (r37 : Int32) (c38 : gm) => some (r37, c38))))) else (if (y.1 55 5) = 0 then gv (gm_r y 55 (upd (y.1 55) 3 (-1))) (fun (c25 : gm) => gv (gm_r c25 55 (upd (c25.1 55) 17 (c25.1 55 18))) (fun (c26 : gm) => gb (m_X10_lays n 245 84 (c26.1 55 17) c26) (fun (c35 : gm) => some (1, c35)))) else gb2 (m_X10_ends 55 y) (fun (r37 : Int32) (c38 : gm) => some (r37, c38)))) := by
      intro y ey
      unfold m_X10_law; simp only [gj_e]
      rw [gc_1 (show gck 55 = 10 from rfl), gv_e, show gm_r d 55 (upd (d.1 55) 0 0) = dZ d from rfl, eT2, gb_x (in_1 q), if_neg (by decide), if_pos (show nI k ≤ 150 by rw [n_l150, n_le (by omega) (by decide)]; omega), gb2_x (bd_0 z0), if_pos rfl, gb_x es, gv_e]
      cases e18 : m_X10_sum 12 n 55 (gm_r d1 55 (upd (d1.1 55) 18 0)) with
      | none => rw [e18] at ey; exact absurd ey (by intro w; cases w)
      | some c18 =>
        rw [e18, gb_e] at ey
        rw [gb_e, gb_x ey]
    have c2f : ∀ c3, flC sr c1 c3 → (∀ i, i ≠ 1 → i ≠ sr → i ≠ sr + 1 → i ≠ sr + 2 → c3.1 i = c.1 i) ∧ c3.2 = c.2 ∧ c3.1 1 1 = nI 0 := fun c3 fc => ⟨fun i i1 i2 i3 i4 => by rw [fc.1 i i1 i2 i3 i4, f1 i i1], by rw [fc.2.1]; exact f2, by rw [fc.2.2 1 (by omega)]; exact g1⟩
    have hne : ∀ i, i = c.2.2 0 ∨ i = c.2.2 0 + 1 ∨ i = c.2.2 0 + 2 → i ≠ sr ∧ i ≠ sr + 1 ∧ i ≠ sr + 2 := fun i hi => by rcases hP.1 with q | q <;> rw [q.1] at hi <;> rw [esr, q.2] <;> omega
    have bad : ∀ (c3 y : gm) (kk : Nat), flC sr c1 c3 → flD d1 y → c3.1 1 7 = y.1 55 6 → gRl th m p c3 (gm_r y 55 (upd (y.1 55) 3 (y.1 55 6))) ∧ (gm_r y 55 (upd (y.1 55) 3 (y.1 55 6))).1 55 0 = 0 ∧ kk = kk := by
      intro c3 y kk fc fd e7
      obtain ⟨p1, p2, p3⟩ := c2f c3 fc
      refine ⟨gRl_tp hZ (by rw [p2]) (fun i hi => ?_) p3 (fun z hz => by rw [gr_s, up_n _ _ (by omega), fd.2.2 z (by omega), hs z (by omega)]) (by rw [gr_s, up_n _ _ (by omega), fd.2.2 1 (by omega)]; exact h1) (fun i hi => by rw [gr_n _ _ (by omega), fd.1 i (by omega) (by omega), f3 i (by omega)]) (by rw [gr_s, up_s, e7]), ?_, rfl⟩
      · have hh : i ≠ sr ∧ i ≠ sr + 1 ∧ i ≠ sr + 2 := by
          by_cases qq : i = c.2.2 0 ∨ i = c.2.2 0 + 1 ∨ i = c.2.2 0 + 2
          · exact hne i qq
          · omega
        exact p1 i (by omega) hh.1 hh.2.1 hh.2.2
      · rw [gr_s, up_n _ _ (by omega), fd.2.2 0 (by omega), hs 0 (by omega)]; exact z0
    rcases law_rd (t := sr) tc td q6 o3 o4 o5 o8 hq3.2 hn with ⟨c3, y, z, er, ey, yle, y5, hC, fc, fd, k7⟩ | ⟨c3, y, s, er, ey, y5, yle, y4, hsn, c36, c37, fc, fd⟩ | ⟨c3, y, er, ey, fc, fd, kk, qq, aa, k1, k3, hqq, haa, c36, c37, y5, y6, y4⟩
    · obtain ⟨p1, p2, p3⟩ := c2f c3 fc
      rw [esr] at p1 hC
      obtain ⟨c8, y2, w1, w2, hG, hG0⟩ := law_ok (N := n) hZ (by omega) p2 p1 p3 (by rw [k7]; exact g7) (fun i i1 i2 => by rw [fd.1 i i1 i2, f3 i i1]) (by rw [fd.2.2 1 (by omega)]; exact h1) (by rw [fd.2.2 0 (by omega), hs 0 (by omega)]; exact z0) (fun s hs9 h18 => by rw [fd.2.2 s (by omega), hs s (by omega)]) hC
      exact ans_o (r := 1) hG hG0 (by rw [X0 1 c3 er, if_neg (by decide), w1, gok_e]) (by rw [Y0 y ey, if_pos y5, if_pos yle, if_pos y5, w2])
    · have hw : m_X10_wrong 55 1 (nI s) y = some (dFl y 1 s) := wrong_d y5 1 s
      have hf : ¬ (dFl y 1 s).1 55 5 = 0 := dFl_5 (by omega) (by omega)
      have fdl : flD y (dFl y 1 s) := ⟨fun i i1 _ => gr_n _ _ i1, rfl, fun k hk => by unfold dFl; rw [gr_s, up_n _ _ (by omega), up_n _ _ (by omega)]⟩
      have e5 : (dFl y 1 s).1 55 5 = nI 1 := by unfold dFl; rw [gr_s, up_n _ _ (by omega), up_s]
      have e6 : (dFl y 1 s).1 55 6 = nI s := by unfold dFl; rw [gr_s, up_s]
      obtain ⟨b1, b2, -⟩ := bad c3 (dFl y 1 s) 0 fc (flD_t fd fdl) (by rw [c37, e6])
      exact ans_o (r := nI 1 - 10) b1 b2 (by rw [X0 0 c3 er, if_pos rfl, c36, gok_e]) (by rw [Y0 y ey, if_pos y5, if_neg yle, y4, gb_x hw, if_neg hf, gb2_x (ends_d e5)])
    · have y5' : ¬ y.1 55 5 = 0 := by rw [y5, n_l0, n_eq (by omega) (by decide)]; omega
      obtain ⟨b1, b2, -⟩ := bad c3 y 0 fc fd (by rw [c37, y6])
      exact ans_o (r := nI kk - 10) b1 b2 (by rw [X0 0 c3 er, if_pos rfl, c36, gok_e]) (by rw [Y0 y ey, if_neg y5', if_neg y5', gb2_x (ends_d y5)])
  · refine ans_i (v := 0) (d := d) hZ (by decide) ?_ ?_
    · unfold m_X9_law; simp only [gj_e]
      rcases i_or q with u | ⟨u, v⟩
      · rw [if_pos u, gc_1 (show gck 0 = 9 from rfl), gbx_x2 (dm_0 c)]
      · rw [if_neg u, gc_1 (show gck 0 = 9 from rfl), eT1, if_pos v, gc_1 (show gck 0 = 9 from rfl), gbx_x2 (dm_0 c)]
    · unfold m_X10_law; simp only [gj_e]
      rw [gc_1 (show gck 55 = 10 from rfl), gv_e, show gm_r d 55 (upd (d.1 55) 0 0) = dZ d from rfl, eT2, gb_x (in_0 q), if_pos rfl, gb2_x (bd_i z0 (by decide)), if_neg (by decide)]
