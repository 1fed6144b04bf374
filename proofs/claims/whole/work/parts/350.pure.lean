set_option maxRecDepth 16384
/-! the work -/
theorem work_ok {th m p w z N : Nat} {c1 d1 c2 d2 : gm} (h : gRl th m p c1 (gm_r d1 55 (upd (d1.1 55) 3 (-1)))) (hw : w < 16) (w1 : c1.1 17 3 = nI w) (w2 : d1.1 55 33 = nI w) (hz : z < 38) (c215 : c2.1 15 1 = nI z) (d226 : d2.1 55 26 = nI z) (hW : gWn th 7 c2 d2 0 z) (F2 : fwC 0 c1 c2) (D2 : fwD 0 d1 d2) (K2 : c2.1 1 7 = -1) (h0 : d1.1 55 0 = 0) (hN : 160 < N) : ∃ r c8 y8 m2, gb (m_X5_keep 17 3 c2) (fun (c26 : gm) => gb (m_X8_doAll N 15 3 (c26.2.2 0) c26) (fun (c29 : gm) => gv (gm_r c29 0 (upd (c29.1 0) 12 (c29.1 15 4))) (fun (c30 : gm) => some ((c30.1 15 3), c30)))) = some (r, c8) ∧ gv (gm_r d2 55 (upd (d2.1 55) 3 (-1))) (fun (c21 : gm) => gc (0 ≤ (c21.1 55 33).toInt ∧ (c21.1 55 33).toInt < 16) (gb (m_X10_copies N 503 (506 + 1 + (c21.1 55 33).toNatClampNeg) c21) (fun (c31 : gm) => gv (gm_r c31 55 (upd (c31.1 55) 33 ((c31.1 55 33) + 1))) (fun (c32 : gm) => gv (gm_r c32 55 (upd (c32.1 55) 37 0)) (fun (c33 : gm) => gv (gm_r c33 55 (upd (c33.1 55) 38 0)) (fun (c34 : gm) => gv (gm_r c34 55 (upd (c34.1 55) 34 0)) (fun (c35 : gm) => gb (m_X10_goes 12 N 55 0 (c35.1 55 26) c35) (fun (c38 : gm) => some ((c38.1 55 38), c38))))))))) = some (r, y8) ∧ gRl th m2 p c8 y8 ∧ y8.1 55 0 = 0 := by
  obtain ⟨hP, hp, ⟨hS, hRw, hM, hL⟩, hTo, hTp, hCn, hBk, hPs, hIm⟩ := id h
  have hq := gPt_q hP
  have h8 := hS.2.1
  have e22 : c2.2.2 = c1.2.2 := by rw [F2.2.1]
  have dv : ∀ i, i ≠ 55 → (gm_r d1 55 (upd (d1.1 55) 3 (-1))).1 i = d1.1 i := fun i hi => gr_n _ _ hi
  have dvs : ∀ k, k ≠ 3 → (gm_r d1 55 (upd (d1.1 55) 3 (-1))).1 55 k = d1.1 55 k := fun k hk => by rw [gr_s, up_n _ _ hk]
  have w1' : c2.1 17 3 = nI w := by rw [F2.1 17 (by omega) (by omega) (by omega)]; exact w1
  obtain ⟨c3, e3, fr3, g0, g5, g6, g8, g56, g57, g58, g59⟩ := write_c (a1 := 18) (A := w * 60) (c := c2) (by omega) rfl (by show w * 60 + 60 ≤ 960; omega) (by decide)
  obtain ⟨c4, ec4⟩ : ∃ q, q = gm_r c3 17 (upd (c3.1 17) 3 (nI (w + 1))) := ⟨_, rfl⟩
  obtain ⟨c5, ec5⟩ : ∃ q, q = gm_r c4 15 (upd (upd (upd (c4.1 15) 2 0) 3 0) 4 0) := ⟨_, rfl⟩
  have c4o : ∀ i, i ≠ 17 → i ≠ 18 → c4.1 i = c2.1 i := fun i i1 i2 => by rw [ec4, gr_n _ _ i1, fr3.1 i i2]
  have c5o : ∀ i, i ≠ 1 → i ≠ 15 → i ≠ 16 → i ≠ 17 → i ≠ 18 → c5.1 i = c1.1 i := fun i i1 i2 i3 i4 i5 => by rw [ec5, gr_n _ _ i2, c4o i i4 i5, F2.1 i i1 i2 i3]
  have c51 : c5.1 1 = c2.1 1 := by rw [ec5, gr_n _ _ (by omega), c4o 1 (by omega) (by omega)]
  have c422 : c4.2.2 = c1.2.2 := by rw [ec4]; show c3.2.2 = _; rw [fr3.2, e22]
  have c522 : c5.2.2 = c1.2.2 := by rw [ec5]; exact c422
  have c515 : c5.1 15 1 = nI z := by rw [ec5, gr_s, up_n _ _ (by omega), up_n _ _ (by omega), up_n _ _ (by omega), c4o 15 (by omega) (by omega)]; exact c215
  obtain ⟨kb1, kb2⟩ := gk_bef w hw
  obtain ⟨d3, ed3⟩ : ∃ q, q = gm_r d2 55 (upd (d2.1 55) 3 (-1)) := ⟨_, rfl⟩
  have d333 : d3.1 55 33 = nI w := by rw [ed3, gr_s, up_n _ _ (by omega), D2.2.2 33 (by omega)]; exact w2
  have e4 := copies_d (a := 503) (b := 506 + 1 + w) (n := N) (d := d3) rfl kb1 rfl kb2 (by omega) hN
  obtain ⟨d4, ed4⟩ : ∃ q, q = gm_r d3 (506 + 1 + w) (fun j => if j < 60 then d3.1 503 j else d3.1 (506 + 1 + w) j) := ⟨_, rfl⟩
  rw [← ed4] at e4
  have d455 : d4.1 55 = d3.1 55 := by rw [ed4, gr_n _ _ (by omega)]
  obtain ⟨d5, ed5⟩ : ∃ q, q = gm_r d4 55 (upd (upd (upd (upd (d4.1 55) 33 (nI (w + 1))) 37 0) 38 0) 34 0) := ⟨_, rfl⟩
  have d5o : ∀ i, i ≠ 55 → i ≠ 506 + 1 + w → (i < 423 ∨ 502 < i) → d5.1 i = d1.1 i := fun i i1 i2 i3 => by rw [ed5, gr_n _ _ i1, ed4, gr_n _ _ i2, ed3, gr_n _ _ i1, D2.1 i i1 (by omega)]
  have d555 : d5.1 55 = upd (upd (upd (upd (upd (d2.1 55) 3 (-1)) 33 (nI (w + 1))) 37 0) 38 0) 34 0 := by rw [ed5, gr_s, d455, ed3, gr_s]
  have d5s : ∀ k, k < 3 ∨ k = 7 ∨ (9 ≤ k ∧ k ≠ 26 ∧ k ≠ 33 ∧ k ≠ 34 ∧ k ≠ 37 ∧ k ≠ 38) → d5.1 55 k = d1.1 55 k := fun k hk => by rw [d555, up_n _ _ (by omega), up_n _ _ (by omega), up_n _ _ (by omega), up_n _ _ (by omega), up_n _ _ (by omega), D2.2.2 k (by omega)]
  have d526 : d5.1 55 26 = nI z := by rw [d555, up_n _ _ (by omega), up_n _ _ (by omega), up_n _ _ (by omega), up_n _ _ (by omega), up_n _ _ (by omega)]; exact d226
  have d503 : d5.1 503 = d1.1 503 := d5o 503 (by omega) (by omega) (by omega)
  have hi : gIx 3 503 (c1.2.2 0) := gPt_i hP
  rw [dv 503 (by omega)] at hS hRw
  have hR5 : gR2 3 503 (c1.2.2 0) th m (nI p) c5 d5 := by
    refine ⟨?_, ?_, ?_, gLw_fr hL (c5o _ (by omega) (by omega) (by omega) (by omega) (by omega)) (c5o _ (by omega) (by omega) (by omega) (by omega) (by omega)) (c5o _ (by omega) (by omega) (by omega) (by omega) (by omega)) (by rw [d5s 17 (by omega), dvs 17 (by omega)]) (fun k hk => by rw [d5o _ (by omega) (by omega) (by omega), dv _ (by omega)])⟩
    · rw [d503]; exact gSt_fr hS (c5o _ (by omega) (by omega) (by omega) (by omega) (by omega)) (c5o _ (by omega) (by omega) (by omega) (by omega) (by omega)) (c5o _ (by omega) (by omega) (by omega) (by omega) (by omega)) (c5o _ (by omega) (by omega) (by omega) (by omega) (by omega))
    · rw [d503]; exact hRw
    · unfold gMd at hM ⊢
      rw [d5o 59 (by omega) (by omega) (by omega), ← dv 59 (by omega)]
      exact hM
  have hD5 : gD0 th (c1.2.2 0) (nI p) c5 d5 := ⟨⟨m, hR5⟩, ⟨0, by omega, by rw [ec5, gr_s, up_n _ _ (by omega), up_n _ _ (by omega), up_s]; rfl, by rw [d555, up_n _ _ (by omega), up_n _ _ (by omega), up_s]; rfl⟩, by rw [ec5, gr_s, up_n _ _ (by omega), up_s, d555, up_n _ _ (by omega), up_s], by rw [ec5, gr_s, up_s, d555, up_s]⟩
  have hW5 : gWn th 7 c5 d5 0 z := gWn_l 7 c2 d2 c5 d5 0 z hW ⟨fun j _ _ => by rw [ec5, gr_n _ _ (by omega), c4o 16 (by omega) (by omega)], fun j _ j2 => by rw [ed5, gr_n _ _ (by omega), ed4, gr_n _ _ (by omega), ed3, gr_n _ _ (by omega)]⟩
  obtain ⟨c6, d6, t1, t2, ⟨⟨m2, hR6⟩, ⟨B, hB, b1, b2⟩, b3, b4⟩, f6⟩ := goes_two (pl := nI p) hi hN 6 0 rfl 12 (by omega) 0 z c5 d5 hz hD5 hW5
  obtain ⟨c8, ec8⟩ : ∃ q, q = gm_r c6 0 (upd (c6.1 0) 12 (c6.1 15 4)) := ⟨_, rfl⟩
  have c8o : ∀ i, i ≠ 0 → c8.1 i = c6.1 i := fun i hi => by rw [ec8, gr_n _ _ hi]
  unfold gDf CF DF at f6
  obtain ⟨fc6, fc62, -, fd6, fd62, fs6⟩ := f6
  have c6o : ∀ i, i ≠ 1 → i ≠ 15 → i ≠ 16 → i ≠ 17 → i ≠ 18 → i ≠ 3 → i ≠ 5 → i ≠ 6 → i ≠ 7 → i ≠ 8 → i ≠ c1.2.2 0 + 3 → i ≠ c1.2.2 0 + 4 → c6.1 i = c1.1 i := fun i i1 i2 i3 i4 i5 i6 i7 i8 i9 i10 i11 i12 => by rw [fc6 i (by omega) (by omega), c5o i i1 i2 i3 i4 i5]
  have d6o : ∀ i, i ≠ 55 → i ≠ 506 + 1 + w → (i < 423 ∨ 502 < i) → i ≠ 503 → i ≠ 505 → i ≠ 420 → i ≠ 421 → d6.1 i = d1.1 i := fun i i1 i2 i3 i4 i5 i6 i7 => by rw [fd6 i (by omega) i1, d5o i i1 i2 i3]
  have d6s : ∀ k, k < 3 ∨ k = 7 ∨ (9 ≤ k ∧ k ≠ 26 ∧ k ≠ 33 ∧ k ≠ 34 ∧ k ≠ 37 ∧ k ≠ 38) → d6.1 55 k = d1.1 55 k := fun k hk => by rw [fs6 k (by omega) (by omega) (by omega), d5s k hk]
  refine ⟨c6.1 15 3, c8, d6, m2, ?_, ?_, ?_, by rw [d6s 0 (by omega)]; exact h0⟩
  · have ek : m_X5_keep 17 3 c2 = some c4 := by
      unfold m_X5_keep
      rw [gc_1 (show gck 17 = 5 from rfl), w1', if_neg (by rw [n_l0, n_lt (by omega) (by decide)]; omega), if_neg (by rw [n_l16, n_le (by decide) (by omega)]; omega), gc_1 (show gck 3 = 6 from rfl), n_l60, n_mu, gb_x e3, gv_e, fr3.1 17 (by omega), w1', n_s, ec4, fr3.1 17 (by omega)]
    have ed : m_X8_doAll N 15 3 (c1.2.2 0) c4 = some c6 := by
      unfold m_X8_doAll
      have ee : gm_r (gm_r (gm_r c4 15 (upd (c4.1 15) 2 0)) 15 (upd ((gm_r c4 15 (upd (c4.1 15) 2 0)).1 15) 3 0)) 15 (upd ((gm_r (gm_r c4 15 (upd (c4.1 15) 2 0)) 15 (upd ((gm_r c4 15 (upd (c4.1 15) 2 0)).1 15) 3 0)).1 15) 4 0) = c5 := by
        rw [ec5]
        simp only [gr_s, gr_r]
      rw [gc_1 (show gck 15 = 8 from rfl), gv_e, gv_e, gv_e, ee, c515, show m_X8_doSteps 12 N 15 3 (c1.2.2 0) 0 (nI z) 0 c5 = some c6 from t1, gb_e]
    rw [gb_x ek, c422, gb_x ed, gv_e, ← ec8, c8o 15 (by omega)]
  · have ee : gm_r (gm_r (gm_r (gm_r d4 55 (upd (d4.1 55) 33 (nI (w + 1)))) 55 (upd ((gm_r d4 55 (upd (d4.1 55) 33 (nI (w + 1)))).1 55) 37 0)) 55 (upd ((gm_r (gm_r d4 55 (upd (d4.1 55) 33 (nI (w + 1)))) 55 (upd ((gm_r d4 55 (upd (d4.1 55) 33 (nI (w + 1)))).1 55) 37 0)).1 55) 38 0)) 55 (upd ((gm_r (gm_r (gm_r d4 55 (upd (d4.1 55) 33 (nI (w + 1)))) 55 (upd ((gm_r d4 55 (upd (d4.1 55) 33 (nI (w + 1)))).1 55) 37 0)) 55 (upd ((gm_r (gm_r d4 55 (upd (d4.1 55) 33 (nI (w + 1)))) 55 (upd ((gm_r d4 55 (upd (d4.1 55) 33 (nI (w + 1)))).1 55) 37 0)).1 55) 38 0)).1 55) 34 0) = d5 := by
      rw [ed5]
      simp only [gr_s, gr_r]
    rw [gv_e, ← ed3, d333, gc_1 (n_rg (by omega) (by omega)), n_cl (by omega), gb_x e4, gv_e, gv_e, gv_e, gv_e, d455, d333, n_s, ← d455, ee, d526, show m_X10_goes 12 N 55 0 (nI z) d5 = some d6 from t2, gb_e, b3]
  have hc15 : ∀ i, i = 2 ∨ i = 4 ∨ i = 24 ∨ i = c1.2.2 0 ∨ i = c1.2.2 0 + 1 ∨ i = c1.2.2 0 + 2 ∨ i = c1.2.2 2 ∨ i = c1.2.2 2 + 1 ∨ i = c1.2.2 2 + 2 ∨ i = c1.2.2 2 + 3 → c8.1 i = c1.1 i := fun i hi => by rw [c8o i (by omega), c6o i (by omega) (by omega) (by omega) (by omega) (by omega) (by omega) (by omega) (by omega) (by omega) (by omega) (by omega) (by omega)]
  have c81 : c8.1 1 = c2.1 1 := by rw [c8o 1 (by omega), fc6 1 (by omega) (by omega), c51]
  have c817 : c8.1 17 = upd (c1.1 17) 3 (nI (w + 1)) := by rw [c8o 17 (by omega), fc6 17 (by omega) (by omega), ec5, gr_n _ _ (by omega), ec4, gr_s, fr3.1 17 (by omega), F2.1 17 (by omega) (by omega) (by omega)]
  have c818 : c8.1 18 = c3.1 18 := by rw [c8o 18 (by omega), fc6 18 (by omega) (by omega), ec5, gr_n _ _ (by omega), ec4, gr_n _ _ (by omega)]
  have d6w : d6.1 55 33 = nI (w + 1) := by rw [fs6 33 (by omega) (by omega) (by omega), d555, up_n _ _ (by omega), up_n _ _ (by omega), up_n _ _ (by omega), up_s]
  have d63 : d6.1 55 3 = -1 := by rw [fs6 3 (by omega) (by omega) (by omega), d555, up_n _ _ (by omega), up_n _ _ (by omega), up_n _ _ (by omega), up_n _ _ (by omega), up_s]
  have hS2' : gSt 3 c2 th m (nI p) (d1.1 503) := gSt_fr hS (F2.1 _ (by omega) (by omega) (by omega)) (F2.1 _ (by omega) (by omega) (by omega)) (F2.1 _ (by omega) (by omega) (by omega)) (F2.1 _ (by omega) (by omega) (by omega))
  have hK := write_s hS2' hRw g5 g6 g8 g56 g57 g58 g59
  refine gRl_mk h ?_ (fun i hi => hc15 i (by omega)) (by rw [c81, F2.2.2.1 1 (by omega)]) (by rw [hc15 _ (by omega)]) (fun k hk => by rw [d6s k (by omega), dvs k (by omega)]) (fun i hi => by rw [d6o i (by omega) (by omega) (by omega) (by omega) (by omega) (by omega) (by omega), dv i (by omega)]) (gSt_fr hR6.1 (c8o _ (by omega)) (c8o _ (by omega)) (c8o _ (by omega)) (c8o _ (by omega))) hR6.2.1 ⟨by rw [c81, K2, d63], ?_, ?_, ?_⟩ ⟨w + 1, by omega, by rw [c817, up_s], d6w, fun k hk => ?_⟩ ?_
  · rw [ec8]
    show c6.2.2 = c1.2.2
    rw [fc62, c522]
  · rw [ec8, gr_s, up_s]; exact b4
  · rw [ec8, gr_s, up_n _ _ (by omega), c6o 0 (by omega) (by omega) (by omega) (by omega) (by omega) (by omega) (by omega) (by omega) (by omega) (by omega) (by omega) (by omega), d6o 57 (by omega) (by omega) (by omega) (by omega) (by omega) (by omega) (by omega), ← dv 57 (by omega)]; exact hCn.2.2.1
  · rw [ec8, gr_s, up_n _ _ (by omega), c6o 0 (by omega) (by omega) (by omega) (by omega) (by omega) (by omega) (by omega) (by omega) (by omega) (by omega) (by omega) (by omega), d6o 57 (by omega) (by omega) (by omega) (by omega) (by omega) (by omega) (by omega), ← dv 57 (by omega)]; exact hCn.2.2.2
  · rw [c818]
    by_cases e : k = w
    · subst e
      refine gKp_x hK h8 (fun j hj => ?_) (fun j hj => ?_)
      · show c3.1 18 (60 * k + j) = c3.1 18 (k * 60 + j)
        exact congrArg (c3.1 18) (by omega)
      · rw [fd6 (507 + k) (by omega) (by omega), ed5, gr_n _ _ (by omega), ed4, show 507 + k = 506 + 1 + k by omega, gr_s, if_pos hj, ed3, gr_n _ _ (by omega), D2.1 503 (by omega) (by omega)]
    · obtain ⟨w', hw', x1, x2, x3⟩ := hPs
      have ww : w' = w := by
        have : nI w' = nI w := by rw [← x1, w1]
        rw [n_eq (by omega) (by omega)] at this
        exact this
      subst ww
      have K := x3 k (by omega)
      rw [dv _ (by omega)] at K
      refine gKp_x K h8 (fun j hj => ?_) (fun j hj => ?_)
      · show c3.1 18 (60 * k + j) = c1.1 18 (60 * k + j)
        rw [g0 _ (by omega), F2.1 18 (by omega) (by omega) (by omega)]
      · rw [d6o (507 + k) (by omega) (by omega) (by omega) (by omega) (by omega) (by omega) (by omega)]
  · exact gIm_x hIm (by rw [c817, up_n _ _ (by omega)]) (by rw [c8o 19 (by omega), c6o 19 (by omega) (by omega) (by omega) (by omega) (by omega) (by omega) (by omega) (by omega) (by omega) (by omega) (by omega) (by omega)]) (by rw [c8o 20 (by omega), c6o 20 (by omega) (by omega) (by omega) (by omega) (by omega) (by omega) (by omega) (by omega) (by omega) (by omega) (by omega) (by omega)]) (by rw [d6s 35 (by omega), dvs 35 (by omega)]) (fun k hk => by rw [d6o _ (by omega) (by omega) (by omega) (by omega) (by omega) (by omega) (by omega), dv _ (by omega)])
theorem work_two {th m p n : Nat} {c d : gm} (h : gRl th m p c d) (hn : 700 < n) (a : Int32) : gAns 1 0 (m_X9_work n 0 a c) (m_X10_work n 55 a d) := by
  have hZ := gRl_dZ h
  have z0 := dZ_0 d
  obtain ⟨hP, hp, ⟨hS, hRw, hM, hL⟩, hTo, hTp, hCn, hBk, hPs, hIm⟩ := id hZ
  obtain ⟨hk, h8, h5, h6, h7, h9, h10, h11, hw, hf, hcp⟩ := id hS
  obtain ⟨m0, m3, -⟩ := id hM
  obtain ⟨T, b, hT6, eT1, eT2, hb⟩ := gTp_b hTp
  obtain ⟨w, hw16, w1, w2, -⟩ := id hPs
  have hq := gPt_q hP
  by_cases q : 0 ≤ a ∧ a ≤ nI T
  · obtain ⟨k, hkT, rfl⟩ := i_ex (by omega) q
    by_cases q6 : k ≤ 150
    rotate_left
    · refine ans_i (v := 0) (d := d) hZ (by decide) ?_ ?_
      · unfold m_X9_work; simp only [gj_e]
        rw [if_neg (i_nlt q.1), gc_1 (show gck 0 = 9 from rfl), eT1, if_neg (i_nlt q.2), if_pos (show (150 : Int32) < nI k by rw [n_l150, n_lt (by decide) (by omega)]; omega), gc_1 (show gck 0 = 9 from rfl), gbx_x2 (dm_0 c)]
      · unfold m_X10_work; simp only [gj_e]
        rw [gc_1 (show gck 55 = 10 from rfl), gv_e, show gm_r d 55 (upd (d.1 55) 0 0) = dZ d from rfl, eT2, gb_x (in_1 q), if_neg (by decide), if_neg (show ¬ nI k ≤ 150 by rw [n_l150, n_le (by omega) (by decide)]; omega), gb2_x (bd_i z0 (by decide)), if_neg (by decide)]
    obtain ⟨c1, d1, eo, es, ⟨tc, td, o3, o4, o5, o7, o8⟩, f1, f2, g1, g7, f3, f4, h1, hs⟩ := opened (k := k) (N := n) hkT hT6 hb hn
    have c117 : c1.1 17 3 = nI w := by rw [f1 17 (by omega)]; exact w1
    have X0 : m_X9_work n 0 (nI k) c = gok (if nI w < 16 then gb2 (m_X8_readFrom n 15 1 (nI th) c1) (fun (r21 : Int32) (c22 : gm) => (if r21 = 0 then some (((c22.1 1 6) - 10), c22) else gb (m_X5_keep 17 3 c22) (fun (c26 : gm) => gb (m_X8_doAll n 15 3 (c26.2.2 0) c26) (fun (c29 : gm) => gv (gm_r c29 0 (upd (c29.1 0) 12 (c29.1 15 4))) (fun (c30 : gm) => some ((c30.1 15 3), c30)))))) else some ((-20), c1)) := by
      unfold m_X9_work; simp only [gj_e]
      rw [if_neg (i_nlt q.1), gc_1 (show gck 0 = 9 from rfl), eT1, if_neg (i_nlt q.2), if_neg (show ¬ (150 : Int32) < nI k by rw [n_l150, n_lt (by decide) (by omega)]; omega), gc_1 (show gck 0 = 9 from rfl), gbx_x1 (dm_1 c), gb_x eo, c117, show c1.1 3 5 = nI th by rw [f1 3 (by omega)]; exact h5]
    have Y0 : m_X10_work n 55 (nI k) d = (if nI w = 16 then some ((-20), gm_r (gm_r (dZ d) 55 (upd ((dZ d).1 55) 1 0)) 55 (upd ((gm_r (dZ d) 55 (upd ((dZ d).1 55) 1 0)).1 55) 3 (-1))) else gb (gloop (fun (c18 : gm) => m_X10_work_L72 n 55 c18) n (gm_r d1 55 (upd (d1.1 55) 26 0))) (fun (c19 : gm) => (if (c19.1 55 5) = 0 then gv (gm_r c19 55 (upd (c19.1 55) 3 (-1))) (fun (c21 : gm) => gc (0 ≤ (c21.1 55 33).toInt ∧ (c21.1 55 33).toInt < 16) (gb (m_X10_copies n 503 (506 + 1 + (c21.1 55 33).toNatClampNeg) c21) (fun (c31 : gm) => gv (gm_r c31 55 (upd (c31.1 55) 33 ((c31.1 55 33) + 1))) (fun (c32 : gm) => gv (gm_r c32 55 (upd (c32.1 55) 37 0)) (fun (c33 : gm) => gv (gm_r c33 55 (upd (c33.1 55) 38 0)) (fun (c34 : gm) => gv (gm_r c34 55 (upd (c34.1 55) 34 0)) (fun (c35 : gm) => gb (m_X10_goes 12 n 55 0 (c35.1 55 26) c35) (fun (c38 : gm) => some ((c38.1 55 38), c38))))))))) else gb2 (m_X10_ends 55 c19) (fun (r40 : Int32) (c41 : gm) => some (r40, c41))))) := by
      unfold m_X10_work; simp only [gj_e]
      rw [gc_1 (show gck 55 = 10 from rfl), gv_e, show gm_r d 55 (upd (d.1 55) 0 0) = dZ d from rfl, eT2, gb_x (in_1 q), if_neg (by decide), if_pos (show nI k ≤ 150 by rw [n_l150, n_le (by omega) (by decide)]; omega), gb2_x (bd_0 z0), if_pos rfl, w2, gb_x es]
      rfl
    have hV : gRl th m p c1 (gm_r d1 55 (upd (d1.1 55) 3 (-1))) := gRl_tp hZ (by rw [f2]) (fun i hi => f1 i (by omega)) g1 (fun z hz => by rw [gr_s, up_n _ _ (by omega), hs z (by omega)]) (by rw [gr_s, up_n _ _ (by omega)]; exact h1) (fun i hi => by rw [gr_n _ _ (by omega), f3 i (by omega)]) (by rw [gr_s, up_s]; exact g7)
    by_cases qw : w = 16
    · subst qw
      refine ans_o (r := -20) (th := th) (m := m) (p := p) (c2 := c1) ?_ ?_ (by rw [X0, if_neg (by decide), gok_e]) (by rw [Y0, if_pos (show nI 16 = 16 from rfl)])
      · exact gRl_tp hZ (by rw [f2]) (fun i hi => f1 i (by omega)) g1 (fun z hz => by rw [gr_s, gr_s, up_n _ _ (by omega), up_n _ _ (by omega)]) (by rw [gr_s, gr_s, up_n _ _ (by omega), up_s]; rfl) (fun i hi => by rw [gr_n _ _ (by omega), gr_n _ _ (by omega)]) (by rw [gr_s, up_s]; exact g7)
      · rw [gr_s, gr_s, up_n _ _ (by omega), up_n _ _ (by omega)]; exact z0
    have hw' : w < 16 := by omega
    rw [if_pos (show nI w < 16 by rw [n_l16, n_lt (by omega) (by decide)]; exact hw')] at X0
    rw [if_neg (show ¬ nI w = 16 by rw [n_l16, n_eq (by omega) (by decide)]; exact qw)] at Y0
    have d10 : d1.1 55 0 = 0 := by rw [hs 0 (by omega)]; exact z0
    rcases work_rd (th := th) tc td q6 o3 o4 o5 o8 (by rw [f3 59 (by omega)]; exact m0) h8 hn with ⟨c2, d2, z, hz, er, ey, y5, c215, d226, hW, F2, D2, K2⟩ | ⟨c2, d2, er, ey, F2, D2, kk, qq, aa, k1, k3, hqq, haa, c36, c37, y5, y6, y4⟩
    · obtain ⟨r, c8, y8, m2, t1, t2, hG, hG0⟩ := work_ok (N := n) hV hw' c117 (by rw [hs 33 (by omega)]; exact w2) hz c215 d226 hW F2 D2 (by rw [K2]; exact g7) d10 (by omega)
      exact ans_o (r := r) hG hG0 (by rw [X0, gb2_x er, if_neg (by decide), t1, gok_e]) (by rw [Y0, gb_x ey, if_pos y5, t2])
    · have y5' : ¬ d2.1 55 5 = 0 := by rw [y5, n_l0, n_eq (by omega) (by decide)]; omega
      refine ans_o (r := nI kk - 10) (th := th) (m := m) (p := p) (c2 := c2) (d2 := gm_r d2 55 (upd (d2.1 55) 3 (d2.1 55 6))) (gRl_tp hZ (by rw [F2.2.1, f2]) (fun i hi => by rw [F2.1 i (by omega) (by omega) (by omega), f1 i (by omega)]) (by rw [F2.2.2.1 1 (by omega)]; exact g1) (fun z hz => by rw [gr_s, up_n _ _ (by omega), D2.2.2 z (by omega), hs z (by omega)]) (by rw [gr_s, up_n _ _ (by omega), D2.2.2 1 (by omega)]; exact h1) (fun i hi => by rw [gr_n _ _ (by omega), D2.1 i (by omega) (by omega), f3 i (by omega)]) (by rw [gr_s, up_s, c37, y6])) ?_ ?_ ?_
      · rw [gr_s, up_n _ _ (by omega), D2.2.2 0 (by omega)]; exact d10
      · rw [X0, gb2_x er, if_pos rfl, c36, gok_e]
      · rw [Y0, gb_x ey, if_neg y5', gb2_x (ends_d y5)]
  · refine ans_i (v := 0) (d := d) hZ (by decide) ?_ ?_
    · unfold m_X9_work; simp only [gj_e]
      rcases i_or q with u | ⟨u, v⟩
      · rw [if_pos u, gc_1 (show gck 0 = 9 from rfl), gbx_x2 (dm_0 c)]
      · rw [if_neg u, gc_1 (show gck 0 = 9 from rfl), eT1, if_pos v, gc_1 (show gck 0 = 9 from rfl), gbx_x2 (dm_0 c)]
    · unfold m_X10_work; simp only [gj_e]
      rw [gc_1 (show gck 55 = 10 from rfl), gv_e, show gm_r d 55 (upd (d.1 55) 0 0) = dZ d from rfl, eT2, gb_x (in_0 q), if_pos rfl, gb2_x (bd_i z0 (by decide)), if_neg (by decide)]
