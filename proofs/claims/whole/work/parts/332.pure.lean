set_option maxRecDepth 16384
/-! the market begins anew -/
theorem gk_ry : ∀ k, k < 10 → gck (73 + 1 + k) = 22 ∧ gal (73 + 1 + k) = 4 := by decide +kernel
theorem anew_1 {N : Nat} {d : gm} (hN : 160 < N) : ∃ d2, gloop (gu2 (fun (y2 : Int32) (c3 : gm) => m_X10_beginsAnew_L2 55 y2 c3)) N (0, d) = some d2 ∧ fr (fun i => i = 59) d d2 ∧ ∀ j, j < 4 → d2.1 59 j = d.1 58 j := by
  refine gloop_inv (fun q (a : Int32 × gm) => ∃ k c6, k ≤ 4 ∧ q + k = 4 ∧ a = (nI k, c6) ∧ fr (fun i => i = 59) d c6 ∧ ∀ j, j < k → c6.1 59 j = d.1 58 j) _ (r := 4) ?_ ⟨0, d, by omega, by omega, rfl, fr_r _ _, fun j hj => by omega⟩ (by omega)
  rintro q a ⟨k, c6, hk, hq, rfl, fc, hw⟩
  by_cases hk2 : k = 4
  · right
    subst hk2
    refine ⟨c6, ?_, fc, hw⟩
    show m_X10_beginsAnew_L2 55 (nI 4) c6 = _
    unfold m_X10_beginsAnew_L2
    rw [if_pos (by decide)]
  · left
    refine ⟨(nI (k + 1), gm_r c6 59 (upd (c6.1 59) k (c6.1 58 k))), q - 1, ?_, by omega, k + 1, _, by omega, by omega, rfl, fr_ut fc rfl, fun j hj => ?_⟩
    · show m_X10_beginsAnew_L2 55 (nI k) c6 = _
      unfold m_X10_beginsAnew_L2
      rw [if_neg (by rw [n_l4, n_le (by decide) (by omega)]; omega), gc_1 (show gck 55 = 10 from rfl), gc_1 (n_rg (by omega) (by omega)), gc_1 (n_rg (by omega) (by omega)), gv_e, gv_e, n_s, n_cl (by omega)]
    · rw [gr_s]
      by_cases e : j = k
      · rw [e, up_s, fc.1 58 (by omega)]
      · rw [up_n _ _ e]; exact hw j (by omega)
theorem anew_2 {N : Nat} {d : gm} (hN : 160 < N) : ∃ d2, gloop (gu2 (fun (y6 : Int32) (c7 : gm) => m_X10_beginsAnew_L27 55 y6 c7)) N (0, d) = some d2 ∧ fr (fun i => i = 503) d d2 ∧ ∀ j, j < 60 → d2.1 503 j = 0 := by
  refine gloop_inv (fun q (a : Int32 × gm) => ∃ k c6, k ≤ 60 ∧ q + k = 60 ∧ a = (nI k, c6) ∧ fr (fun i => i = 503) d c6 ∧ ∀ j, j < k → c6.1 503 j = 0) _ (r := 60) ?_ ⟨0, d, by omega, by omega, rfl, fr_r _ _, fun j hj => by omega⟩ (by omega)
  rintro q a ⟨k, c6, hk, hq, rfl, fc, hw⟩
  by_cases hk2 : k = 60
  · right
    subst hk2
    refine ⟨c6, ?_, fc, hw⟩
    show m_X10_beginsAnew_L27 55 (nI 60) c6 = _
    unfold m_X10_beginsAnew_L27
    rw [if_pos (by decide)]
  · left
    refine ⟨(nI (k + 1), gm_r c6 503 (upd (c6.1 503) k 0)), q - 1, ?_, by omega, k + 1, _, by omega, by omega, rfl, fr_ut fc rfl, fun j hj => ?_⟩
    · show m_X10_beginsAnew_L27 55 (nI k) c6 = _
      unfold m_X10_beginsAnew_L27
      rw [if_neg (by rw [n_l60, n_le (by decide) (by omega)]; omega), gc_1 (show gck 55 = 10 from rfl), gc_1 (n_rg (by omega) (by omega)), gv_e, gv_e, n_s, n_cl (by omega)]
    · rw [gr_s]
      by_cases e : j = k
      · rw [e, up_s]
      · rw [up_n _ _ e]; exact hw j (by omega)
theorem anew_3 {N th : Nat} {d : gm} (h0 : d.1 59 0 = nI th) (h8 : th ≤ 8) (hz : ∀ j, j < 60 → d.1 503 j = 0) (hN : 160 < N) : ∃ d2, gloop (gu2 (fun (y10 : Int32) (c11 : gm) => m_X10_beginsAnew_L48 55 y10 c11)) N (0, d) = some d2 ∧ fr (fun i => i = 61 ∨ i = 503) d d2 ∧ (∀ j, j < th → d2.1 61 j = d.1 60 j ∧ d2.1 503 j = d.1 60 j) ∧ ∀ j, th ≤ j → j < 60 → d2.1 503 j = 0 := by
  refine gloop_inv (fun q (a : Int32 × gm) => ∃ k c6, k ≤ th ∧ q + k = th ∧ a = (nI k, c6) ∧ fr (fun i => i = 61 ∨ i = 503) d c6 ∧ (∀ j, j < k → c6.1 61 j = d.1 60 j ∧ c6.1 503 j = d.1 60 j) ∧ ∀ j, k ≤ j → j < 60 → c6.1 503 j = 0) _ (r := th) ?_ ⟨0, d, by omega, by omega, rfl, fr_r _ _, fun j hj => by omega, fun j _ hj => hz j hj⟩ (by omega)
  rintro q a ⟨k, c6, hk, hq, rfl, fc, hw, hz2⟩
  have g0 : c6.1 59 0 = nI th := by rw [fc.1 59 (by omega)]; exact h0
  by_cases hk2 : k = th
  · right
    subst hk2
    refine ⟨c6, ?_, fc, hw, hz2⟩
    show m_X10_beginsAnew_L48 55 (nI k) c6 = _
    unfold m_X10_beginsAnew_L48
    rw [gc_1 (show gck 55 = 10 from rfl), n_cl0, g0, if_pos (by rw [n_le (by omega) (by omega)]; omega)]
  · left
    refine ⟨(nI (k + 1), gm_r (gm_r c6 61 (upd (c6.1 61) k (c6.1 60 k))) 503 (upd (c6.1 503) k (c6.1 60 k))), q - 1, ?_, by omega, k + 1, _, by omega, by omega, rfl, fr_ut (fr_ut fc (Or.inl rfl)) (Or.inr rfl), fun j hj => ?_, fun j hj hj2 => ?_⟩
    · show m_X10_beginsAnew_L48 55 (nI k) c6 = _
      unfold m_X10_beginsAnew_L48
      rw [gc_1 (show gck 55 = 10 from rfl), n_cl0, g0, if_neg (by rw [n_le (by omega) (by omega)]; omega), gc_1 (n_rg (by omega) (by omega)), gc_1 (n_rg (by omega) (by omega)), gv_e, gc_1 (n_rg (by omega) (by omega)), n_z, gc_1 (n_rg (by omega) (by omega)), gv_e, gv_e, n_s, n_cl (by omega), gr_s, up_s, gr_n _ _ (show 503 ≠ 61 by omega)]
    · rw [gr_n _ _ (show 61 ≠ 503 by omega), gr_s, gr_s]
      by_cases e : j = k
      · rw [e, up_s, up_s, fc.1 60 (by omega)]; exact ⟨rfl, rfl⟩
      · rw [up_n _ _ e, up_n _ _ e]; exact hw j (by omega)
    · rw [gr_s, up_n _ _ (by omega)]; exact hz2 j (by omega) hj2
/-- rows of rows are laid: a1 and a2 the rows' rows, w their width -/
theorem lays_d {a1 a2 w L m N : Nat} {d : gm} (k1 : gck a1 = 25) (k2 : gck a2 = 25) (l1 : gal a1 = L) (l2 : gal a2 = L) (hr1 : ∀ k, k < L → gck (a1 + 1 + k) = 22 ∧ gal (a1 + 1 + k) = w) (hr2 : ∀ k, k < L → gck (a2 + 1 + k) = 22 ∧ gal (a2 + 1 + k) = w) (hne : a1 + L < a2 ∨ a2 + L < a1) (hw : w ≤ 10) (hL : L ≤ 200) (hm : m ≤ L) (hN : 300 < N) : ∃ d2, m_X10_lays N a1 a2 (nI m) d = some d2 ∧ fr (fun i => a2 + 1 ≤ i ∧ i < a2 + 1 + m) d d2 ∧ ∀ k, k < m → ∀ j, j < w → d2.1 (a2 + 1 + k) j = d.1 (a1 + 1 + k) j := by
  have inner : ∀ k e, k < m → ∃ e2, gloop (gu2 (fun (y7 : Int32) (c8 : gm) => m_X10_lays_L10 a1 a2 (nI k) y7 c8)) N (0, e) = some e2 ∧ fr (fun i => i = a2 + 1 + k) e e2 ∧ ∀ j, j < w → e2.1 (a2 + 1 + k) j = e.1 (a1 + 1 + k) j := by
    intro k e hk
    obtain ⟨r1, r2⟩ := hr1 k (by omega)
    obtain ⟨r3, r4⟩ := hr2 k (by omega)
    refine gloop_inv (fun q (a : Int32 × gm) => ∃ z c6, z ≤ w ∧ q + z = w ∧ a = (nI z, c6) ∧ fr (fun i => i = a2 + 1 + k) e c6 ∧ ∀ j, j < z → c6.1 (a2 + 1 + k) j = e.1 (a1 + 1 + k) j) _ (r := w) ?_ ⟨0, e, by omega, by omega, rfl, fr_r _ _, fun j hj => by omega⟩ (by omega)
    rintro q a ⟨z, c6, hz, hq, rfl, fc, hh⟩
    by_cases hz2 : z = w
    · right
      subst hz2
      refine ⟨c6, ?_, fc, hh⟩
      show m_X10_lays_L10 a1 a2 (nI k) (nI z) c6 = _
      unfold m_X10_lays_L10
      rw [gc_1 k2, l2, gc_1 (n_rg (by omega) (by omega)), n_cl (by omega), gc_1 r3, r4, if_pos (by rw [n_le (by omega) (by omega)]; omega)]
    · left
      refine ⟨(nI (z + 1), gm_r c6 (a2 + 1 + k) (upd (c6.1 (a2 + 1 + k)) z (c6.1 (a1 + 1 + k) z))), q - 1, ?_, by omega, z + 1, _, by omega, by omega, rfl, fr_ut fc rfl, fun j hj => ?_⟩
      · show m_X10_lays_L10 a1 a2 (nI k) (nI z) c6 = _
        unfold m_X10_lays_L10
        rw [gc_1 k2, l2, gc_1 (n_rg (by omega) (by omega)), n_cl (by omega), gc_1 r3, r4, if_neg (by rw [n_le (by omega) (by omega)]; omega), gc_1 (n_rg (by omega) (by omega)), gc_1 k1, l1, gc_1 (n_rg (by omega) (by omega)), gc_1 r1, r2, gc_1 (n_rg (by omega) (by omega)), gc_1 (n_rg (by omega) (by omega)), gv_e, gv_e, n_s, n_cl (by omega)]
      · rw [gr_s]
        by_cases e : j = z
        · rw [e, up_s, fc.1 _ (by omega)]
        · rw [up_n _ _ e]; exact hh j (by omega)
  obtain ⟨d2, e, h⟩ := gloop_inv (f := gu2 (fun (y2 : Int32) (c3 : gm) => m_X10_lays_L2 N a1 a2 (nI m) y2 c3)) (fun q (a : Int32 × gm) => ∃ k c6, k ≤ m ∧ q + k = m ∧ a = (nI k, c6) ∧ fr (fun i => a2 + 1 ≤ i ∧ i < a2 + 1 + m) d c6 ∧ ∀ k', k' < k → ∀ j, j < w → c6.1 (a2 + 1 + k') j = d.1 (a1 + 1 + k') j) (fun d2 => fr (fun i => a2 + 1 ≤ i ∧ i < a2 + 1 + m) d d2 ∧ ∀ k, k < m → ∀ j, j < w → d2.1 (a2 + 1 + k) j = d.1 (a1 + 1 + k) j) (n := N) (r := m) (a := (0, d)) (by
    rintro q a ⟨k, c6, hk, hq, rfl, fc, hh⟩
    by_cases hk2 : k = m
    · right
      subst hk2
      refine ⟨c6, ?_, fc, hh⟩
      show m_X10_lays_L2 N a1 a2 (nI k) (nI k) c6 = _
      unfold m_X10_lays_L2
      rw [if_pos (by rw [n_le (by omega) (by omega)]; omega)]
    · left
      obtain ⟨e2, i1, i2, i3⟩ := inner k c6 (by omega)
      refine ⟨(nI (k + 1), e2), q - 1, ?_, by omega, k + 1, e2, by omega, by omega, rfl, fr_t fc (fr_m i2 (fun i hi => by omega)), fun k' hk' j hj => ?_⟩
      · show m_X10_lays_L2 N a1 a2 (nI m) (nI k) c6 = _
        unfold m_X10_lays_L2
        rw [if_neg (by rw [n_le (by omega) (by omega)]; omega), gb_x i1, gv_e, n_s]
      · by_cases e : k' = k
        · rw [e, i3 j hj, fc.1 _ (by omega)]
        · rw [i2.1 _ (by omega)]; exact hh k' (by omega) j hj) ⟨0, d, by omega, by omega, rfl, fr_r _ _, fun k hk => by omega⟩ (by omega)
  refine ⟨d2, ?_, h⟩
  unfold m_X10_lays
  rw [gb_x e]
theorem anew_4 {N m : Nat} {d : gm} (h1 : d.1 59 1 = nI m) (hm : m ≤ 10) (hN : 160 < N) : ∃ d2, gloop (gu2 (fun (y29 : Int32) (c30 : gm) => m_X10_beginsAnew_L109 N y29 c30)) N (0, d) = some d2 ∧ fr (fun i => i = 503) d d2 ∧ (∀ j, j < 16 ∨ 16 + 4 * m ≤ j → d2.1 503 j = d.1 503 j) ∧ ∀ k, k < m → ∀ j, j < 4 → d2.1 503 (16 + 4 * k + j) = d.1 (73 + 1 + k) j := by
  have inner : ∀ k e, k < 10 → ∃ e2, gloop (gu2 (fun (y49 : Int32) (c50 : gm) => m_X10_beginsAnew_L121 (nI k) y49 c50)) N (0, e) = some e2 ∧ fr (fun i => i = 503) e e2 ∧ (∀ j, j < 16 + 4 * k ∨ 16 + 4 * k + 4 ≤ j → e2.1 503 j = e.1 503 j) ∧ ∀ j, j < 4 → e2.1 503 (16 + 4 * k + j) = e.1 (73 + 1 + k) j := by
    intro k e hk
    obtain ⟨r1, r2⟩ := gk_ry k hk
    refine gloop_inv (fun q (a : Int32 × gm) => ∃ z c6, z ≤ 4 ∧ q + z = 4 ∧ a = (nI z, c6) ∧ fr (fun i => i = 503) e c6 ∧ (∀ j, j < 16 + 4 * k ∨ 16 + 4 * k + 4 ≤ j → c6.1 503 j = e.1 503 j) ∧ ∀ j, j < z → c6.1 503 (16 + 4 * k + j) = e.1 (73 + 1 + k) j) _ (r := 4) ?_ ⟨0, e, by omega, by omega, rfl, fr_r _ _, fun j hj => rfl, fun j hj => by omega⟩ (by omega)
    rintro q a ⟨z, c6, hz, hq, rfl, fc, ho, hh⟩
    by_cases hz2 : z = 4
    · right
      subst hz2
      refine ⟨c6, ?_, fc, ho, hh⟩
      show m_X10_beginsAnew_L121 (nI k) (nI 4) c6 = _
      unfold m_X10_beginsAnew_L121
      rw [if_pos (by decide)]
    · left
      have e16 : (16 : Int32) + 4 * nI k + nI z = nI (16 + 4 * k + z) := by rw [n_l16, n_l4, n_mu, n_ad, n_ad]
      refine ⟨(nI (z + 1), gm_r c6 503 (upd (c6.1 503) (16 + 4 * k + z) (c6.1 (73 + 1 + k) z))), q - 1, ?_, by omega, z + 1, _, by omega, by omega, rfl, fr_ut fc rfl, fun j hj => ?_, fun j hj => ?_⟩
      · show m_X10_beginsAnew_L121 (nI k) (nI z) c6 = _
        unfold m_X10_beginsAnew_L121
        rw [if_neg (by rw [n_l4, n_le (by decide) (by omega)]; omega), gc_1 (n_rg (by omega) (by omega)), n_cl (by omega), gc_1 r1, r2, gc_1 (n_rg (by omega) (by omega)), e16, gc_1 (n_rg (by omega) (by omega)), gv_e, gv_e, n_s, n_cl (by omega), n_cl (by omega)]
      · rw [gr_s, up_n _ _ (by omega)]; exact ho j hj
      · rw [gr_s]
        by_cases e : j = z
        · rw [e, up_s, fc.1 _ (by omega)]
        · rw [up_n _ _ (by omega)]; exact hh j (by omega)
  refine gloop_inv (fun q (a : Int32 × gm) => ∃ k c6, k ≤ m ∧ q + k = m ∧ a = (nI k, c6) ∧ fr (fun i => i = 503) d c6 ∧ (∀ j, j < 16 ∨ 16 + 4 * m ≤ j → c6.1 503 j = d.1 503 j) ∧ ∀ k', k' < k → ∀ j, j < 4 → c6.1 503 (16 + 4 * k' + j) = d.1 (73 + 1 + k') j) _ (r := m) ?_ ⟨0, d, by omega, by omega, rfl, fr_r _ _, fun j hj => rfl, fun k hk => by omega⟩ (by omega)
  rintro q a ⟨k, c6, hk, hq, rfl, fc, ho, hh⟩
  have g1 : c6.1 59 1 = nI m := by rw [fc.1 59 (by omega)]; exact h1
  by_cases hk2 : k = m
  · right
    subst hk2
    refine ⟨c6, ?_, fc, ho, hh⟩
    show m_X10_beginsAnew_L109 N (nI k) c6 = _
    unfold m_X10_beginsAnew_L109
    rw [n_cl1, g1, if_pos (by rw [n_le (by omega) (by omega)]; omega)]
  · left
    obtain ⟨e2, i1, i2, i3, i4⟩ := inner k c6 (by omega)
    refine ⟨(nI (k + 1), e2), q - 1, ?_, by omega, k + 1, e2, by omega, by omega, rfl, fr_t fc i2, fun j hj => ?_, fun k' hk' j hj => ?_⟩
    · show m_X10_beginsAnew_L109 N (nI k) c6 = _
      unfold m_X10_beginsAnew_L109
      rw [n_cl1, g1, if_neg (by rw [n_le (by omega) (by omega)]; omega), gb_x i1, gv_e, n_s]
    · rw [i3 j (by omega)]; exact ho j hj
    · by_cases e : k' = k
      · rw [e, i4 j hj, fc.1 _ (by omega)]
      · rw [i3 _ (by omega)]; exact hh k' (by omega) j hj
theorem gk_rc2 : gck 62 = 25 ∧ gck 73 = 25 ∧ gal 62 = 10 ∧ gal 73 = 10 := by decide
theorem anew_d {th m N : Nat} {d : gm} (h0 : d.1 58 0 = nI th) (h1 : d.1 58 1 = nI m) (h8 : th ≤ 8) (hm : m ≤ 10) (hN : 300 < N) : ∃ d2, m_X10_beginsAnew N 55 d = some d2 ∧ (∀ i, i ≠ 55 → i ≠ 59 → i ≠ 61 → i ≠ 503 → (i < 74 ∨ 83 < i) → d2.1 i = d.1 i) ∧ d2.2 = d.2 ∧ (∀ j, j < 4 → d2.1 59 j = d.1 58 j) ∧ (∀ a, a < th → d2.1 61 a = d.1 60 a ∧ d2.1 503 a = d.1 60 a) ∧ (∀ j, th ≤ j → j < 16 → d2.1 503 j = 0) ∧ (∀ k, k < m → ∀ j, j < 4 → d2.1 503 (16 + 4 * k + j) = d.1 (63 + k) j) ∧ d2.1 503 56 = nI m ∧ d2.1 503 57 = d.1 58 2 ∧ d2.1 503 58 = 0 ∧ d2.1 503 59 = 0 ∧ (∀ s, s = 17 ∨ s = 32 ∨ s = 33 ∨ s = 34 ∨ s = 35 → d2.1 55 s = 0) ∧ ∀ s, s < 17 ∨ s = 36 → d2.1 55 s = d.1 55 s := by
  obtain ⟨d1, e1, f1, g1⟩ := anew_1 (d := d) (N := N) (by omega)
  obtain ⟨d2, e2, f2, g2⟩ := anew_2 (d := d1) (N := N) (by omega)
  have q0 : d2.1 59 0 = nI th := by rw [f2.1 59 (by omega), g1 0 (by omega)]; exact h0
  obtain ⟨d3, e3, f3, g3, z3⟩ := anew_3 (N := N) q0 h8 g2 (by omega)
  have q1 : d3.1 59 1 = nI m := by rw [f3.1 59 (by omega), f2.1 59 (by omega), g1 1 (by omega)]; exact h1
  obtain ⟨d4, e4, f4, g4⟩ := lays_d (a1 := 62) (a2 := 73) (w := 4) (L := 10) (m := m) (N := N) (d := d3) gk_rc2.1 gk_rc2.2.1 gk_rc2.2.2.1 gk_rc2.2.2.2 (fun k hk => gk_rc k hk) (fun k hk => gk_ry k hk) (by omega) (by omega) (by omega) hm hN
  have q2 : d4.1 59 1 = nI m := by rw [f4.1 59 (by omega)]; exact q1
  obtain ⟨d5, e5, f5, o5, g5⟩ := anew_4 (N := N) q2 hm (by omega)
  have q59 : d5.1 59 = d1.1 59 := by rw [f5.1 59 (by omega), f4.1 59 (by omega), f3.1 59 (by omega), f2.1 59 (by omega)]
  have q55 : d5.1 55 = d.1 55 := by rw [f5.1 55 (by omega), f4.1 55 (by omega), f3.1 55 (by omega), f2.1 55 (by omega), f1.1 55 (by omega)]
  have q503 : ∀ j, j < 16 ∨ 16 + 4 * m ≤ j → d5.1 503 j = d3.1 503 j := fun j hj => by rw [o5 j hj, f4.1 503 (by omega)]
  have q60 : d2.1 60 = d.1 60 := by rw [f2.1 60 (by omega), f1.1 60 (by omega)]
  obtain ⟨d6, ed6⟩ : ∃ z, z = gm_r (gm_r d5 503 (upd (upd (d5.1 503) 56 (nI m)) 57 (d5.1 59 2))) 55 (upd (upd (upd (upd (upd (d5.1 55) 17 0) 32 0) 33 0) 34 0) 35 0) := ⟨_, rfl⟩
  have d6o : ∀ i, i ≠ 55 → i ≠ 503 → d6.1 i = d5.1 i := fun i i1 i2 => by rw [ed6, gr_n _ _ i1, gr_n _ _ i2]
  have d6c : ∀ j, j ≠ 56 → j ≠ 57 → d6.1 503 j = d5.1 503 j := fun j j1 j2 => by rw [ed6, gr_n _ _ (by omega), gr_s, up_n _ _ j2, up_n _ _ j1]
  refine ⟨d6, ?_, fun i i1 i2 i3 i4 i5 => ?_, ?_, fun j hj => ?_, fun a ha => ?_, fun j hj hj2 => ?_, fun k hk j hj => ?_, ?_, ?_, ?_, ?_, fun s hs => ?_, fun s hs => ?_⟩
  · unfold m_X10_beginsAnew
    rw [gb_x e1, gb_x e2, gb_x e3, gc_1 (show gck 55 = 10 from rfl), n_cl1, q1, gb_x e4, gb_x e5, gv_e, gv_e, gv_e, gv_e, gv_e, gv_e, gv_e, ed6]
    rw [show d5.1 59 1 = nI m by rw [f5.1 59 (by omega)]; exact q2, cl_56, show (57 : Int32).toNatClampNeg = 57 from rfl, i_2]
    simp only [gr_s, gr_r, gr_n _ _ (show (59 : Nat) ≠ 503 by decide), gr_n _ _ (show (55 : Nat) ≠ 503 by decide)]
  · rw [d6o i i1 i4, f5.1 i i4, f4.1 i (by omega), f3.1 i (by omega), f2.1 i i4, f1.1 i i2]
  · rw [ed6]
    show d5.2 = d.2
    rw [f5.2, f4.2, f3.2, f2.2, f1.2]
  · rw [d6o 59 (by omega) (by omega), q59]; exact g1 j hj
  · rw [d6o 61 (by omega) (by omega), f5.1 61 (by omega), f4.1 61 (by omega), d6c a (by omega) (by omega), q503 a (by omega), ← q60]
    exact g3 a ha
  · rw [d6c j (by omega) (by omega), q503 j (by omega)]; exact z3 j hj (by omega)
  · rw [d6c _ (by omega) (by omega), g5 k hk j hj, g4 k hk j hj, f3.1 _ (by omega), f2.1 _ (by omega), f1.1 _ (by omega), show 62 + 1 + k = 63 + k by omega]
  · rw [ed6, gr_n _ _ (by omega), gr_s, up_n _ _ (by omega), up_s]
  · rw [ed6, gr_n _ _ (by omega), gr_s, up_s, q59]; exact g1 2 (by omega)
  · rw [d6c 58 (by omega) (by omega), q503 58 (by omega)]; exact z3 58 (by omega) (by omega)
  · rw [d6c 59 (by omega) (by omega), q503 59 (by omega)]; exact z3 59 (by omega) (by omega)
  · rw [ed6, gr_s]
    rcases hs with rfl | rfl | rfl | rfl | rfl <;> simp (disch := omega) only [up_n, up_s]
  · rw [ed6, gr_s, up_n _ _ (by omega), up_n _ _ (by omega), up_n _ _ (by omega), up_n _ _ (by omega), up_n _ _ (by omega), q55]
/-- a mark more in the class's law -/
theorem add_l {rl z : Nat} {x y : Int32} {c : gm} (kl : gck rl = 3) (h4 : c.1 rl 4 = nI z) (hz : z < 150) : m_X3_add rl x y c = some (gm_r (gm_r (gm_r c (rl + 1) (upd (c.1 (rl + 1)) z x)) (rl + 2) (upd (c.1 (rl + 2)) z y)) rl (upd (c.1 rl) 4 (nI (z + 1)))) := by
  unfold m_X3_add
  rw [gc_1 kl, h4, if_neg (by rw [n_l0, n_lt (by omega) (by decide)]; omega), if_neg (by rw [n_l150, n_le (by decide) (by omega)]; omega), gc_1 (n_rg (by omega) (by omega)), gv_e, gr_n _ _ (show rl ≠ rl + 1 by omega), h4, gc_1 (n_rg (by omega) (by omega)), gv_e, gv_e, n_cl (by omega), gr_n _ _ (show rl ≠ rl + 2 by omega), gr_n _ _ (show rl ≠ rl + 1 by omega), gr_n _ _ (show rl + 2 ≠ rl + 1 by omega), h4, n_s]
theorem usual_c {rl : Nat} {c : gm} (kl : gck rl = 3) : ∃ c2, m_X3_becomeUsual rl c = some c2 ∧ fr (fun i => i = rl ∨ i = rl + 1 ∨ i = rl + 2) c c2 ∧ c2.1 rl 4 = nI 3 ∧ (c2.1 (rl + 1) 0 = 1 ∧ c2.1 (rl + 2) 0 = 1 ∧ c2.1 (rl + 1) 1 = 0 ∧ c2.1 (rl + 2) 1 = 4 ∧ c2.1 (rl + 1) 2 = 5) := by
  have e1 := add_l (z := 0) (x := 1) (y := 1) (c := gm_r c rl (upd (c.1 rl) 4 0)) kl (by rw [gr_s, up_s]; rfl) (by omega)
  obtain ⟨c3, ec3⟩ : ∃ z, z = gm_r (gm_r (gm_r (gm_r c rl (upd (c.1 rl) 4 0)) (rl + 1) (upd ((gm_r c rl (upd (c.1 rl) 4 0)).1 (rl + 1)) 0 1)) (rl + 2) (upd ((gm_r c rl (upd (c.1 rl) 4 0)).1 (rl + 2)) 0 1)) rl (upd ((gm_r c rl (upd (c.1 rl) 4 0)).1 rl) 4 (nI (0 + 1))) := ⟨_, rfl⟩
  rw [← ec3] at e1
  have e2 := add_l (z := 1) (x := 0) (y := 4) (c := c3) kl (by rw [ec3, gr_s, up_s]) (by omega)
  obtain ⟨c4, ec4⟩ : ∃ z, z = gm_r (gm_r (gm_r c3 (rl + 1) (upd (c3.1 (rl + 1)) 1 0)) (rl + 2) (upd (c3.1 (rl + 2)) 1 4)) rl (upd (c3.1 rl) 4 (nI (1 + 1))) := ⟨_, rfl⟩
  rw [← ec4] at e2
  have e3 := add_l (z := 2) (x := 5) (y := 0) (c := c4) kl (by rw [ec4, gr_s, up_s]) (by omega)
  refine ⟨_, by unfold m_X3_becomeUsual; rw [gc_1 kl, gv_e, gb_x e1, gb_x e2, gb_x e3], ⟨fun i hi => ?_, ?_⟩, ?_, ?_, ?_, ?_, ?_, ?_⟩
  · rw [gr_n _ _ (by omega), gr_n _ _ (by omega), gr_n _ _ (by omega), ec4, gr_n _ _ (by omega), gr_n _ _ (by omega), gr_n _ _ (by omega), ec3, gr_n _ _ (by omega), gr_n _ _ (by omega), gr_n _ _ (by omega), gr_n _ _ (by omega)]
  · rw [ec4, ec3]; rfl
  · rw [gr_s, up_s]
  · rw [gr_n _ _ (by omega), gr_n _ _ (by omega), gr_s, up_n _ _ (by omega), ec4, gr_n _ _ (by omega), gr_n _ _ (by omega), gr_s, up_n _ _ (by omega), ec3, gr_n _ _ (by omega), gr_n _ _ (by omega), gr_s, up_s]
  · rw [gr_n _ _ (by omega), gr_s, up_n _ _ (by omega), ec4, gr_n _ _ (by omega), gr_s, up_n _ _ (by omega), ec3, gr_n _ _ (by omega), gr_s, up_s]
  · rw [gr_n _ _ (by omega), gr_n _ _ (by omega), gr_s, up_n _ _ (by omega), ec4, gr_n _ _ (by omega), gr_n _ _ (by omega), gr_s, up_s]
  · rw [gr_n _ _ (by omega), gr_s, up_n _ _ (by omega), ec4, gr_n _ _ (by omega), gr_s, up_s]
  · rw [gr_n _ _ (by omega), gr_n _ _ (by omega), gr_s, up_s]
theorem usual_l {rl : Nat} {c d : gm} (kl : gck rl = 3) (h4 : c.1 rl 4 = nI 3) (h : c.1 (rl + 1) 0 = 1 ∧ c.1 (rl + 2) 0 = 1 ∧ c.1 (rl + 1) 1 = 0 ∧ c.1 (rl + 2) 1 = 4 ∧ c.1 (rl + 1) 2 = 5) (hd : d.1 55 17 = 0) : gLw rl c d := by
  obtain ⟨m0, o0, m1, o1, m2⟩ := h
  refine ⟨kl, 3, c.1 (rl + 1), c.1 (rl + 2), fun k => if k = 0 then 0 else if k = 2 then 2 else 1, ⟨by omega, rfl, by decide, fun k hk => ?_⟩, h4, fun k _ => ⟨rfl, rfl⟩, Or.inl ⟨hd, rfl, m0, o0, m1, o1, m2⟩⟩
  rcases (by omega : k = 0 ∨ k = 1 ∨ k = 2) with rfl | rfl | rfl
  · left; exact ⟨rfl, by decide, Or.inr ⟨m0, 1, by omega, o0⟩⟩
  · left; exact ⟨rfl, by decide, Or.inl m1⟩
  · right; exact ⟨rfl, by decide, 5, by omega, by omega, m2⟩
