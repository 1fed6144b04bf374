set_option maxRecDepth 16384
/-! worth -/
theorem ip_e (a : Int32) : m_X9_isPart a = m_X10_in a 0 1 := by
  unfold m_X9_isPart m_X10_in
  by_cases q0 : a = 0
  · rw [q0]; rfl
  · by_cases q1 : a = 1
    · rw [q1]; rfl
    · rw [if_neg q0, if_neg q1]
      by_cases q : 0 ≤ a
      · by_cases q2 : a ≤ 1
        · exfalso
          rw [Int32.le_iff_toInt_le] at q q2
          rw [show (0 : Int32).toInt = 0 from rfl] at q
          rw [show (1 : Int32).toInt = 1 from rfl] at q2
          rcases (show a.toInt = 0 ∨ a.toInt = 1 by omega) with e | e
          · exact q0 (Int32.toInt_inj.1 e)
          · exact q1 (Int32.toInt_inj.1 e)
        · first | rw [if_neg (show ¬ (a < 0) from Int32.not_lt.mpr q), if_pos (Int32.not_le.mp q2)] | simp only [q, q2, ite_true, ite_false] | (split <;> first | rfl | (split <;> first | rfl | (exfalso; simp_all)))
      · first | rw [if_pos (Int32.not_le.mp q)] | simp only [q, ite_true, ite_false] | (split <;> first | rfl | (split <;> first | rfl | (exfalso; simp_all)))
theorem ip_c (a : Int32) : m_X9_isPart a = some 0 ∨ m_X9_isPart a = some 1 := by
  unfold m_X9_isPart
  split
  · exact Or.inr rfl
  · split
    · exact Or.inr rfl
    · exact Or.inl rfl
theorem worth_two {th m p n : Nat} {c d : gm} (h : gRl th m p c d) (hn : 160 < n) (a b e : Int32) : gAns 2 1 (m_X9_worth n 0 a b e c) (m_X10_worth n 55 a b e d) := by
  have hZ := gRl_dZ h
  have z0 := dZ_0 d
  obtain ⟨hP, hp, ⟨hS, hRw, hM, hL⟩, hTo, hTp, hCn, hBk, hPs, hIm⟩ := id hZ
  have h8 := hS.2.1
  obtain ⟨m0, m3, -⟩ := id hM
  by_cases qa : 0 ≤ a ∧ a < nI th
  rotate_left
  · refine ans_n (v := 0) (d := d) hZ (by decide) ?_ ?_
    · unfold m_X9_worth
      rw [gc_1 (show gck 0 = 9 from rfl), gbx_x2 (dt_0 hS qa)]
    · unfold m_X10_worth; simp only [gj_e]
      rw [gc_1 (show gck 55 = 10 from rfl), gv_e, show gm_r d 55 (upd (d.1 55) 0 0) = dZ d from rfl, gb_x (mt_0 h8 m0 qa), if_pos rfl, gb2_x (bd_n z0 (by decide)), if_neg (by decide)]
  by_cases qb : 0 ≤ b ∧ b < nI th
  rotate_left
  · refine ans_n (v := 0) (d := d) hZ (by decide) ?_ ?_
    · unfold m_X9_worth
      rw [gc_1 (show gck 0 = 9 from rfl), gbx_x1 (dt_1 hS qa), gbx_x2 (dt_0 hS qb)]
    · unfold m_X10_worth; simp only [gj_e]
      rw [gc_1 (show gck 55 = 10 from rfl), gv_e, show gm_r d 55 (upd (d.1 55) 0 0) = dZ d from rfl, gb_x (mt_1 h8 m0 qa), if_neg (by decide), gb_x (mt_0 h8 m0 qb), if_pos rfl, gb2_x (bd_n z0 (by decide)), if_neg (by decide)]
  by_cases qe : a = b
  · refine ans_i (v := 0) (d := d) hZ (by decide) ?_ ?_
    · unfold m_X9_worth; simp only [gj_e]
      rw [gc_1 (show gck 0 = 9 from rfl), gbx_x1 (dt_1 hS qa), gbx_x1 (dt_1 hS qb), if_pos qe, gbx_x2 (dm_0 c)]
    · unfold m_X10_worth; simp only [gj_e]
      rw [gc_1 (show gck 55 = 10 from rfl), gv_e, show gm_r d 55 (upd (d.1 55) 0 0) = dZ d from rfl, gb_x (mt_1 h8 m0 qa), if_neg (by decide), gb_x (mt_1 h8 m0 qb), if_neg (by decide), gb2_x (bd_0 z0), if_pos rfl, if_pos qe, gb2_x (bd_i z0 (by decide)), if_neg (by decide)]
  rcases ip_c e with qp | qp
  · have qp2 := qp
    rw [ip_e] at qp2
    refine ans_i (v := 0) (d := d) hZ (by decide) ?_ ?_
    · unfold m_X9_worth; simp only [gj_e]
      rw [gc_1 (show gck 0 = 9 from rfl), gbx_x1 (dt_1 hS qa), gbx_x1 (dt_1 hS qb), if_neg qe, gb_x qp, if_pos rfl, gbx_x2 (dm_0 c)]
    · unfold m_X10_worth; simp only [gj_e]
      rw [gc_1 (show gck 55 = 10 from rfl), gv_e, show gm_r d 55 (upd (d.1 55) 0 0) = dZ d from rfl, gb_x (mt_1 h8 m0 qa), if_neg (by decide), gb_x (mt_1 h8 m0 qb), if_neg (by decide), gb2_x (bd_0 z0), if_pos rfl, if_neg qe, gb_x qp2, if_pos rfl, gb2_x (bd_i z0 (by decide)), if_neg (by decide)]
  have qp2 := qp
  rw [ip_e] at qp2
  obtain ⟨x, hx, rfl⟩ := i_ex2 (by omega) qa
  obtain ⟨y, hy, rfl⟩ := i_ex2 (by omega) qb
  have qxy : x ≠ y := fun q => qe (by rw [q])
  obtain ⟨c4, d4, t1, t2, l4, l5, lB, f4⟩ := seek_two (N := n) hS hRw hx hy qxy (by omega)
  obtain ⟨r, r1, r2⟩ := prt_two (n := n) l4 l5 lB (by omega) e
  refine ans_o (r := r) (gRl_ch hZ f4) (by rw [f4.2.2.1]; exact z0) ?_ ?_
  · unfold m_X9_worth; simp only [gj_e]
    rw [gc_1 (show gck 0 = 9 from rfl), gbx_x1 (dt_1 hS qa), gbx_x1 (dt_1 hS qb), if_neg qe, gb_x qp, if_neg (by decide), gbx_x1 (dm_1 c), gb_x t1, gb_x r1, gok_e]
  · unfold m_X10_worth; simp only [gj_e]
    rw [gc_1 (show gck 55 = 10 from rfl), gv_e, show gm_r d 55 (upd (d.1 55) 0 0) = dZ d from rfl, gb_x (mt_1 h8 m0 qa), if_neg (by decide), gb_x (mt_1 h8 m0 qb), if_neg (by decide), gb2_x (bd_0 z0), if_pos rfl, if_neg qe, gb_x qp2, if_neg (by decide), gb2_x (bd_0 z0), if_pos rfl, gb_x t2, gb_x r2]
