set_option maxRecDepth 16384
/-! what stands above -/
theorem gRl_ch {th m p : Nat} {c d c2 d2 : gm} (h : gRl th m p c d) (f : gCf c d c2 d2) : gRl th m p c2 d2 := by
  refine gRl_sc h f.2.1 (fun i hi => f.1 i ?_ ?_) (fun i _ => by rw [f.2.2.1]) (fun k _ => by rw [f.2.2.1])
  · intro e; exact hi (by unfold SC; omega)
  · intro e; exact hi (by unfold SC; omega)
theorem above_two {th m p n : Nat} {c d : gm} (h : gRl th m p c d) (hn : 160 < n) (a : Int32) : gAns 0 1 (m_X9_above n 0 a c) (m_X10_above n 55 a d) := by
  have hZ := gRl_dZ h
  have z0 := dZ_0 d
  obtain ⟨hP, hp, ⟨hS, hRw, hM, hL⟩, hTo, hTp, hCn, hBk, hPs, hIm⟩ := id hZ
  have h8 := hS.2.1
  obtain ⟨m0, m3, -⟩ := id hM
  by_cases q : 0 ≤ a ∧ a < nI th
  rotate_left
  · refine ans_n (v := 0) (d := d) hZ (by decide) ?_ ?_
    · unfold m_X9_above
      rw [gc_1 (show gck 0 = 9 from rfl), gbx_x2 (dt_0 hS q)]
    · unfold m_X10_above; simp only [gj_e]
      rw [gc_1 (show gck 55 = 10 from rfl), gv_e, show gm_r d 55 (upd (d.1 55) 0 0) = dZ d from rfl, gb_x (mt_0 h8 m0 q), if_pos rfl, gb2_x (bd_n z0 (by decide)), if_neg (by decide)]
  obtain ⟨k, hk, rfl⟩ := i_ex2 (by omega) q
  obtain ⟨b, y, e1, e2, hp2⟩ := gloop_two (f := gu2 (fun (y7 : Int32) => gu2 (fun (y8 : Int32) (c9 : gm) => m_X9_above_L9 n (nI k) y7 y8 c9))) (g := gu2 (fun (y13 : Int32) => gu2 (fun (y14 : Int32) (c15 : gm) => m_X10_above_L33 n 55 (nI k) y13 y14 c15))) (fun q (A : Int32 × Int32 × gm) (X : Int32 × Int32 × gm) => ∃ i w c3 d3, q + i = th ∧ A = (w, nI i, c3) ∧ X = (w, nI i, d3) ∧ gCf c (dZ d) c3 d3) (fun B Y => ∃ w c2 d2, B = (w, c2) ∧ Y = (w, d2) ∧ gCf c (dZ d) c2 d2) (by
    rintro q A X ⟨i, w, c3, d3, hi, rfl, rfl, f3⟩
    have hS3 : gSt 3 c3 th m (nI p) (d3.1 503) := by rw [f3.2.2.1]; exact gSt_fr hS (f3.1 _ (by omega) (by omega)) (f3.1 _ (by omega) (by omega)) (f3.1 _ (by omega) (by omega)) (f3.1 _ (by omega) (by omega))
    have hR3 : gRow th m (d3.1 503) := by rw [f3.2.2.1]; exact hRw
    have m3' : d3.1 59 0 = nI th := by rw [f3.2.2.1]; exact m0
    by_cases qi : i < th
    rotate_left
    · right
      refine ⟨(w, c3), (w, d3), ?_, ?_, w, c3, d3, rfl, rfl, f3⟩
      · show m_X9_above_L9 n (nI k) w (nI i) c3 = _
        unfold m_X9_above_L9
        rw [hS3.2.2.1, if_pos (by rw [n_le (by omega) (by omega)]; omega)]
      · show m_X10_above_L33 n 55 (nI k) w (nI i) d3 = _
        unfold m_X10_above_L33
        rw [n_cl0, m3', if_pos (by rw [n_le (by omega) (by omega)]; omega)]
    have nt : ¬ nI th ≤ nI i := by rw [n_le (by omega) (by omega)]; omega
    left
    by_cases qk : i = k
    · refine ⟨(w, nI (i + 1), c3), (w, nI (i + 1), d3), th - (i + 1), ?_, ?_, by omega, i + 1, w, c3, d3, by omega, rfl, rfl, f3⟩
      · show m_X9_above_L9 n (nI k) w (nI i) c3 = _
        unfold m_X9_above_L9; simp only [gj_e]
        rw [hS3.2.2.1, if_neg nt, if_pos (show nI i = nI k by rw [qk]), gu2_e, gv_e, n_s]
      · show m_X10_above_L33 n 55 (nI k) w (nI i) d3 = _
        unfold m_X10_above_L33; simp only [gj_e]
        rw [n_cl0, m3', if_neg nt, if_pos (show nI k = nI i by rw [qk]), gu2_e, gv_e, n_s]
    · obtain ⟨c4, d4, t1, t2, l4, l5, -, f4⟩ := seek_two (N := n) hS3 hR3 qi hk qk (by omega)
      have n1 : ¬ nI i = nI k := by rw [n_eq (by omega) (by omega)]; exact qk
      have n2 : ¬ nI k = nI i := fun e => n1 e.symm
      by_cases ql : (lg_cmp (d4.2.1 55 39) (d4.2.1 55 40)) < 0
      · refine ⟨(w ||| 0, nI (i + 1), c4), (w ||| 0, nI (i + 1), d4), th - (i + 1), ?_, ?_, by omega, i + 1, w ||| 0, c4, d4, by omega, rfl, rfl, gCf_t f3 f4⟩
        · show m_X9_above_L9 n (nI k) w (nI i) c3 = _
          unfold m_X9_above_L9 m_X1_isOneOrMore; simp only [gj_e]
          rw [hS3.2.2.1, if_neg nt, if_neg n1, gb_x t1, gc_1 (show gck 21 = 1 from rfl), l4, l5, if_pos ql, gb_e, if_pos (show (0 : Int32) = 0 from rfl), gv_e, gu2_e, gv_e, n_s]
        · show m_X10_above_L33 n 55 (nI k) w (nI i) d3 = _
          unfold m_X10_above_L33; simp only [gj_e]
          rw [n_cl0, m3', if_neg nt, if_neg n2, gb_x t2, if_pos ql, gv_e, gu2_e, gv_e, n_s]
      · refine ⟨(w ||| ((1 : Int32) <<< (nI i &&& 31)), nI (i + 1), c4), (w ||| ((1 : Int32) <<< (nI i &&& 31)), nI (i + 1), d4), th - (i + 1), ?_, ?_, by omega, i + 1, _, c4, d4, by omega, rfl, rfl, gCf_t f3 f4⟩
        · show m_X9_above_L9 n (nI k) w (nI i) c3 = _
          unfold m_X9_above_L9 m_X1_isOneOrMore; simp only [gj_e]
          rw [hS3.2.2.1, if_neg nt, if_neg n1, gb_x t1, gc_1 (show gck 21 = 1 from rfl), l4, l5, if_neg ql, gb_e, if_neg (show ¬ (1 : Int32) = 0 by decide), gv_e, gu2_e, gv_e, n_s]
        · show m_X10_above_L33 n 55 (nI k) w (nI i) d3 = _
          unfold m_X10_above_L33; simp only [gj_e]
          rw [n_cl0, m3', if_neg nt, if_neg n2, gb_x t2, if_neg ql, gv_e, gu2_e, gv_e, n_s]) (n := n) (r := th) (a := (0, 0, c)) (x := (0, 0, dZ d)) ⟨0, 0, c, dZ d, by omega, rfl, rfl, gCf_r c (dZ d)⟩ (by omega)
  obtain ⟨w, c2, d2, rfl, rfl, f2⟩ := hp2
  refine ans_o (r := w) (gRl_ch hZ f2) (by rw [f2.2.2.1]; exact z0) ?_ ?_
  · unfold m_X9_above
    rw [gc_1 (show gck 0 = 9 from rfl), gbx_x1 (dt_1 hS q), gb_x e1, gu2_e, gok_e]
  · unfold m_X10_above; simp only [gj_e]
    rw [gc_1 (show gck 55 = 10 from rfl), gv_e, show gm_r d 55 (upd (d.1 55) 0 0) = dZ d from rfl, gb_x (mt_1 h8 m0 q), if_neg (by decide), gb2_x (bd_0 z0), if_pos rfl, gb_x e2, gu2_e]
