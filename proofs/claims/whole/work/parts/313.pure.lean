set_option maxRecDepth 16384
theorem w7 {a : Int32} (h : ¬ a ≤ 7) : 8 ≤ a := by
  rw [Int32.le_iff_toInt_le, show (7 : Int32).toInt = 7 from rfl] at h
  rw [Int32.le_iff_toInt_le, show (8 : Int32).toInt = 8 from rfl]
  omega
theorem w8 {a : Int32} (h : a ≤ 7) : ¬ 8 ≤ a := by
  rw [Int32.le_iff_toInt_le, show (7 : Int32).toInt = 7 from rfl] at h
  rw [Int32.le_iff_toInt_le, show (8 : Int32).toInt = 8 from rfl]
  omega
theorem w01 {a : Int32} (h : ¬ (0 ≤ a ∧ a ≤ 1)) : ¬ a = 0 ∧ ¬ a = 1 := ⟨fun e => h (by rw [e]; decide), fun e => h (by rw [e]; decide)⟩
theorem n_rg {k : Nat} {M : Int} (h : k < 2147483648) (h2 : (k : Int) < M) : 0 ≤ (nI k).toInt ∧ (nI k).toInt < M := by
  rw [n_ti h]
  exact ⟨by omega, h2⟩
theorem n_z (k : Nat) : (0 : Int32) + nI k = nI k := by rw [n_l0, n_ad, Nat.zero_add]
theorem cl_56 : (56 : Int32).toNatClampNeg = 56 := rfl
theorem gPt_i {c : gm} (h : gPt c) : gIx 3 503 (c.2.2 0) := ⟨Or.inl rfl, Or.inl rfl, by rcases h.1 with q | q <;> rw [q.1] <;> simp⟩
theorem gRl_wr {th m p : Nat} {c d c2 d2 : gm} (h : gRl th m p c d) (f1 : fr (fun i => i = c.2.2 0 + 3 ∨ i = c.2.2 0 + 4) c c2) (f2 : fr (fun i => i = 420 ∨ i = 421) d d2) : gRl th m p c2 d2 := by
  have hP := h.1
  have hq : (c.2.2 0 = 33 ∨ c.2.2 0 = 38) ∧ (c.2.2 2 = 43 ∨ c.2.2 2 = 49) := ⟨by rcases hP.1 with q | q <;> simp [q.1], by rcases hP.2 with q | q <;> simp [q.1]⟩
  refine gRl_sm h ⟨by rw [f1.2], fun i hi => f1.1 i (by omega), by rw [f1.1 1 (by omega)], by rw [f1.1 _ (by omega)], fun k hk => by rw [f2.1 55 (by omega)], fun i hi => f2.1 i (by omega)⟩ ?_
  have g := h.2.2.2.2.2.1
  unfold gCn at g ⊢
  rw [f1.1 0 (by omega), f1.1 1 (by omega), f2.1 55 (by omega), f2.1 57 (by omega)]
  exact g
theorem cs_told {t th m : Nat} {pl : Int32} {r : Nat → Int32} {c : gm} (h : gSt t c th m pl r) {a : Nat} (ha : a < th) : m_X6_toldOf t (nI a) c = some (c.1 (t + 1) a) := by
  obtain ⟨hk, h8, -⟩ := id h
  have e : 0 ≤ nI a ∧ nI a < nI th := ⟨by rw [n_l0, n_le (by decide) (by omega)]; omega, by rw [n_lt (by omega) (by omega)]; exact ha⟩
  unfold m_X6_toldOf
  rw [gc_1 hk, cs_thing h, gb_e, if_pos e, if_neg (by decide), gc_1 (n_rg (by omega) (by omega)), n_cl (by omega)]
theorem thing_two {th m p n : Nat} {c d : gm} (h : gRl th m p c d) (hn : 160 < n) (a b : Int32) : gAns 2 1 (m_X9_thing n 0 a b c) (m_X10_thing n 55 a b d) := by
  have hZ := gRl_dZ h
  have z0 := dZ_0 d
  obtain ⟨hP, hp, ⟨hS, hRw, hM, hL⟩, hTo, hTp, hCn, hBk, hPs, hIm⟩ := id hZ
  obtain ⟨hk, h8, h5, h6, h7, h9, h10, h11, hw, hf, hcp⟩ := id hS
  obtain ⟨m0, m3, -⟩ := id hM
  have hm : m ≤ 10 := hRw.1
  have h56 := hRw.2.1
  by_cases q : 0 ≤ a ∧ a < nI th
  · obtain ⟨k, hkt, rfl⟩ := i_ex2 (by omega) q
    by_cases q2 : 0 ≤ b ∧ b ≤ 4
    · obtain ⟨j, hj, rfl⟩ := i_ex (y := 4) (by decide) q2
      have r60 : 0 ≤ (nI k).toInt ∧ (nI k).toInt < 60 := n_rg (by omega) (by omega)
      have r68 : 0 ≤ (nI (8 + k)).toInt ∧ (nI (8 + k)).toInt < 60 := n_rg (by omega) (by omega)
      have r8 : 0 ≤ (nI k).toInt ∧ (nI k).toInt < 8 := n_rg (by omega) (by omega)
      have e8 : (8 : Int32) + nI k = nI (8 + k) := by rw [n_l8, n_ad]
      rcases (by omega : j = 0 ∨ j = 1 ∨ j = 2 ∨ j = 3 ∨ j = 4) with rfl | rfl | rfl | rfl | rfl
      · refine ans_o (r := (dZ d).1 503 k) hZ z0 ?_ ?_
        · unfold m_X9_thing; simp only [gj_e]
          rw [gc_1 (show gck 0 = 9 from rfl), gbx_x1 (dt_1 hS q), if_neg (i_nlt q2.1), if_neg (i_nlt q2.2), gbx_x1 (dm_1 c), if_pos (show nI 0 = 0 from rfl), gb_x (cs_weight hS hkt), gok_e]
        · unfold m_X10_thing; simp only [gj_e]
          rw [gc_1 (show gck 55 = 10 from rfl), gv_e, show gm_r d 55 (upd (d.1 55) 0 0) = dZ d from rfl, gb_x (mt_1 h8 m0 q), if_neg (by decide), gb2_x (bd_0 z0), if_pos rfl, gb_x (in_1 q2), if_neg (by decide), gb2_x (bd_0 z0), if_pos rfl, if_pos (show nI 0 = 0 from rfl), n_z, gc_1 r60, n_cl (by omega)]
      · refine ans_o (r := (dZ d).1 61 k) hZ z0 ?_ ?_
        · unfold m_X9_thing; simp only [gj_e]
          rw [gc_1 (show gck 0 = 9 from rfl), gbx_x1 (dt_1 hS q), if_neg (i_nlt q2.1), if_neg (i_nlt q2.2), gbx_x1 (dm_1 c), if_neg (by decide), if_pos (show nI 1 = 1 from rfl), gb_x (cs_told hS hkt), hTo.1 k hkt, gok_e]
        · unfold m_X10_thing; simp only [gj_e]
          rw [gc_1 (show gck 55 = 10 from rfl), gv_e, show gm_r d 55 (upd (d.1 55) 0 0) = dZ d from rfl, gb_x (mt_1 h8 m0 q), if_neg (by decide), gb2_x (bd_0 z0), if_pos rfl, gb_x (in_1 q2), if_neg (by decide), gb2_x (bd_0 z0), if_pos rfl, if_neg (by decide), if_pos (show nI 1 = 1 from rfl), gc_1 r8, n_cl (by omega)]
      · refine ans_o (r := (dZ d).1 503 (8 + k)) hZ z0 ?_ ?_
        · unfold m_X9_thing; simp only [gj_e]
          rw [gc_1 (show gck 0 = 9 from rfl), gbx_x1 (dt_1 hS q), if_neg (i_nlt q2.1), if_neg (i_nlt q2.2), gbx_x1 (dm_1 c), if_neg (by decide), if_neg (by decide), if_pos (show nI 2 = 2 from rfl), gb_x (cs_weighed hS hkt), gok_e]
        · unfold m_X10_thing; simp only [gj_e]
          rw [gc_1 (show gck 55 = 10 from rfl), gv_e, show gm_r d 55 (upd (d.1 55) 0 0) = dZ d from rfl, gb_x (mt_1 h8 m0 q), if_neg (by decide), gb2_x (bd_0 z0), if_pos rfl, gb_x (in_1 q2), if_neg (by decide), gb2_x (bd_0 z0), if_pos rfl, if_neg (by decide), if_neg (by decide), if_pos (show nI 2 = 2 from rfl), e8, gc_1 r68, n_cl (by omega)]
      · refine ans_o (r := pCo m ((dZ d).1 503) (nI k)) hZ z0 ?_ ?_
        · unfold m_X9_thing; simp only [gj_e]
          rw [gc_1 (show gck 0 = 9 from rfl), gbx_x1 (dt_1 hS q), if_neg (i_nlt q2.1), if_neg (i_nlt q2.2), gbx_x1 (dm_1 c), if_neg (by decide), if_neg (by decide), if_neg (by decide), if_pos (show nI 3 = 3 from rfl), gb_x (cs_with hS hm (nI k) (by omega)), gok_e]
        · unfold m_X10_thing; simp only [gj_e]
          rw [gc_1 (show gck 55 = 10 from rfl), gv_e, show gm_r d 55 (upd (d.1 55) 0 0) = dZ d from rfl, gb_x (mt_1 h8 m0 q), if_neg (by decide), gb2_x (bd_0 z0), if_pos rfl, gb_x (in_1 q2), if_neg (by decide), gb2_x (bd_0 z0), if_pos rfl, if_neg (by decide), if_neg (by decide), if_neg (by decide), if_pos (show nI 3 = 3 from rfl), gb_x (md_with rfl h56 hm (nI k) rfl rfl (by omega))]
      · obtain ⟨w, c2, d2, hw20, e1, e2, f1, f2⟩ := wearOf_two (gPt_i hP) ⟨hS, hRw, hM, hL⟩ hkt hn
        refine ans_o (r := nI w) (gRl_wr hZ f1 f2) (by rw [f2.1 55 (by omega)]; exact z0) ?_ ?_
        · unfold m_X9_thing; simp only [gj_e]
          rw [gc_1 (show gck 0 = 9 from rfl), gbx_x1 (dt_1 hS q), if_neg (i_nlt q2.1), if_neg (i_nlt q2.2), gbx_x1 (dm_1 c), if_neg (by decide), if_neg (by decide), if_neg (by decide), if_neg (by decide), gb2_x e1, gok_e]
        · unfold m_X10_thing; simp only [gj_e]
          rw [gc_1 (show gck 55 = 10 from rfl), gv_e, show gm_r d 55 (upd (d.1 55) 0 0) = dZ d from rfl, gb_x (mt_1 h8 m0 q), if_neg (by decide), gb2_x (bd_0 z0), if_pos rfl, gb_x (in_1 q2), if_neg (by decide), gb2_x (bd_0 z0), if_pos rfl, if_neg (by decide), if_neg (by decide), if_neg (by decide), if_neg (by decide), gb2_x e2]
    · refine ans_i (v := 0) (d := d) hZ (by decide) ?_ ?_
      · unfold m_X9_thing; simp only [gj_e]
        rw [gc_1 (show gck 0 = 9 from rfl), gbx_x1 (dt_1 hS q)]
        rcases i_or q2 with q1 | ⟨q1, q3⟩
        · rw [if_pos q1, gbx_x2 (dm_0 c)]
        · rw [if_neg q1, if_pos q3, gbx_x2 (dm_0 c)]
      · unfold m_X10_thing; simp only [gj_e]
        rw [gc_1 (show gck 55 = 10 from rfl), gv_e, show gm_r d 55 (upd (d.1 55) 0 0) = dZ d from rfl, gb_x (mt_1 h8 m0 q), if_neg (by decide), gb2_x (bd_0 z0), if_pos rfl, gb_x (in_0 q2), if_pos rfl, gb2_x (bd_i z0 (by decide)), if_neg (by decide)]
  · refine ans_n (v := 0) (d := d) hZ (by decide) ?_ ?_
    · unfold m_X9_thing
      rw [gc_1 (show gck 0 = 9 from rfl), gbx_x2 (dt_0 hS q)]
    · unfold m_X10_thing; simp only [gj_e]
      rw [gc_1 (show gck 55 = 10 from rfl), gv_e, show gm_r d 55 (upd (d.1 55) 0 0) = dZ d from rfl, gb_x (mt_0 h8 m0 q), if_pos rfl, gb2_x (bd_n z0 (by decide)), if_neg (by decide)]
theorem cry_two {th m p n : Nat} {c d : gm} (h : gRl th m p c d) (hn : 160 < n) (a b : Int32) : gAns 2 1 (m_X9_cry 0 a b c) (m_X10_cry 55 a b d) := by
  have hZ := gRl_dZ h
  have z0 := dZ_0 d
  obtain ⟨hP, hp, ⟨hS, hRw, hM, hL⟩, hTo, hTp, hCn, hBk, hPs, hIm⟩ := id hZ
  obtain ⟨hk, h8, h5, h6, h7, h9, h10, h11, hw, hf, hcp⟩ := id hS
  obtain ⟨m0, m3, -⟩ := id hM
  have hm : m ≤ 10 := hRw.1
  have h56 := hRw.2.1
  by_cases q : 0 ≤ a ∧ a < nI m
  · obtain ⟨k, hkt, rfl⟩ := i_ex2 (by omega) q
    have q9 : ¬ nI m ≤ nI k := by rw [n_le (by omega) (by omega)]; omega
    by_cases q2 : 0 ≤ b ∧ b ≤ 3
    · obtain ⟨j, hj, rfl⟩ := i_ex (y := 3) (by decide) q2
      have e16 : (16 : Int32) + 4 * nI k + nI j = nI (16 + 4 * k + j) := by rw [n_l16, n_l4, n_mu, n_ad, n_ad]
      refine ans_o (r := (dZ d).1 503 (16 + 4 * k + j)) hZ z0 ?_ ?_
      · unfold m_X9_cry; simp only [gj_e]
        rw [if_neg (i_nlt q.1), gc_1 (show gck 0 = 9 from rfl), h6, if_neg q9, gc_1 (show gck 0 = 9 from rfl), gbx_x1 (dp_1 c), if_neg (i_nlt q2.1), if_neg (i_nlt q2.2), gbx_x1 (dm_1 c), gb_x (cs_cry hS hm hkt (by omega)), gok_e]
      · unfold m_X10_cry; simp only [gj_e]
        rw [gc_1 (show gck 55 = 10 from rfl), gv_e, show gm_r d 55 (upd (d.1 55) 0 0) = dZ d from rfl, cl_56, h56, gb_x (in_1 ((mt_e (by omega) _).mpr q)), if_neg (by decide), gb2_x (bd_0 z0), if_pos rfl, gb_x (in_1 q2), if_neg (by decide), gb2_x (bd_0 z0), if_pos rfl, e16, gc_1 (n_rg (by omega) (by omega)), n_cl (by omega)]
    · refine ans_i (v := 0) (d := d) hZ (by decide) ?_ ?_
      · unfold m_X9_cry; simp only [gj_e]
        rw [if_neg (i_nlt q.1), gc_1 (show gck 0 = 9 from rfl), h6, if_neg q9, gc_1 (show gck 0 = 9 from rfl), gbx_x1 (dp_1 c)]
        rcases i_or q2 with q1 | ⟨q1, q3⟩
        · rw [if_pos q1, gbx_x2 (dm_0 c)]
        · rw [if_neg q1, if_pos q3, gbx_x2 (dm_0 c)]
      · unfold m_X10_cry; simp only [gj_e]
        rw [gc_1 (show gck 55 = 10 from rfl), gv_e, show gm_r d 55 (upd (d.1 55) 0 0) = dZ d from rfl, cl_56, h56, gb_x (in_1 ((mt_e (by omega) _).mpr q)), if_neg (by decide), gb2_x (bd_0 z0), if_pos rfl, gb_x (in_0 q2), if_pos rfl, gb2_x (bd_i z0 (by decide)), if_neg (by decide)]
  · refine ans_n (v := 0) (d := d) hZ (by decide) ?_ ?_
    · unfold m_X9_cry; simp only [gj_e]
      skip
      by_cases q1 : a < 0
      · rw [if_pos q1, gc_1 (show gck 0 = 9 from rfl), gbx_x2 (dp_0 c)]
      · rw [if_neg q1, gc_1 (show gck 0 = 9 from rfl), h6, if_pos (Int32.not_lt.mp (fun q3 => q ⟨Int32.not_lt.mp q1, q3⟩)), gc_1 (show gck 0 = 9 from rfl), gbx_x2 (dp_0 c)]
    · unfold m_X10_cry; simp only [gj_e]
      rw [gc_1 (show gck 55 = 10 from rfl), gv_e, show gm_r d 55 (upd (d.1 55) 0 0) = dZ d from rfl, cl_56, h56, gb_x (in_0 (fun q3 => q ((mt_e (by omega) _).mp q3))), if_pos rfl, gb2_x (bd_n z0 (by decide)), if_neg (by decide)]
theorem stands_two {th m p n : Nat} {c d : gm} (h : gRl th m p c d) (hn : 160 < n) (a x b y : Int32) : gAns 2 1 (m_X9_stands 0 a x b y c) (m_X10_stands 55 a x b y d) := by
  have hZ := gRl_dZ h
  have z0 := dZ_0 d
  obtain ⟨hP, hp, ⟨hS, hRw, hM, hL⟩, hTo, hTp, hCn, hBk, hPs, hIm⟩ := id hZ
  obtain ⟨hk, h8, h5, h6, h7, h9, h10, h11, hw, hf, hcp⟩ := id hS
  obtain ⟨m0, m3, -⟩ := id hM
  have hm : m ≤ 10 := hRw.1
  have h56 := hRw.2.1
  by_cases q : 0 ≤ a ∧ a < nI th
  · by_cases q2 : 0 ≤ b ∧ b < nI th
    · by_cases q3 : 1 ≤ x ∧ x ≤ 9
      · by_cases q4 : 1 ≤ y ∧ y ≤ 9
        · obtain ⟨k, hkt, rfl⟩ := i_ex2 (by omega) q
          obtain ⟨j, hjt, rfl⟩ := i_ex2 (by omega) q2
          refine ans_o (r := pSt ((dZ d).1 503 k * x) ((dZ d).1 503 j * y) ((dZ d).1 503 57) (nI p)) hZ z0 ?_ ?_
          · unfold m_X9_stands; simp only [gj_e]
            rw [gc_1 (show gck 0 = 9 from rfl), gbx_x1 (dt_1 hS q), gbx_x1 (dt_1 hS q2), if_neg (i_nlt q3.1), if_neg (i_nlt q3.2), if_neg (i_nlt q4.1), if_neg (i_nlt q4.2), gbx_x1 (dm_1 c), gb_x (cs_standsOf hS hkt hjt x y), gok_e]
          · unfold m_X10_stands; simp only [gj_e]
            rw [gc_1 (show gck 55 = 10 from rfl), gv_e, show gm_r d 55 (upd (d.1 55) 0 0) = dZ d from rfl, gb_x (mt_1 h8 m0 q), if_neg (by decide), gb_x (mt_1 h8 m0 q2), if_neg (by decide), gb2_x (bd_0 z0), if_pos rfl, gb_x (in_1 q3), if_neg (by decide), gb_x (in_1 q4), if_neg (by decide), gb2_x (bd_0 z0), if_pos rfl, gb_x (md_standsIn hM rfl rfl hkt hjt x y)]
        · refine ans_i (v := 0) (d := d) hZ (by decide) ?_ ?_
          · unfold m_X9_stands; simp only [gj_e]
            rw [gc_1 (show gck 0 = 9 from rfl), gbx_x1 (dt_1 hS q), gbx_x1 (dt_1 hS q2), if_neg (i_nlt q3.1), if_neg (i_nlt q3.2)]
            rcases i_or q4 with q5 | ⟨q5, q6⟩
            · rw [if_pos q5, gbx_x2 (dm_0 c)]
            · rw [if_neg q5, if_pos q6, gbx_x2 (dm_0 c)]
          · unfold m_X10_stands; simp only [gj_e]
            rw [gc_1 (show gck 55 = 10 from rfl), gv_e, show gm_r d 55 (upd (d.1 55) 0 0) = dZ d from rfl, gb_x (mt_1 h8 m0 q), if_neg (by decide), gb_x (mt_1 h8 m0 q2), if_neg (by decide), gb2_x (bd_0 z0), if_pos rfl, gb_x (in_1 q3), if_neg (by decide), gb_x (in_0 q4), if_pos rfl, gb2_x (bd_i z0 (by decide)), if_neg (by decide)]
      · refine ans_i (v := 0) (d := d) hZ (by decide) ?_ ?_
        · unfold m_X9_stands; simp only [gj_e]
          rw [gc_1 (show gck 0 = 9 from rfl), gbx_x1 (dt_1 hS q), gbx_x1 (dt_1 hS q2)]
          rcases i_or q3 with q5 | ⟨q5, q6⟩
          · rw [if_pos q5, gbx_x2 (dm_0 c)]
          · rw [if_neg q5, if_pos q6, gbx_x2 (dm_0 c)]
        · unfold m_X10_stands; simp only [gj_e]
          rw [gc_1 (show gck 55 = 10 from rfl), gv_e, show gm_r d 55 (upd (d.1 55) 0 0) = dZ d from rfl, gb_x (mt_1 h8 m0 q), if_neg (by decide), gb_x (mt_1 h8 m0 q2), if_neg (by decide), gb2_x (bd_0 z0), if_pos rfl, gb_x (in_0 q3), if_pos rfl, gb2_x (bd_i z0 (by decide)), if_neg (by decide)]
    · refine ans_n (v := 0) (d := d) hZ (by decide) ?_ ?_
      · unfold m_X9_stands
        rw [gc_1 (show gck 0 = 9 from rfl), gbx_x1 (dt_1 hS q), gbx_x2 (dt_0 hS q2)]
      · unfold m_X10_stands; simp only [gj_e]
        rw [gc_1 (show gck 55 = 10 from rfl), gv_e, show gm_r d 55 (upd (d.1 55) 0 0) = dZ d from rfl, gb_x (mt_1 h8 m0 q), if_neg (by decide), gb_x (mt_0 h8 m0 q2), if_pos rfl, gb2_x (bd_n z0 (by decide)), if_neg (by decide)]
  · refine ans_n (v := 0) (d := d) hZ (by decide) ?_ ?_
    · unfold m_X9_stands
      rw [gc_1 (show gck 0 = 9 from rfl), gbx_x2 (dt_0 hS q)]
    · unfold m_X10_stands; simp only [gj_e]
      rw [gc_1 (show gck 55 = 10 from rfl), gv_e, show gm_r d 55 (upd (d.1 55) 0 0) = dZ d from rfl, gb_x (mt_0 h8 m0 q), if_pos rfl, gb2_x (bd_n z0 (by decide)), if_neg (by decide)]
theorem would_two {th m p n : Nat} {c d : gm} (h : gRl th m p c d) (hn : 160 < n) (a1 a2 a3 a4 a5 a6 a7 : Int32) : gAns 1 0 (m_X9_would n 0 a1 a2 a3 a4 a5 a6 a7 c) (m_X10_would n 55 a1 a2 a3 a4 a5 a6 a7 d) := by
  have hZ := gRl_dZ h
  have z0 := dZ_0 d
  obtain ⟨hP, hp, ⟨hS, hRw, hM, hL⟩, hTo, hTp, hCn, hBk, hPs, hIm⟩ := id hZ
  obtain ⟨hk, h8, h5, h6, h7, h9, h10, h11, hw, hf, hcp⟩ := id hS
  obtain ⟨m0, m3, -⟩ := id hM
  have hm : m ≤ 10 := hRw.1
  have h56 := hRw.2.1
  by_cases q1 : 1 ≤ a1 ∧ a1 ≤ 60
  rotate_left
  · refine ans_i (v := 0) (d := d) hZ (by decide) ?_ ?_
    · unfold m_X9_would; simp only [gj_e]
      skip
      rcases i_or q1 with u | ⟨u, v⟩
      · rw [if_pos u, gc_1 (show gck 0 = 9 from rfl), gbx_x2 (dm_0 c)]
      · rw [if_neg u, if_pos v, gc_1 (show gck 0 = 9 from rfl), gbx_x2 (dm_0 c)]
    · unfold m_X10_would; simp only [gj_e]
      rw [gc_1 (show gck 55 = 10 from rfl), gv_e, show gm_r d 55 (upd (d.1 55) 0 0) = dZ d from rfl, gb_x (in_0 q1), if_pos rfl, gb2_x (bd_i z0 (by decide)), if_neg (by decide)]
  by_cases q2 : 0 ≤ a2 ∧ a2 ≤ 999
  rotate_left
  · refine ans_i (v := 0) (d := d) hZ (by decide) ?_ ?_
    · unfold m_X9_would; simp only [gj_e]
      rw [if_neg (i_nlt q1.1), if_neg (i_nlt q1.2), gc_1 (show gck 0 = 9 from rfl), gbx_x1 (dm_1 c)]
      rcases i_or q2 with u | ⟨u, v⟩
      · rw [if_pos u, gbx_x2 (dm_0 c)]
      · rw [if_neg u, if_pos v, gbx_x2 (dm_0 c)]
    · unfold m_X10_would; simp only [gj_e]
      rw [gc_1 (show gck 55 = 10 from rfl), gv_e, show gm_r d 55 (upd (d.1 55) 0 0) = dZ d from rfl, gb_x (in_1 q1), if_neg (by decide), gb_x (in_0 q2), if_pos rfl, gb2_x (bd_i z0 (by decide)), if_neg (by decide)]
  by_cases q3 : 0 ≤ a3 ∧ a3 ≤ 10
  rotate_left
  · refine ans_i (v := 0) (d := d) hZ (by decide) ?_ ?_
    · unfold m_X9_would; simp only [gj_e]
      rw [if_neg (i_nlt q1.1), if_neg (i_nlt q1.2), gc_1 (show gck 0 = 9 from rfl), gbx_x1 (dm_1 c), if_neg (i_nlt q2.1), if_neg (i_nlt q2.2), gbx_x1 (dm_1 c)]
      rcases i_or q3 with u | ⟨u, v⟩
      · rw [if_pos u, gbx_x2 (dm_0 c)]
      · rw [if_neg u, if_pos v, gbx_x2 (dm_0 c)]
    · unfold m_X10_would; simp only [gj_e]
      rw [gc_1 (show gck 55 = 10 from rfl), gv_e, show gm_r d 55 (upd (d.1 55) 0 0) = dZ d from rfl, gb_x (in_1 q1), if_neg (by decide), gb_x (in_1 q2), if_neg (by decide), gb_x (in_0 q3), if_pos rfl, gb2_x (bd_i z0 (by decide)), if_neg (by decide)]
  by_cases q4 : 0 ≤ a4 ∧ a4 ≤ 7
  rotate_left
  · refine ans_i (v := 0) (d := d) hZ (by decide) ?_ ?_
    · unfold m_X9_would; simp only [gj_e]
      rw [if_neg (i_nlt q1.1), if_neg (i_nlt q1.2), gc_1 (show gck 0 = 9 from rfl), gbx_x1 (dm_1 c), if_neg (i_nlt q2.1), if_neg (i_nlt q2.2), gbx_x1 (dm_1 c), if_neg (i_nlt q3.1), if_neg (i_nlt q3.2), gbx_x1 (dm_1 c)]
      by_cases u : a4 < 0
      · rw [if_pos u, gbx_x2 (dm_0 c)]
      · rw [if_neg u, if_pos (w7 (fun u2 => q4 ⟨Int32.not_lt.mp u, u2⟩)), gbx_x2 (dm_0 c)]
    · unfold m_X10_would; simp only [gj_e]
      rw [gc_1 (show gck 55 = 10 from rfl), gv_e, show gm_r d 55 (upd (d.1 55) 0 0) = dZ d from rfl, gb_x (in_1 q1), if_neg (by decide), gb_x (in_1 q2), if_neg (by decide), gb_x (in_1 q3), if_neg (by decide), gb_x (in_0 q4), if_pos rfl, gb2_x (bd_i z0 (by decide)), if_neg (by decide)]
  have q4u : ¬ 8 ≤ a4 := w8 q4.2
  by_cases q5 : 0 ≤ a5 ∧ a5 ≤ 300
  rotate_left
  · refine ans_i (v := 0) (d := d) hZ (by decide) ?_ ?_
    · unfold m_X9_would; simp only [gj_e]
      rw [if_neg (i_nlt q1.1), if_neg (i_nlt q1.2), gc_1 (show gck 0 = 9 from rfl), gbx_x1 (dm_1 c), if_neg (i_nlt q2.1), if_neg (i_nlt q2.2), gbx_x1 (dm_1 c), if_neg (i_nlt q3.1), if_neg (i_nlt q3.2), gbx_x1 (dm_1 c), if_neg (i_nlt q4.1), if_neg q4u, gbx_x1 (dm_1 c)]
      rcases i_or q5 with u | ⟨u, v⟩
      · rw [if_pos u, gbx_x2 (dm_0 c)]
      · rw [if_neg u, if_pos v, gbx_x2 (dm_0 c)]
    · unfold m_X10_would; simp only [gj_e]
      rw [gc_1 (show gck 55 = 10 from rfl), gv_e, show gm_r d 55 (upd (d.1 55) 0 0) = dZ d from rfl, gb_x (in_1 q1), if_neg (by decide), gb_x (in_1 q2), if_neg (by decide), gb_x (in_1 q3), if_neg (by decide), gb_x (in_1 q4), if_neg (by decide), gb_x (in_0 q5), if_pos rfl, gb2_x (bd_i z0 (by decide)), if_neg (by decide)]
  by_cases q6 : 0 ≤ a6 ∧ a6 ≤ 18
  rotate_left
  · refine ans_i (v := 0) (d := d) hZ (by decide) ?_ ?_
    · unfold m_X9_would; simp only [gj_e]
      rw [if_neg (i_nlt q1.1), if_neg (i_nlt q1.2), gc_1 (show gck 0 = 9 from rfl), gbx_x1 (dm_1 c), if_neg (i_nlt q2.1), if_neg (i_nlt q2.2), gbx_x1 (dm_1 c), if_neg (i_nlt q3.1), if_neg (i_nlt q3.2), gbx_x1 (dm_1 c), if_neg (i_nlt q4.1), if_neg q4u, gbx_x1 (dm_1 c), if_neg (i_nlt q5.1), if_neg (i_nlt q5.2), gbx_x1 (dm_1 c)]
      rcases i_or q6 with u | ⟨u, v⟩
      · rw [if_pos u, gbx_x2 (dm_0 c)]
      · rw [if_neg u, if_pos v, gbx_x2 (dm_0 c)]
    · unfold m_X10_would; simp only [gj_e]
      rw [gc_1 (show gck 55 = 10 from rfl), gv_e, show gm_r d 55 (upd (d.1 55) 0 0) = dZ d from rfl, gb_x (in_1 q1), if_neg (by decide), gb_x (in_1 q2), if_neg (by decide), gb_x (in_1 q3), if_neg (by decide), gb_x (in_1 q4), if_neg (by decide), gb_x (in_1 q5), if_neg (by decide), gb_x (in_0 q6), if_pos rfl, gb2_x (bd_i z0 (by decide)), if_neg (by decide)]
  by_cases q7 : 0 ≤ a7 ∧ a7 ≤ 9
  rotate_left
  · refine ans_i (v := 0) (d := d) hZ (by decide) ?_ ?_
    · unfold m_X9_would; simp only [gj_e]
      rw [if_neg (i_nlt q1.1), if_neg (i_nlt q1.2), gc_1 (show gck 0 = 9 from rfl), gbx_x1 (dm_1 c), if_neg (i_nlt q2.1), if_neg (i_nlt q2.2), gbx_x1 (dm_1 c), if_neg (i_nlt q3.1), if_neg (i_nlt q3.2), gbx_x1 (dm_1 c), if_neg (i_nlt q4.1), if_neg q4u, gbx_x1 (dm_1 c), if_neg (i_nlt q5.1), if_neg (i_nlt q5.2), gbx_x1 (dm_1 c), if_neg (i_nlt q6.1), if_neg (i_nlt q6.2), gbx_x1 (dm_1 c)]
      rcases i_or q7 with u | ⟨u, v⟩
      · rw [if_pos u, gbx_x2 (dm_0 c)]
      · rw [if_neg u, if_pos v, gbx_x2 (dm_0 c)]
    · unfold m_X10_would; simp only [gj_e]
      rw [gc_1 (show gck 55 = 10 from rfl), gv_e, show gm_r d 55 (upd (d.1 55) 0 0) = dZ d from rfl, gb_x (in_1 q1), if_neg (by decide), gb_x (in_1 q2), if_neg (by decide), gb_x (in_1 q3), if_neg (by decide), gb_x (in_1 q4), if_neg (by decide), gb_x (in_1 q5), if_neg (by decide), gb_x (in_1 q6), if_neg (by decide), gb_x (in_0 q7), if_pos rfl, gb2_x (bd_i z0 (by decide)), if_neg (by decide)]
  have hk3 : gck (c.2.2 0) = 3 := hL.1
  obtain ⟨w, c2, d2, hw20, e1, e2, f1, f2⟩ := wear_two hL a1 a2 a3 a4 a5 a6 a7 hn
  refine ans_o (r := nI w) (gRl_wr hZ f1 f2) (by rw [f2.1 55 (by omega)]; exact z0) ?_ ?_
  · unfold m_X9_would; simp only [gj_e]
    rw [if_neg (i_nlt q1.1), if_neg (i_nlt q1.2), gc_1 (show gck 0 = 9 from rfl), gbx_x1 (dm_1 c), if_neg (i_nlt q2.1), if_neg (i_nlt q2.2), gbx_x1 (dm_1 c), if_neg (i_nlt q3.1), if_neg (i_nlt q3.2), gbx_x1 (dm_1 c), if_neg (i_nlt q4.1), if_neg q4u, gbx_x1 (dm_1 c), if_neg (i_nlt q5.1), if_neg (i_nlt q5.2), gbx_x1 (dm_1 c), if_neg (i_nlt q6.1), if_neg (i_nlt q6.2), gbx_x1 (dm_1 c), if_neg (i_nlt q7.1), if_neg (i_nlt q7.2), gbx_x1 (dm_1 c), gc_1 hk3, gb2_x e1, gok_e]
  · unfold m_X10_would; simp only [gj_e]
    rw [gc_1 (show gck 55 = 10 from rfl), gv_e, show gm_r d 55 (upd (d.1 55) 0 0) = dZ d from rfl, gb_x (in_1 q1), if_neg (by decide), gb_x (in_1 q2), if_neg (by decide), gb_x (in_1 q3), if_neg (by decide), gb_x (in_1 q4), if_neg (by decide), gb_x (in_1 q5), if_neg (by decide), gb_x (in_1 q6), if_neg (by decide), gb_x (in_1 q7), if_neg (by decide), gb2_x (bd_0 z0), if_pos rfl, gb2_x e2]
theorem heaviest_two {th m p n : Nat} {c d : gm} (h : gRl th m p c d) (hn : 160 < n) (a : Int32) : gAns 1 0 (m_X9_heaviest n 0 a c) (m_X10_heaviest n 55 a d) := by
  have hZ := gRl_dZ h
  have z0 := dZ_0 d
  obtain ⟨hP, hp, ⟨hS, hRw, hM, hL⟩, hTo, hTp, hCn, hBk, hPs, hIm⟩ := id hZ
  obtain ⟨hk, h8, h5, h6, h7, h9, h10, h11, hw, hf, hcp⟩ := id hS
  obtain ⟨m0, m3, -⟩ := id hM
  have hm : m ≤ 10 := hRw.1
  have h56 := hRw.2.1
  by_cases q : 0 ≤ a ∧ a ≤ 1
  · obtain ⟨k, hk1, rfl⟩ := i_ex (y := 1) (by decide) q
    have eC := cs_heavy hS (show 20 < n by omega)
    have eD := md_heavy hM (a1 := 503) rfl rfl (show 20 < n by omega)
    rcases (by omega : k = 0 ∨ k = 1) with rfl | rfl
    · refine ans_o (r := pHv th ((dZ d).1 503)) hZ z0 ?_ ?_
      · unfold m_X9_heaviest; simp only [gj_e]
        rw [if_pos (show nI 0 = 0 from rfl), gc_1 (show gck 0 = 9 from rfl), gbx_x1 (dm_1 c), gb_x eC, if_pos (show nI 0 = 0 from rfl), gok_e]
      · unfold m_X10_heaviest; simp only [gj_e]
        rw [gc_1 (show gck 55 = 10 from rfl), gv_e, show gm_r d 55 (upd (d.1 55) 0 0) = dZ d from rfl, gb_x (in_1 q), if_neg (by decide), gb2_x (bd_0 z0), if_pos rfl, gb_x eD, if_pos (show nI 0 = 0 from rfl)]
    · rcases pHv_b ((dZ d).1 503) (th := th) th (Nat.le_refl _) with e | ⟨b, hb, e⟩
      · refine ans_o (r := -1) hZ z0 ?_ ?_
        · unfold m_X9_heaviest; simp only [gj_e]
          rw [if_neg (show ¬ nI 1 = 0 by decide), if_pos (show nI 1 = 1 from rfl), gc_1 (show gck 0 = 9 from rfl), gbx_x1 (dm_1 c), gb_x eC, if_neg (show ¬ nI 1 = 0 by decide), e, if_pos rfl, gok_e]
        · unfold m_X10_heaviest; simp only [gj_e]
          rw [gc_1 (show gck 55 = 10 from rfl), gv_e, show gm_r d 55 (upd (d.1 55) 0 0) = dZ d from rfl, gb_x (in_1 q), if_neg (by decide), gb2_x (bd_0 z0), if_pos rfl, gb_x eD, if_neg (show ¬ nI 1 = 0 by decide), e, if_pos rfl]
      · have eb : ¬ nI b = -1 := by rw [n_ne (by omega)]; exact id
        refine ans_o (r := (dZ d).1 503 b) hZ z0 ?_ ?_
        · unfold m_X9_heaviest; simp only [gj_e]
          rw [if_neg (show ¬ nI 1 = 0 by decide), if_pos (show nI 1 = 1 from rfl), gc_1 (show gck 0 = 9 from rfl), gbx_x1 (dm_1 c), gb_x eC, if_neg (show ¬ nI 1 = 0 by decide), e, if_neg eb, gb_x (cs_weight hS hb), gok_e]
        · unfold m_X10_heaviest; simp only [gj_e]
          rw [gc_1 (show gck 55 = 10 from rfl), gv_e, show gm_r d 55 (upd (d.1 55) 0 0) = dZ d from rfl, gb_x (in_1 q), if_neg (by decide), gb2_x (bd_0 z0), if_pos rfl, gb_x eD, if_neg (show ¬ nI 1 = 0 by decide), e, if_neg eb, n_z, gc_1 (n_rg (by omega) (by omega)), n_cl (by omega)]
  · refine ans_i (v := 0) (d := d) hZ (by decide) ?_ ?_
    · unfold m_X9_heaviest; simp only [gj_e]
      rw [if_neg (w01 q).1, if_neg (w01 q).2, gc_1 (show gck 0 = 9 from rfl), gbx_x2 (dm_0 c)]
    · unfold m_X10_heaviest; simp only [gj_e]
      rw [gc_1 (show gck 55 = 10 from rfl), gv_e, show gm_r d 55 (upd (d.1 55) 0 0) = dZ d from rfl, gb_x (in_0 q), if_pos rfl, gb2_x (bd_i z0 (by decide)), if_neg (by decide)]
