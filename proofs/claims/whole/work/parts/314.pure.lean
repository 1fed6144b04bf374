set_option maxRecDepth 16384
theorem alike_in {th m n k : Nat} {pl : Int32} {r : Nat → Int32} {c d : gm} (hS : gSt 3 c th m pl r) (er : d.1 503 = r) (m0 : d.1 59 0 = nI th) (hn : 160 < n) (hkt : k < th) (x y : Int32) : ∃ v : Int32 × Int32, gloop (gu2 (fun (y20 : Int32) => gu2 (fun (y21 : Int32) (y22 : Int32) => m_X9_alike_L43 c (nI k) y20 y21 y22))) n (x, y, nI (k + 1)) = some v ∧ gloop (gu2 (fun (y26 : Int32) => gu2 (fun (y27 : Int32) (y28 : Int32) => m_X10_alike_L54 d (nI k) y26 y27 y28))) n (x, y, nI (k + 1)) = some v := by
  obtain ⟨hk, h8, h5, h6, h7, h9, h10, h11, hw, hf, hcp⟩ := id hS
  obtain ⟨u, v, e1, e2, e3⟩ := gloop_two (f := gu2 (fun (y20 : Int32) => gu2 (fun (y21 : Int32) (y22 : Int32) => m_X9_alike_L43 c (nI k) y20 y21 y22))) (g := gu2 (fun (y26 : Int32) => gu2 (fun (y27 : Int32) (y28 : Int32) => m_X10_alike_L54 d (nI k) y26 y27 y28))) (fun q (a : Int32 × Int32 × Int32) (b : Int32 × Int32 × Int32) => ∃ j x y, j ≤ th ∧ q + j = th ∧ a = (x, y, nI j) ∧ b = a) (fun u v => u = v) (n := n) (r := th - (k + 1)) (a := (x, y, nI (k + 1))) (x := (x, y, nI (k + 1))) (by
    rintro q a b ⟨j, x, y, hj, hq, rfl, rfl⟩
    by_cases hjt : j = th
    · right
      refine ⟨(x, y), (x, y), ?_, ?_, rfl⟩
      · show m_X9_alike_L43 c (nI k) x y (nI j) = _
        unfold m_X9_alike_L43
        rw [h5, if_pos (by rw [n_le (by omega) (by omega)]; omega)]
      · show m_X10_alike_L54 d (nI k) x y (nI j) = _
        unfold m_X10_alike_L54
        rw [n_cl0, m0, if_pos (by rw [n_le (by omega) (by omega)]; omega)]
    · left
      have q1 : ¬ nI th ≤ nI j := by rw [n_le (by omega) (by omega)]; omega
      by_cases e : r k = r j
      · by_cases e2 : x = 0
        · refine ⟨(x + 1, 10 * nI k + nI j, nI (j + 1)), (x + 1, 10 * nI k + nI j, nI (j + 1)), q - 1, ?_, ?_, by omega, j + 1, _, _, by omega, by omega, rfl, rfl⟩
          · show m_X9_alike_L43 c (nI k) x y (nI j) = _
            unfold m_X9_alike_L43; simp only [gj_e]
            rw [h5, if_neg q1, gb_x (cs_weight hS hkt), gb_x (cs_weight hS (by omega)), if_pos e, if_pos e2, gv_e, gu2_e, gv_e, n_s]
          · show m_X10_alike_L54 d (nI k) x y (nI j) = _
            unfold m_X10_alike_L54; simp only [gj_e]
            rw [n_cl0, m0, if_neg q1, n_z, n_z, gc_1 (n_rg (by omega) (by omega)), gc_1 (n_rg (by omega) (by omega)), n_cl (by omega), n_cl (by omega), er, if_pos e, if_pos e2, gv_e, gu2_e, gv_e, n_s]
        · refine ⟨(x + 1, y, nI (j + 1)), (x + 1, y, nI (j + 1)), q - 1, ?_, ?_, by omega, j + 1, _, _, by omega, by omega, rfl, rfl⟩
          · show m_X9_alike_L43 c (nI k) x y (nI j) = _
            unfold m_X9_alike_L43; simp only [gj_e]
            rw [h5, if_neg q1, gb_x (cs_weight hS hkt), gb_x (cs_weight hS (by omega)), if_pos e, if_neg e2, gv_e, gu2_e, gv_e, n_s]
          · show m_X10_alike_L54 d (nI k) x y (nI j) = _
            unfold m_X10_alike_L54; simp only [gj_e]
            rw [n_cl0, m0, if_neg q1, n_z, n_z, gc_1 (n_rg (by omega) (by omega)), gc_1 (n_rg (by omega) (by omega)), n_cl (by omega), n_cl (by omega), er, if_pos e, if_neg e2, gv_e, gu2_e, gv_e, n_s]
      · refine ⟨(x, y, nI (j + 1)), (x, y, nI (j + 1)), q - 1, ?_, ?_, by omega, j + 1, _, _, by omega, by omega, rfl, rfl⟩
        · show m_X9_alike_L43 c (nI k) x y (nI j) = _
          unfold m_X9_alike_L43; simp only [gj_e]
          rw [h5, if_neg q1, gb_x (cs_weight hS hkt), gb_x (cs_weight hS (by omega)), if_neg e, gu2_e, gv_e, n_s]
        · show m_X10_alike_L54 d (nI k) x y (nI j) = _
          unfold m_X10_alike_L54; simp only [gj_e]
          rw [n_cl0, m0, if_neg q1, n_z, n_z, gc_1 (n_rg (by omega) (by omega)), gc_1 (n_rg (by omega) (by omega)), n_cl (by omega), n_cl (by omega), er, if_neg e, gu2_e, gv_e, n_s]) ⟨k + 1, x, y, by omega, by omega, rfl, rfl⟩ (by omega)
  exact ⟨u, e1, by rw [e3]; exact e2⟩
theorem alike_out {th m n : Nat} {pl : Int32} {r : Nat → Int32} {c d : gm} (hS : gSt 3 c th m pl r) (er : d.1 503 = r) (m0 : d.1 59 0 = nI th) (hn : 160 < n) : ∃ v : Int32 × Int32, gloop (gu2 (fun (y9 : Int32) => gu2 (fun (y10 : Int32) (y11 : Int32) => m_X9_alike_L25 n c y9 y10 y11))) n (0, (-1), 0) = some v ∧ gloop (gu2 (fun (y13 : Int32) => gu2 (fun (y14 : Int32) (y15 : Int32) => m_X10_alike_L37 n d y13 y14 y15))) n (0, (-1), 0) = some v := by
  obtain ⟨hk, h8, h5, h6, h7, h9, h10, h11, hw, hf, hcp⟩ := id hS
  obtain ⟨u, v, e1, e2, e3⟩ := gloop_two (f := gu2 (fun (y9 : Int32) => gu2 (fun (y10 : Int32) (y11 : Int32) => m_X9_alike_L25 n c y9 y10 y11))) (g := gu2 (fun (y13 : Int32) => gu2 (fun (y14 : Int32) (y15 : Int32) => m_X10_alike_L37 n d y13 y14 y15))) (fun q (a : Int32 × Int32 × Int32) (b : Int32 × Int32 × Int32) => ∃ j x y, j ≤ th ∧ q + j = th ∧ a = (x, y, nI j) ∧ b = a) (fun u v => u = v) (n := n) (r := th) (a := (0, (-1), 0)) (x := (0, (-1), 0)) (by
    rintro q a b ⟨j, x, y, hj, hq, rfl, rfl⟩
    by_cases hjt : j = th
    · right
      refine ⟨(x, y), (x, y), ?_, ?_, rfl⟩
      · show m_X9_alike_L25 n c x y (nI j) = _
        unfold m_X9_alike_L25
        rw [h5, if_pos (by rw [n_le (by omega) (by omega)]; omega)]
      · show m_X10_alike_L37 n d x y (nI j) = _
        unfold m_X10_alike_L37
        rw [n_cl0, m0, if_pos (by rw [n_le (by omega) (by omega)]; omega)]
    · left
      have q1 : ¬ nI th ≤ nI j := by rw [n_le (by omega) (by omega)]; omega
      obtain ⟨⟨v1, v2⟩, i1, i2⟩ := alike_in hS er m0 hn (show j < th by omega) x y
      refine ⟨(v1, v2, nI (j + 1)), (v1, v2, nI (j + 1)), q - 1, ?_, ?_, by omega, j + 1, _, _, by omega, by omega, rfl, rfl⟩
      · show m_X9_alike_L25 n c x y (nI j) = _
        unfold m_X9_alike_L25
        rw [h5, if_neg q1, gv_e, n_s, gb_x i1, gu2_e, gv_e]
      · show m_X10_alike_L37 n d x y (nI j) = _
        unfold m_X10_alike_L37
        rw [n_cl0, m0, if_neg q1, gv_e, n_s, gb_x i2, gu2_e, gv_e]) ⟨0, 0, -1, by omega, by omega, rfl, rfl⟩ (by omega)
  exact ⟨u, e1, by rw [e3]; exact e2⟩
theorem alike_two {th m p n : Nat} {c d : gm} (h : gRl th m p c d) (hn : 160 < n) (a : Int32) : gAns 1 0 (m_X9_alike n 0 a c) (m_X10_alike n 55 a d) := by
  have hZ := gRl_dZ h
  have z0 := dZ_0 d
  obtain ⟨hP, hp, ⟨hS, hRw, hM, hL⟩, hTo, hTp, hCn, hBk, hPs, hIm⟩ := id hZ
  obtain ⟨hk, h8, h5, h6, h7, h9, h10, h11, hw, hf, hcp⟩ := id hS
  obtain ⟨m0, m3, -⟩ := id hM
  have hm : m ≤ 10 := hRw.1
  have h56 := hRw.2.1
  by_cases q : 0 ≤ a ∧ a ≤ 1
  · obtain ⟨k, hk1, rfl⟩ := i_ex (y := 1) (by decide) q
    obtain ⟨⟨v1, v2⟩, i1, i2⟩ := alike_out (d := dZ d) hS rfl m0 hn
    rcases (by omega : k = 0 ∨ k = 1) with rfl | rfl
    · refine ans_o (r := v1) hZ z0 ?_ ?_
      · unfold m_X9_alike; simp only [gj_e]
        rw [if_pos (show nI 0 = 0 from rfl), gc_1 (show gck 0 = 9 from rfl), gbx_x1 (dm_1 c), gb_x i1, gu2_e, if_pos (show nI 0 = 0 from rfl), gok_e]
      · unfold m_X10_alike; simp only [gj_e]
        rw [gc_1 (show gck 55 = 10 from rfl), gv_e, show gm_r d 55 (upd (d.1 55) 0 0) = dZ d from rfl, gb_x (in_1 q), if_neg (by decide), gb2_x (bd_0 z0), if_pos rfl, gb_x i2, gu2_e, if_pos (show nI 0 = 0 from rfl)]
    · refine ans_o (r := v2) hZ z0 ?_ ?_
      · unfold m_X9_alike; simp only [gj_e]
        rw [if_neg (show ¬ nI 1 = 0 by decide), if_pos (show nI 1 = 1 from rfl), gc_1 (show gck 0 = 9 from rfl), gbx_x1 (dm_1 c), gb_x i1, gu2_e, if_neg (show ¬ nI 1 = 0 by decide), gok_e]
      · unfold m_X10_alike; simp only [gj_e]
        rw [gc_1 (show gck 55 = 10 from rfl), gv_e, show gm_r d 55 (upd (d.1 55) 0 0) = dZ d from rfl, gb_x (in_1 q), if_neg (by decide), gb2_x (bd_0 z0), if_pos rfl, gb_x i2, gu2_e, if_neg (show ¬ nI 1 = 0 by decide)]
  · refine ans_i (v := 0) (d := d) hZ (by decide) ?_ ?_
    · unfold m_X9_alike; simp only [gj_e]
      rw [if_neg (w01 q).1, if_neg (w01 q).2, gc_1 (show gck 0 = 9 from rfl), gbx_x2 (dm_0 c)]
    · unfold m_X10_alike; simp only [gj_e]
      rw [gc_1 (show gck 55 = 10 from rfl), gv_e, show gm_r d 55 (upd (d.1 55) 0 0) = dZ d from rfl, gb_x (in_0 q), if_pos rfl, gb2_x (bd_i z0 (by decide)), if_neg (by decide)]
theorem against_two {th m p n : Nat} {c d : gm} (h : gRl th m p c d) (hn : 160 < n) (a b : Int32) : gAns 0 1 (m_X9_against n 0 a b c) (m_X10_against n 55 a b d) := by
  have hZ := gRl_dZ h
  have z0 := dZ_0 d
  obtain ⟨hP, hp, ⟨hS, hRw, hM, hL⟩, hTo, hTp, hCn, hBk, hPs, hIm⟩ := id hZ
  obtain ⟨hk, h8, h5, h6, h7, h9, h10, h11, hw, hf, hcp⟩ := id hS
  obtain ⟨m0, m3, -⟩ := id hM
  have hm : m ≤ 10 := hRw.1
  have h56 := hRw.2.1
  by_cases q : 0 ≤ a ∧ a < nI th
  · by_cases q2 : 0 ≤ b ∧ b < nI th
    · obtain ⟨k, hkt, rfl⟩ := i_ex2 (by omega) q
      obtain ⟨j, hjt, rfl⟩ := i_ex2 (by omega) q2
      obtain ⟨u, v, e1, e2, e3⟩ := gloop_two (f := fun (y10 : Int32) => m_X9_against_L12 (nI k) (nI j) c y10) (g := fun (y13 : Int32) => m_X10_against_L39 (nI k) (nI j) (dZ d) y13) (fun z (x : Int32) (y : Int32) => ∃ i, 1 ≤ i ∧ i ≤ 10 ∧ z + i = 10 ∧ x = nI i ∧ y = nI i) (fun u v => (∃ i, 1 ≤ i ∧ i ≤ 9 ∧ u = .inl (nI i, c) ∧ v = nI i) ∨ (u = .inr () ∧ v = nI 10)) (n := n) (r := 9) (a := 1) (x := 1) (by
        rintro z x y ⟨i, i1, i10, hz, rfl, rfl⟩
        by_cases hi : i = 10
        · right
          subst hi
          refine ⟨.inr (), nI 10, ?_, ?_, Or.inr ⟨rfl, rfl⟩⟩
          · show m_X9_against_L12 _ _ _ _ = _
            unfold m_X9_against_L12
            rw [if_pos (show (9 : Int32) < nI 10 by decide)]
          · show m_X10_against_L39 _ _ _ _ = _
            unfold m_X10_against_L39
            rw [if_pos (show (10 : Int32) ≤ nI 10 by decide)]
        · have p1 : ¬ (9 : Int32) < nI i := by rw [n_l9, n_lt (by decide) (by omega)]; omega
          have p2 : ¬ (10 : Int32) ≤ nI i := by rw [n_l10, n_le (by decide) (by omega)]; omega
          have ec : m_X9_against_L12 (nI k) (nI j) c (nI i) = if ((dZ d).1 503 k * nI i) < (dZ d).1 503 j then some (.inl (nI (i + 1))) else some (.inr (.inl (nI i, c))) := by
            unfold m_X9_against_L12
            rw [if_neg p1, gb_x (cs_weight hS hkt), gb_x (cs_weight hS hjt), gv_e, n_s]
          have ed : m_X10_against_L39 (nI k) (nI j) (dZ d) (nI i) = if (dZ d).1 503 j ≤ ((dZ d).1 503 k * nI i) then some (.inr (nI i)) else some (.inl (nI (i + 1))) := by
            unfold m_X10_against_L39
            rw [if_neg p2, n_z, n_z, gc_1 (n_rg (by omega) (by omega)), gc_1 (n_rg (by omega) (by omega)), n_cl (by omega), n_cl (by omega), gv_e, n_s]
          by_cases e : (dZ d).1 503 j ≤ ((dZ d).1 503 k * nI i)
          · right
            refine ⟨.inl (nI i, c), nI i, ?_, ?_, Or.inl ⟨i, i1, by omega, rfl, rfl⟩⟩
            · show m_X9_against_L12 _ _ _ _ = _
              rw [ec, if_neg (i_nlt e)]
            · show m_X10_against_L39 _ _ _ _ = _
              rw [ed, if_pos e]
          · left
            refine ⟨nI (i + 1), nI (i + 1), z - 1, ?_, ?_, by omega, i + 1, by omega, by omega, by omega, rfl, rfl⟩
            · show m_X9_against_L12 _ _ _ _ = _
              rw [ec, if_pos (Int32.not_le.mp e)]
            · show m_X10_against_L39 _ _ _ _ = _
              rw [ed, if_neg e]) ⟨1, by omega, by omega, by omega, rfl, rfl⟩ (by omega)
      rcases e3 with ⟨i, i1, i9, rfl, rfl⟩ | ⟨rfl, rfl⟩
      · refine ans_o (r := nI i) hZ z0 ?_ ?_
        · unfold m_X9_against
          rw [gc_1 (show gck 0 = 9 from rfl), gbx_x1 (dt_1 hS q), gbx_x1 (dt_1 hS q2), gb_x e1, gsm_e1, gok_e]
        · unfold m_X10_against; simp only [gj_e]
          rw [gc_1 (show gck 55 = 10 from rfl), gv_e, show gm_r d 55 (upd (d.1 55) 0 0) = dZ d from rfl, gb_x (mt_1 h8 m0 q), if_neg (by decide), gb_x (mt_1 h8 m0 q2), if_neg (by decide), gb2_x (bd_0 z0), if_pos rfl, gb_x e2, if_neg (by rw [n_l10, n_eq (by omega) (by omega)]; omega)]
      · refine ans_o (r := -1) hZ z0 ?_ ?_
        · unfold m_X9_against
          rw [gc_1 (show gck 0 = 9 from rfl), gbx_x1 (dt_1 hS q), gbx_x1 (dt_1 hS q2), gb_x e1, gsm_e2, gok_e]
        · unfold m_X10_against; simp only [gj_e]
          rw [gc_1 (show gck 55 = 10 from rfl), gv_e, show gm_r d 55 (upd (d.1 55) 0 0) = dZ d from rfl, gb_x (mt_1 h8 m0 q), if_neg (by decide), gb_x (mt_1 h8 m0 q2), if_neg (by decide), gb2_x (bd_0 z0), if_pos rfl, gb_x e2, if_pos (show nI 10 = 10 from rfl)]
    · refine ans_n (v := 0) (d := d) hZ (by decide) ?_ ?_
      · unfold m_X9_against
        rw [gc_1 (show gck 0 = 9 from rfl), gbx_x1 (dt_1 hS q), gbx_x2 (dt_0 hS q2)]
      · unfold m_X10_against; simp only [gj_e]
        rw [gc_1 (show gck 55 = 10 from rfl), gv_e, show gm_r d 55 (upd (d.1 55) 0 0) = dZ d from rfl, gb_x (mt_1 h8 m0 q), if_neg (by decide), gb_x (mt_0 h8 m0 q2), if_pos rfl, gb2_x (bd_n z0 (by decide)), if_neg (by decide)]
  · refine ans_n (v := 0) (d := d) hZ (by decide) ?_ ?_
    · unfold m_X9_against
      rw [gc_1 (show gck 0 = 9 from rfl), gbx_x2 (dt_0 hS q)]
    · unfold m_X10_against; simp only [gj_e]
      rw [gc_1 (show gck 55 = 10 from rfl), gv_e, show gm_r d 55 (upd (d.1 55) 0 0) = dZ d from rfl, gb_x (mt_0 h8 m0 q), if_pos rfl, gb2_x (bd_n z0 (by decide)), if_neg (by decide)]
theorem fa_half : ∀ k, 2 ≤ k → k ≤ 10 → (nI (3 ^ k) - 3) / 2 = nI ((3 ^ k - 3) / 2) ∧ nI (3 ^ k) * 3 = nI (3 ^ (k + 1)) := by
  have h : ∀ k, k < 11 → 2 ≤ k → (nI (3 ^ k) - 3) / 2 = nI ((3 ^ k - 3) / 2) ∧ nI (3 ^ k) * 3 = nI (3 ^ (k + 1)) := by decide +kernel
  exact fun k h1 h2 => h k (by omega) h1
theorem falsely_lp {n a : Nat} (hn : 160 < n) (ha : a ≤ 9999) : ∃ v : Int32, gloop (gu2 (fun (y10 : Int32) (y11 : Int32) => m_X9_falsely_L33 (nI a) y10 y11)) n (9, 2) = some v ∧ gloop (gu2 (fun (y13 : Int32) (y14 : Int32) => m_X10_falsely_L37 (nI a) y13 y14)) n (2, 9) = some v := by
  obtain ⟨u, v, e1, e2, e3⟩ := gloop_two (f := gu2 (fun (y10 : Int32) (y11 : Int32) => m_X9_falsely_L33 (nI a) y10 y11)) (g := gu2 (fun (y13 : Int32) (y14 : Int32) => m_X10_falsely_L37 (nI a) y13 y14)) (fun z (x : Int32 × Int32) (y : Int32 × Int32) => ∃ k, 2 ≤ k ∧ k ≤ 10 ∧ z + k = 10 ∧ x = (nI (3 ^ k), nI k) ∧ y = (nI k, nI (3 ^ k))) (fun u v => u = v) (n := n) (r := 8) (a := (9, 2)) (x := (2, 9)) (by
    rintro z x y ⟨k, k2, k10, hz, rfl, rfl⟩
    obtain ⟨h1, h2⟩ := fa_half k k2 k10
    have p1 : ¬ (20 : Int32) ≤ nI k := by rw [n_l20, n_le (by decide) (by omega)]; omega
    have hb : (3 ^ k - 3) / 2 < 2147483648 := by
      have : 3 ^ k ≤ 3 ^ 10 := Nat.pow_le_pow_right (by decide) k10
      have : (3 : Nat) ^ 10 = 59049 := by decide
      omega
    by_cases e : nI a ≤ nI ((3 ^ k - 3) / 2)
    · right
      refine ⟨nI k, nI k, ?_, ?_, rfl⟩
      · show m_X9_falsely_L33 _ _ _ = _
        unfold m_X9_falsely_L33
        rw [if_neg p1, h1, if_pos e]
      · show m_X10_falsely_L37 _ _ _ = _
        unfold m_X10_falsely_L37
        rw [h1, if_pos e]
    · left
      have hk : k < 10 := by
        rcases Nat.lt_or_ge k 10 with q | q
        · exact q
        · exfalso
          have : k = 10 := by omega
          subst this
          apply e
          rw [n_le (by omega) hb]
          have : (3 : Nat) ^ 10 = 59049 := by decide
          omega
      refine ⟨(nI (3 ^ (k + 1)), nI (k + 1)), (nI (k + 1), nI (3 ^ (k + 1))), z - 1, ?_, ?_, by omega, k + 1, by omega, by omega, by omega, rfl, rfl⟩
      · show m_X9_falsely_L33 _ _ _ = _
        unfold m_X9_falsely_L33
        rw [if_neg p1, h1, if_neg e, gv_e, gv_e, h2, n_s]
      · show m_X10_falsely_L37 _ _ _ = _
        unfold m_X10_falsely_L37
        rw [h1, if_neg e, gv_e, gv_e, h2, n_s]) ⟨2, by omega, by omega, by omega, rfl, rfl⟩ (by omega)
  exact ⟨u, e1, by rw [e3]; exact e2⟩
theorem falsely_two {th m p n : Nat} {c d : gm} (h : gRl th m p c d) (hn : 160 < n) (a : Int32) : gAns 1 0 (m_X9_falsely n 0 a c) (m_X10_falsely n 55 a d) := by
  have hZ := gRl_dZ h
  have z0 := dZ_0 d
  obtain ⟨hP, hp, ⟨hS, hRw, hM, hL⟩, hTo, hTp, hCn, hBk, hPs, hIm⟩ := id hZ
  obtain ⟨hk, h8, h5, h6, h7, h9, h10, h11, hw, hf, hcp⟩ := id hS
  obtain ⟨m0, m3, -⟩ := id hM
  have hm : m ≤ 10 := hRw.1
  have h56 := hRw.2.1
  by_cases q : 1 ≤ a ∧ a ≤ 9999
  · obtain ⟨k, hk1, rfl⟩ := i_ex (y := 9999) (by decide) ⟨Int32.le_trans (by decide) q.1, q.2⟩
    obtain ⟨v, i1, i2⟩ := falsely_lp hn hk1
    by_cases q3 : 3 ≤ nI k
    · refine ans_o (r := v) hZ z0 ?_ ?_
      · unfold m_X9_falsely; simp only [gj_e]
        rw [if_neg (i_nlt q.1), if_neg (i_nlt q.2), gc_1 (show gck 0 = 9 from rfl), gbx_x1 (dm_1 c), if_pos q3, gb_x i1, gok_e]
      · unfold m_X10_falsely; simp only [gj_e]
        rw [gc_1 (show gck 55 = 10 from rfl), gv_e, show gm_r d 55 (upd (d.1 55) 0 0) = dZ d from rfl, gb_x (in_1 q), if_neg (by decide), gb2_x (bd_0 z0), if_pos rfl, gb_x i2, if_pos q3]
    · refine ans_o (r := -1) hZ z0 ?_ ?_
      · unfold m_X9_falsely; simp only [gj_e]
        rw [if_neg (i_nlt q.1), if_neg (i_nlt q.2), gc_1 (show gck 0 = 9 from rfl), gbx_x1 (dm_1 c), if_neg q3, gok_e]
      · unfold m_X10_falsely; simp only [gj_e]
        rw [gc_1 (show gck 55 = 10 from rfl), gv_e, show gm_r d 55 (upd (d.1 55) 0 0) = dZ d from rfl, gb_x (in_1 q), if_neg (by decide), gb2_x (bd_0 z0), if_pos rfl, gb_x i2, if_neg q3]
  · refine ans_i (v := 0) (d := d) hZ (by decide) ?_ ?_
    · unfold m_X9_falsely; simp only [gj_e]
      skip
      rcases i_or q with q1 | ⟨q1, q2⟩
      · rw [if_pos q1, gc_1 (show gck 0 = 9 from rfl), gbx_x2 (dm_0 c)]
      · rw [if_neg q1, if_pos q2, gc_1 (show gck 0 = 9 from rfl), gbx_x2 (dm_0 c)]
    · unfold m_X10_falsely; simp only [gj_e]
      rw [gc_1 (show gck 55 = 10 from rfl), gv_e, show gm_r d 55 (upd (d.1 55) 0 0) = dZ d from rfl, gb_x (in_0 q), if_pos rfl, gb2_x (bd_i z0 (by decide)), if_neg (by decide)]
