set_option maxRecDepth 16384
/-! numbers -/
def pNum (b : Nat → Nat) (s : Nat) : Nat → Nat
  | 0 => 0
  | k + 1 => 10 * pNum b s k + (b (s + k) - 48)
theorem dg_e {n j : Nat} {b : Nat → Nat} (hb : ∀ i, i < n → b i < 256) : m_X7_isDigit (pBt n b j) = some (if j < n ∧ pDg b j = true then 1 else 0) := by
  unfold m_X7_isDigit pBt
  by_cases q : j < n
  · have := hb j q
    rw [if_pos q]
    by_cases q2 : 48 ≤ b j ∧ b j ≤ 57
    · rw [if_neg (by rw [n_l48, n_lt (by omega) (by decide)]; omega), if_neg (by rw [show (57 : Int32) = nI 57 from rfl, n_lt (by decide) (by omega)]; omega), if_pos ⟨q, decide_eq_true q2⟩]
    · rw [if_neg (show ¬ (j < n ∧ pDg b j = true) from fun q3 => q2 (of_decide_eq_true q3.2))]
      by_cases q3 : b j < 48
      · rw [if_pos (by rw [n_l48, n_lt (by omega) (by decide)]; omega)]
      · rw [if_neg (by rw [n_l48, n_lt (by omega) (by decide)]; omega), if_pos (by rw [show (57 : Int32) = nI 57 from rfl, n_lt (by decide) (by omega)]; omega)]
  · rw [if_neg q, if_pos (by decide), if_neg (fun q3 => q q3.1)]
theorem dg_d (x : Int32) : m_X10_isDigit x = m_X7_isDigit x := rfl
theorem min_cap (v x M : Nat) (h : 1 ≤ M) : min (10 * min v M + x) M = min (10 * v + x) M := by
  by_cases q : v ≤ M
  · rw [show min v M = v by omega]
  · rw [show min v M = M by omega]; omega
theorem num_lp_c {n s N : Nat} {b : Nat → Nat} {c : gm} (hT : gTc n b c) (h3 : c.1 1 3 = nI s) (h5 : c.1 1 5 = 0) (hs : s ≤ n) (hN : 700 < N) : ∃ c2, gloop (fun (c11 : gm) => m_X7_takeNumber_L25 1 c11) N c = some c2 ∧ (frc c c2 ∧ c2.1 1 4 = c.1 1 4 ∧ c2.1 1 3 = nI (pScan (pDg b) n s) ∧ c2.1 1 5 = nI (min (pNum b s (pScan (pDg b) n s - s)) 1000000)) := by
  have hn := hT.1
  refine gloop_inv (fun r c2 => ∃ k, s ≤ k ∧ k ≤ n ∧ r + k = n ∧ pScan (pDg b) n k = pScan (pDg b) n s ∧ frc c c2 ∧ c2.1 1 4 = c.1 1 4 ∧ c2.1 1 3 = nI k ∧ c2.1 1 5 = nI (min (pNum b s (k - s)) 1000000)) _ (r := n - s) ?_ ⟨s, by omega, hs, by omega, rfl, frc_r c, rfl, h3, by rw [h5, Nat.sub_self]; rfl⟩ (by omega)
  rintro r c2 ⟨k, k1, k2, hr, hk, f, g4, g3, g5⟩
  have hT2 := gTc_f hT (frc_F f)
  have t2 := hT2.2.1
  have hb := dg_e (n := n) (j := k) (b := b) (fun i hi => (hT.2.2 i hi).1)
  by_cases q : k < n ∧ pDg b k = true
  · left
    have hd := of_decide_eq_true q.2
    have e1 : pBt n b k = nI (b k) := by unfold pBt; rw [if_pos q.1]
    have ev : c2.1 1 5 * 10 + nI (b k) - 48 = nI (10 * min (pNum b s (k - s)) 1000000 + (b k - 48)) := by
      rw [g5, n_l10, n_mu, n_ad, n_l48, n_su (by omega)]
      congr 1; omega
    have ev2 : (if 1000000 < nI (10 * min (pNum b s (k - s)) 1000000 + (b k - 48)) then (1000000 : Int32) else nI (10 * min (pNum b s (k - s)) 1000000 + (b k - 48))) = nI (min (pNum b s (k + 1 - s)) 1000000) := by
      rw [show k + 1 - s = (k - s) + 1 by omega, pNum, show s + (k - s) = k by omega, ← min_cap _ _ _ (show 1 ≤ 1000000 by decide)]
      have hw : 10 * min (pNum b s (k - s)) 1000000 + (b k - 48) < 2147483648 := by omega
      generalize 10 * min (pNum b s (k - s)) 1000000 + (b k - 48) = w at *
      by_cases q3 : 1000000 < w
      · rw [if_pos (by rw [n_l1000000, n_lt (by decide) hw]; exact q3), show min w 1000000 = 1000000 by omega]; rfl
      · rw [if_neg (by rw [n_l1000000, n_lt (by decide) (by omega)]; exact q3), show min w 1000000 = w by omega]
    refine ⟨gm_r (gm_r c2 1 (upd (c2.1 1) 5 (nI (min (pNum b s (k + 1 - s)) 1000000)))) 1 (upd (upd (c2.1 1) 5 (nI (min (pNum b s (k + 1 - s)) 1000000))) 3 (nI (k + 1))), r - 1, ?_, by omega, k + 1, by omega, by omega, by omega, by rw [← pScan_s q.1 q.2]; exact hk, ⟨fun i hi => ?_, f.2.1, fun z z3 z4 z5 => ?_⟩, ?_, ?_, ?_⟩
    · unfold m_X7_takeNumber_L25
      rw [t2, g3, if_neg (by rw [n_le (by omega) (by omega)]; omega), gb_x (bt_c hT2 (by omega)), gb_x hb, if_pos q, if_neg (by decide), gb_x (bt_c hT2 (by omega)), e1, ev, ev2, gv_e, gv_e, gr_s, up_n _ _ (show 3 ≠ 5 by omega), g3, n_s]
    · rw [gr_n _ _ hi, gr_n _ _ hi]; exact f.1 i hi
    · rw [gr_s, up_n _ _ z3, up_n _ _ z5]; exact f.2.2 z z3 z4 z5
    · rw [gr_s, up_n _ _ (by omega), up_n _ _ (by omega)]; exact g4
    · rw [gr_s, up_s]
    · rw [gr_s, up_n _ _ (by omega), up_s]
  · right
    refine ⟨c2, ?_, f, g4, ?_, ?_⟩
    · unfold m_X7_takeNumber_L25
      rw [t2, g3]
      by_cases q2 : k < n
      · rw [if_neg (by rw [n_le (by omega) (by omega)]; omega), gb_x (bt_c hT2 (by omega)), gb_x hb, if_neg q, if_pos rfl]
      · rw [if_pos (by rw [n_le (by omega) (by omega)]; omega)]
    · rw [← hk, pScan_e q]; exact g3
    · rw [← hk, pScan_e q]; exact g5
theorem num_lp_d {n s N : Nat} {b : Nat → Nat} {d : gm} (hT : gTd n b d) (h4 : d.1 55 4 = nI s) (hs : s ≤ n) (hN : 700 < N) : gloop (gu2 (fun (y15 : Int32) (c16 : gm) => m_X10_number_L44 55 y15 c16)) N (0, d) = some (nI (min (pNum b s (pScan (pDg b) n s - s)) 100000), dAt d (pScan (pDg b) n s)) := by
  have hn := hT.1
  obtain ⟨u, e, rfl⟩ := gloop_inv (f := gu2 (fun (y15 : Int32) (c16 : gm) => m_X10_number_L44 55 y15 c16)) (fun r (x : Int32 × gm) => ∃ k, s ≤ k ∧ k ≤ n ∧ r + k = n ∧ pScan (pDg b) n k = pScan (pDg b) n s ∧ x = (nI (min (pNum b s (k - s)) 100000), dAt d k)) (fun u => u = (nI (min (pNum b s (pScan (pDg b) n s - s)) 100000), dAt d (pScan (pDg b) n s))) (n := N) (r := n - s) (a := (0, d)) (by
    rintro r x ⟨k, k1, k2, hr, hk, rfl⟩
    have hT2 := gTd_f hT (frm_F (dAt_f d k))
    have hb := dg_e (n := n) (j := k) (b := b) (fun i hi => (hT.2.2 i hi).1)
    by_cases q : k < n ∧ pDg b k = true
    · left
      have hd := of_decide_eq_true q.2
      have e1 : pBt n b k = nI (b k) := by unfold pBt; rw [if_pos q.1]
      have ev : 10 * nI (min (pNum b s (k - s)) 100000) + nI (b k) - 48 = nI (10 * min (pNum b s (k - s)) 100000 + (b k - 48)) := by
        rw [n_l10, n_mu, n_ad, n_l48, n_su (by omega)]
        congr 1; omega
      have ev2 : min (10 * min (pNum b s (k - s)) 100000 + (b k - 48)) 100000 = min (pNum b s (k + 1 - s)) 100000 := by
        rw [show k + 1 - s = (k - s) + 1 by omega, pNum, show s + (k - s) = k by omega]
        exact min_cap _ _ _ (by decide)
      refine ⟨(nI (min (pNum b s (k + 1 - s)) 100000), dAt d (k + 1)), r - 1, ?_, by omega, k + 1, by omega, by omega, by omega, by rw [← pScan_s q.1 q.2]; exact hk, rfl⟩
      show m_X10_number_L44 55 _ (dAt d k) = _
      unfold m_X10_number_L44; simp only [gj_e]
      rw [dAt_4, gb_x (bt_d hT2 (by omega)), dg_d, gb_x hb, if_pos q, if_neg (by decide), gb_x (bt_d hT2 (by omega)), e1, ev, gv_e, ← ev2]
      have hw : 10 * min (pNum b s (k - s)) 100000 + (b k - 48) < 2147483648 := by omega
      generalize 10 * min (pNum b s (k - s)) 100000 + (b k - 48) = w at *
      by_cases q3 : w ≤ 100000
      · rw [if_pos (by rw [n_l100000, n_le hw (by decide)]; exact q3), gv_e, n_s, show min w 100000 = w by omega]
        show some (Sum.inl (nI w, dAt (dAt d k) (k + 1))) = _
        rw [dAt_a]
      · rw [if_neg (by rw [n_l100000, n_le hw (by decide)]; exact q3), gv_e, n_s, show min w 100000 = 100000 by omega]
        show some (Sum.inl ((100000 : Int32), dAt (dAt d k) (k + 1))) = _
        rw [dAt_a]; rfl
    · right
      refine ⟨_, ?_, by rw [← hk, pScan_e q]⟩
      show m_X10_number_L44 55 _ (dAt d k) = _
      unfold m_X10_number_L44; simp only [gj_e]
      rw [dAt_4, gb_x (bt_d hT2 (by omega)), dg_d, gb_x hb, if_neg q, if_pos rfl]) ⟨s, by omega, hs, by omega, rfl, by rw [Nat.sub_self, dAt_i h4]; rfl⟩ (by omega)
  exact e
/-- a number from lo on, below H; or fault 1, or fault 2; s is where it begins -/
theorem num_two {n a lo H N : Nat} {b : Nat → Nat} {hi : Int32} {c d : gm} (h : gIn n b c d a) (hN : 700 < N) (hlo : lo ≤ 1) (hH : H ≤ 1000) (hhi : hi = nI H - 1) : (∃ c2 d2 a2 v s, a ≤ s ∧ s < a2 ∧ lo ≤ v ∧ v < H ∧ m_X7_takeNumber N 1 (nI lo) hi c = some (1, c2) ∧ m_X10_number N 55 (nI lo) hi d = some (nI v, d2) ∧ gOk n c d c2 d2 a2 ∧ c2.1 1 5 = nI v ∧ c2.1 1 4 = nI s ∧ s = pScan (pBl b) n a ∧ s ≤ n) ∨ (∃ c2 d2, m_X7_takeNumber N 1 (nI lo) hi c = some (0, c2) ∧ m_X10_number N 55 (nI lo) hi d = some (0, d2) ∧ gNo n c d c2 d2) := by
  obtain ⟨hc, hd, h3, h4, han, h5⟩ := h
  have hn := hc.1
  have hs := pScan_le (p := pBl b) han
  have e1 := peek_c hc h3 han hN
  have e2 := blanks_d hd h4 han hN
  have hd2 := gTd_f hd (frm_F (dAt_f d (pScan (pBl b) n a)))
  have hc2 := gTc_f hc (frc_F (cPk_f c (pScan (pBl b) n a)))
  have e3 := bt_d (j := pScan (pBl b) n a) hd2 (by omega)
  obtain ⟨s, es⟩ : ∃ s, s = pScan (pBl b) n a := ⟨_, rfl⟩
  rw [← es] at hs e1 e2 hd2 hc2 e3
  have h52 : (dAt d s).1 55 5 = 0 := by rw [(dAt_f d s).2.2 5 (by omega)]; exact h5
  have hb := dg_e (n := n) (j := s) (b := b) (fun i hi => (hc.2.2 i hi).1)
  have hee := pScan_le (p := pDg b) hs.2
  by_cases q : s < n ∧ pDg b s = true
  · have hes : s < pScan (pDg b) n s := by
      rw [pScan_s q.1 q.2]
      have := pScan_le (p := pDg b) (n := n) (a := s + 1) (by omega)
      omega
    obtain ⟨c9, ec9⟩ : ∃ z, z = gm_r (cPk c s) 1 (upd ((cPk c s).1 1) 5 0) := ⟨_, rfl⟩
    have f9 : frc (cPk c s) c9 := by rw [ec9]; exact ⟨fun i hi => gr_n _ _ hi, rfl, fun z _ _ z5 => by rw [gr_s, up_n _ _ z5]⟩
    obtain ⟨c2, l1, f2, k4, k3, k5⟩ := num_lp_c (n := n) (s := s) (N := N) (b := b) (c := c9) (gTc_f hc2 (frc_F f9)) (by rw [ec9, gr_s, up_n _ _ (by omega)]; exact (cPk_s c s).1) (by rw [ec9, gr_s, up_s]) hs.2 hN
    have l2 := num_lp_d (n := n) (s := s) (N := N) (b := b) (d := dAt d s) hd2 (dAt_4 d s) hs.2 hN
    rw [dAt_a] at l2
    generalize pScan (pDg b) n s = e at *
    have k4' : c2.1 1 4 = nI s := by rw [k4, ec9, gr_s, up_n _ _ (by omega)]; exact (cPk_s c s).2
    have hF : frc c c2 := frc_t (cPk_f c s) (frc_t f9 f2)
    have h53 : (dAt d e).1 55 5 = 0 := by rw [(dAt_f d e).2.2 5 (by omega)]; exact h5
    generalize pNum b s (e - s) = V at *
    by_cases qv : lo ≤ V ∧ V < H
    · left
      have m1 : min V 1000000 = V := by omega
      have m2 : min V 100000 = V := by omega
      rw [m1] at k5
      rw [m2] at l2
      have u1 : ¬ nI V < nI lo := by rw [n_lt (by omega) (by omega)]; omega
      have u2 : nI V ≤ hi := by rw [hhi]; exact ((mt_e (by omega) (nI V)).mpr ⟨by rw [n_l0, n_le (by decide) (by omega)]; omega, by rw [n_lt (by omega) (by omega)]; exact qv.2⟩).2
      refine ⟨c2, dAt d e, e, V, s, by omega, hes, qv.1, qv.2, ?_, ?_, ⟨hF, dAt_f d e, k3, dAt_4 d e, by omega⟩, k5, k4', es, hs.2⟩
      · unfold m_X7_takeNumber; simp only [gj_e]
        rw [gc_1 (show gck 1 = 7 from rfl), gb2_x e1, gb_x hb, if_pos q, if_neg (by decide), gv_e, ← ec9, gb_x l1, k5, if_neg u1, if_pos u2]
      · unfold m_X10_number; simp only [gj_e]
        rw [gc_1 (show gck 55 = 10 from rfl), if_pos h5, gb_x e2, gv_e, dAt_4, gb_x e3, dg_d, gb_x hb, if_pos q, if_neg (by decide), gb_x l2, gu2_e, gb_x (in_1 ⟨Int32.not_lt.mp u1, u2⟩), if_neg (by decide), if_pos h53]
    · right
      have u : ∀ M, 1000 ≤ M → M < 2147483648 → ¬ (nI lo ≤ nI (min V M) ∧ nI (min V M) ≤ hi) := by
        rintro M hM1 hM2 ⟨x1, x2⟩
        have x3 := ((mt_e (th := H) (by omega) (nI (min V M))).mp ⟨by rw [n_l0, n_le (by decide) (by omega)]; omega, by rw [← hhi]; exact x2⟩).2
        rw [n_le (by omega) (by omega)] at x1
        rw [n_lt (by omega) (by omega)] at x3
        omega
      refine ⟨cFl c2 2 s, dFl (dAt d e) 2 s, ?_, ?_, ?_⟩
      · unfold m_X7_takeNumber; simp only [gj_e]
        rw [gc_1 (show gck 1 = 7 from rfl), gb2_x e1, gb_x hb, if_pos q, if_neg (by decide), gv_e, ← ec9, gb_x l1, k5, k4', n_l2]
        rcases i_or (u 1000000 (by decide) (by decide)) with w | ⟨w, w2⟩
        · rw [if_pos w, gb2_x (fail_c c2 2 s), if_pos rfl]
        · rw [if_neg w, if_neg (Int32.not_le.mpr w2), gb2_x (fail_c c2 2 s), if_pos rfl]
      · unfold m_X10_number; simp only [gj_e]
        rw [gc_1 (show gck 55 = 10 from rfl), if_pos h5, gb_x e2, gv_e, dAt_4, gb_x e3, dg_d, gb_x hb, if_pos q, if_neg (by decide), gb_x l2, gu2_e, gb_x (in_0 (u 100000 (by decide) (by decide))), if_pos rfl, n_l2, gb_x (wrong_d h53 2 s), if_neg]
        unfold dFl
        rw [gr_s, up_n _ _ (by omega), up_s]
        decide
      · exact gNo_t (c2 := c2) (d2 := dAt d e) (a2 := e) ⟨hF, dAt_f d e, k3, dAt_4 d e, by omega⟩ (gNo_w (by omega) (by omega) (by omega) (show e ≤ n by omega) (dAt_4 d e))
  · right
    have l2 := num_lp_d (n := n) (s := s) (N := N) (b := b) (d := dFl (dAt d s) 1 s) ⟨hd2.1, by unfold dFl; rw [gr_s, up_n _ _ (by omega), up_n _ _ (by omega)]; exact hd2.2.1, fun j hj => by unfold dFl; rw [gr_n _ _ (by omega)]; exact hd2.2.2 j hj⟩ (by unfold dFl; rw [gr_s, up_n _ _ (by omega), up_n _ _ (by omega)]; exact dAt_4 d s) hs.2 hN
    rw [pScan_e q, dAt_i (d := dFl (dAt d s) 1 s) (k := s) (by unfold dFl; rw [gr_s, up_n _ _ (by omega), up_n _ _ (by omega)]; exact dAt_4 d s), Nat.sub_self] at l2
    have hf : ¬ (dFl (dAt d s) 1 s).1 55 5 = 0 := by
      unfold dFl
      rw [gr_s, up_n _ _ (by omega), up_s]
      decide
    refine ⟨cFl (cPk c s) 1 s, dFl (dAt d s) 1 s, ?_, ?_, ?_⟩
    · unfold m_X7_takeNumber; simp only [gj_e]
      rw [gc_1 (show gck 1 = 7 from rfl), gb2_x e1, gb_x hb, if_neg q, if_pos rfl, (cPk_s c s).2, n_l1, gb2_x (fail_c _ 1 s), gc_1 (Or.inl rfl)]
    · unfold m_X10_number; simp only [gj_e]
      rw [gc_1 (show gck 55 = 10 from rfl), if_pos h5, gb_x e2, gv_e, dAt_4, gb_x e3, dg_d, gb_x hb, if_neg q, if_pos rfl, n_l1, gb_x (wrong_d h52 1 s), gb_x l2, gu2_e]
      by_cases qi : nI lo ≤ nI (min (pNum b s 0) 100000) ∧ nI (min (pNum b s 0) 100000) ≤ hi
      · rw [gb_x (in_1 qi), if_neg (by decide), if_neg hf]
      · rw [gb_x (in_0 qi), if_pos rfl, gb_x (wrong_f hf _ _), if_neg hf]
    · exact gNo_t (c2 := cPk c s) (d2 := dAt d s) (a2 := s) ⟨cPk_f c s, dAt_f d s, (cPk_s c s).1, dAt_4 d s, by omega⟩ (gNo_w (by omega) (by omega) (by omega) hs.2 (dAt_4 d s))
theorem num_f {N : Nat} {x y : Int32} {d : gm} (h : ¬ d.1 55 5 = 0) : m_X10_number N 55 x y d = some (0, d) := by
  unfold m_X10_number; simp only [gj_e]
  rw [gc_1 (show gck 55 = 10 from rfl), if_neg h]
theorem num_b {n a N : Nat} {b : Nat → Nat} {x y : Int32} {d : gm} (hd : gTd n b d) (h4 : d.1 55 4 = nI a) (han : a ≤ n) (h5 : d.1 55 5 = 0) (hN : 700 < N) : m_X10_number N 55 x y (dAt d (pScan (pBl b) n a)) = m_X10_number N 55 x y d := by
  have hs := pScan_le (p := pBl b) han
  have e2 := blanks_d hd h4 han hN
  have hx := pScan_x (p := pBl b) han
  have hd2 := gTd_f hd (frm_F (dAt_f d (pScan (pBl b) n a)))
  have e3 := blanks_d hd2 (dAt_4 d _) hs.2 hN
  rw [pScan_e hx, dAt_a] at e3
  unfold m_X10_number
  rw [gc_1 (show gck 55 = 10 from rfl), gc_1 (show gck 55 = 10 from rfl), (dAt_f d _).2.2 5 (by omega), if_pos h5, if_pos h5, gb_x e2, gb_x e3]
/-- another thing than v1 -/
theorem oth_two {n a H v1 N : Nat} {b : Nat → Nat} {c d : gm} (h : gIn n b c d a) (hN : 700 < N) (hH : H ≤ 1000) (hv1 : v1 ≤ 1000) : (∃ c2 d2 a2 v, a < a2 ∧ v < H ∧ v ≠ v1 ∧ m_X7_takeOther N 1 (nI H) (nI v1) c = some (1, c2) ∧ m_X10_otherThing N 55 (nI v1) (nI H) d = some (nI v, d2) ∧ gOk n c d c2 d2 a2 ∧ c2.1 1 5 = nI v) ∨ (∃ c2 d2 u, m_X7_takeOther N 1 (nI H) (nI v1) c = some (0, c2) ∧ m_X10_otherThing N 55 (nI v1) (nI H) d = some (u, d2) ∧ gNo n c d c2 d2) := by
  obtain ⟨hc, hd, h3, h4, han, h5⟩ := id h
  have hn := hc.1
  have e2 := blanks_d hd h4 han hN
  have eb := num_b (x := 0) (y := nI H - 1) hd h4 han h5 hN
  rcases num_two (lo := 0) (H := H) (hi := nI H - 1) h hN (by omega) hH rfl with ⟨c2, d2, a2, v, s, s1, s2, v0, vH, n1, n2, hO, k5, k4, es, hsn⟩ | ⟨c2, d2, n1, n2, hO⟩
  · rw [← es] at e2 eb
    have f5 : d2.1 55 5 = 0 := by rw [hO.2.1.2.2 5 (by omega)]; exact h5
    by_cases q : v = v1
    · right
      refine ⟨cFl c2 2 s, dFl d2 2 s, nI v, ?_, ?_, gNo_t hO (gNo_w (by omega) (by omega) (by omega) hO.2.2.2.2 hO.2.2.2.1)⟩
      · unfold m_X7_takeOther
        rw [gc_1 (show gck 1 = 7 from rfl), n_l0, gb2_x n1, if_neg (by decide), k5, if_pos (by rw [q]), k4, n_l2, gb2_x (fail_c c2 2 s), if_pos (show (0 : Int32) = nI 0 from rfl)]
      · unfold m_X10_otherThing
        rw [gc_1 (show gck 55 = 10 from rfl), gb_x e2, gv_e, dAt_4, eb, n_l0, gb2_x n2, show nI 0 = (0 : Int32) from rfl, if_pos f5, if_pos (by rw [q]), n_l2, gb_x (wrong_d f5 2 s)]
    · left
      refine ⟨c2, d2, a2, v, by omega, vH, q, ?_, ?_, hO, k5⟩
      · unfold m_X7_takeOther
        rw [gc_1 (show gck 1 = 7 from rfl), n_l0, gb2_x n1, if_neg (by decide), k5, if_neg (by rw [n_eq (by omega) (by omega)]; exact q)]
      · unfold m_X10_otherThing
        rw [gc_1 (show gck 55 = 10 from rfl), gb_x e2, gv_e, dAt_4, eb, n_l0, gb2_x n2, show nI 0 = (0 : Int32) from rfl, if_pos f5, if_neg (by rw [n_eq (by omega) (by omega)]; exact fun e => q e.symm)]
  · right
    obtain ⟨-, -, k, q, a2, k1, k3, hq, ha2, c6, c7, d5, d6, d4⟩ := id hO
    refine ⟨c2, d2, 0, ?_, ?_, hO⟩
    · unfold m_X7_takeOther
      rw [gc_1 (show gck 1 = 7 from rfl), n_l0, gb2_x n1, if_pos (show (0 : Int32) = nI 0 from rfl)]
    · unfold m_X10_otherThing
      rw [gc_1 (show gck 55 = 10 from rfl), gb_x e2, gv_e, eb, n_l0, gb2_x n2, d5, if_neg (by rw [n_eq (by omega) (by decide)]; omega)]
      rfl
/-- the reference goes on behind a fault: nothing but blanks -/
theorem oth_f {n a N : Nat} {b : Nat → Nat} {x y : Int32} {d : gm} (hd : gTd n b d) (h4 : d.1 55 4 = nI a) (han : a ≤ n) (h5 : ¬ d.1 55 5 = 0) (hN : 700 < N) : ∃ d2, m_X10_otherThing N 55 x y d = some (0, d2) ∧ frm d d2 ∧ ∃ a2, a2 ≤ n ∧ d2.1 55 4 = nI a2 := by
  have e2 := blanks_d hd h4 han hN
  have hs := pScan_le (p := pBl b) han
  have f5 : ¬ (dAt d (pScan (pBl b) n a)).1 55 5 = 0 := by rw [(dAt_f d _).2.2 5 (by omega)]; exact h5
  refine ⟨dAt d (pScan (pBl b) n a), ?_, dAt_f d _, _, hs.2, dAt_4 d _⟩
  unfold m_X10_otherThing
  rw [gc_1 (show gck 55 = 10 from rfl), gb_x e2, gv_e, gb2_x (num_f f5), if_neg f5]
