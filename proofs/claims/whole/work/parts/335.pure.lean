set_option maxRecDepth 16384
/-! the book's loop, and the book -/
theorem gBr_f {sb th z : Nat} {c d c2 d2 : gm} (h : gBr sb th z c d) (f : ∀ i, sb ≤ i → i ≤ sb + 3 → c2.1 i = c.1 i) (g : ∀ i, 414 ≤ i → i ≤ 419 → d2.1 i = d.1 i) : gBr sb th z c2 d2 := by
  obtain ⟨h6, h5, h⟩ := h
  refine ⟨h6, by rw [f sb (by omega) (by omega)]; exact h5, fun k hk => ?_⟩
  rw [f (sb + 1) (by omega) (by omega), f (sb + 2) (by omega) (by omega), f (sb + 3) (by omega) (by omega), g (414 + k) (by omega) (by omega)]
  exact h k hk
def gBp (n sb th : Nat) (c d : gm) (B : (Int32 × gm) ⊕ gm) (Y : Int32 × gm) : Prop := (∃ c2 z y, B = .inr c2 ∧ Y = (nI z, y) ∧ y.1 55 5 = 0 ∧ gBr sb th z c2 y ∧ fbC sb c c2 ∧ fbD d y ∧ c2.1 1 7 = c.1 1 7) ∨ ∃ c2 v y, B = .inl (0, c2) ∧ Y = (v, y) ∧ gFb n sb c d c2 y
theorem book_lp {n sb th N : Nat} {b : Nat → Nat} {c d : gm} (hc : gTc n b c) (hd : gTd n b d) (h3 : c.1 1 3 = nI 0) (h4 : d.1 55 4 = nI (pScan (pBl b) n 0)) (h5 : d.1 55 5 = 0) (hB : gBr sb th 0 c d) (hsb : sb = 43 ∨ sb = 49) (h59 : d.1 59 0 = nI th) (h8 : th ≤ 8) (hN : 700 < N) : ∃ B Y, gloop (gu2 (fun (y5 : Int32) (c6 : gm) => m_X0_readFrom_L7 N sb 1 (nI th) y5 c6)) N (0, c) = some B ∧ gloop (gu2 (fun (y16 : Int32) (c17 : gm) => m_X10_book_L46 N 55 y16 c17)) N (0, d) = some Y ∧ gBp n sb th c d B Y := by
  have hn := hc.1
  refine gloop_two2 (fun r (A : Int32 × gm) (X : Int32 × gm) => ∃ z c8 a8 x, r + a8 = n ∧ A = (nI z, c8) ∧ X = (nI z, x) ∧ gTc n b c8 ∧ gTd n b x ∧ c8.1 1 3 = nI a8 ∧ x.1 55 4 = nI (pScan (pBl b) n a8) ∧ a8 ≤ n ∧ x.1 55 5 = 0 ∧ gBr sb th z c8 x ∧ fbC sb c c8 ∧ fbD d x ∧ c8.1 1 7 = c.1 1 7) (gBp n sb th c d) ?_ ⟨0, c, 0, d, (by omega : n + 0 = n), rfl, rfl, hc, hd, h3, h4, by omega, h5, hB, fbC_r sb c, fbD_r d, rfl⟩ (by omega)
  rintro r A X ⟨z, c8, a8, x, hr, rfl, rfl, tc, td, g3, g4, ha, g5, gB, fc, fd, g17⟩
  have hs := pScan_le (p := pBl b) ha
  have hx := pScan_x (p := pBl b) ha
  have em := more_c tc g3 ha hN
  generalize pScan (pBl b) n a8 = s at *
  have hz6 : z ≤ 6 := gB.1
  have p1 : ¬ (6 : Int32) < nI z := by rw [n_l6, n_lt (by decide) (by omega)]; omega
  have hck := cPk_f c8 s
  have hB15 : gBr sb th z (cPk c8 s) x := gBr_f gB (fun i i1 i2 => hck.1 i (by omega)) (fun i _ _ => rfl)
  have h17 : (cPk c8 s).1 1 7 = c.1 1 7 := by rw [hck.2.2 7 (by omega) (by omega) (by omega)]; exact g17
  have x59 : x.1 59 0 = nI th := by rw [fd.1 59 (by omega) (by omega)]; exact h59
  by_cases q : s < n
  rotate_left
  · right
    refine ⟨.inr (cPk c8 s), (nI z, x), ?_, Or.inl ?_, Or.inl ⟨cPk c8 s, z, x, rfl, rfl, g5, hB15, fbC_t fc (fbC_f (frc_F hck)), fd, h17⟩⟩
    · show m_X0_readFrom_L7 N sb 1 (nI th) (nI z) c8 = _
      unfold m_X0_readFrom_L7
      rw [if_neg p1, gc_1 (show gck 1 = 7 from rfl), gb2_x em, if_neg q, if_pos rfl]
    · show m_X10_book_L46 N 55 (nI z) x = _
      rw [bk_e, if_pos g5, td.2.1, g4, if_pos (by rw [n_le (by omega) (by omega)]; omega)]
  have hI : gIn n b (cPk c8 s) x s := ⟨gTc_f tc (frc_F hck), td, (cPk_s c8 s).1, g4, hs.2, g5⟩
  have eC : m_X0_readFrom_L7 N sb 1 (nI th) (nI z) c8 = gb2 (m_X0_readLine N sb 1 (nI th) (cPk c8 s)) (fun (r16 : Int32) (c17 : gm) => (if r16 = 0 then some (.inr (.inl (0, c17))) else gb2 (m_X7_takeSign N 1 59 c17) (fun (r20 : Int32) (c21 : gm) => (if r20 = 0 then some (.inr (.inl (0, c21))) else gv (nI z + 1) (fun (x23 : Int32) => some (.inl (x23, c21))))))) := by
    unfold m_X0_readFrom_L7
    rw [if_neg p1, gc_1 (show gck 1 = 7 from rfl), gb2_x em, if_pos q, if_neg (by decide)]
  have bad : ∀ c2 d2, gFb n sb (cPk c8 s) x c2 d2 → m_X10_book_L46 N 55 (nI z) d2 = some (.inr (nI z, d2)) ∧ gFb n sb c d c2 d2 := by
    rintro c2 d2 ⟨f1, f2, f3⟩
    refine ⟨by rw [bk_e, if_neg (gFl_5 f3)], fbC_t fc (fbC_t (fbC_f (frc_F hck)) f1), fbD_t fd f2, f3⟩
  rcases line_two hI hx q hB15 hsb x59 h8 hN with ⟨c1, c2, d2, a2, ha2, hz5, e1, e2, e3, tc2, td2, g32, g42, ha2n, g52, gB2, f1, f2, f17⟩ | ⟨c2, d2, e1, e2, hF⟩ | ⟨c1, c2, d2, e1, e2, e3, hF⟩
  · left
    refine ⟨(nI (z + 1), c2), (nI (z + 1), d2), n - a2, ?_, e3, by omega, z + 1, c2, a2, d2, by omega, rfl, rfl, tc2, td2, g32, g42, ha2n, g52, gB2, fbC_t fc (fbC_t (fbC_f (frc_F hck)) f1), fbD_t fd f2, by rw [f17]; exact h17⟩
    show m_X0_readFrom_L7 N sb 1 (nI th) (nI z) c8 = _
    rw [eC, gb2_x e1, if_neg (by decide), gb2_x e2, if_neg (by decide), gv_e, n_s]
  · right
    obtain ⟨t1, t2⟩ := bad c2 d2 hF
    refine ⟨.inl (0, c2), (nI z, d2), ?_, Or.inr ⟨(nI z, d2), e2, t1⟩, Or.inr ⟨c2, _, d2, rfl, rfl, t2⟩⟩
    show m_X0_readFrom_L7 N sb 1 (nI th) (nI z) c8 = _
    rw [eC, gb2_x e1, if_pos rfl]
  · right
    obtain ⟨t1, t2⟩ := bad c2 d2 hF
    refine ⟨.inl (0, c2), (nI z, d2), ?_, Or.inr ⟨(nI z, d2), e3, t1⟩, Or.inr ⟨c2, _, d2, rfl, rfl, t2⟩⟩
    show m_X0_readFrom_L7 N sb 1 (nI th) (nI z) c8 = _
    rw [eC, gb2_x e1, if_neg (by decide), gb2_x e2, if_pos rfl]
/-- a new law or a new book -/
theorem gRl_nw {th m p : Nat} {c d c2 d2 : gm} (h : gRl th m p c d) (hP : gPt c2) (hL : gLw (c2.2.2 0) c2 d2) (hB : gBk (c2.2.2 2) th c2 d2) (s2 : ∀ i, i = 0 ∨ (3 ≤ i ∧ i ≤ 6) ∨ i = 8 ∨ i = 24 ∨ (17 ≤ i ∧ i ≤ 20) → c2.1 i = c.1 i) (s3 : c2.1 1 1 = nI 0) (s5 : ∀ k, 33 ≤ k ∧ k ≤ 35 → d2.1 55 k = d.1 55 k) (s51 : d2.1 55 1 = nI 0) (s6 : ∀ i, i = 57 ∨ i = 59 ∨ i = 61 ∨ i = 503 ∨ (507 ≤ i ∧ i ≤ 522) ∨ (524 ≤ i ∧ i ≤ 526) → d2.1 i = d.1 i) (h7 : c2.1 1 7 = d2.1 55 3) : gRl th m p c2 d2 := by
  obtain ⟨h1, hp, ⟨r1, r2, r3, r4⟩, h3, h4, ⟨n1, n2, n3, n4⟩, h6, h7', h8⟩ := h
  have f503 := s6 503 (by omega)
  refine ⟨hP, hp, ⟨?_, ?_, ?_, hL⟩, ?_, ⟨0, by omega, s3, s51, fun j hj => by omega⟩, ⟨h7, ?_, ?_, ?_⟩, hB, ?_, ?_⟩
  · rw [f503]; exact gSt_fr r1 (s2 3 (by omega)) (s2 5 (by omega)) (s2 6 (by omega)) (s2 8 (by omega))
  · rw [f503]; exact r2
  · unfold gMd; rw [s6 59 (by omega)]; exact r3
  · unfold gTo; rw [s2 4 (by omega), s6 61 (by omega), s2 24 (by omega)]; exact h3
  · rw [s2 0 (by omega), s5 34 (by omega)]; exact n2
  · rw [s2 0 (by omega), s6 57 (by omega)]; exact n3
  · rw [s2 0 (by omega), s6 57 (by omega)]; exact n4
  · exact gPs_x h7' (by rw [s2 17 (by omega)]) (s2 18 (by omega)) (s5 33 (by omega)) (fun k hk => s6 _ (by omega))
  · exact gIm_x h8 (by rw [s2 17 (by omega)]) (s2 19 (by omega)) (s2 20 (by omega)) (s5 35 (by omega)) (fun k hk => s6 _ (by omega))
theorem gPt_3 {c : gm} (h : gPt c) : (c.2.2 3 = 43 ∨ c.2.2 3 = 49) ∧ (c.2.2 1 = 33 ∨ c.2.2 1 = 38) := ⟨by rcases h.2 with q | q <;> simp [q.2], by rcases h.1 with q | q <;> simp [q.2]⟩
theorem gk_r (c : gm) (i j : Nat) : (gm_k c i j).1 = c.1 := rfl
theorem gk_s (c : gm) (i j : Nat) : (gm_k c i j).2.2 i = j := va_up_self _ _ _
theorem gk_n (c : gm) {i k : Nat} (j : Nat) (h : k ≠ i) : (gm_k c i j).2.2 k = c.2.2 k := va_up_ne _ _ h
theorem gk_rw : gck 413 = 25 ∧ gck 406 = 25 ∧ gal 413 = 6 ∧ gal 406 = 6 := by decide
theorem book_ok {th m p z N : Nat} {c d c3 y : gm} (h : gRl th m p c d) (hN : 300 < N) (f2 : c3.2 = c.2) (f1 : ∀ i, i ≠ 1 → i ≠ c.2.2 3 → i ≠ c.2.2 3 + 1 → i ≠ c.2.2 3 + 2 → i ≠ c.2.2 3 + 3 → c3.1 i = c.1 i) (g1 : c3.1 1 1 = nI 0) (g7 : c3.1 1 7 = -1) (f3 : ∀ i, i ≠ 55 → (i < 414 ∨ 419 < i) → y.1 i = d.1 i) (h1 : y.1 55 1 = nI 0) (hs : y.1 55 0 = 0) (hss : ∀ s, 9 ≤ s → y.1 55 s = d.1 55 s) (hB : gBr (c.2.2 3) th z c3 y) : ∃ c8 y2, gv (gm_k c3 3 (c3.2.2 2)) (fun (c21 : gm) => gv (gm_k c21 2 (c3.2.2 3)) (fun (c22 : gm) => gc (gck (c22.2.2 2) = 0) (some ((c22.1 (c22.2.2 2) 5), c22)))) = some (nI z, c8) ∧ gv (gm_r y 55 (upd (y.1 55) 3 (-1))) (fun (c21 : gm) => gv (gm_r c21 55 (upd (c21.1 55) 32 (nI z))) (fun (c22 : gm) => gb (m_X10_lays N 413 406 (nI z) c22) (fun (c31 : gm) => some (nI z, c31)))) = some (nI z, y2) ∧ gRl th m p c8 y2 ∧ y2.1 55 0 = 0 := by
  obtain ⟨hP, hp, hR2, hTo, hTp, hCn, hBk, hPs, hIm⟩ := id h
  have hq := gPt_q hP
  have hq3 := gPt_3 hP
  obtain ⟨z6, b5, hrow⟩ := id hB
  have e22 : c3.2.2 = c.2.2 := by rw [f2]
  have hne : c.2.2 3 ≠ c.2.2 2 ∧ c.2.2 3 + 1 ≠ c.2.2 2 := by rcases hP.2 with q | q <;> rw [q.1, q.2] <;> decide
  have kb : gck (c.2.2 3) = 0 := by rcases hq3.1 with q | q <;> rw [q] <;> rfl
  obtain ⟨y1, ey1⟩ : ∃ q, q = gm_r y 55 (upd (upd (y.1 55) 3 (-1)) 32 (nI z)) := ⟨_, rfl⟩
  obtain ⟨y2, ey2, fy2, hy2⟩ := lays_d (a1 := 413) (a2 := 406) (w := 3) (L := 6) (m := z) (N := N) (d := y1) gk_rw.1 gk_rw.2.1 gk_rw.2.2.1 gk_rw.2.2.2 (fun k hk => gk_rl k hk) (fun k hk => gk_lin k hk) (by omega) (by omega) (by omega) z6 hN
  have y255 : y2.1 55 = upd (upd (y.1 55) 3 (-1)) 32 (nI z) := by rw [fy2.1 55 (by omega), ey1, gr_s]
  obtain ⟨c8, ec8⟩ : ∃ q, q = gm_k (gm_k c3 3 (c.2.2 2)) 2 (c.2.2 3) := ⟨_, rfl⟩
  have c81 : c8.1 = c3.1 := by rw [ec8]; rfl
  have c80 : c8.2.2 0 = c.2.2 0 := by rw [ec8, gk_n _ _ (by omega), gk_n _ _ (by omega), e22]
  have c811 : c8.2.2 1 = c.2.2 1 := by rw [ec8, gk_n _ _ (by omega), gk_n _ _ (by omega), e22]
  have c82 : c8.2.2 2 = c.2.2 3 := by rw [ec8, gk_s]
  have c83 : c8.2.2 3 = c.2.2 2 := by rw [ec8, gk_n _ _ (by omega), gk_s]
  refine ⟨c8, y2, ?_, ?_, ?_, by rw [y255, up_n _ _ (by omega), up_n _ _ (by omega)]; exact hs⟩
  · rw [gv_e, gv_e, e22, ← ec8, c82, gc_1 kb, c81, b5]
  · rw [gv_e, gv_e, gr_s, gr_r, ← ey1, gb_x ey2]
  refine gRl_nw h ?_ ?_ ?_ (fun i hi => by rw [c81]; exact f1 i (by omega) (by omega) (by omega) (by omega) (by omega)) (by rw [c81]; exact g1) (fun k hk => by rw [y255, up_n _ _ (by omega), up_n _ _ (by omega), hss k (by omega)]) (by rw [y255, up_n _ _ (by omega), up_n _ _ (by omega)]; exact h1) (fun i hi => by rw [fy2.1 i (by omega), ey1, gr_n _ _ (by omega), f3 i (by omega) (by omega)]) (by rw [c81, g7, y255, up_n _ _ (by omega), up_s])
  · unfold gPt
    rw [c80, c811, c82, c83]
    exact ⟨hP.1, hP.2.elim (fun q => Or.inr ⟨q.2, q.1⟩) (fun q => Or.inl ⟨q.2, q.1⟩)⟩
  · rw [c80]
    exact gLw_fr hR2.2.2.2 (by rw [c81]; exact f1 _ (by omega) (by omega) (by omega) (by omega) (by omega)) (by rw [c81]; exact f1 _ (by omega) (by omega) (by omega) (by omega) (by omega)) (by rw [c81]; exact f1 _ (by omega) (by omega) (by omega) (by omega) (by omega)) (by rw [y255, up_n _ _ (by omega), up_n _ _ (by omega), hss 17 (by omega)]) (fun k hk => by rw [fy2.1 _ (by omega), ey1, gr_n _ _ (by omega), f3 _ (by omega) (by omega)])
  · rw [c82]
    refine ⟨z, z6, by rw [c81]; exact b5, by rw [y255, up_s], fun k hk => ?_⟩
    obtain ⟨a, b, r, q1, q2, q3, u1, u2, u3, v1, v2, v3⟩ := hrow k hk
    refine ⟨a, b, r, q1, q2, q3, by rw [c81]; exact u1, by rw [c81]; exact u2, by rw [c81]; exact u3, ?_, ?_, ?_⟩
    · rw [← v1, show 407 + k = 406 + 1 + k by omega, hy2 k hk 0 (by omega), show 413 + 1 + k = 414 + k by omega, ey1, gr_n _ _ (by omega)]
    · rw [← v2, show 407 + k = 406 + 1 + k by omega, hy2 k hk 1 (by omega), show 413 + 1 + k = 414 + k by omega, ey1, gr_n _ _ (by omega)]
    · rw [← v3, show 407 + k = 406 + 1 + k by omega, hy2 k hk 2 (by omega), show 413 + 1 + k = 414 + k by omega, ey1, gr_n _ _ (by omega)]
theorem book_two {th m p n : Nat} {c d : gm} (h : gRl th m p c d) (hn : 700 < n) (a : Int32) : gAns 1 0 (m_X9_book n 0 a c) (m_X10_book n 55 a d) := by
  have hZ := gRl_dZ h
  have z0 := dZ_0 d
  obtain ⟨hP, hp, ⟨hS, hRw, hM, hL⟩, hTo, hTp, hCn, hBk, hPs, hIm⟩ := id hZ
  obtain ⟨hk, h8, h5, h6, h7, h9, h10, h11, hw, hf, hcp⟩ := id hS
  obtain ⟨m0, m3, -⟩ := id hM
  obtain ⟨T, b, hT6, eT1, eT2, hb⟩ := gTp_b hTp
  have hq := gPt_q hP
  have hq3 := gPt_3 hP
  have kb : gck (c.2.2 3) = 0 := by rcases hq3.1 with q | q <;> rw [q] <;> rfl
  by_cases q : 0 ≤ a ∧ a ≤ nI T
  · obtain ⟨k, hkT, rfl⟩ := i_ex (by omega) q
    by_cases q6 : k ≤ 60
    rotate_left
    · refine ans_i (v := 0) (d := d) hZ (by decide) ?_ ?_
      · unfold m_X9_book; simp only [gj_e]
        rw [if_neg (i_nlt q.1), gc_1 (show gck 0 = 9 from rfl), eT1, if_neg (i_nlt q.2), if_pos (show (60 : Int32) < nI k by rw [n_l60, n_lt (by decide) (by omega)]; omega), gc_1 (show gck 0 = 9 from rfl), gbx_x2 (dm_0 c)]
      · unfold m_X10_book; simp only [gj_e]
        rw [gc_1 (show gck 55 = 10 from rfl), gv_e, show gm_r d 55 (upd (d.1 55) 0 0) = dZ d from rfl, eT2, gb_x (in_1 q), if_neg (by decide), if_neg (show ¬ nI k ≤ 60 by rw [n_l60, n_le (by omega) (by decide)]; omega), gb2_x (bd_i z0 (by decide)), if_neg (by decide)]
    obtain ⟨c1, d1, eo, es, ⟨tc, td, o3, o4, o5, o7, o8⟩, f1, f2, g1, g7, f3, f4, h1, hs⟩ := opened (k := k) (N := n) hkT hT6 hb hn
    have e122 : c1.2.2 = c.2.2 := by rw [f2]
    obtain ⟨sb, esb⟩ : ∃ q, q = c.2.2 3 := ⟨_, rfl⟩
    rw [← esb] at kb hq3
    obtain ⟨c2, ec2⟩ : ∃ q, q = gm_r c1 sb (upd (c1.1 sb) 5 0) := ⟨_, rfl⟩
    have c2o : ∀ i, i ≠ sb → c2.1 i = c1.1 i := fun i hi => by rw [ec2, gr_n _ _ hi]
    have tc2 : gTc k b c2 := ⟨tc.1, by rw [c2o 1 (by omega)]; exact tc.2.1, fun j hj => by rw [c2o 2 (by omega)]; exact tc.2.2 j hj⟩
    obtain ⟨B, Y, l1, l2, hB⟩ := book_lp (n := k) (N := n) (sb := sb) (th := th) (b := b) (c := c2) (d := d1) tc2 td (by rw [c2o 1 (by omega)]; exact o3) o4 o5 ⟨by omega, by rw [ec2, gr_s, up_s]; rfl, fun j hj => by omega⟩ hq3.1 (by rw [f3 59 (by omega)]; exact m0) h8 hn
    have X0 : ∀ r c3, gb (some B) (gsm (fun (c7 : gm) => some (1, c7))) = some (r, c3) → m_X9_book n 0 (nI k) c = gok (if r = 0 then some (((c3.1 1 6) - 10), c3) else gv (gm_k c3 3 (c3.2.2 2)) (fun (c21 : gm) => gv (gm_k c21 2 (c3.2.2 3)) (fun (c22 : gm) => gc (gck (c22.2.2 2) = 0) (some ((c22.1 (c22.2.2 2) 5), c22))))) := by
      intro r c3 er
      have e5 : c1.1 3 5 = nI th := by rw [f1 3 (by omega)]; exact h5
      have er2 : m_X0_readFrom n sb 1 (nI th) c1 = some (r, c3) := by
        unfold m_X0_readFrom
        rw [gc_1 kb, gv_e, ← ec2, l1]
        exact er
      unfold m_X9_book; simp only [gj_e]
      rw [if_neg (i_nlt q.1), gc_1 (show gck 0 = 9 from rfl), eT1, if_neg (i_nlt q.2), if_neg (show ¬ (60 : Int32) < nI k by rw [n_l60, n_lt (by decide) (by omega)]; omega), gc_1 (show gck 0 = 9 from rfl), gbx_x1 (dm_1 c), gb_x eo, e122, ← esb, gc_1 kb, e5, gb2_x er2]
    have Y0 : ∀ v y, Y = (v, y) → m_X10_book n 55 (nI k) d = (if (y.1 55 5) = 0 then gv (gm_r y 55 (upd (y.1 55) 3 (-1))) (fun (c21 : gm) => gv (gm_r c21 55 (upd (c21.1 55) 32 v)) (fun (c22 : gm) => gb (m_X10_lays n 413 406 v c22) (fun (c31 : gm) => some (v, c31)))) else gb2 (m_X10_ends 55 y) (fun (r33 : Int32) (c34 : gm) => some (r33, c34))) := by
      rintro v y rfl
      unfold m_X10_book; simp only [gj_e]
      rw [gc_1 (show gck 55 = 10 from rfl), gv_e, show gm_r d 55 (upd (d.1 55) 0 0) = dZ d from rfl, eT2, gb_x (in_1 q), if_neg (by decide), if_pos (show nI k ≤ 60 by rw [n_l60, n_le (by omega) (by decide)]; omega), gb2_x (bd_0 z0), if_pos rfl, gb_x es, gb_x l2, gu2_e]
    have c2f : ∀ c3, fbC sb c2 c3 → (∀ i, i ≠ 1 → i ≠ sb → i ≠ sb + 1 → i ≠ sb + 2 → i ≠ sb + 3 → c3.1 i = c.1 i) ∧ c3.2 = c.2 ∧ c3.1 1 1 = nI 0 := fun c3 fc => ⟨fun i i1 i2 i3 i4 i5 => by rw [fc.1 i i1 i2 i3 i4 i5, c2o i i2, f1 i i1], by rw [fc.2.1, ec2]; exact f2, by rw [fc.2.2 1 (by omega), c2o 1 (by omega)]; exact g1⟩
    rcases hB with ⟨c3, z, y, rfl, rfl, y5, hB3, fc3, fd3, g73⟩ | ⟨c3, v, y, rfl, rfl, fc3, fd3, kk, qq, aa, k1, k3, hqq, haa, c36, c37, y5, y6, y4⟩
    · obtain ⟨p1, p2, p3⟩ := c2f c3 fc3
      rw [esb] at p1 hB3
      obtain ⟨c8, y2, w1, w2, hG, hG0⟩ := book_ok (N := n) hZ (by omega) p2 p1 p3 (by rw [g73, c2o 1 (by omega)]; exact g7) (fun i i1 i2 => by rw [fd3.1 i i1 i2, f3 i i1]) (by rw [fd3.2.2 1 (by omega)]; exact h1) (by rw [fd3.2.2 0 (by omega), hs 0 (by omega)]; exact z0) (fun s hs9 => by rw [fd3.2.2 s (by omega), hs s (by omega)]) hB3
      exact ans_o (r := nI z) hG hG0 (by rw [X0 1 c3 rfl, if_neg (by decide), w1, gok_e]) (by rw [Y0 (nI z) y rfl, if_pos y5, w2])
    · obtain ⟨p1, p2, p3⟩ := c2f c3 fc3
      have y5' : ¬ y.1 55 5 = 0 := by rw [y5, n_l0, n_eq (by omega) (by decide)]; omega
      have hne : ∀ i, i = c.2.2 2 ∨ i = c.2.2 2 + 1 ∨ i = c.2.2 2 + 2 ∨ i = c.2.2 2 + 3 → i ≠ sb ∧ i ≠ sb + 1 ∧ i ≠ sb + 2 ∧ i ≠ sb + 3 := fun i hi => by rcases hP.2 with q | q <;> rw [q.1] at hi <;> rw [esb, q.2] <;> omega
      refine ans_o (r := nI kk - 10) (gRl_tp (c2 := c3) (d2 := gm_r y 55 (upd (y.1 55) 3 (y.1 55 6))) hZ (by rw [p2]) (fun i hi => ?_) p3 (fun z hz => by rw [gr_s, up_n _ _ (by omega), fd3.2.2 z (by omega), hs z (by omega)]) (by rw [gr_s, up_n _ _ (by omega), fd3.2.2 1 (by omega)]; exact h1) (fun i hi => by rw [gr_n _ _ (by omega), fd3.1 i (by omega) (by omega), f3 i (by omega)]) (by rw [gr_s, up_s, c37, y6])) ?_ ?_ ?_
      · have hh : i ≠ sb ∧ i ≠ sb + 1 ∧ i ≠ sb + 2 ∧ i ≠ sb + 3 := by
          by_cases qq : i = c.2.2 2 ∨ i = c.2.2 2 + 1 ∨ i = c.2.2 2 + 2 ∨ i = c.2.2 2 + 3
          · exact hne i qq
          · omega
        exact p1 i (by omega) hh.1 hh.2.1 hh.2.2.1 hh.2.2.2
      · rw [gr_s, up_n _ _ (by omega), fd3.2.2 0 (by omega), hs 0 (by omega)]; exact z0
      · rw [X0 0 c3 rfl, if_pos rfl, c36, gok_e]
      · rw [Y0 v y rfl, if_neg y5', gb2_x (ends_d y5)]
  · refine ans_i (v := 0) (d := d) hZ (by decide) ?_ ?_
    · unfold m_X9_book; simp only [gj_e]
      rcases i_or q with u | ⟨u, v⟩
      · rw [if_pos u, gc_1 (show gck 0 = 9 from rfl), gbx_x2 (dm_0 c)]
      · rw [if_neg u, gc_1 (show gck 0 = 9 from rfl), eT1, if_pos v, gc_1 (show gck 0 = 9 from rfl), gbx_x2 (dm_0 c)]
    · unfold m_X10_book; simp only [gj_e]
      rw [gc_1 (show gck 55 = 10 from rfl), gv_e, show gm_r d 55 (upd (d.1 55) 0 0) = dZ d from rfl, eT2, gb_x (in_0 q), if_pos rfl, gb2_x (bd_i z0 (by decide)), if_neg (by decide)]
