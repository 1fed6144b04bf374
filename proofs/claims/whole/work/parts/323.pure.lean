set_option maxRecDepth 16384
theorem gRl_bk {th m p : Nat} {c d c2 d2 : gm} (h : gRl th m p c d) (f : fr (fun i => i = c.2.2 2 ∨ i = c.2.2 2 + 4 ∨ i = c.2.2 2 + 5) c c2) (h5 : c2.1 (c.2.2 2) 5 = c.1 (c.2.2 2) 5) (fd : ∀ i, i ≠ 529 → d2.1 i = d.1 i) : gRl th m p c2 d2 := by
  have hq := gPt_q h.1
  refine gRl_sm h ⟨by rw [f.2], fun i hi => f.1 i (by omega), by rw [f.1 1 (by omega)], h5, fun k hk => by rw [fd 55 (by omega)], fun i hi => fd i (by omega)⟩ ?_
  have g := h.2.2.2.2.2.1
  unfold gCn at g ⊢
  rw [f.1 0 (by omega), f.1 1 (by omega), fd 57 (by omega), fd 55 (by omega)]
  exact g
theorem gPt_b {c : gm} (h : gPt c) : gck (c.2.2 2) = 0 ∧ 43 ≤ c.2.2 2 := by
  rcases h.2 with q | q <;> rw [q.1] <;> decide
theorem fits_two {th m p n : Nat} {c d : gm} (h : gRl th m p c d) (hn : 200 < n) (a : Int32) : gAns 1 0 (m_X9_fits n 0 a c) (m_X10_fits n 55 a d) := by
  have hZ := gRl_dZ h
  have z0 := dZ_0 d
  obtain ⟨hP, hp, ⟨hS, hRw, hM, hL⟩, hTo, hTp, hCn, hBk, hPs, hIm⟩ := id hZ
  obtain ⟨hk, h8, h5, h6, h7, h9, h10, h11, hw, hf, hcp⟩ := id hS
  obtain ⟨m0, m3, -⟩ := id hM
  have hm : m ≤ 10 := hRw.1
  have h56 := hRw.2.1
  by_cases q : 0 ≤ a ∧ a ≤ 1
  · obtain ⟨k, hk1, rfl⟩ := i_ex (y := 1) (by decide) q
    obtain ⟨kb, hbk⟩ := gPt_b hP
    obtain ⟨z, A, B, R, hz, hBc, hBd, hA⟩ := gBk_e hBk h8
    obtain ⟨c2, e1, f1, hs, h6', hj⟩ := sk_c (n := n) kb hbk hS hBc hz hA hn
    have e2 := fits_lp (d := dZ d) rfl h8 hBd hz hA hn
    have e3 := fp_c (n := n) kb hj hn
    have hF : gRl th m p c2 (dZ d) := gRl_bk hZ (fr_m f1 (fun i hi => by omega)) (hs 5 (by omega)) (fun i _ => rfl)
    have hc2 : c2.2.2 2 = c.2.2 2 := by rw [f1.2]
    rcases (by omega : k = 0 ∨ k = 1) with rfl | rfl
    · refine ans_o (r := nI (pCnt (pFb z A B R ((dZ d).1 503)) 190)) hF z0 ?_ ?_
      · unfold m_X9_fits; simp only [gj_e]
        rw [if_pos (show nI 0 = 0 from rfl), gc_1 (show gck 0 = 9 from rfl), gbx_x1 (dm_1 c), gc_1 kb, gb_x e1, if_pos (show nI 0 = 0 from rfl), hc2, gc_1 kb, h6', gok_e]
      · unfold m_X10_fits; simp only [gj_e]
        rw [gc_1 (show gck 55 = 10 from rfl), gv_e, show gm_r d 55 (upd (d.1 55) 0 0) = dZ d from rfl, gb_x (in_1 q), if_neg (by decide), gb2_x (bd_0 z0), if_pos rfl, gb_x e2, gu2_e, if_pos (show nI 0 = 0 from rfl)]
    · refine ans_o (r := pFst (pFb z A B R ((dZ d).1 503)) 190) hF z0 ?_ ?_
      · unfold m_X9_fits; simp only [gj_e]
        rw [if_neg (show ¬ nI 1 = 0 by decide), if_pos (show nI 1 = 1 from rfl), gc_1 (show gck 0 = 9 from rfl), gbx_x1 (dm_1 c), gc_1 kb, gb_x e1, if_neg (show ¬ nI 1 = 0 by decide), hc2, gc_1 kb, gb_x e3, gok_e]
      · unfold m_X10_fits; simp only [gj_e]
        rw [gc_1 (show gck 55 = 10 from rfl), gv_e, show gm_r d 55 (upd (d.1 55) 0 0) = dZ d from rfl, gb_x (in_1 q), if_neg (by decide), gb2_x (bd_0 z0), if_pos rfl, gb_x e2, gu2_e, if_neg (show ¬ nI 1 = 0 by decide)]
  · refine ans_i (v := 0) (d := d) hZ (by decide) ?_ ?_
    · unfold m_X9_fits; simp only [gj_e]
      rw [if_neg (w01 q).1, if_neg (w01 q).2, gc_1 (show gck 0 = 9 from rfl), gbx_x2 (dm_0 c)]
    · unfold m_X10_fits; simp only [gj_e]
      rw [gc_1 (show gck 55 = 10 from rfl), gv_e, show gm_r d 55 (upd (d.1 55) 0 0) = dZ d from rfl, gb_x (in_0 q), if_pos rfl, gb2_x (bd_i z0 (by decide)), if_neg (by decide)]
/-- how many pairs are left where it stands w -/
def pWo (f : Nat → Bool) (g : Nat → Int32) (w k : Nat) : Nat := pCnt (fun j => f j && decide (g j = nI w)) k
theorem pWo_s (f : Nat → Bool) (g : Nat → Int32) (w k : Nat) : pWo f g w (k + 1) = pWo f g w k + if f k = true ∧ g k = nI w then 1 else 0 := by
  unfold pWo
  rw [pCnt_s]
  congr 1
  simp only [Bool.and_eq_true, decide_eq_true_eq]
theorem pWo_b (f : Nat → Bool) (g : Nat → Int32) (w k : Nat) : pWo f g w k ≤ k := pCnt_b _ k
def pMx (f : Nat → Bool) (g : Nat → Int32) : Nat := max (pWo f g 0 190) (max (pWo f g 1 190) (pWo f g 2 190))
theorem mx_n {a b : Nat} (ha : a < 2147483648) (hb : b < 2147483648) : (if nI a < nI b then nI b else nI a) = nI (max a b) := by
  by_cases q : a < b
  · rw [if_pos (by rw [n_lt ha hb]; exact q), show max a b = b by omega]
  · rw [if_neg (by rw [n_lt ha hb]; exact q), show max a b = a by omega]
theorem pStk_v (r : Nat → Int32) (a b k : Nat) : ∃ w, w < 3 ∧ pStk r a b k = nI w := by
  rcases pSt_v (r a) (r b) (nI (k / 10)) (nI (k % 10)) with e | e | e
  · exact ⟨0, by omega, e⟩
  · exact ⟨1, by omega, e⟩
  · exact ⟨2, by omega, e⟩
theorem gk_lb {bk : Nat} (h : bk = 43 ∨ bk = 49) : gck (bk + 5) = 12 ∧ gal (bk + 5) = 3 := by rcases h with rfl | rfl <;> decide
theorem fill_c {bk n : Nat} {c : gm} (hb : bk = 43 ∨ bk = 49) (hn : 160 < n) : ∃ c2, m_J7_fill_53178 n (bk + 5) 0 c = some c2 ∧ fr (fun i => i = bk + 5) c c2 ∧ ∀ w, w < 3 → c2.1 (bk + 5) w = nI 0 := by
  obtain ⟨k1, k2⟩ := gk_lb hb
  obtain ⟨c2, e, h⟩ := gloop_inv (f := gu2 (fun (y5 : Int32) (c6 : gm) => m_J7_fill_53178_L5 (bk + 5) 0 (nI 3) y5 c6)) (fun q (a : Int32 × gm) => ∃ k c6, k ≤ 3 ∧ q + k = 3 ∧ a = (nI k, c6) ∧ fr (fun i => i = bk + 5) c c6 ∧ ∀ w, w < k → c6.1 (bk + 5) w = nI 0) (fun c2 => fr (fun i => i = bk + 5) c c2 ∧ ∀ w, w < 3 → c2.1 (bk + 5) w = nI 0) (n := n) (r := 3) (a := (0, c)) (by
    rintro q a ⟨k, c6, hk, hq, rfl, fc, hw⟩
    by_cases hk2 : k = 3
    · right
      subst hk2
      refine ⟨c6, ?_, fc, hw⟩
      show m_J7_fill_53178_L5 (bk + 5) 0 (nI 3) (nI 3) c6 = _
      unfold m_J7_fill_53178_L5
      rw [if_pos (by decide)]
    · left
      refine ⟨(nI (k + 1), gm_r c6 (bk + 5) (upd (c6.1 (bk + 5)) k 0)), q - 1, ?_, by omega, k + 1, _, by omega, by omega, rfl, fr_ut fc rfl, fun w hw2 => ?_⟩
      · show m_J7_fill_53178_L5 (bk + 5) 0 (nI 3) (nI k) c6 = _
        unfold m_J7_fill_53178_L5
        rw [if_neg (by rw [n_le (by decide) (by omega)]; omega), k2, gc_1 (n_rg (by omega) (by omega)), gv_e, gv_e, n_s, n_cl (by omega)]
      · rw [gr_s]
        by_cases e : w = k
        · rw [e, up_s]; rfl
        · rw [up_n _ _ e]; exact hw w (by omega)) ⟨0, c, by omega, by omega, rfl, fr_r _ _, fun w hw => by omega⟩ (by omega)
  refine ⟨c2, ?_, h⟩
  unfold m_J7_fill_53178
  rw [gc_1 k1, k2, gv_e, gb_x e]
theorem up3 {f : Nat → Int32} {g : Nat → Nat} {w0 : Nat} (h : ∀ w, w < 3 → f w = nI (g w)) (w : Nat) (hw : w < 3) : upd f w0 (f w0 + 1) w = nI (g w + if w = w0 then 1 else 0) := by
  by_cases e : w = w0
  · rw [e, up_s, if_pos rfl, h w0 (by omega), n_s]
  · rw [up_n _ _ e, if_neg e]; exact h w hw
theorem wo_c {bk th m n a b : Nat} {f : Nat → Bool} {pl : Int32} {r : Nat → Int32} {c : gm} (hb : bk = 43 ∨ bk = 49) (hS : gSt 3 c th m pl r) (hj : ∀ j, j < 190 → c.1 (bk + 4) j = if f j = true then 1 else 0) (ha : a < th) (hb2 : b < th) (hn : 200 < n) : ∃ c2, m_X0_worstOf n bk 3 (nI a) (nI b) c = some (nI (pMx f (pStk r a b)), c2) ∧ fr (fun i => i = bk + 5) c c2 := by
  obtain ⟨c1, e1, f1, g1⟩ := fill_c (n := n) (c := c) hb (by omega)
  obtain ⟨c2, e, f2, h⟩ := gloop_inv (f := gu2 (fun (y10 : Int32) (c11 : gm) => m_X0_worstOf_L11 bk 3 (nI a) (nI b) y10 c11)) (fun q (x : Int32 × gm) => ∃ k c6, k ≤ 190 ∧ q + k = 190 ∧ x = (nI k, c6) ∧ fr (fun i => i = bk + 5) c c6 ∧ ∀ w, w < 3 → c6.1 (bk + 5) w = nI (pWo f (pStk r a b) w k)) (fun c2 => fr (fun i => i = bk + 5) c c2 ∧ ∀ w, w < 3 → c2.1 (bk + 5) w = nI (pWo f (pStk r a b) w 190)) (n := n) (r := 190) (a := (0, c1)) (by
    rintro q x ⟨k, c6, hk, hq, rfl, fc, hw⟩
    by_cases hk2 : k = 190
    · right
      subst hk2
      refine ⟨c6, ?_, fc, hw⟩
      show m_X0_worstOf_L11 bk 3 (nI a) (nI b) (nI 190) c6 = _
      unfold m_X0_worstOf_L11
      rw [if_pos (by decide)]
    · left
      have hS6 : gSt 3 c6 th m pl r := gSt_fr hS (fc.1 _ (by omega)) (fc.1 _ (by omega)) (fc.1 _ (by omega)) (fc.1 _ (by omega))
      obtain ⟨w0, hw0, ew⟩ := pStk_v r a b k
      have hb1 := sb_by hS6 ha hb2 (show k < 190 by omega)
      by_cases e : f k = true
      · refine ⟨(nI (k + 1), gm_r c6 (bk + 5) (upd (c6.1 (bk + 5)) w0 (c6.1 (bk + 5) w0 + 1))), q - 1, ?_, by omega, k + 1, _, by omega, by omega, rfl, fr_ut fc rfl, fun w hw2 => ?_⟩
        · show m_X0_worstOf_L11 bk 3 (nI a) (nI b) (nI k) c6 = _
          unfold m_X0_worstOf_L11; simp only [gj_e]
          rw [if_neg (by rw [n_l190, n_le (by decide) (by omega)]; omega), gb_x hb1, gc_1 (n_rg (by omega) (by omega)), n_cl (by omega), fc.1 (bk + 4) (by omega), hj k (by omega), if_pos e, if_neg (by decide), ew, if_neg (by rw [n_l0, n_lt (by omega) (by decide)]; omega), if_neg (by rw [n_l2, n_lt (by decide) (by omega)]; omega), gc_1 (n_rg (by omega) (by omega)), gc_1 (n_rg (by omega) (by omega)), gv_e, gv_e, n_s, n_cl (by omega)]
        · rw [gr_s, up3 hw w hw2, pWo_s]
          congr 2
          by_cases ew2 : w = w0
          · rw [if_pos ew2, if_pos ⟨e, by rw [ew, ew2]⟩]
          · rw [if_neg ew2, if_neg (fun q2 => ew2 (by have := q2.2; rw [ew, n_eq (by omega) (by omega)] at this; exact this.symm))]
      · refine ⟨(nI (k + 1), c6), q - 1, ?_, by omega, k + 1, _, by omega, by omega, rfl, fc, fun w hw2 => ?_⟩
        · show m_X0_worstOf_L11 bk 3 (nI a) (nI b) (nI k) c6 = _
          unfold m_X0_worstOf_L11; simp only [gj_e]
          rw [if_neg (by rw [n_l190, n_le (by decide) (by omega)]; omega), gb_x hb1, gc_1 (n_rg (by omega) (by omega)), n_cl (by omega), fc.1 (bk + 4) (by omega), hj k (by omega), if_neg e, if_pos rfl, gv_e, n_s]
        · rw [pWo_s, if_neg (fun q2 => e q2.1), Nat.add_zero]; exact hw w hw2) ⟨0, c1, by omega, by omega, rfl, f1, fun w hw => g1 w hw⟩ (by omega)
  have kb : gck bk = 0 := by rcases hb with rfl | rfl <;> rfl
  have b0 := pWo_b f (pStk r a b) 0 190
  have b1 := pWo_b f (pStk r a b) 1 190
  have b2 := pWo_b f (pStk r a b) 2 190
  refine ⟨c2, ?_, f2⟩
  unfold m_X0_worstOf
  rw [gc_1 kb, gb_x e1, gb_x e, n_cl0, n_cl1, show (2 : Int32).toNatClampNeg = 2 from rfl, h 0 (by omega), h 1 (by omega), h 2 (by omega), mx_n (by omega) (by omega), mx_n (by omega) (by omega)]
  rfl
theorem wo_d {z th n a b : Nat} {A B R : Nat → Nat} {r : Nat → Int32} {d : gm} (er : d.1 503 = r) (h8 : th ≤ 8) (hB : gBd z A B R d) (hz : z ≤ 6) (hA : ∀ j, j < z → A j < th ∧ B j < th ∧ R j ≤ 2) (ha : a < th) (hb2 : b < th) (hn : 200 < n) : ∃ d2, m_X10_worstOf n 55 (nI a) (nI b) d = some (nI (pMx (pFb z A B R r) (pStk r a b)), d2) ∧ fr (fun i => i = 529) d d2 := by
  obtain ⟨d1, e1, f1, g1⟩ := gloop_inv (f := gu2 (fun (y2 : Int32) (c3 : gm) => m_X10_worstOf_L2 55 y2 c3)) (fun q (x : Int32 × gm) => ∃ k c6, k ≤ 3 ∧ q + k = 3 ∧ x = (nI k, c6) ∧ fr (fun i => i = 529) d c6 ∧ ∀ w, w < k → c6.1 529 w = nI 0) (fun c2 => fr (fun i => i = 529) d c2 ∧ ∀ w, w < 3 → c2.1 529 w = nI 0) (n := n) (r := 3) (a := (0, d)) (by
    rintro q x ⟨k, c6, hk, hq, rfl, fc, hw⟩
    by_cases hk2 : k = 3
    · right
      subst hk2
      refine ⟨c6, ?_, fc, hw⟩
      show m_X10_worstOf_L2 55 (nI 3) c6 = _
      unfold m_X10_worstOf_L2
      rw [if_pos (by decide)]
    · left
      refine ⟨(nI (k + 1), gm_r c6 529 (upd (c6.1 529) k 0)), q - 1, ?_, by omega, k + 1, _, by omega, by omega, rfl, fr_ut fc rfl, fun w hw2 => ?_⟩
      · show m_X10_worstOf_L2 55 (nI k) c6 = _
        unfold m_X10_worstOf_L2
        rw [if_neg (by rw [n_l3, n_le (by decide) (by omega)]; omega), gc_1 (show gck 55 = 10 from rfl), gc_1 (n_rg (by omega) (by omega)), gv_e, gv_e, n_s, n_cl (by omega)]
      · rw [gr_s]
        by_cases e : w = k
        · rw [e, up_s]; rfl
        · rw [up_n _ _ e]; exact hw w (by omega)) ⟨0, d, by omega, by omega, rfl, fr_r _ _, fun w hw => by omega⟩ (by omega)
  obtain ⟨d2, e, f2, h⟩ := gloop_inv (f := gu2 (fun (y6 : Int32) (c7 : gm) => m_X10_worstOf_L22 n 55 (nI a) (nI b) y6 c7)) (fun q (x : Int32 × gm) => ∃ k c6, k ≤ 190 ∧ q + k = 190 ∧ x = (nI k, c6) ∧ fr (fun i => i = 529) d c6 ∧ ∀ w, w < 3 → c6.1 529 w = nI (pWo (pFb z A B R r) (pStk r a b) w k)) (fun c2 => fr (fun i => i = 529) d c2 ∧ ∀ w, w < 3 → c2.1 529 w = nI (pWo (pFb z A B R r) (pStk r a b) w 190)) (n := n) (r := 190) (a := (0, d1)) (by
    rintro q x ⟨k, c6, hk, hq, rfl, fc, hw⟩
    by_cases hk2 : k = 190
    · right
      subst hk2
      refine ⟨c6, ?_, fc, hw⟩
      show m_X10_worstOf_L22 n 55 (nI a) (nI b) (nI 190) c6 = _
      unfold m_X10_worstOf_L22
      rw [if_pos (by decide)]
    · left
      have hB6 : gBd z A B R c6 := ⟨by rw [fc.1 55 (by omega)]; exact hB.1, fun j hj => by rw [fc.1 _ (by omega)]; exact hB.2 j hj⟩
      obtain ⟨w0, hw0, ew⟩ := pStk_v r a b k
      obtain ⟨t1, t2⟩ := k_10 (show k < 190 by omega)
      have hb1 := fi_d (n := n) (show c6.1 503 = r by rw [fc.1 503 (by omega)]; exact er) h8 hB6 hz hA (show k < 190 by omega) (by omega)
      by_cases e : pFb z A B R r k = true
      · refine ⟨(nI (k + 1), gm_r c6 529 (upd (c6.1 529) w0 (c6.1 529 w0 + 1))), q - 1, ?_, by omega, k + 1, _, by omega, by omega, rfl, fr_ut fc rfl, fun w hw2 => ?_⟩
        · show m_X10_worstOf_L22 n 55 (nI a) (nI b) (nI k) c6 = _
          unfold m_X10_worstOf_L22; simp only [gj_e]
          rw [if_neg (by rw [n_l190, n_le (by decide) (by omega)]; omega), gc_1 (show gck 55 = 10 from rfl), t1, t2, gb_x hb1, if_pos e, if_neg (by decide), n_z, n_z, gc_1 (n_rg (by omega) (by omega)), gc_1 (n_rg (by omega) (by omega)), n_cl (by omega), n_cl (by omega), fc.1 503 (by omega), er, md_standing, cs_standing, gb_e]
          have ew' : (if r a + nI (k / 10) - 9 - r b ≤ nI (k % 10) then if -(r a + nI (k / 10) - 9 - r b) ≤ nI (k % 10) then 0 else 2 else 1) = nI w0 := ew
          rw [ew', gc_1 (n_rg (by omega) (by omega)), gc_1 (n_rg (by omega) (by omega)), gv_e, gv_e, n_s, n_cl (by omega)]
        · rw [gr_s, up3 hw w hw2, pWo_s]
          congr 2
          by_cases ew2 : w = w0
          · rw [if_pos ew2, if_pos ⟨e, by rw [ew, ew2]⟩]
          · rw [if_neg ew2, if_neg (fun q2 => ew2 (by have := q2.2; rw [ew, n_eq (by omega) (by omega)] at this; exact this.symm))]
      · refine ⟨(nI (k + 1), c6), q - 1, ?_, by omega, k + 1, _, by omega, by omega, rfl, fc, fun w hw2 => ?_⟩
        · show m_X10_worstOf_L22 n 55 (nI a) (nI b) (nI k) c6 = _
          unfold m_X10_worstOf_L22; simp only [gj_e]
          rw [if_neg (by rw [n_l190, n_le (by decide) (by omega)]; omega), gc_1 (show gck 55 = 10 from rfl), t1, t2, gb_x hb1, if_neg e, if_pos rfl, gv_e, n_s]
        · rw [pWo_s, if_neg (fun q2 => e q2.1), Nat.add_zero]; exact hw w hw2) ⟨0, d1, by omega, by omega, rfl, f1, fun w hw => g1 w hw⟩ (by omega)
  have b0 := pWo_b (pFb z A B R r) (pStk r a b) 0 190
  have b1 := pWo_b (pFb z A B R r) (pStk r a b) 1 190
  have b2 := pWo_b (pFb z A B R r) (pStk r a b) 2 190
  refine ⟨d2, ?_, f2⟩
  unfold m_X10_worstOf
  rw [gb_x e1, gb_x e, gc_1 (show gck 55 = 10 from rfl), n_cl0, n_cl1, show (2 : Int32).toNatClampNeg = 2 from rfl, h 0 (by omega), h 1 (by omega), h 2 (by omega), gb_x (more_n (by omega) (by omega)), gb_x (more_n (by omega) (by omega))]
  rfl
/-- what stays while the next two are sought -/
def gLk (bk : Nat) (c c2 d d2 : gm) : Prop := fr (fun i => i = bk ∨ i = bk + 5) c c2 ∧ (∀ s, s ≠ 7 → s ≠ 8 → c2.1 bk s = c.1 bk s) ∧ fr (fun i => i = 529) d d2
theorem look_in {bk z th m n a : Nat} {A B R : Nat → Nat} {pl : Int32} {r : Nat → Int32} {c d c0 d0 : gm} (hb : bk = 43 ∨ bk = 49) (hS : gSt 3 c th m pl r) (er : d.1 503 = r) (m0 : d.1 59 0 = nI th) (hBd : gBd z A B R d) (hz : z ≤ 6) (hA : ∀ j, j < z → A j < th ∧ B j < th ∧ R j ≤ 2) (hj : ∀ j, j < 190 → c.1 (bk + 4) j = if pFb z A B R r j = true then 1 else 0) (ha : a < th) (hn : 200 < n) (h0 : gLk bk c c0 d d0) : ∃ c2 d2, gloop (gu2 (fun (y17 : Int32) (c18 : gm) => m_X0_seekNext_L29 n bk 3 (nI a) y17 c18)) n (nI (a + 1), c0) = some c2 ∧ gloop (gu2 (fun (y28 : Int32) => gu2 (fun (y29 : Int32) => gu2 (fun (y30 : Int32) (c31 : gm) => m_X10_look_L54 n 55 (nI a) y28 y29 y30 c31)))) n (c0.1 bk 7, c0.1 bk 8, nI (a + 1), d0) = some (c2.1 bk 7, c2.1 bk 8, d2) ∧ gLk bk c c2 d d2 := by
  have h8 := hS.2.1
  have h5 := hS.2.2.1
  obtain ⟨c2, y, l1, l2, d2, rfl, hL⟩ := gloop_two (f := gu2 (fun (y17 : Int32) (c18 : gm) => m_X0_seekNext_L29 n bk 3 (nI a) y17 c18)) (g := gu2 (fun (y28 : Int32) => gu2 (fun (y29 : Int32) => gu2 (fun (y30 : Int32) (c31 : gm) => m_X10_look_L54 n 55 (nI a) y28 y29 y30 c31)))) (fun q (x : Int32 × gm) (y : Int32 × Int32 × Int32 × gm) => ∃ k c2 d2, k ≤ th ∧ q + k = th ∧ x = (nI k, c2) ∧ y = (c2.1 bk 7, c2.1 bk 8, nI k, d2) ∧ gLk bk c c2 d d2) (fun (c2 : gm) (y : Int32 × Int32 × gm) => ∃ d2, y = (c2.1 bk 7, c2.1 bk 8, d2) ∧ gLk bk c c2 d d2) (n := n) (r := th - (a + 1)) (a := (nI (a + 1), c0)) (x := (c0.1 bk 7, c0.1 bk 8, nI (a + 1), d0)) (by
    rintro q x y ⟨k, c2, d2, hk, hq, rfl, rfl, hL⟩
    obtain ⟨f1, f2, f3⟩ := id hL
    have h52 : c2.1 3 5 = nI th := by rw [f1.1 3 (by omega)]; exact h5
    have m02 : d2.1 59 0 = nI th := by rw [f3.1 59 (by omega)]; exact m0
    by_cases hk2 : k = th
    · right
      subst hk2
      refine ⟨c2, _, ?_, ?_, d2, rfl, hL⟩
      · show m_X0_seekNext_L29 n bk 3 (nI a) (nI k) c2 = _
        unfold m_X0_seekNext_L29
        rw [h52, if_pos (by rw [n_le (by omega) (by omega)]; omega)]
      · show m_X10_look_L54 n 55 (nI a) (c2.1 bk 7) (c2.1 bk 8) (nI k) d2 = _
        unfold m_X10_look_L54
        rw [n_cl0, m02, if_pos (by rw [n_le (by omega) (by omega)]; omega)]
    · left
      have p1 : ¬ nI th ≤ nI k := by rw [n_le (by omega) (by omega)]; omega
      have hS2 : gSt 3 c2 th m pl r := gSt_fr hS (f1.1 _ (by omega)) (f1.1 _ (by omega)) (f1.1 _ (by omega)) (f1.1 _ (by omega))
      have hB2 : gBd z A B R d2 := ⟨by rw [f3.1 55 (by omega)]; exact hBd.1, fun j hj => by rw [f3.1 _ (by omega)]; exact hBd.2 j hj⟩
      obtain ⟨c3, e1, g1⟩ := wo_c (n := n) (f := pFb z A B R r) hb hS2 (fun j hj2 => by rw [f1.1 (bk + 4) (by omega)]; exact hj j hj2) ha (show k < th by omega) hn
      obtain ⟨d3, e2, g2⟩ := wo_d (n := n) (show d2.1 503 = r by rw [f3.1 503 (by omega)]; exact er) h8 hB2 hz hA ha (show k < th by omega) hn
      have hbk3 : c3.1 bk = c2.1 bk := g1.1 bk (by omega)
      have hL3 : gLk bk c c3 d d3 := ⟨fr_t f1 (fr_m g1 (fun i hi => Or.inr hi)), fun s s7 s8 => by rw [hbk3]; exact f2 s s7 s8, fr_t f3 g2⟩
      generalize nI (pMx (pFb z A B R r) (pStk r a k)) = W at e1 e2
      have hch : ∀ (G : Prop), G → (¬ (c2.1 bk 7 = -1) → c2.1 bk 8 ≤ W → ¬ G) → True := fun _ _ _ => trivial
      by_cases hG : c2.1 bk 7 = -1 ∨ ¬ c2.1 bk 8 ≤ W
      · refine ⟨(nI (k + 1), gm_r (gm_r c3 bk (upd (c3.1 bk) 7 (10 * nI a + nI k))) bk (upd (upd (c3.1 bk) 7 (10 * nI a + nI k)) 8 W)), (10 * nI a + nI k, W, nI (k + 1), d3), q - 1, ?_, ?_, by omega, k + 1, _, d3, by omega, by omega, rfl, ?_, ?_⟩
        · show m_X0_seekNext_L29 n bk 3 (nI a) (nI k) c2 = _
          unfold m_X0_seekNext_L29; simp only [gj_e]
          rw [h52, if_neg p1, gb2_x e1, hbk3]
          by_cases q7 : c2.1 bk 7 = -1
          · rw [if_pos q7, gv_e, gv_e, gv_e, n_s, gr_s]
          · rw [if_neg q7, if_neg (by rcases hG with q | q; exact absurd q q7; exact q), gv_e, gv_e, gv_e, n_s, gr_s]
        · show m_X10_look_L54 n 55 (nI a) (c2.1 bk 7) (c2.1 bk 8) (nI k) d2 = _
          unfold m_X10_look_L54; simp only [gj_e]
          rw [n_cl0, m02, if_neg p1, gb2_x e2]
          by_cases q7 : c2.1 bk 7 = -1
          · rw [if_pos q7, gv_e, gu2_e, gv_e, n_s]
          · rw [if_neg q7, if_pos (Int32.not_le.mp (by rcases hG with q | q; exact absurd q q7; exact q)), gv_e, gu2_e, gv_e, n_s]
        · rw [gr_s, up_s, up_n _ _ (by omega), up_s]
        · exact ⟨fr_ut (fr_ut hL3.1 (Or.inl rfl)) (Or.inl rfl), fun s s7 s8 => by rw [gr_s, up_n _ _ s8, up_n _ _ s7]; exact hL3.2.1 s s7 s8, hL3.2.2⟩
      · have q7 : ¬ c2.1 bk 7 = -1 := fun q => hG (Or.inl q)
        have q8 : c2.1 bk 8 ≤ W := Classical.not_not.mp (fun q => hG (Or.inr q))
        refine ⟨(nI (k + 1), c3), (c2.1 bk 7, c2.1 bk 8, nI (k + 1), d3), q - 1, ?_, ?_, by omega, k + 1, _, d3, by omega, by omega, rfl, by rw [hbk3], hL3⟩
        · show m_X0_seekNext_L29 n bk 3 (nI a) (nI k) c2 = _
          unfold m_X0_seekNext_L29; simp only [gj_e]
          rw [h52, if_neg p1, gb2_x e1, hbk3, if_neg q7, if_pos q8, gv_e, n_s]
        · show m_X10_look_L54 n 55 (nI a) (c2.1 bk 7) (c2.1 bk 8) (nI k) d2 = _
          unfold m_X10_look_L54; simp only [gj_e]
          rw [n_cl0, m02, if_neg p1, gb2_x e2, if_neg q7, if_neg (i_nlt q8), gu2_e, gv_e, n_s]) ⟨a + 1, c0, d0, by omega, by omega, rfl, rfl, h0⟩ (by omega)
  exact ⟨c2, d2, l1, l2, hL⟩
theorem look_out {bk z th m n : Nat} {A B R : Nat → Nat} {pl : Int32} {r : Nat → Int32} {c d c0 d0 : gm} (hb : bk = 43 ∨ bk = 49) (hS : gSt 3 c th m pl r) (er : d.1 503 = r) (m0 : d.1 59 0 = nI th) (hBd : gBd z A B R d) (hz : z ≤ 6) (hA : ∀ j, j < z → A j < th ∧ B j < th ∧ R j ≤ 2) (hj : ∀ j, j < 190 → c.1 (bk + 4) j = if pFb z A B R r j = true then 1 else 0) (hn : 200 < n) (h0 : gLk bk c c0 d d0) : ∃ c2 d2, gloop (gu2 (fun (y9 : Int32) (c10 : gm) => m_X0_seekNext_L17 n bk 3 y9 c10)) n (0, c0) = some c2 ∧ gloop (gu2 (fun (y13 : Int32) => gu2 (fun (y14 : Int32) => gu2 (fun (y15 : Int32) (c16 : gm) => m_X10_look_L37 n 55 y13 y14 y15 c16)))) n (c0.1 bk 7, c0.1 bk 8, 0, d0) = some (c2.1 bk 7, c2.1 bk 8, d2) ∧ gLk bk c c2 d d2 := by
  have h8 := hS.2.1
  have h5 := hS.2.2.1
  obtain ⟨c2, y, l1, l2, d2, rfl, hL⟩ := gloop_two (f := gu2 (fun (y9 : Int32) (c10 : gm) => m_X0_seekNext_L17 n bk 3 y9 c10)) (g := gu2 (fun (y13 : Int32) => gu2 (fun (y14 : Int32) => gu2 (fun (y15 : Int32) (c16 : gm) => m_X10_look_L37 n 55 y13 y14 y15 c16)))) (fun q (x : Int32 × gm) (y : Int32 × Int32 × Int32 × gm) => ∃ k c2 d2, k ≤ th ∧ q + k = th ∧ x = (nI k, c2) ∧ y = (c2.1 bk 7, c2.1 bk 8, nI k, d2) ∧ gLk bk c c2 d d2) (fun (c2 : gm) (y : Int32 × Int32 × gm) => ∃ d2, y = (c2.1 bk 7, c2.1 bk 8, d2) ∧ gLk bk c c2 d d2) (n := n) (r := th) (a := (0, c0)) (x := (c0.1 bk 7, c0.1 bk 8, 0, d0)) (by
    rintro q x y ⟨k, c2, d2, hk, hq, rfl, rfl, hL⟩
    obtain ⟨f1, f2, f3⟩ := id hL
    have h52 : c2.1 3 5 = nI th := by rw [f1.1 3 (by omega)]; exact h5
    have m02 : d2.1 59 0 = nI th := by rw [f3.1 59 (by omega)]; exact m0
    by_cases hk2 : k = th
    · right
      subst hk2
      refine ⟨c2, _, ?_, ?_, d2, rfl, hL⟩
      · show m_X0_seekNext_L17 n bk 3 (nI k) c2 = _
        unfold m_X0_seekNext_L17
        rw [gc_1 (show gck 3 = 6 from rfl), h52, if_pos (by rw [n_le (by omega) (by omega)]; omega)]
      · show m_X10_look_L37 n 55 (c2.1 bk 7) (c2.1 bk 8) (nI k) d2 = _
        unfold m_X10_look_L37
        rw [n_cl0, m02, if_pos (by rw [n_le (by omega) (by omega)]; omega)]
    · left
      have p1 : ¬ nI th ≤ nI k := by rw [n_le (by omega) (by omega)]; omega
      obtain ⟨c3, d3, i1, i2, hL3⟩ := look_in hb hS er m0 hBd hz hA hj (show k < th by omega) hn hL
      refine ⟨(nI (k + 1), c3), (c3.1 bk 7, c3.1 bk 8, nI (k + 1), d3), q - 1, ?_, ?_, by omega, k + 1, c3, d3, by omega, by omega, rfl, rfl, hL3⟩
      · show m_X0_seekNext_L17 n bk 3 (nI k) c2 = _
        unfold m_X0_seekNext_L17
        rw [gc_1 (show gck 3 = 6 from rfl), h52, if_neg p1, gv_e, n_s, gb_x i1, gv_e]
      · show m_X10_look_L37 n 55 (c2.1 bk 7) (c2.1 bk 8) (nI k) d2 = _
        unfold m_X10_look_L37
        rw [n_cl0, m02, if_neg p1, gv_e, n_s, gb_x i2, gu2_e, gu2_e, gv_e]) ⟨0, c0, d0, by omega, by omega, rfl, rfl, h0⟩ (by omega)
  exact ⟨c2, d2, l1, l2, hL⟩
theorem look_two {th m p n : Nat} {c d : gm} (h : gRl th m p c d) (hn : 200 < n) (a : Int32) : gAns 1 0 (m_X9_look n 0 a c) (m_X10_look n 55 a d) := by
  have hZ := gRl_dZ h
  have z0 := dZ_0 d
  obtain ⟨hP, hp, ⟨hS, hRw, hM, hL⟩, hTo, hTp, hCn, hBk, hPs, hIm⟩ := id hZ
  obtain ⟨hk, h8, h5, h6, h7, h9, h10, h11, hw, hf, hcp⟩ := id hS
  obtain ⟨m0, m3, -⟩ := id hM
  have hm : m ≤ 10 := hRw.1
  have h56 := hRw.2.1
  by_cases q : 0 ≤ a ∧ a ≤ 1
  · obtain ⟨k, hk1, rfl⟩ := i_ex (y := 1) (by decide) q
    obtain ⟨kb, hbk⟩ := gPt_b hP
    have hbb := (gPt_q hP).2
    obtain ⟨z, A, B, R, hz, hBc, hBd, hA⟩ := gBk_e hBk h8
    obtain ⟨c1, e1, f1, hs, h6', hj⟩ := sk_c (n := n) kb hbk hS hBc hz hA hn
    obtain ⟨c0, ec0⟩ : ∃ q, q = gm_r (gm_r c1 (c.2.2 2) (upd (c1.1 (c.2.2 2)) 7 (-1))) (c.2.2 2) (upd (upd (c1.1 (c.2.2 2)) 7 (-1)) 8 (-1)) := ⟨_, rfl⟩
    have hS1 : gSt 3 c1 th m (nI p) ((dZ d).1 503) := gSt_fr hS (f1.1 _ (by omega)) (f1.1 _ (by omega)) (f1.1 _ (by omega)) (f1.1 _ (by omega))
    have h0 : gLk (c.2.2 2) c1 c0 (dZ d) (dZ d) := ⟨by rw [ec0]; exact fr_ut (fr_u _ (Or.inl rfl)) (Or.inl rfl), fun s s7 s8 => by rw [ec0, gr_s, up_n _ _ s8, up_n _ _ s7], fr_r _ _⟩
    have h07 : c0.1 (c.2.2 2) 7 = -1 := by rw [ec0, gr_s, up_n _ _ (by omega), up_s]
    have h08 : c0.1 (c.2.2 2) 8 = -1 := by rw [ec0, gr_s, up_s]
    obtain ⟨c2, d2, l1, l2, g1, g2, g3⟩ := look_out (n := n) hbb hS1 rfl m0 hBd hz hA hj hn h0
    rw [h07, h08] at l2
    have hF : gRl th m p c2 d2 := gRl_bk hZ (fr_t (fr_m f1 (fun i hi => by omega)) (fr_m g1 (fun i hi => by omega))) (by rw [g2 5 (by omega) (by omega)]; exact hs 5 (by omega)) (fun i hi => g3.1 i hi)
    have hF0 : d2.1 55 0 = 0 := by rw [g3.1 55 (by omega)]; exact z0
    have hc2 : c2.2.2 2 = c.2.2 2 := by rw [g1.2, f1.2]
    have esn : m_X0_seekNext n (c.2.2 2) 3 c = some c2 := by
      unfold m_X0_seekNext
      rw [gc_1 kb, gb_x e1, gv_e, gv_e, gr_s, ← ec0, gb_x l1]
    rcases (by omega : k = 0 ∨ k = 1) with rfl | rfl
    · refine ans_o (r := c2.1 (c.2.2 2) 7) hF hF0 ?_ ?_
      · unfold m_X9_look; simp only [gj_e]
        rw [if_pos (show nI 0 = 0 from rfl), gc_1 (show gck 0 = 9 from rfl), gbx_x1 (dm_1 c), gc_1 kb, gb_x esn, if_pos (show nI 0 = 0 from rfl), hc2, gc_1 kb, gok_e]
      · unfold m_X10_look; simp only [gj_e]
        rw [gc_1 (show gck 55 = 10 from rfl), gv_e, show gm_r d 55 (upd (d.1 55) 0 0) = dZ d from rfl, gb_x (in_1 q), if_neg (by decide), gb2_x (bd_0 z0), if_pos rfl, gb_x l2, gu2_e, gu2_e, if_pos (show nI 0 = 0 from rfl)]
    · refine ans_o (r := c2.1 (c.2.2 2) 8) hF hF0 ?_ ?_
      · unfold m_X9_look; simp only [gj_e]
        rw [if_neg (show ¬ nI 1 = 0 by decide), if_pos (show nI 1 = 1 from rfl), gc_1 (show gck 0 = 9 from rfl), gbx_x1 (dm_1 c), gc_1 kb, gb_x esn, if_neg (show ¬ nI 1 = 0 by decide), hc2, gc_1 kb, gok_e]
      · unfold m_X10_look; simp only [gj_e]
        rw [gc_1 (show gck 55 = 10 from rfl), gv_e, show gm_r d 55 (upd (d.1 55) 0 0) = dZ d from rfl, gb_x (in_1 q), if_neg (by decide), gb2_x (bd_0 z0), if_pos rfl, gb_x l2, gu2_e, gu2_e, if_neg (show ¬ nI 1 = 0 by decide)]
  · refine ans_i (v := 0) (d := d) hZ (by decide) ?_ ?_
    · unfold m_X9_look; simp only [gj_e]
      rw [if_neg (w01 q).1, if_neg (w01 q).2, gc_1 (show gck 0 = 9 from rfl), gbx_x2 (dm_0 c)]
    · unfold m_X10_look; simp only [gj_e]
      rw [gc_1 (show gck 55 = 10 from rfl), gv_e, show gm_r d 55 (upd (d.1 55) 0 0) = dZ d from rfl, gb_x (in_0 q), if_pos rfl, gb2_x (bd_i z0 (by decide)), if_neg (by decide)]
