set_option maxRecDepth 16384
def gBa (d : gm) (a1 s : Nat) (e : gm) : Prop := e.1 55 36 = nI s ∧ e.1 a1 = d.1 a1 ∧ (∀ i, i ≠ 55 → i ≠ 503 → i < 507 ∨ 522 < i → e.1 i = d.1 i) ∧ (∀ z, z ≠ 36 → z ≠ 33 → e.1 55 z = d.1 55 z) ∧ e.2 = d.2 ∧ (1 ≤ s → e.1 55 33 = d.1 a1 0) ∧ (∀ j, j < 60 → 1 + j < s → e.1 503 j = d.1 a1 (1 + j)) ∧ ∀ k j, k < 16 → j < 60 → 61 + (60 * k + j) < s → e.1 (507 + k) j = d.1 a1 (61 + (60 * k + j))
theorem gBa_all {d : gm} {a1 n : Nat} (ka : gck a1 = 22) (la : gal a1 = 1021) (ha : 524 ≤ a1) (hn : 160 < n) : ∃ e, m_X10_putsAll n 55 a1 1 d = some e ∧ gBa d a1 1021 e := by
  obtain ⟨e0, ee0⟩ : ∃ z, z = gm_r d 55 (upd (d.1 55) 36 0) := ⟨_, rfl⟩
  have k0 : e0.1 55 36 = nI 0 := by rw [ee0, gr_s, up_s]; rfl
  have p0 := puts_1 (v := e0.1 55 33) k0 (by omega) ka la (by omega)
  have ea : e0.1 a1 = d.1 a1 := by rw [ee0, gr_n _ _ (by omega)]
  rw [ea] at p0
  obtain ⟨e1, ee1⟩ : ∃ z, z = gm_r (gm_r e0 55 (upd (e0.1 55) 36 (nI (0 + 1)))) 55 (upd ((gm_r e0 55 (upd (e0.1 55) 36 (nI (0 + 1)))).1 55) 33 (d.1 a1 0)) := ⟨_, rfl⟩
  have h1 : gBa d a1 1 e1 := by
    refine ⟨?_, ?_, fun i i1 i2 i3 => ?_, fun z z1 z2 => ?_, ?_, fun _ => ?_, fun j _ hj => by omega, fun k j _ _ hj => by omega⟩
    · rw [ee1, gr_s, up_n _ _ (by omega), gr_s, up_s]
    · rw [ee1, gr_n _ _ (by omega), gr_n _ _ (by omega), ea]
    · rw [ee1, gr_n _ _ i1, gr_n _ _ i1, ee0, gr_n _ _ i1]
    · rw [ee1, gr_s, up_n _ _ z2, gr_s, up_n _ _ z1, ee0, gr_s, up_n _ _ z1]
    · rw [ee1, ee0]; rfl
    · rw [ee1, gr_s, up_s]
  obtain ⟨e2, l1, h2⟩ := gloop_inv (f := gu2 (fun (y9 : Int32) (c10 : gm) => m_X10_putsAll_L21 55 a1 1 y9 c10)) (fun r (a : Int32 × gm) => ∃ k e, k ≤ 60 ∧ r + k = 60 ∧ a = (nI k, e) ∧ gBa d a1 (1 + k) e) (fun e => gBa d a1 61 e) (n := n) (r := 60) (a := (0, e1)) (by
    rintro r a ⟨k, e, hk, hr, rfl, hv⟩
    by_cases hk2 : k = 60
    · right
      subst hk2
      refine ⟨e, ?_, hv⟩
      show m_X10_putsAll_L21 55 a1 1 (nI 60) e = _
      unfold m_X10_putsAll_L21
      rw [if_pos (show (60 : Int32) ≤ nI 60 by decide)]
    · left
      obtain ⟨v1, v2, v3, v4, v5, v6, v7, v8⟩ := hv
      have p := puts_1 (v := e.1 503 k) v1 (by omega) ka la (by omega)
      rw [v2] at p
      refine ⟨(nI (k + 1), gm_r (gm_r e 55 (upd (e.1 55) 36 (nI (1 + k + 1)))) 503 (upd ((gm_r e 55 (upd (e.1 55) 36 (nI (1 + k + 1)))).1 503) k (d.1 a1 (1 + k)))), r - 1, ?_, by omega, k + 1, _, by omega, by omega, rfl, ?_⟩
      · show m_X10_putsAll_L21 55 a1 1 (nI k) e = _
        unfold m_X10_putsAll_L21
        rw [if_neg (by rw [n_l60, n_le (by decide) (by omega)]; omega), gc_1 (n_rg (by omega) (by omega)), n_cl (by omega), gb2_x p, gc_1 (n_rg (by omega) (by omega)), gv_e, gv_e, n_s]
      · refine ⟨?_, ?_, fun i i1 i2 i3 => ?_, fun z z1 z2 => ?_, v5, fun _ => ?_, fun j hj hj2 => ?_, fun k2 j _ _ hj => by omega⟩
        · rw [gr_n _ _ (by omega), gr_s, up_s]
          exact congrArg nI (by omega)
        · rw [gr_n _ _ (by omega), gr_n _ _ (by omega), v2]
        · rw [gr_n _ _ i2, gr_n _ _ i1, v3 i i1 i2 i3]
        · rw [gr_n _ _ (by omega), gr_s, up_n _ _ z1, v4 z z1 z2]
        · rw [gr_n _ _ (by omega), gr_s, up_n _ _ (by omega), v6 (by omega)]
        · rw [gr_s]
          by_cases q : j = k
          · rw [q, up_s]
          · rw [up_n _ _ q, gr_n _ _ (by omega), v7 j hj (by omega)]) ⟨0, e1, by omega, by omega, rfl, h1⟩ (by omega)
  have inner : ∀ w e, w < 16 → gBa d a1 (61 + 60 * w) e → ∃ e3, gloop (gu2 (fun (y18 : Int32) (c19 : gm) => m_X10_putsAll_L62 55 a1 1 (nI w) y18 c19)) n (0, e) = some e3 ∧ gBa d a1 (61 + 60 * (w + 1)) e3 := by
    intro w e hw hv0
    obtain ⟨kb1, kb2⟩ := gk_bef w hw
    refine gloop_inv (fun r (a : Int32 × gm) => ∃ k e, k ≤ 60 ∧ r + k = 60 ∧ a = (nI k, e) ∧ gBa d a1 (61 + 60 * w + k) e) (fun e => gBa d a1 (61 + 60 * (w + 1)) e) (r := 60) ?_ ⟨0, e, by omega, by omega, rfl, hv0⟩ (by omega)
    rintro r a ⟨k, e, hk, hr, rfl, hv⟩
    by_cases hk2 : k = 60
    · right
      subst hk2
      refine ⟨e, ?_, by rw [show 61 + 60 * (w + 1) = 61 + 60 * w + 60 by omega]; exact hv⟩
      show m_X10_putsAll_L62 55 a1 1 (nI w) (nI 60) e = _
      unfold m_X10_putsAll_L62
      rw [if_pos (show (60 : Int32) ≤ nI 60 by decide)]
    · left
      obtain ⟨v1, v2, v3, v4, v5, v6, v7, v8⟩ := hv
      have p := puts_1 (v := e.1 (506 + 1 + w) k) v1 (by omega) ka la (by omega)
      rw [v2] at p
      refine ⟨(nI (k + 1), gm_r (gm_r e 55 (upd (e.1 55) 36 (nI (61 + 60 * w + k + 1)))) (506 + 1 + w) (upd ((gm_r e 55 (upd (e.1 55) 36 (nI (61 + 60 * w + k + 1)))).1 (506 + 1 + w)) k (d.1 a1 (61 + 60 * w + k)))), r - 1, ?_, by omega, k + 1, _, by omega, by omega, rfl, ?_⟩
      · show m_X10_putsAll_L62 55 a1 1 (nI w) (nI k) e = _
        unfold m_X10_putsAll_L62
        rw [if_neg (by rw [n_l60, n_le (by decide) (by omega)]; omega), gc_1 (n_rg (by omega) (by omega)), gc_1 (n_rg (by omega) (by omega)), n_cl (by omega), gc_1 kb1, kb2, gc_1 (n_rg (by omega) (by omega)), n_cl (by omega), gb2_x p, gc_1 (n_rg (by omega) (by omega)), gv_e, gv_e, n_s]
      · refine ⟨?_, ?_, fun i i1 i2 i3 => ?_, fun z z1 z2 => ?_, v5, fun _ => ?_, fun j hj hj2 => ?_, fun k2 j hk3 hj hj2 => ?_⟩
        · rw [gr_n _ _ (by omega), gr_s, up_s]
          exact congrArg nI (by omega)
        · rw [gr_n _ _ (by omega), gr_n _ _ (by omega), v2]
        · rw [gr_n _ _ (by omega), gr_n _ _ i1, v3 i i1 i2 i3]
        · rw [gr_n _ _ (by omega), gr_s, up_n _ _ z1, v4 z z1 z2]
        · rw [gr_n _ _ (by omega), gr_s, up_n _ _ (by omega), v6 (by omega)]
        · rw [gr_n _ _ (by omega), gr_n _ _ (by omega), v7 j hj (by omega)]
        · by_cases q : k2 = w
          · subst q
            rw [show 507 + k2 = 506 + 1 + k2 by omega, gr_s]
            by_cases q2 : j = k
            · rw [q2, up_s]
              exact congrArg (d.1 a1) (by omega)
            · rw [up_n _ _ q2, gr_n _ _ (by omega)]
              exact v8 k2 j hk3 hj (by omega)
          · rw [gr_n _ _ (by omega), gr_n _ _ (by omega)]
            exact v8 k2 j hk3 hj (by omega)
  obtain ⟨e3, l2, h3⟩ := gloop_inv (f := gu2 (fun (y13 : Int32) (c14 : gm) => m_X10_putsAll_L53 n 55 a1 1 y13 c14)) (fun r (a : Int32 × gm) => ∃ w e, w ≤ 16 ∧ r + w = 16 ∧ a = (nI w, e) ∧ gBa d a1 (61 + 60 * w) e) (fun e => gBa d a1 1021 e) (n := n) (r := 16) (a := (0, e2)) (by
    rintro r a ⟨w, e, hw, hr, rfl, hv⟩
    by_cases hw2 : w = 16
    · right
      subst hw2
      refine ⟨e, ?_, hv⟩
      show m_X10_putsAll_L53 n 55 a1 1 (nI 16) e = _
      unfold m_X10_putsAll_L53
      rw [if_pos (show (16 : Int32) ≤ nI 16 by decide)]
    · left
      obtain ⟨e3, l3, hv3⟩ := inner w e (by omega) hv
      refine ⟨(nI (w + 1), e3), r - 1, ?_, by omega, w + 1, e3, by omega, by omega, rfl, hv3⟩
      show m_X10_putsAll_L53 n 55 a1 1 (nI w) e = _
      unfold m_X10_putsAll_L53
      rw [if_neg (by rw [n_l16, n_le (by decide) (by omega)]; omega), gb_x l3, gv_e, n_s]) ⟨0, e2, by omega, by omega, rfl, h2⟩ (by omega)
  refine ⟨e3, ?_, h3⟩
  unfold m_X10_putsAll
  rw [gc_1 (show gck 55 = 10 from rfl), gv_e, ← ee0, gb2_x p0, gv_e, ← ee1, gb_x l1, gb_x l2]
theorem gk_kep : ∀ k, k < 3 → gck (523 + 1 + k) = 22 ∧ gal (523 + 1 + k) = 1021 := by decide +kernel
theorem image_two {th m p n : Nat} {c d : gm} (h : gRl th m p c d) (hn : 160 < n) : gAn0 (m_X9_image 0 c) (m_X10_image n 55 d) := by
  have hZ := gRl_dZ h
  obtain ⟨hP, hp, ⟨hS, hRw, hM, hL⟩, hTo, hTp, hCn, hBk, hPs, hIm⟩ := id hZ
  obtain ⟨q, hq, b1, b2, b3⟩ := id hIm
  have hm : m ≤ 10 := hRw.1
  have h8 := hS.2.1
  have hpq := gPt_q hP
  by_cases q3 : q = 3
  · subst q3
    refine ⟨-1, c, dZ d, ?_, ?_, th, m, p, hZ⟩
    · unfold m_X9_image
      rw [gc_1 (show gck 0 = 9 from rfl), b1, if_neg (show ¬ nI 3 < (3 : Int32) by decide)]
    · unfold m_X10_image
      rw [gc_1 (show gck 55 = 10 from rfl), gv_e, show gm_r d 55 (upd (d.1 55) 0 0) = dZ d from rfl, b2, if_pos (show nI 3 = 3 from rfl)]
  · have hq3 : q < 3 := by omega
    have e1020 : nI q * 1020 = nI (q * 1020) := n_mu q 1020
    have c960 : (960 : Int32).toNatClampNeg = 960 := rfl
    obtain ⟨c1, ec1⟩ : ∃ z, z = gm_r c 19 (va_cpy (c.1 18) (c.1 19) 0 (q * 1020) 960) := ⟨_, rfl⟩
    have f1 : ∀ i, i ≠ 19 → c1.1 i = c.1 i := fun i hi => by rw [ec1, gr_n _ _ hi]
    obtain ⟨c2, e2, fr2, g0, g5, g6, g8, g56, g57, g58, g59⟩ := write_c (a1 := 19) (A := q * 1020 + 960) (c := c1) (by omega) rfl (by show q * 1020 + 960 + 60 ≤ 3060; omega) (by decide)
    have hS1 : gSt 3 c1 th m (nI p) ((dZ d).1 503) := gSt_fr hS (f1 _ (by omega)) (f1 _ (by omega)) (f1 _ (by omega)) (f1 _ (by omega))
    have hK := write_s hS1 hRw g5 g6 g8 g56 g57 g58 g59
    obtain ⟨kb1, kb2⟩ := gk_kep q hq3
    obtain ⟨d2, e3, v1, v2, v3, v4, v5⟩ := gSv_all (d := dZ d) (a1 := 523 + 1 + q) (n := n) kb1 kb2 (by omega) hn
    have h17 : c2.1 17 = c.1 17 := by rw [fr2.1 17 (by omega), f1 17 (by omega)]
    obtain ⟨c3, ec3⟩ : ∃ z, z = gm_r (gm_r c2 20 (upd (c2.1 20) q (c2.1 17 3))) 17 (upd (c2.1 17) 4 (nI (q + 1))) := ⟨_, rfl⟩
    have f3 : ∀ i, i ≠ 17 → i ≠ 19 → i ≠ 20 → c3.1 i = c.1 i := fun i i1 i2 i3 => by rw [ec3, gr_n _ _ i1, gr_n _ _ i3, fr2.1 i i2, f1 i i2]
    refine ⟨nI (q + 1), c3, gm_r d2 55 (upd (d2.1 55) 35 (nI (q + 1))), ?_, ?_, th, m, p, ?_⟩
    · have et : m_X5_takeImage 17 3 c = some c3 := by
        unfold m_X5_takeImage
        rw [gc_1 (show gck 17 = 5 from rfl), b1, if_neg (by rw [n_l0, n_lt (by omega) (by decide)]; omega), if_neg (by rw [n_l3, n_le (by decide) (by omega)]; omega), e1020, gc_1 (by rw [n_ti (by omega)]; refine ⟨by decide, by omega, by decide, by decide, ?_⟩; rw [show (960 : Int32).toInt = 960 from rfl]; omega), n_cl (by omega), n_cl0, c960, gv_e, ← ec1, gc_1 (show gck 3 = 6 from rfl), f1 17 (by omega), b1, e1020, show nI (q * 1020) + 960 = nI (q * 1020 + 960) from n_ad _ _, gb_x e2, h17, b1, gc_1 (n_rg (by omega) (by omega)), gv_e, gv_e, n_cl (by omega), gr_n _ _ (by omega), h17, b1, n_s, ec3, h17]
      unfold m_X9_image
      rw [gc_1 (show gck 0 = 9 from rfl), b1, if_pos (by rw [n_l3, n_lt (by omega) (by decide)]; omega), gb_x et]
      rw [ec3, gr_s, up_s]
    · unfold m_X10_image
      rw [gc_1 (show gck 55 = 10 from rfl), gv_e, show gm_r d 55 (upd (d.1 55) 0 0) = dZ d from rfl, b2, if_neg (by rw [n_l3, n_eq (by omega) (by decide)]; omega), gc_1 (n_rg (by omega) (by omega)), n_cl (by omega), gb_x e3, v3 35 (by omega), b2, n_s, gv_e, gr_s, up_s]
    · have f6 : ∀ i, i ≠ 55 → i ≠ 523 + 1 + q → (gm_r d2 55 (upd (d2.1 55) 35 (nI (q + 1)))).1 i = (dZ d).1 i := fun i h0 h1 => by rw [gr_n _ _ h0, v2 i h0 h1]
      have f7 : ∀ z, z ≠ 35 → z ≠ 36 → (gm_r d2 55 (upd (d2.1 55) 35 (nI (q + 1)))).1 55 z = (dZ d).1 55 z := fun z h1 h2 => by rw [gr_s, up_n _ _ h1, v3 z h2]
      refine gRl_mk hZ ?_ (fun i hi => f3 i (by omega) (by omega) (by omega)) (by rw [f3 1 (by omega) (by omega) (by omega)]) (by rw [f3 _ (by omega) (by omega) (by omega)]) (fun z hz => f7 z (by omega) (by omega)) (fun i hi => f6 i (by omega) (by omega)) ?_ ?_ ?_ ?_ ?_
      · rw [ec3]
        show c2.2.2 = c.2.2
        rw [fr2.2, ec1]
        rfl
      · rw [f6 503 (by omega) (by omega)]
        exact gSt_fr hS (f3 _ (by omega) (by omega) (by omega)) (f3 _ (by omega) (by omega) (by omega)) (f3 _ (by omega) (by omega) (by omega)) (f3 _ (by omega) (by omega) (by omega))
      · rw [f6 503 (by omega) (by omega)]
        exact hRw
      · unfold gCn
        rw [f3 1 (by omega) (by omega) (by omega), f3 0 (by omega) (by omega) (by omega), f7 3 (by omega) (by omega), f7 34 (by omega) (by omega), f6 57 (by omega) (by omega)]
        exact hCn
      · refine gPs_x hPs ?_ (f3 18 (by omega) (by omega) (by omega)) (f7 33 (by omega) (by omega)) (fun k hk => f6 _ (by omega) (by omega))
        rw [ec3, gr_s, up_n _ _ (by omega), h17]
      · have k19 : c3.1 19 = c2.1 19 := by rw [ec3, gr_n _ _ (by omega), gr_n _ _ (by omega)]
        have k20 : c3.1 20 = upd (c.1 20) q (c.1 17 3) := by rw [ec3, gr_n _ _ (by omega), gr_s, h17, fr2.1 20 (by omega), f1 20 (by omega)]
        refine ⟨q + 1, by omega, by rw [ec3, gr_s, up_s], by rw [gr_s, up_s], fun i hi => ?_⟩
        obtain ⟨w, hw, w1, w2, w3⟩ := hPs
        by_cases hiq : i = q
        · subst hiq
          refine ⟨w, hw, by rw [k20, up_s]; exact w1, ?_, ?_, fun k hk => ?_⟩
          · rw [gr_n _ _ (by omega), show 524 + i = 523 + 1 + i by omega, v5 0 (by omega)]
            unfold gSvT
            rw [if_pos rfl]; exact w2
          · refine gKp_x hK h8 (fun j hj => ?_) (fun j hj => ?_)
            · show c3.1 19 (1020 * i + (960 + j)) = c2.1 19 (i * 1020 + 960 + j)
              rw [k19]
              exact congrArg (c2.1 19) (by omega)
            · show (gm_r d2 55 (upd (d2.1 55) 35 (nI (i + 1)))).1 (524 + i) (1 + j) = _
              rw [gr_n _ _ (by omega), show 524 + i = 523 + 1 + i by omega, v5 _ (by omega)]
              unfold gSvT
              rw [if_neg (by omega), if_pos (by omega), show 1 + j - 1 = j by omega]
          · refine gKp_x (w3 k hk) h8 (fun j hj => ?_) (fun j hj => ?_)
            · show c3.1 19 (1020 * i + (60 * k + j)) = c.1 18 (60 * k + j)
              rw [k19, g0 _ (by omega), ec1, gr_s, pk_cpy_in (by omega) (by omega)]
              exact congrArg (c.1 18) (by omega)
            · show (gm_r d2 55 (upd (d2.1 55) 35 (nI (i + 1)))).1 (524 + i) (61 + (60 * k + j)) = _
              rw [gr_n _ _ (by omega), show 524 + i = 523 + 1 + i by omega, v5 _ (by omega)]
              unfold gSvT
              rw [if_neg (by omega), if_neg (by omega), show 61 + (60 * k + j) - 61 = 60 * k + j by omega, show (60 * k + j) / 60 = k by omega, show (60 * k + j) % 60 = j by omega]
        · obtain ⟨w', hw', x1, x2, x3, x4⟩ := b3 i (by omega)
          have kd : (gm_r d2 55 (upd (d2.1 55) 35 (nI (q + 1)))).1 (524 + i) = (dZ d).1 (524 + i) := f6 _ (by omega) (by omega)
          have kc : ∀ j, j < 1020 → c3.1 19 (1020 * i + j) = c.1 19 (1020 * i + j) := fun j hj => by
            rw [k19, g0 _ (by omega), ec1, gr_s, pk_cpy_out (by omega)]
          rw [kd]
          refine ⟨w', hw', by rw [k20, up_n _ _ hiq]; exact x1, x2, gKp_x x3 h8 (fun j hj => kc _ (by omega)) (fun j hj => rfl), fun k hk => gKp_x (x4 k hk) h8 (fun j hj => kc _ (by omega)) (fun j hj => rfl)⟩
theorem restore_two {th m p n : Nat} {c d : gm} (h : gRl th m p c d) (hn : 160 < n) : gAn0 (m_X9_restore 0 c) (m_X10_restore n 55 d) := by
  have hZ := gRl_dZ h
  obtain ⟨hP, hp, ⟨hS, hRw, hM, hL⟩, hTo, hTp, hCn, hBk, hPs, hIm⟩ := id hZ
  obtain ⟨q0, hq0, b1, b2, b3⟩ := id hIm
  have hm : m ≤ 10 := hRw.1
  have h8 := hS.2.1
  have hpq := gPt_q hP
  rcases Nat.eq_zero_or_pos q0 with rfl | hp0
  · refine ⟨-1, c, dZ d, ?_, ?_, th, m, p, hZ⟩
    · unfold m_X9_restore
      rw [gc_1 (show gck 0 = 9 from rfl), b1, if_neg (show ¬ (0 : Int32) < nI 0 by decide)]
    · unfold m_X10_restore
      rw [gc_1 (show gck 55 = 10 from rfl), gv_e, show gm_r d 55 (upd (d.1 55) 0 0) = dZ d from rfl, b2, if_pos (show nI 0 = 0 from rfl)]
  · obtain ⟨q, rfl⟩ : ∃ k, q0 = k + 1 := ⟨q0 - 1, by omega⟩
    have hq3 : q < 3 := by omega
    have es : nI (q + 1) - 1 = nI q := n_su (a := q + 1) (b := 1) (by omega)
    have e1020 : nI q * 1020 = nI (q * 1020) := n_mu q 1020
    have c960 : (960 : Int32).toNatClampNeg = 960 := rfl
    obtain ⟨c5, ec5⟩ : ∃ z, z = gm_r c 17 (upd (c.1 17) 4 (nI q)) := ⟨_, rfl⟩
    have h54 : c5.1 17 4 = nI q := by rw [ec5, gr_s, up_s]
    have f5 : ∀ i, i ≠ 17 → c5.1 i = c.1 i := fun i hi => by rw [ec5, gr_n _ _ hi]
    obtain ⟨c1, ec1⟩ : ∃ z, z = gm_r c5 18 (va_cpy (c5.1 19) (c5.1 18) (q * 1020) 0 960) := ⟨_, rfl⟩
    have f1 : ∀ i, i ≠ 18 → c1.1 i = c5.1 i := fun i hi => by rw [ec1, gr_n _ _ hi]
    obtain ⟨c2, e2, fr2, g5, g6, g8, g3⟩ := read_c (a1 := 19) (A := q * 1020 + 960) (c := c1) (by omega) rfl (by show q * 1020 + 960 + 60 ≤ 3060; omega) (by decide)
    obtain ⟨w, hw, x1, x2, x3, x4⟩ := b3 q (by omega)
    have hS1 : gSt 3 c1 th m (nI p) ((dZ d).1 503) := gSt_fr hS (by rw [f1 _ (by omega), f5 _ (by omega)]) (by rw [f1 _ (by omega), f5 _ (by omega)]) (by rw [f1 _ (by omega), f5 _ (by omega)]) (by rw [f1 _ (by omega), f5 _ (by omega)])
    obtain ⟨kb1, kb2⟩ := gk_kep q hq3
    have hK : gKp th (fun j => c1.1 19 (q * 1020 + 960 + j)) (fun j => (dZ d).1 (524 + q) (1 + j)) := gKp_x x3 h8 (fun j hj => by
      show c1.1 19 (q * 1020 + 960 + j) = c.1 19 (1020 * q + (960 + j))
      rw [f1 _ (by omega), f5 _ (by omega)]
      exact congrArg (c.1 19) (by omega)) (fun j hj => rfl)
    obtain ⟨m2, hS2, hR2⟩ := read_s hS1 hK g5 g6 g8 g3
    obtain ⟨d5, ed5⟩ : ∃ z, z = gm_r (dZ d) 55 (upd ((dZ d).1 55) 35 (nI q)) := ⟨_, rfl⟩
    have h35 : d5.1 55 35 = nI q := by rw [ed5, gr_s, up_s]
    have g5d : ∀ i, i ≠ 55 → d5.1 i = (dZ d).1 i := fun i hi => by rw [ed5, gr_n _ _ hi]
    have g55 : ∀ z, z ≠ 35 → d5.1 55 z = (dZ d).1 55 z := fun z hz => by rw [ed5, gr_s, up_n _ _ hz]
    obtain ⟨d6, e6, v1, v2, v3, v4, v5, v6, v7, v8⟩ := gBa_all (d := d5) (a1 := 523 + 1 + q) (n := n) kb1 kb2 (by omega) hn
    have hka : d5.1 (523 + 1 + q) = (dZ d).1 (524 + q) := by rw [g5d _ (by omega), show 523 + 1 + q = 524 + q by omega]
    rw [hka] at v6 v7 v8
    have g503 : ∀ j, j < 60 → d6.1 503 j = (dZ d).1 (524 + q) (1 + j) := fun j hj => v7 j hj (by omega)
    have k17 : c2.1 17 = c5.1 17 := by rw [fr2.1 17 (by omega), f1 17 (by omega)]
    have k20 : c2.1 20 = c.1 20 := by rw [fr2.1 20 (by omega), f1 20 (by omega), f5 20 (by omega)]
    obtain ⟨c3, ec3⟩ : ∃ z, z = gm_r (gm_r c2 17 (upd (c2.1 17) 3 (nI w))) 0 (upd (c2.1 0) 12 0) := ⟨_, rfl⟩
    have f3 : ∀ i, i ≠ 0 → i ≠ 17 → i ≠ 18 → i ≠ 3 → i ≠ 5 → i ≠ 6 → i ≠ 8 → c3.1 i = c.1 i := fun i h0 h1 h2 h3 h4 h5 h6 => by rw [ec3, gr_n _ _ h0, gr_n _ _ h1, fr2.1 i (by omega), f1 i h2, f5 i h1]
    have f2 : ∀ i, i ≠ 0 → i ≠ 17 → c3.1 i = c2.1 i := fun i h0 h1 => by rw [ec3, gr_n _ _ h0, gr_n _ _ h1]
    refine ⟨nI q, c3, gm_r d6 55 (upd (d6.1 55) 34 0), ?_, ?_, th, m2, p, ?_⟩
    · have et : m_X5_goBackToImage 17 3 c = some (gm_r c2 17 (upd (c2.1 17) 3 (nI w))) := by
        unfold m_X5_goBackToImage
        rw [gc_1 (show gck 17 = 5 from rfl), b1, if_neg (by rw [n_l0, n_le (by omega) (by decide)]; omega), if_neg (by rw [n_l3, n_lt (by decide) (by omega)]; omega), es, gv_e, ← ec5, h54, e1020, gc_1 (by rw [n_ti (by omega)]; refine ⟨by omega, by decide, by decide, ?_, by decide⟩; rw [show (960 : Int32).toInt = 960 from rfl]; omega), n_cl (by omega), n_cl0, c960, gv_e, ← ec1, gc_1 (show gck 3 = 6 from rfl), f1 17 (by omega), h54, e1020, show nI (q * 1020) + 960 = nI (q * 1020 + 960) from n_ad _ _, gb_x e2, k17, h54, gc_1 (n_rg (by omega) (by omega)), gv_e, n_cl (by omega), k20, x1]
      unfold m_X9_restore
      rw [gc_1 (show gck 0 = 9 from rfl), b1, if_pos (by rw [n_l0, n_lt (by decide) (by omega)]; omega), gb_x et, gv_e, gr_n _ _ (show 0 ≠ 17 by omega), ← ec3]
      rw [ec3, gr_n _ _ (by omega), gr_s, up_n _ _ (by omega), k17, h54]
    · unfold m_X10_restore
      rw [gc_1 (show gck 55 = 10 from rfl), gv_e, show gm_r d 55 (upd (d.1 55) 0 0) = dZ d from rfl, b2, if_neg (by rw [n_l0, n_eq (by omega) (by decide)]; omega), es, gv_e, ← ed5, h35, gc_1 (n_rg (by omega) (by omega)), n_cl (by omega), gb_x e6, gv_e, gr_s, up_n _ _ (by omega), v4 35 (by omega) (by omega), h35]
    · have f4 : ∀ i, i ≠ 55 → (gm_r d6 55 (upd (d6.1 55) 34 0)).1 i = d6.1 i := fun i hi => gr_n _ _ hi
      have f6 : ∀ i, i ≠ 55 → i ≠ 503 → i < 507 ∨ 522 < i → (gm_r d6 55 (upd (d6.1 55) 34 0)).1 i = (dZ d).1 i := fun i h0 h1 h2 => by rw [f4 i h0, v3 i h0 h1 h2, g5d i h0]
      have f7 : ∀ z, z ≠ 33 → z ≠ 34 → z ≠ 35 → z ≠ 36 → (gm_r d6 55 (upd (d6.1 55) 34 0)).1 55 z = (dZ d).1 55 z := fun z h1 h2 h3 h4 => by rw [gr_s, up_n _ _ h2, v4 z h4 h1, g55 z h3]
      refine gRl_mk hZ ?_ (fun i hi => f3 i (by omega) (by omega) (by omega) (by omega) (by omega) (by omega) (by omega)) (by rw [f3 1 (by omega) (by omega) (by omega) (by omega) (by omega) (by omega) (by omega)]) (by rw [f3 _ (by omega) (by omega) (by omega) (by omega) (by omega) (by omega) (by omega)]) (fun z hz => f7 z (by omega) (by omega) (by omega) (by omega)) (fun i hi => f6 i (by omega) (by omega) (by omega)) ?_ ?_ ?_ ?_ ?_
      · rw [ec3]
        show c2.2.2 = c.2.2
        rw [fr2.2, ec1, ec5]
        rfl
      · rw [f4 503 (by omega)]
        exact gSt_fr (gSt_x hS2 hR2.1 g503) (f2 _ (by omega) (by omega)) (f2 _ (by omega) (by omega)) (f2 _ (by omega) (by omega)) (f2 _ (by omega) (by omega))
      · rw [f4 503 (by omega)]
        exact gRow_x hR2 h8 g503
      · obtain ⟨q1, q2, q3, q4⟩ := hCn
        have k0 : c2.1 0 = c.1 0 := by rw [fr2.1 0 (by omega), f1 0 (by omega), f5 0 (by omega)]
        unfold gCn
        rw [f3 1 (by omega) (by omega) (by omega) (by omega) (by omega) (by omega) (by omega), f7 3 (by omega) (by omega) (by omega) (by omega), gr_s, up_s, f6 57 (by omega) (by omega) (by omega), ec3, gr_s, up_s, up_n _ _ (by omega), up_n _ _ (by omega), k0]
        exact ⟨q1, rfl, q3, q4⟩
      · refine ⟨w, hw, by rw [ec3, gr_n _ _ (by omega), gr_s, up_s], by rw [gr_s, up_n _ _ (by omega), v6 (by omega)]; exact x2, fun k hk => ?_⟩
        refine gKp_x (x4 k hk) h8 (fun j hj => ?_) (fun j hj => ?_)
        · show c3.1 18 (60 * k + j) = c.1 19 (1020 * q + (60 * k + j))
          rw [f2 18 (by omega) (by omega), fr2.1 18 (by omega), ec1, gr_s, pk_cpy_in (by omega) (by omega), f5 19 (by omega)]
          exact congrArg (c.1 19) (by omega)
        · rw [f4 _ (by omega)]
          exact v8 k j (by omega) hj (by omega)
      · refine ⟨q, by omega, by rw [ec3, gr_n _ _ (by omega), gr_s, up_n _ _ (by omega), k17]; exact h54, by rw [gr_s, up_n _ _ (by omega), v4 35 (by omega) (by omega)]; exact h35, fun i hi => ?_⟩
        rw [f3 19 (by omega) (by omega) (by omega) (by omega) (by omega) (by omega) (by omega), f3 20 (by omega) (by omega) (by omega) (by omega) (by omega) (by omega) (by omega), f6 _ (by omega) (by omega) (by omega)]
        exact b3 i (by omega)
