set_option maxRecDepth 16384
theorem gSt_x {t th m : Nat} {pl : Int32} {r r2 : Nat → Int32} {c : gm} (h : gSt t c th m pl r) (hm : m ≤ 10) (e : ∀ j, j < 60 → r2 j = r j) : gSt t c th m pl r2 := by
  obtain ⟨h0, h8, h5, h6, h7, h9, h10, h11, hw, hf, hc⟩ := h
  exact ⟨h0, h8, h5, h6, by rw [e _ (by omega)]; exact h7, h9, by rw [e _ (by omega)]; exact h10, by rw [e _ (by omega)]; exact h11, fun a ha => by rw [e _ (by omega)]; exact hw a ha, fun a ha => by rw [e _ (by omega)]; exact hf a ha, fun a ha => by rw [e _ (by omega)]; exact hc a ha⟩
theorem gRl_mk {th m m2 p : Nat} {c c2 d d2 : gm} (h : gRl th m p c d) (s1 : c2.2.2 = c.2.2) (s2 : ∀ i, i = 2 ∨ i = 4 ∨ i = 24 ∨ i = c.2.2 0 ∨ i = c.2.2 0 + 1 ∨ i = c.2.2 0 + 2 ∨ i = c.2.2 2 + 1 ∨ i = c.2.2 2 + 2 ∨ i = c.2.2 2 + 3 → c2.1 i = c.1 i) (s3 : c2.1 1 1 = c.1 1 1) (s4 : c2.1 (c.2.2 2) 5 = c.1 (c.2.2 2) 5) (s5 : ∀ k, k = 1 ∨ k = 17 ∨ k = 32 → d2.1 55 k = d.1 55 k) (s6 : ∀ i, i = 56 ∨ i = 59 ∨ i = 61 ∨ (85 ≤ i ∧ i ≤ 244) ∨ (407 ≤ i ∧ i ≤ 412) → d2.1 i = d.1 i) (hS : gSt 3 c2 th m2 (nI p) (d2.1 503)) (hR : gRow th m2 (d2.1 503)) (hn : gCn c2 d2) (hs : gPs th c2 d2) (hi : gIm th c2 d2) : gRl th m2 p c2 d2 := by
  obtain ⟨h1, hp, ⟨r1, r2, r3, r4⟩, h3, h4, -, h6, h7, h8⟩ := h
  refine ⟨by unfold gPt; rw [s1]; exact h1, hp, ⟨hS, hR, ?_, ?_⟩, ?_, ?_, hn, ?_, hs, hi⟩
  · unfold gMd; rw [s6 59 (by omega)]; exact r3
  · rw [s1]; exact gLw_fr r4 (s2 _ (by omega)) (s2 _ (by omega)) (s2 _ (by omega)) (s5 17 (by omega)) (fun k hk => s6 _ (by omega))
  · unfold gTo; rw [s2 4 (by omega), s6 61 (by omega), s2 24 (by omega)]; exact h3
  · unfold gTp; rw [s3, s2 2 (by omega), s6 56 (by omega), s5 1 (by omega)]; exact h4
  · rw [s1]
    obtain ⟨z, hz, b1, b2, b3⟩ := h6
    refine ⟨z, hz, by rw [s4]; exact b1, by rw [s5 32 (by omega)]; exact b2, fun k hk => ?_⟩
    rw [s2 (c.2.2 2 + 1) (by omega), s2 (c.2.2 2 + 2) (by omega), s2 (c.2.2 2 + 3) (by omega), s6 (407 + k) (by omega)]
    exact b3 k hk
theorem gPt_q {c : gm} (h : gPt c) : (c.2.2 0 = 33 ∨ c.2.2 0 = 38) ∧ (c.2.2 2 = 43 ∨ c.2.2 2 = 49) := ⟨by rcases h.1 with q | q <;> simp [q.1], by rcases h.2 with q | q <;> simp [q.1]⟩
theorem gPs_x {th : Nat} {c c2 d d2 : gm} (h : gPs th c d) (e1 : c2.1 17 3 = c.1 17 3) (e2 : c2.1 18 = c.1 18) (e3 : d2.1 55 33 = d.1 55 33) (e4 : ∀ k, k < 16 → d2.1 (507 + k) = d.1 (507 + k)) : gPs th c2 d2 := by
  obtain ⟨w, hw, b1, b2, b3⟩ := h
  refine ⟨w, hw, by rw [e1]; exact b1, by rw [e3]; exact b2, fun k hk => ?_⟩
  rw [e2, e4 k (by omega)]
  exact b3 k hk
theorem gIm_x {th : Nat} {c c2 d d2 : gm} (h : gIm th c d) (e1 : c2.1 17 4 = c.1 17 4) (e2 : c2.1 19 = c.1 19) (e5 : c2.1 20 = c.1 20) (e3 : d2.1 55 35 = d.1 55 35) (e4 : ∀ k, k < 3 → d2.1 (524 + k) = d.1 (524 + k)) : gIm th c2 d2 := by
  obtain ⟨w, hw, b1, b2, b3⟩ := h
  refine ⟨w, hw, by rw [e1]; exact b1, by rw [e3]; exact b2, fun k hk => ?_⟩
  rw [e2, e5, e4 k (by omega)]
  exact b3 k hk
def gAn0 (x y : Option (Int32 × gm)) : Prop := ∃ r c2 d2, x = some (r, c2) ∧ y = some (r, d2) ∧ gRel c2 d2
set_option maxRecDepth 100000 in
theorem gk_bef : ∀ k, k < 16 → gck (506 + 1 + k) = 22 ∧ gal (506 + 1 + k) = 60 := by decide +kernel
theorem undo_two {th m p n : Nat} {c d : gm} (h : gRl th m p c d) (hn : 160 < n) : gAn0 (m_X9_undo 0 c) (m_X10_undo n 55 d) := by
  have hZ := gRl_dZ h
  obtain ⟨hP, hp, ⟨hS, hRw, hM, hL⟩, hTo, hTp, hCn, hBk, hPs, hIm⟩ := id hZ
  obtain ⟨w, hw, b1, b2, b3⟩ := id hPs
  have hm : m ≤ 10 := hRw.1
  have h8 := hS.2.1
  have hq := gPt_q hP
  rcases Nat.eq_zero_or_pos w with rfl | hp0
  · refine ⟨-1, c, dZ d, ?_, ?_, th, m, p, hZ⟩
    · unfold m_X9_undo
      rw [gc_1 (show gck 0 = 9 from rfl), b1, if_neg (show ¬ (0 : Int32) < nI 0 by decide)]
    · unfold m_X10_undo
      rw [gc_1 (show gck 55 = 10 from rfl), gv_e, show gm_r d 55 (upd (d.1 55) 0 0) = dZ d from rfl, b2, if_pos (show nI 0 = 0 from rfl)]
  · obtain ⟨k, rfl⟩ : ∃ k, w = k + 1 := ⟨w - 1, by omega⟩
    have es : nI (k + 1) - 1 = nI k := n_su (a := k + 1) (b := 1) (by omega)
    obtain ⟨c5, ec5⟩ : ∃ z, z = gm_r c 17 (upd (c.1 17) 3 (nI k)) := ⟨_, rfl⟩
    have h53 : c5.1 17 3 = nI k := by rw [ec5, gr_s, up_s]
    have f5 : ∀ i, i ≠ 17 → c5.1 i = c.1 i := fun i hi => by rw [ec5, gr_n _ _ hi]
    obtain ⟨c2, e1, f1, g5, g6, g8, g3⟩ := read_c (a1 := 18) (A := k * 60) (c := c5) (by omega) rfl (by show k * 60 + 60 ≤ 960; omega) (by decide)
    have hS5 : gSt 3 c5 th m (nI p) ((dZ d).1 503) := gSt_fr hS (f5 _ (by omega)) (f5 _ (by omega)) (f5 _ (by omega)) (f5 _ (by omega))
    have hK : gKp th (fun j => c5.1 18 (k * 60 + j)) ((dZ d).1 (507 + k)) := by
      rw [f5 18 (by omega), Nat.mul_comm]
      exact b3 k (by omega)
    obtain ⟨m2, hS2, hR2⟩ := read_s hS5 hK g5 g6 g8 g3
    obtain ⟨kb1, kb2⟩ := gk_bef k (by omega)
    obtain ⟨d5, ed5⟩ : ∃ z, z = gm_r (dZ d) 55 (upd ((dZ d).1 55) 33 (nI k)) := ⟨_, rfl⟩
    have h33 : d5.1 55 33 = nI k := by rw [ed5, gr_s, up_s]
    have g5d : ∀ i, i ≠ 55 → d5.1 i = (dZ d).1 i := fun i hi => by rw [ed5, gr_n _ _ hi]
    have g55 : ∀ z, z ≠ 33 → d5.1 55 z = (dZ d).1 55 z := fun z hz => by rw [ed5, gr_s, up_n _ _ hz]
    have e2 := copies_d (a := 506 + 1 + k) (b := 503) (n := n) (d := d5) kb1 rfl kb2 rfl (by omega) hn
    obtain ⟨d6, ed6⟩ : ∃ z, z = gm_r d5 503 (fun j => if j < 60 then d5.1 (506 + 1 + k) j else d5.1 503 j) := ⟨_, rfl⟩
    rw [← ed6] at e2
    have g6d : ∀ i, i ≠ 503 → d6.1 i = d5.1 i := fun i hi => by rw [ed6, gr_n _ _ hi]
    have g503 : ∀ j, j < 60 → d6.1 503 j = (dZ d).1 (507 + k) j := fun j hj => by rw [ed6, gr_s, if_pos hj, g5d _ (by omega)]
    refine ⟨nI k, gm_r c2 0 (upd (c2.1 0) 12 0), gm_r d6 55 (upd (d6.1 55) 34 0), ?_, ?_, th, m2, p, ?_⟩
    · have et : m_X5_takeBack 17 3 c = some c2 := by
        unfold m_X5_takeBack
        rw [gc_1 (show gck 17 = 5 from rfl), b1, if_neg (by rw [n_l0, n_le (by omega) (by decide)]; omega), if_neg (by rw [n_l16, n_lt (by decide) (by omega)]; omega), es, gv_e, ← ec5, gc_1 (show gck 3 = 6 from rfl), h53, n_l60, n_mu, gb_x e1]
      unfold m_X9_undo
      rw [gc_1 (show gck 0 = 9 from rfl), b1, if_pos (by rw [n_l0, n_lt (by decide) (by omega)]; omega), gb_x et, gv_e, gr_n _ _ (by omega), f1.1 17 (by omega), h53]
    · unfold m_X10_undo
      rw [gc_1 (show gck 55 = 10 from rfl), gv_e, show gm_r d 55 (upd (d.1 55) 0 0) = dZ d from rfl, b2, if_neg (by rw [n_l0, n_eq (by omega) (by decide)]; omega), es, gv_e, ← ed5, h33, gc_1 (n_rg (by omega) (by omega)), n_cl (by omega), gb_x e2, gv_e, gr_s, up_n _ _ (by omega), g6d _ (by omega), h33]
    · have f2 : ∀ i, i ≠ 0 → (gm_r c2 0 (upd (c2.1 0) 12 0)).1 i = c2.1 i := fun i hi => gr_n _ _ hi
      have f3 : ∀ i, i ≠ 0 → i ≠ 17 → i ≠ 3 → i ≠ 5 → i ≠ 6 → i ≠ 8 → (gm_r c2 0 (upd (c2.1 0) 12 0)).1 i = c.1 i := fun i h0 h1 h2 h3 h4 h5 => by rw [f2 i h0, f1.1 i (by omega), f5 i h1]
      have f4 : ∀ i, i ≠ 55 → (gm_r d6 55 (upd (d6.1 55) 34 0)).1 i = d6.1 i := fun i hi => gr_n _ _ hi
      have f6 : ∀ i, i ≠ 55 → i ≠ 503 → (gm_r d6 55 (upd (d6.1 55) 34 0)).1 i = (dZ d).1 i := fun i h0 h1 => by rw [f4 i h0, g6d i h1, g5d i h0]
      have f7 : ∀ z, z ≠ 33 → z ≠ 34 → (gm_r d6 55 (upd (d6.1 55) 34 0)).1 55 z = (dZ d).1 55 z := fun z h1 h2 => by rw [gr_s, up_n _ _ h2, g6d _ (by omega), g55 z h1]
      have f8 : ∀ i, i ≠ 503 → i ≠ 55 → d6.1 i = (dZ d).1 i := fun i h1 h2 => by rw [g6d i h1, g5d i h2]
      refine gRl_mk hZ ?_ (fun i hi => f3 i (by omega) (by omega) (by omega) (by omega) (by omega) (by omega)) (by rw [f3 1 (by omega) (by omega) (by omega) (by omega) (by omega) (by omega)]) (by rw [f3 _ (by omega) (by omega) (by omega) (by omega) (by omega) (by omega)]) (fun z hz => f7 z (by omega) (by omega)) (fun i hi => f6 i (by omega) (by omega)) ?_ ?_ ?_ ?_ ?_
      · show c2.2.2 = c.2.2
        rw [f1.2, ec5]
        rfl
      · rw [f4 503 (by omega)]
        exact gSt_fr (gSt_x hS2 hR2.1 g503) (f2 _ (by omega)) (f2 _ (by omega)) (f2 _ (by omega)) (f2 _ (by omega))
      · rw [f4 503 (by omega)]
        exact gRow_x hR2 h8 g503
      · obtain ⟨q1, q2, q3, q4⟩ := hCn
        unfold gCn
        rw [f3 1 (by omega) (by omega) (by omega) (by omega) (by omega) (by omega), f7 3 (by omega) (by omega), gr_s, up_s, gr_s, up_s, up_n _ _ (by omega), up_n _ _ (by omega), f1.1 0 (by omega), f5 0 (by omega), f6 57 (by omega) (by omega)]
        exact ⟨q1, rfl, q3, q4⟩
      · refine ⟨k, by omega, by rw [f2 17 (by omega), f1.1 17 (by omega)]; exact h53, by rw [gr_s, up_n _ _ (by omega), g6d _ (by omega)]; exact h33, fun j hj => ?_⟩
        rw [f3 18 (by omega) (by omega) (by omega) (by omega) (by omega) (by omega), f6 _ (by omega) (by omega)]
        exact b3 j (by omega)
      · refine gIm_x hIm ?_ (f3 19 (by omega) (by omega) (by omega) (by omega) (by omega) (by omega)) (f3 20 (by omega) (by omega) (by omega) (by omega) (by omega) (by omega)) (f7 35 (by omega) (by omega)) (fun j hj => f6 _ (by omega) (by omega))
        rw [f2 17 (by omega), f1.1 17 (by omega), ec5, gr_s, up_n _ _ (by omega)]
/-! the reference's images -/
theorem puts_0 {a1 s : Nat} {v : Int32} {c : gm} (hs : c.1 55 36 = nI s) (hs2 : s < 1021) (ka : gck a1 = 22) (la : gal a1 = 1021) (ha : a1 ≠ 55) : m_X10_puts 55 a1 v 0 c = some (v, gm_r (gm_r c a1 (upd (c.1 a1) s v)) 55 (upd (c.1 55) 36 (nI (s + 1)))) := by
  have es : nI (s + 1) - 1 = nI s := n_su (a := s + 1) (b := 1) (by omega)
  unfold m_X10_puts; simp only [gj_e]
  rw [if_pos trivial, gc_1 (show gck 55 = 10 from rfl), gc_1 ka, hs, la, gc_1 (n_rg (by omega) (by omega)), gv_e, n_cl (by omega), gc_1 (show gck 55 = 10 from rfl), gr_n _ _ (Ne.symm ha), hs, n_s, gv_e, gc_1 ka, gr_s, up_s, es, gc_1 (n_rg (by omega) (by omega)), n_cl (by omega), gr_n _ _ ha, gr_s, up_s]
theorem puts_1 {a1 s : Nat} {v : Int32} {c : gm} (hs : c.1 55 36 = nI s) (hs2 : s < 1021) (ka : gck a1 = 22) (la : gal a1 = 1021) (ha : a1 ≠ 55) : m_X10_puts 55 a1 v 1 c = some (c.1 a1 s, gm_r c 55 (upd (c.1 55) 36 (nI (s + 1)))) := by
  have es : nI (s + 1) - 1 = nI s := n_su (a := s + 1) (b := 1) (by omega)
  unfold m_X10_puts; simp only [gj_e]
  rw [if_neg (by decide), gc_1 (show gck 55 = 10 from rfl), hs, n_s, gv_e, gc_1 ka, gr_s, up_s, es, la, gc_1 (n_rg (by omega) (by omega)), n_cl (by omega), gr_n _ _ ha]
def gSvT (d : gm) (j : Nat) : Int32 := if j = 0 then d.1 55 33 else if j < 61 then d.1 503 (j - 1) else d.1 (507 + (j - 61) / 60) ((j - 61) % 60)
def gSv (d : gm) (a1 s : Nat) (e : gm) : Prop := e.1 55 36 = nI s ∧ (∀ i, i ≠ 55 → i ≠ a1 → e.1 i = d.1 i) ∧ (∀ z, z ≠ 36 → e.1 55 z = d.1 55 z) ∧ e.2 = d.2 ∧ ∀ j, j < s → e.1 a1 j = gSvT d j
theorem gSv_s {d e : gm} {a1 s : Nat} {v : Int32} (h : gSv d a1 s e) (ha : a1 ≠ 55) (hv : v = gSvT d s) : gSv d a1 (s + 1) (gm_r (gm_r e a1 (upd (e.1 a1) s v)) 55 (upd (e.1 55) 36 (nI (s + 1)))) := by
  obtain ⟨h1, h2, h3, h4, h5⟩ := h
  refine ⟨by rw [gr_s, up_s], fun i i1 i2 => by rw [gr_n _ _ i1, gr_n _ _ i2]; exact h2 i i1 i2, fun z hz => by rw [gr_s, up_n _ _ hz]; exact h3 z hz, h4, fun j hj => ?_⟩
  rw [gr_n _ _ ha, gr_s]
  by_cases q : j = s
  · rw [q, up_s, hv]
  · rw [up_n _ _ q]; exact h5 j (by omega)
theorem gSv_all {d : gm} {a1 n : Nat} (ka : gck a1 = 22) (la : gal a1 = 1021) (ha : 524 ≤ a1) (hn : 160 < n) : ∃ e, m_X10_putsAll n 55 a1 0 d = some e ∧ gSv d a1 1021 e := by
  obtain ⟨e0, ee0⟩ : ∃ z, z = gm_r d 55 (upd (d.1 55) 36 0) := ⟨_, rfl⟩
  have h0 : gSv d a1 0 e0 := ⟨by rw [ee0, gr_s, up_s]; rfl, fun i i1 _ => by rw [ee0, gr_n _ _ i1], fun z hz => by rw [ee0, gr_s, up_n _ _ hz], by rw [ee0]; rfl, fun j hj => by omega⟩
  have p0 := puts_0 (v := e0.1 55 33) h0.1 (by omega) ka la (by omega)
  have h1 := gSv_s (v := e0.1 55 33) h0 (by omega) (by rw [h0.2.2.1 33 (by omega)]; rfl)
  obtain ⟨e1, ee1⟩ : ∃ z, z = gm_r (gm_r e0 a1 (upd (e0.1 a1) 0 (e0.1 55 33))) 55 (upd (e0.1 55) 36 (nI (0 + 1))) := ⟨_, rfl⟩
  rw [← ee1] at p0 h1
  have i1 : gm_r e1 55 (upd (e1.1 55) 33 (e0.1 55 33)) = e1 := by
    rw [h0.2.2.1 33 (by omega), ← h1.2.2.1 33 (by omega), up_id, gr_id]
  obtain ⟨e2, l1, h2⟩ := gloop_inv (f := gu2 (fun (y9 : Int32) (c10 : gm) => m_X10_putsAll_L21 55 a1 0 y9 c10)) (fun r (a : Int32 × gm) => ∃ k e, k ≤ 60 ∧ r + k = 60 ∧ a = (nI k, e) ∧ gSv d a1 (1 + k) e) (fun e => gSv d a1 61 e) (n := n) (r := 60) (a := (0, e1)) (by
    rintro r a ⟨k, e, hk, hr, rfl, hv⟩
    by_cases hk2 : k = 60
    · right
      subst hk2
      refine ⟨e, ?_, hv⟩
      show m_X10_putsAll_L21 55 a1 0 (nI 60) e = _
      unfold m_X10_putsAll_L21
      rw [if_pos (show (60 : Int32) ≤ nI 60 by decide)]
    · left
      have p := puts_0 (v := e.1 503 k) hv.1 (by omega) ka la (by omega)
      have hv2 := gSv_s (v := e.1 503 k) hv (by omega) (by rw [hv.2.1 503 (by omega) (by omega)]; unfold gSvT; rw [if_neg (by omega), if_pos (by omega), show 1 + k - 1 = k by omega])
      obtain ⟨e3, ee3⟩ : ∃ z, z = gm_r (gm_r e a1 (upd (e.1 a1) (1 + k) (e.1 503 k))) 55 (upd (e.1 55) 36 (nI (1 + k + 1))) := ⟨_, rfl⟩
      rw [← ee3] at p hv2
      refine ⟨(nI (k + 1), e3), r - 1, ?_, by omega, k + 1, e3, by omega, by omega, rfl, hv2⟩
      show m_X10_putsAll_L21 55 a1 0 (nI k) e = _
      unfold m_X10_putsAll_L21
      rw [if_neg (by rw [n_l60, n_le (by decide) (by omega)]; omega), gc_1 (n_rg (by omega) (by omega)), n_cl (by omega), gb2_x p, gc_1 (n_rg (by omega) (by omega)), gv_e, gv_e, n_s, hv.2.1 503 (by omega) (by omega), ← hv2.2.1 503 (by omega) (by omega), up_id, gr_id]) ⟨0, e1, by omega, by omega, rfl, h1⟩ (by omega)
  have inner : ∀ w e, w < 16 → gSv d a1 (61 + 60 * w) e → ∃ e3, gloop (gu2 (fun (y18 : Int32) (c19 : gm) => m_X10_putsAll_L62 55 a1 0 (nI w) y18 c19)) n (0, e) = some e3 ∧ gSv d a1 (61 + 60 * (w + 1)) e3 := by
    intro w e hw hv0
    obtain ⟨kb1, kb2⟩ := gk_bef w hw
    refine gloop_inv (fun r (a : Int32 × gm) => ∃ k e, k ≤ 60 ∧ r + k = 60 ∧ a = (nI k, e) ∧ gSv d a1 (61 + 60 * w + k) e) (fun e => gSv d a1 (61 + 60 * (w + 1)) e) (r := 60) ?_ ⟨0, e, by omega, by omega, rfl, hv0⟩ (by omega)
    rintro r a ⟨k, e, hk, hr, rfl, hv⟩
    by_cases hk2 : k = 60
    · right
      subst hk2
      refine ⟨e, ?_, by rw [show 61 + 60 * (w + 1) = 61 + 60 * w + 60 by omega]; exact hv⟩
      show m_X10_putsAll_L62 55 a1 0 (nI w) (nI 60) e = _
      unfold m_X10_putsAll_L62
      rw [if_pos (show (60 : Int32) ≤ nI 60 by decide)]
    · left
      have p := puts_0 (v := e.1 (506 + 1 + w) k) hv.1 (by omega) ka la (by omega)
      have hv2 := gSv_s (v := e.1 (506 + 1 + w) k) hv (by omega) (by rw [hv.2.1 _ (by omega) (by omega)]; unfold gSvT; rw [if_neg (by omega), if_neg (by omega), show 61 + 60 * w + k - 61 = 60 * w + k by omega, show (60 * w + k) / 60 = w by omega, show (60 * w + k) % 60 = k by omega])
      obtain ⟨e3, ee3⟩ : ∃ z, z = gm_r (gm_r e a1 (upd (e.1 a1) (61 + 60 * w + k) (e.1 (506 + 1 + w) k))) 55 (upd (e.1 55) 36 (nI (61 + 60 * w + k + 1))) := ⟨_, rfl⟩
      rw [← ee3] at p hv2
      refine ⟨(nI (k + 1), e3), r - 1, ?_, by omega, k + 1, e3, by omega, by omega, rfl, hv2⟩
      show m_X10_putsAll_L62 55 a1 0 (nI w) (nI k) e = _
      unfold m_X10_putsAll_L62
      rw [if_neg (by rw [n_l60, n_le (by decide) (by omega)]; omega), gc_1 (n_rg (by omega) (by omega)), gc_1 (n_rg (by omega) (by omega)), n_cl (by omega), gc_1 kb1, kb2, gc_1 (n_rg (by omega) (by omega)), n_cl (by omega), gb2_x p, gc_1 (n_rg (by omega) (by omega)), gv_e, gv_e, n_s, hv.2.1 _ (by omega) (by omega), ← hv2.2.1 (506 + 1 + w) (by omega) (by omega), up_id, gr_id]
  obtain ⟨e3, l2, h3⟩ := gloop_inv (f := gu2 (fun (y13 : Int32) (c14 : gm) => m_X10_putsAll_L53 n 55 a1 0 y13 c14)) (fun r (a : Int32 × gm) => ∃ w e, w ≤ 16 ∧ r + w = 16 ∧ a = (nI w, e) ∧ gSv d a1 (61 + 60 * w) e) (fun e => gSv d a1 1021 e) (n := n) (r := 16) (a := (0, e2)) (by
    rintro r a ⟨w, e, hw, hr, rfl, hv⟩
    by_cases hw2 : w = 16
    · right
      subst hw2
      refine ⟨e, ?_, hv⟩
      show m_X10_putsAll_L53 n 55 a1 0 (nI 16) e = _
      unfold m_X10_putsAll_L53
      rw [if_pos (show (16 : Int32) ≤ nI 16 by decide)]
    · left
      obtain ⟨e3, l3, hv3⟩ := inner w e (by omega) hv
      refine ⟨(nI (w + 1), e3), r - 1, ?_, by omega, w + 1, e3, by omega, by omega, rfl, hv3⟩
      show m_X10_putsAll_L53 n 55 a1 0 (nI w) e = _
      unfold m_X10_putsAll_L53
      rw [if_neg (by rw [n_l16, n_le (by decide) (by omega)]; omega), gb_x l3, gv_e, n_s]) ⟨0, e2, by omega, by omega, rfl, h2⟩ (by omega)
  refine ⟨e3, ?_, h3⟩
  unfold m_X10_putsAll
  rw [gc_1 (show gck 55 = 10 from rfl), gv_e, ← ee0, gb2_x p0, gv_e, i1, gb_x l1, gb_x l2]
