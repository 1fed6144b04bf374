set_option maxRecDepth 16384
/-! rings: all of them -/
def gRv (F m : Nat) (c d : gm) : Prop := c.1 21 1 = nI F ∧ c.2.1 21 4 = d.2.1 55 39 ∧ c.2.1 21 5 = d.2.1 55 40 ∧ gBu d ∧ c.1 21 2 = d.1 55 42 ∧ gFs F m c d
theorem rb_4 : ∀ i, i < 8 → ((2 : Int32) <<< (nI i &&& 31)) - 1 = nI (2 ^ i + (2 ^ i - 1)) ∧ (1 : Int32) <<< (nI i &&& 31) = nI (2 ^ i) ∧ 2 ^ i < 256 ∧ 2 ^ i - 1 < 256 ∧ (2 ^ i - 1) / 2 ^ i % 2 = 0 ∧ 2 ^ i % 2 ^ i = 0 ∧ 2 ^ i / 2 ^ i % 2 = 1 ∧ 2 ^ i - 1 + 2 ^ i = 2 ^ (i + 1) - 1 := by decide
theorem rb_5 : ∀ th, th < 9 → ∀ i, i < th → uns th (2 ^ i + (2 ^ i - 1)) + i + 1 = th := by decide +kernel
theorem clr_d {N : Nat} (hN : 1100 < N) (d : gm) : ∃ d2, gloop (gu2 (fun (y7 : Int32) (c8 : gm) => m_X10_allRings_L17 y7 c8)) N (0, d) = some d2 ∧ (∀ i, i ≠ 527 → d2.1 i = d.1 i) ∧ (∀ y, y < 1024 → d2.1 527 y = 0) ∧ d2.2 = d.2 := by
  refine gloop_inv (f := gu2 (fun (y7 : Int32) (c8 : gm) => m_X10_allRings_L17 y7 c8)) (fun q (A : Int32 × gm) => ∃ i d3, q + i = 1024 ∧ A = (nI i, d3) ∧ (∀ i, i ≠ 527 → d3.1 i = d.1 i) ∧ (∀ y, y < i → d3.1 527 y = 0) ∧ d3.2 = d.2) (fun d2 => (∀ i, i ≠ 527 → d2.1 i = d.1 i) ∧ (∀ y, y < 1024 → d2.1 527 y = 0) ∧ d2.2 = d.2) ?_ (n := N) (r := 1024) (a := (0, d)) ⟨0, d, by omega, rfl, fun _ _ => rfl, fun _ h => by omega, rfl⟩ (by omega)
  rintro q A ⟨i, d3, hi, rfl, h1, h2, h3⟩
  by_cases qi : i < 1024
  · left
    refine ⟨(nI (i + 1), gm_r d3 527 (upd (d3.1 527) i (vp_nar .boolean 0))), 1024 - (i + 1), ?_, by omega, i + 1, _, by omega, rfl, fun j hj => by rw [gr_n _ _ hj]; exact h1 j hj, fun y hy => ?_, h3⟩
    · show m_X10_allRings_L17 (nI i) d3 = _
      unfold m_X10_allRings_L17
      rw [if_neg (by rw [n_le (by omega) (by omega)]; omega), gc_1 (n_rg (by omega) (by omega)), gv_e, gv_e, n_cl (by omega), n_s]
    · rw [gr_s]
      by_cases qy : y = i
      · rw [qy, up_s]; rfl
      · rw [up_n _ _ qy]; exact h2 y (by omega)
  · right
    refine ⟨d3, ?_, h1, fun y hy => h2 y (by omega), h3⟩
    show m_X10_allRings_L17 (nI i) d3 = _
    unfold m_X10_allRings_L17
    rw [if_pos (by rw [n_le (by omega) (by omega)]; omega)]
theorem all_two {th m N : Nat} {pl : Int32} {c d : gm} (hSt : gSt 3 c th m pl (d.1 503)) (hR : gRow th m (d.1 503)) (m0 : d.1 59 0 = nI th) (hN : 1100 < N) : ∃ c2 d2 F, F ≤ 1023 ∧ m_X1_seekRings N 21 3 c = some c2 ∧ m_X10_allRings N 55 d = some d2 ∧ gRv F m c2 d2 ∧ gRf c d c2 d2 := by
  have h8 := hSt.2.1
  obtain ⟨r, er⟩ : ∃ z, z = d.1 503 := ⟨_, rfl⟩
  rw [← er] at hSt hR
  obtain ⟨c5, ec5⟩ : ∃ z, m_X1_begin 21 c = some z ∧ z.1 21 1 = 0 ∧ z.1 21 2 = -1 ∧ z.2.1 21 4 = 0 ∧ z.2.1 21 5 = 1 ∧ (∀ i, i ≠ 21 → z.1 i = c.1 i) ∧ z.2.2 = c.2.2 := by
    obtain ⟨c1, e1⟩ : ∃ z, z = gm_r c 21 (upd (c.1 21) 1 0) := ⟨_, rfl⟩
    obtain ⟨c2, e2⟩ : ∃ z, z = gm_r c1 21 (upd (c1.1 21) 2 (-1)) := ⟨_, rfl⟩
    obtain ⟨c3, e3⟩ : ∃ z, z = gm_l c2 21 (vp_updL (c2.2.1 21) 4 (0 : Int64)) := ⟨_, rfl⟩
    obtain ⟨c4, e4⟩ : ∃ z, z = gm_l c3 21 (vp_updL (c3.2.1 21) 5 (1 : Int64)) := ⟨_, rfl⟩
    refine ⟨c4, ?_, ?_, ?_, ?_, ?_, ?_, ?_⟩
    · unfold m_X1_begin
      rw [gc_1 (show gck 21 = 1 from rfl), gv_e, ← e1, gv_e, ← e2, gv_e, ← e3, gv_e, ← e4]
    · rw [e4, gl_1, e3, gl_1, e2, gr_s, up_n _ _ (show 1 ≠ 2 by omega), e1, gr_s, up_s]
    · rw [e4, gl_1, e3, gl_1, e2, gr_s, up_s]
    · rw [e4, gml_s, ul_n _ _ (show 4 ≠ 5 by omega), e3, gml_s, ul_s]
    · rw [e4, gml_s, ul_s]
    · intro i hi
      rw [e4, gl_1, e3, gl_1, e2, gr_n _ _ hi, e1, gr_n _ _ hi]
    · rw [e4, e3, e2, e1]; rfl
  obtain ⟨b0, b1, b2, b4, b5, bo, bp⟩ := ec5
  obtain ⟨d3, e3⟩ : ∃ z, z = gm_l d 55 (vp_updL (d.2.1 55) 39 (0 : Int64)) := ⟨_, rfl⟩
  obtain ⟨d4, e4⟩ : ∃ z, z = gm_l d3 55 (vp_updL (d3.2.1 55) 40 (1 : Int64)) := ⟨_, rfl⟩
  obtain ⟨d5, e5⟩ : ∃ z, z = gm_r d4 55 (upd (d4.1 55) 42 (-1)) := ⟨_, rfl⟩
  obtain ⟨d6, e6, k1, k2, k3⟩ := clr_d hN d5
  have d41 : d4.1 = d.1 := by rw [e4, e3]; rfl
  have d62 : d6.2 = d4.2 := by rw [k3, e5]; rfl
  have d6o : ∀ i, i ≠ 55 → i ≠ 527 → d6.1 i = d.1 i := fun i i1 i2 => by rw [k1 i i2, e5, gr_n _ _ i1, d41]
  have d6k : ∀ k, k ≠ 42 → d6.1 55 k = d.1 55 k := fun k hk => by rw [k1 55 (by omega), e5, gr_s, up_n _ _ hk, d41]
  have v5 : gRv 0 m c5 d6 := by
    refine ⟨b1, ?_, ?_, ⟨0, 1, ?_, ?_, by omega, by omega, by omega⟩, ?_, fun j hj => by omega, fun y hy => Or.inl (k2 y hy)⟩
    · rw [b4, d62, e4, gml_s, ul_n _ _ (show 39 ≠ 40 by omega), e3, gml_s, ul_s]
    · rw [b5, d62, e4, gml_s, ul_s]
    · rw [d62, e4, gml_s, ul_n _ _ (show 39 ≠ 40 by omega), e3, gml_s, ul_s]; rfl
    · rw [d62, e4, gml_s, ul_s]; rfl
    · rw [b2, k1 55 (by omega), e5, gr_s, up_s]
  have f5 : gRf c d c5 d6 := ⟨fun i i1 _ => bo i i1, bp, d6o, d6k, by rw [d62, e4, e3]; rfl⟩
  have hE0 : 2 ^ eU r m 0 th ≤ 1024 := by
    rw [eU_0]
    exact m_2 (Nat.le_trans (dS_le hR h8 m (Nat.le_refl _)) hR.1)
  obtain ⟨b, y, l1, l2, F, hF, hp, hf⟩ := gloop_two (f := gu2 (fun (y7 : Int32) (c8 : gm) => m_X1_seekRings_L6 N 21 3 y7 c8)) (g := gu2 (fun (y11 : Int32) (c12 : gm) => m_X10_allRings_L41 N 55 y11 c12)) (fun q (A : Int32 × gm) (X : Int32 × gm) => ∃ i c3 d3 F3, q + i = th ∧ A = (nI i, c3) ∧ X = (nI i, d3) ∧ F3 + 2 ^ eU r m (2 ^ i - 1) th ≤ 1024 ∧ gRv F3 m c3 d3 ∧ gRf c d c3 d3) (fun c2 d2 => ∃ F, F ≤ 1023 ∧ gRv F m c2 d2 ∧ gRf c d c2 d2) (by
    rintro q A X ⟨i, c3, d3, F3, hi, rfl, rfl, hF3, h3, f3⟩
    have hS3 : gSt 3 c3 th m pl r := gSt_fr hSt (f3.1 _ (by omega) (by omega)) (f3.1 _ (by omega) (by omega)) (f3.1 _ (by omega) (by omega)) (f3.1 _ (by omega) (by omega))
    have r3 : d3.1 503 = r := by rw [f3.2.2.1 503 (by omega) (by omega)]; exact er.symm
    have m3 : d3.1 59 0 = nI th := by rw [f3.2.2.1 59 (by omega) (by omega)]; exact m0
    have hpw : 1 ≤ 2 ^ eU r m (2 ^ i - 1) th := Nat.pow_pos (by omega)
    by_cases qi : i < th
    rotate_left
    · right
      refine ⟨c3, d3, ?_, ?_, F3, by omega, h3, f3⟩
      · show m_X1_seekRings_L6 N 21 3 (nI i) c3 = _
        unfold m_X1_seekRings_L6
        rw [gc_1 (show gck 3 = 6 from rfl), hS3.2.2.1, if_pos (by rw [n_le (by omega) (by omega)]; omega)]
      · show m_X10_allRings_L41 N 55 (nI i) d3 = _
        unfold m_X10_allRings_L41
        rw [n_cl0, m3, if_pos (by rw [n_le (by omega) (by omega)]; omega)]
    left
    have nt : ¬ nI th ≤ nI i := by rw [n_le (by omega) (by omega)]; omega
    obtain ⟨g1, g2, g3, g4, g5, g6, g7, g8⟩ := rb_4 i (by omega)
    have g9 := rb_5 th (by omega) i qi
    have hE := eU_p (r := r) (m := m) g4 h8 qi g5
    rw [Nat.add_mul, Nat.one_mul] at hE
    have g10 : 2 ^ i + (2 ^ i - 1) = 2 ^ i - 1 + 2 ^ i := Nat.add_comm _ _
    obtain ⟨c4, ec4⟩ : ∃ z, z = gm_r c3 21 (upd (c3.1 21) 3 (nI i)) := ⟨_, rfl⟩
    have c4o : ∀ i, i ≠ 21 → c4.1 i = c3.1 i := fun i hi => by rw [ec4, gr_n _ _ hi]
    obtain ⟨x1, x4, x5, xB, x2, xf⟩ := h3
    have h4 : gRw F3 m i c4 d3 := by
      refine ⟨?_, ?_, ?_, ?_, xB, ?_, ?_⟩
      · rw [ec4, gr_s, up_n _ _ (show 1 ≠ 3 by omega)]; exact x1
      · rw [ec4, gr_s, up_s]
      · rw [ec4]; exact x4
      · rw [ec4]; exact x5
      · rw [ec4, gr_s, up_n _ _ (show 2 ≠ 3 by omega)]; exact x2
      · unfold gFs; rw [c4o 22 (by omega)]; exact xf
    have hS4 : gSt 3 c4 th m pl r := gSt_fr hS3 (c4o _ (by omega)) (c4o _ (by omega)) (c4o _ (by omega)) (c4o _ (by omega))
    have hk9 : 9 ^ (th - 1 - i + 1) ≤ 43046721 := Nat.le_trans (Nat.pow_le_pow_right (by omega) (show th - 1 - i + 1 ≤ 8 by omega)) (by decide)
    obtain ⟨c6, d6, F6, t1, t2, hF6, h6, f6⟩ := rwalk_two (N := N) (pl := pl) hR h8 qi (by omega) (th - 1 - i) 12 12 i (2 ^ i) 0 1 1 F3 c4 d3 (by rw [Nat.one_mul]; exact hk9) (by rw [Nat.one_mul]; exact hk9) (by omega) (by omega) (by omega) (by omega) qi (by omega) g3 g6 g7 (Nat.pow_pos (by omega)) (fun j hj => by rw [Nat.zero_testBit] at hj; cases hj) (by rw [g10]; exact Nat.le_trans (Nat.add_le_add_left (Nat.le_sub_of_add_le hE) F3) (by have : 1 ≤ 2 ^ eU r m (2 ^ i - 1 + 2 ^ i) th := Nat.pow_pos (by omega); omega)) hS4 r3 h4
    rw [show nL 1 = 1 from rfl, show nI 0 = 0 from rfl] at t1 t2
    refine ⟨(nI (i + 1), c6), (nI (i + 1), d6), th - (i + 1), ?_, ?_, by omega, i + 1, c6, d6, F6, by omega, rfl, rfl, ?_, ⟨h6.1, h6.2.2⟩, gRf_t f3 (gRf_t ⟨fun i i1 _ => c4o i i1, by rw [ec4]; rfl, fun _ _ _ => rfl, fun _ _ => rfl, rfl⟩ f6)⟩
    · show m_X1_seekRings_L6 N 21 3 (nI i) c3 = _
      unfold m_X1_seekRings_L6
      rw [gc_1 (show gck 3 = 6 from rfl), hS3.2.2.1, if_neg nt, gv_e, ← ec4, g1, gb_x t1, gv_e, n_s]
    · show m_X10_allRings_L41 N 55 (nI i) d3 = _
      unfold m_X10_allRings_L41
      rw [n_cl0, m3, if_neg nt, g2, gb_x t2, gv_e, n_s]
    · rw [g10] at hF6
      rw [← g8]
      exact Nat.le_trans (Nat.add_le_add_right hF6 _) (by rw [Nat.add_assoc]; exact Nat.le_trans (Nat.add_le_add_left hE F3) hF3)) (n := N) (r := th) (a := (0, c5)) (x := (0, d6)) ⟨0, c5, d6, 0, by omega, rfl, rfl, by rw [Nat.zero_add]; exact hE0, v5, f5⟩ (by omega)
  refine ⟨b, y, F, hF, ?_, ?_, hp, hf⟩
  · unfold m_X1_seekRings
    rw [gc_1 (show gck 21 = 1 from rfl), gb_x b0, gb_x l1]
  · unfold m_X10_allRings
    rw [gc_1 (show gck 55 = 10 from rfl), gv_e, ← e3, gv_e, ← e4, gv_e, ← e5, gb_x e6, gb_x l2]
theorem gRl_rg {th m p : Nat} {c d c2 d2 : gm} (h : gRl th m p c d) (f : gRf c d c2 d2) : gRl th m p c2 d2 := by
  refine gRl_sc h f.2.1 (fun i hi => f.1 i ?_ ?_) (fun i hi => f.2.2.1 i ?_ ?_) (fun k hk => f.2.2.2.1 k (by omega))
  · intro e; exact hi (by unfold SC; omega)
  · intro e; exact hi (by unfold SC; omega)
  · intro e; exact hi (by unfold SD; omega)
  · intro e; exact hi (by unfold SD; omega)
theorem fattest_two {th m p n : Nat} {c d : gm} (h : gRl th m p c d) (hn : 1100 < n) (a : Int32) : gAns 1 0 (m_X9_fattest n 0 a c) (m_X10_fattest n 55 a d) := by
  have hZ := gRl_dZ h
  have z0 := dZ_0 d
  obtain ⟨hP, hp, ⟨hS, hRw, hM, hL⟩, hTo, hTp, hCn, hBk, hPs, hIm⟩ := id hZ
  obtain ⟨m0, m3, -⟩ := id hM
  rcases ip_c a with qp | qp
  · have qp2 := qp
    rw [ip_e] at qp2
    refine ans_i (v := 0) (d := d) hZ (by decide) ?_ ?_
    · unfold m_X9_fattest
      rw [gb_x qp, gc_1 (show gck 0 = 9 from rfl), gbx_x2 (dm_0 c)]
    · unfold m_X10_fattest; simp only [gj_e]
      rw [gc_1 (show gck 55 = 10 from rfl), gv_e, show gm_r d 55 (upd (d.1 55) 0 0) = dZ d from rfl, gb_x qp2, if_pos rfl, gb2_x (bd_i z0 (by decide)), if_neg (by decide)]
  have qp2 := qp
  rw [ip_e] at qp2
  obtain ⟨c4, d4, F, hF, t1, t2, ⟨x1, x4, x5, xB, x2, xf⟩, f4⟩ := all_two (N := n) hS hRw m0 hn
  obtain ⟨r, r1, r2⟩ := prt_two (n := n) x4 x5 xB (by omega) a
  refine ans_o (r := r) (gRl_rg hZ f4) (by rw [f4.2.2.2.1 0 (by omega)]; exact z0) ?_ ?_
  · unfold m_X9_fattest
    rw [gb_x qp, gc_1 (show gck 0 = 9 from rfl), gbx_x1 (dm_1 c), gb_x t1, gb_x r1, gok_e]
  · unfold m_X10_fattest; simp only [gj_e]
    rw [gc_1 (show gck 55 = 10 from rfl), gv_e, show gm_r d 55 (upd (d.1 55) 0 0) = dZ d from rfl, gb_x qp2, if_neg (by decide), gb2_x (bd_0 z0), if_pos rfl, gb_x t2, gb_x r2]
