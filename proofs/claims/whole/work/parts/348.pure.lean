set_option maxRecDepth 16384
/-! doing a work: a step -/
theorem gR2_k {rl th m : Nat} {pl : Int32} {c d c2 d2 : gm} (hi : gIx 3 503 rl) (h : gR2 3 503 rl th m pl c d) (fc : ∀ i, i ≠ 15 → c2.1 i = c.1 i) (fd : ∀ i, i ≠ 55 → d2.1 i = d.1 i) (f17 : d2.1 55 17 = d.1 55 17) : gR2 3 503 rl th m pl c2 d2 := by
  have hr := hi.2.2
  refine ⟨?_, ?_, ?_, gLw_fr h.2.2.2 (fc _ (by omega)) (fc _ (by omega)) (fc _ (by omega)) f17 (fun k hk => fd _ (by omega))⟩
  · rw [fd 503 (by omega)]; exact gSt_fr h.1 (fc _ (by omega)) (fc _ (by omega)) (fc _ (by omega)) (fc _ (by omega))
  · rw [fd 503 (by omega)]; exact h.2.1
  · unfold gMd; rw [fd 59 (by omega)]; exact h.2.2.1
theorem n_lit2 : (2 : Int32).toNatClampNeg = 2 ∧ (3 : Int32).toNatClampNeg = 3 ∧ (4 : Int32).toNatClampNeg = 4 ∧ (5 : Int32).toNatClampNeg = 5 ∧ (57 : Int32).toNatClampNeg = 57 ∧ (59 : Int32).toNatClampNeg = 59 := ⟨rfl, rfl, rfl, rfl, rfl, rfl⟩
theorem does_two {th m rl s N : Nat} {pl : Int32} {c d : gm} (hi : gIx 3 503 rl) (h : gR2 3 503 rl th m pl c d) (hs : s < 38) (S : gS1 th c d s) (hN : 160 < N) : ∃ q c2 d2 m2, (q = 0 ∨ q = 1) ∧ m_X8_doStep N 15 3 rl (nI s) c = some (q, c2) ∧ m_X10_does N 55 503 (422 + 1 + s) d = some (q, d2) ∧ fr (CF 3 rl) c c2 ∧ fr (DF 503) d d2 ∧ gR2 3 503 rl th m2 pl c2 d2 := by
  obtain ⟨k, hk, c0, d0, d5, s0, s1, s2⟩ := S
  have hs8 : s < 80 := by omega
  have er : d.1 (422 + 1 + s) = d.1 (423 + s) := congrArg d.1 (by omega)
  have p0 : m_X8_part 15 (nI s) 0 c = some (nI k) := by rw [← c0]; exact part_c8 (k := 0) hs (by omega)
  have X0 : m_X8_doStep N 15 3 rl (nI s) c = (if nI k = 0 then gb (m_X8_part 15 (nI s) 1 c) (fun (r7 : Int32) => gb (m_X8_part 15 (nI s) 2 c) (fun (r9 : Int32) => gb (m_X8_part 15 (nI s) 3 c) (fun (r11 : Int32) => gb (m_X8_part 15 (nI s) 4 c) (fun (r13 : Int32) => gc (gck 3 = 6) (gb2 (m_X6_weigh N 3 r7 r9 r11 r13 c) (fun (r17 : Int32) (c18 : gm) => gc (r17 = 0 ∨ r17 = 1) (some (r17, c18)))))))) else (if nI k = 1 then gb (m_X8_part 15 (nI s) 1 c) (fun (r22 : Int32) => gc (gck 3 = 6) (gb2 (m_X6_tip 3 r22 c) (fun (r26 : Int32) (c27 : gm) => gc (r26 = 0 ∨ r26 = 1) (some (r26, c27))))) else (if nI k = 2 then gb (m_X8_part 15 (nI s) 1 c) (fun (r31 : Int32) => gb (m_X8_part 15 (nI s) 2 c) (fun (r33 : Int32) => gc (gck 3 = 6) (gb2 (m_X6_fatten 3 r31 r33 c) (fun (r37 : Int32) (c38 : gm) => gc (r37 = 0 ∨ r37 = 1) (some (r37, c38)))))) else (if nI k = 3 then gc (gck 3 = 6) (gb2 (m_X6_turnBeam 3 c) (fun (r44 : Int32) (c45 : gm) => gc (r44 = 0 ∨ r44 = 1) (some (r44, c45)))) else gc (gck 3 = 6) ((if 300 ≤ (c.1 3 9) then some (0, c) else gb2 (m_X6_passDay N 3 rl c) (fun (r55 : Int32) (c56 : gm) => (if r55 = 0 then some (0, c56) else some (1, c56))))))))) := by
    unfold m_X8_doStep
    rw [gc_1 (show gck 15 = 8 from rfl), gb_x p0]
  obtain ⟨l2, l3, l4, l5, l57, l59⟩ := n_lit2
  have Y0 : m_X10_does N 55 503 (422 + 1 + s) d = (if nI k = 0 then gb2 (m_X10_weighs N 55 503 (d.1 (423 + s) 1) (d.1 (423 + s) 2) (d.1 (423 + s) 3) (d.1 (423 + s) 4) d) (fun (r12 : Int32) (c13 : gm) => gc (r12 = 0 ∨ r12 = 1) (some (r12, c13))) else (if nI k = 1 then gb2 (m_X10_tips N 503 (d.1 (423 + s) 1) d) (fun (r18 : Int32) (c19 : gm) => gc (r18 = 0 ∨ r18 = 1) (some (r18, c19))) else (if nI k = 2 then gb2 (m_X10_feeds 503 (d.1 (423 + s) 1) (d.1 (423 + s) 2) d) (fun (r25 : Int32) (c26 : gm) => gc (r25 = 0 ∨ r25 = 1) (some (r25, c26))) else (if nI k = 3 then (if d.1 503 57 = 9 then some (0, d) else some (1, gm_r d 503 (upd (d.1 503) 57 (18 - d.1 503 57)))) else (if d.1 503 59 < 300 then gb (m_X10_dayEnds N 55 503 d) (fun (c48 : gm) => some (1, c48)) else some (0, d)))))) := by
    unfold m_X10_does
    rw [gc_1 (gk_st s hs8).1]
    repeat rw [gc_1 (r_6 hs8 (by simp))]
    repeat rw [gc_1 (show gck 55 = 10 from rfl)]
    repeat rw [gc_1 (show gck 503 = 22 from rfl)]
    repeat rw [gc_1 (show 0 ≤ (57 : Int32).toInt ∧ (57 : Int32).toInt < ((gal 503 : Nat) : Int) by decide)]
    repeat rw [gc_1 (show 0 ≤ (59 : Int32).toInt ∧ (59 : Int32).toInt < ((gal 503 : Nat) : Int) by decide)]
    rw [gv_e, n_cl0, n_cl1, l2, l3, l4, l57, l59, er, d0]
  rw [X0, Y0]
  rcases (by omega : k = 0 ∨ k = 1 ∨ k = 2 ∨ k = 3 ∨ k = 4) with rfl | rfl | rfl | rfl | rfl
  · obtain ⟨a, x, b, y, ha, x1, x9, hb, -, y1, y9, ⟨u1, u2, u3, u4⟩, v1, v2, v3, v4⟩ := s0 rfl
    obtain ⟨q, c2, d2, m2, hq, e1, e2, f1, f2, hR⟩ := weigh_two (n := N) hi h ha hb x1 x9 y1 y9 hN
    refine ⟨q, c2, d2, m2, hq, ?_, ?_, f1, f2, hR⟩
    · rw [if_pos (show nI 0 = 0 from rfl), show m_X8_part 15 (nI s) 1 c = some (nI a) by rw [← u1]; exact part_c8 (k := 1) hs (by omega), gb_e, show m_X8_part 15 (nI s) 2 c = some (nI x) by rw [← u2]; exact part_c8 (k := 2) hs (by omega), gb_e, show m_X8_part 15 (nI s) 3 c = some (nI b) by rw [← u3]; exact part_c8 (k := 3) hs (by omega), gb_e, show m_X8_part 15 (nI s) 4 c = some (nI y) by rw [← u4]; exact part_c8 (k := 4) hs (by omega), gb_e, gc_1 (show gck 3 = 6 from rfl), gb2_x e1, gc_1 hq]
    · rw [if_pos (show nI 0 = 0 from rfl), v1, v2, v3, v4, gb2_x e2, gc_1 hq]
  · obtain ⟨v, hv, u1, v1⟩ := s1 rfl
    obtain ⟨q, c2, d2, m2, hq, e1, e2, f1, f2, hR⟩ := tip_two (j := v) (n := N) hi h (by omega) hN
    refine ⟨q, c2, d2, m2, hq, ?_, ?_, f1, f2, hR⟩
    · rw [if_neg (show ¬ nI 1 = 0 by decide), if_pos (show nI 1 = 1 from rfl), show m_X8_part 15 (nI s) 1 c = some (nI v) by rw [← u1]; exact part_c8 (k := 1) hs (by omega), gb_e, gc_1 (show gck 3 = 6 from rfl), gb2_x e1, gc_1 hq]
    · rw [if_neg (show ¬ nI 1 = 0 by decide), if_pos (show nI 1 = 1 from rfl), v1, gb2_x e2, gc_1 hq]
  · obtain ⟨a, v, ha, v1, v30, u1, u2, w1, w2⟩ := s2 rfl
    obtain ⟨q, c2, d2, hq, e1, e2, f1, f2, hR⟩ := feed_two hi h ha v1 v30
    refine ⟨q, c2, d2, m, hq, ?_, ?_, f1, f2, hR⟩
    · rw [if_neg (show ¬ nI 2 = 0 by decide), if_neg (show ¬ nI 2 = 1 by decide), if_pos (show nI 2 = 2 from rfl), show m_X8_part 15 (nI s) 1 c = some (nI a) by rw [← u1]; exact part_c8 (k := 1) hs (by omega), gb_e, show m_X8_part 15 (nI s) 2 c = some (nI v) by rw [← u2]; exact part_c8 (k := 2) hs (by omega), gb_e, gc_1 (show gck 3 = 6 from rfl), gb2_x e1, gc_1 hq]
    · rw [if_neg (show ¬ nI 2 = 0 by decide), if_neg (show ¬ nI 2 = 1 by decide), if_pos (show nI 2 = 2 from rfl), w1, w2, gb2_x e2, gc_1 hq]
  · obtain ⟨q, c2, d2, hq, e1, e2, f1, f2, hR⟩ := turn_c hi h
    refine ⟨q, c2, d2, m, hq, ?_, ?_, f1, f2, hR⟩
    · rw [if_neg (show ¬ nI 3 = 0 by decide), if_neg (show ¬ nI 3 = 1 by decide), if_neg (show ¬ nI 3 = 2 by decide), if_pos (show nI 3 = 3 from rfl), gc_1 (show gck 3 = 6 from rfl), gb2_x e1, gc_1 hq]
    · rw [if_neg (show ¬ nI 3 = 0 by decide), if_neg (show ¬ nI 3 = 1 by decide), if_neg (show ¬ nI 3 = 2 by decide), if_pos (show nI 3 = 3 from rfl)]
      rcases e2 with ⟨t1, t2, t3⟩ | ⟨t1, t2, t3⟩
      · rw [if_pos t1, t2, t3]
      · rw [if_neg t1, t2, t3]
  · have h9 : c.1 3 9 = d.1 503 59 := h.1.2.2.2.2.2.2.1
    by_cases q : d.1 503 59 < 300
    · obtain ⟨c2, d2, e1, e2, f1, f2, hR⟩ := day_two (n := N) hi h hN
      refine ⟨1, c2, d2, m, Or.inr rfl, ?_, ?_, f1, f2, hR⟩
      · rw [if_neg (show ¬ nI 4 = 0 by decide), if_neg (show ¬ nI 4 = 1 by decide), if_neg (show ¬ nI 4 = 2 by decide), if_neg (show ¬ nI 4 = 3 by decide), gc_1 (show gck 3 = 6 from rfl), h9, if_neg (Int32.not_le.mpr q), gb2_x e1, if_neg (by decide)]
      · rw [if_neg (show ¬ nI 4 = 0 by decide), if_neg (show ¬ nI 4 = 1 by decide), if_neg (show ¬ nI 4 = 2 by decide), if_neg (show ¬ nI 4 = 3 by decide), if_pos q, gb_x e2]
    · refine ⟨0, c, d, m, Or.inl rfl, ?_, ?_, ⟨fun _ _ => rfl, rfl⟩, ⟨fun _ _ => rfl, rfl⟩, h⟩
      · rw [if_neg (show ¬ nI 4 = 0 by decide), if_neg (show ¬ nI 4 = 1 by decide), if_neg (show ¬ nI 4 = 2 by decide), if_neg (show ¬ nI 4 = 3 by decide), gc_1 (show gck 3 = 6 from rfl), h9, if_pos (Int32.not_lt.mp q)]
      · rw [if_neg (show ¬ nI 4 = 0 by decide), if_neg (show ¬ nI 4 = 1 by decide), if_neg (show ¬ nI 4 = 2 by decide), if_neg (show ¬ nI 4 = 3 by decide), if_neg q]
