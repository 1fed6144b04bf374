set_option maxRecDepth 16384
theorem gRl_tp {th m p : Nat} {c d c2 d2 : gm} (h : gRl th m p c d) (s1 : c2.2.2 = c.2.2) (s2 : ∀ i, i = 0 ∨ (3 ≤ i ∧ i ≤ 6) ∨ i = 8 ∨ i = 24 ∨ (17 ≤ i ∧ i ≤ 20) ∨ i = c.2.2 0 ∨ i = c.2.2 0 + 1 ∨ i = c.2.2 0 + 2 ∨ i = c.2.2 2 ∨ i = c.2.2 2 + 1 ∨ i = c.2.2 2 + 2 ∨ i = c.2.2 2 + 3 → c2.1 i = c.1 i) (s3 : c2.1 1 1 = nI 0) (s5 : ∀ k, k = 17 ∨ (32 ≤ k ∧ k ≤ 35) → d2.1 55 k = d.1 55 k) (s51 : d2.1 55 1 = nI 0) (s6 : ∀ i, i = 57 ∨ i = 59 ∨ i = 61 ∨ (85 ≤ i ∧ i ≤ 244) ∨ (407 ≤ i ∧ i ≤ 412) ∨ i = 503 ∨ (507 ≤ i ∧ i ≤ 522) ∨ (524 ≤ i ∧ i ≤ 526) → d2.1 i = d.1 i) (h7 : c2.1 1 7 = d2.1 55 3) : gRl th m p c2 d2 := by
  obtain ⟨h1, hp, ⟨r1, r2, r3, r4⟩, h3, h4, ⟨n1, n2, n3, n4⟩, h6, h7', h8⟩ := h
  have f503 := s6 503 (by omega)
  refine ⟨by unfold gPt; rw [s1]; exact h1, hp, ⟨?_, ?_, ?_, ?_⟩, ?_, ⟨0, by omega, s3, s51, fun j hj => by omega⟩, ⟨h7, ?_, ?_, ?_⟩, ?_, ?_, ?_⟩
  · rw [f503]; exact gSt_fr r1 (s2 3 (by omega)) (s2 5 (by omega)) (s2 6 (by omega)) (s2 8 (by omega))
  · rw [f503]; exact r2
  · unfold gMd; rw [s6 59 (by omega)]; exact r3
  · rw [s1]; exact gLw_fr r4 (s2 _ (by omega)) (s2 _ (by omega)) (s2 _ (by omega)) (s5 17 (by omega)) (fun k hk => s6 _ (by omega))
  · unfold gTo; rw [s2 4 (by omega), s6 61 (by omega), s2 24 (by omega)]; exact h3
  · rw [s2 0 (by omega), s5 34 (by omega)]; exact n2
  · rw [s2 0 (by omega), s6 57 (by omega)]; exact n3
  · rw [s2 0 (by omega), s6 57 (by omega)]; exact n4
  · rw [s1]
    obtain ⟨z, hz, b1, b2, b3⟩ := h6
    refine ⟨z, hz, by rw [s2 _ (by omega)]; exact b1, by rw [s5 32 (by omega)]; exact b2, fun k hk => ?_⟩
    rw [s2 (c.2.2 2 + 1) (by omega), s2 (c.2.2 2 + 2) (by omega), s2 (c.2.2 2 + 3) (by omega), s6 (407 + k) (by omega)]
    exact b3 k hk
  · exact gPs_x h7' (by rw [s2 17 (by omega)]) (s2 18 (by omega)) (s5 33 (by omega)) (fun k hk => s6 _ (by omega))
  · exact gIm_x h8 (by rw [s2 17 (by omega)]) (s2 19 (by omega)) (s2 20 (by omega)) (s5 35 (by omega)) (fun k hk => s6 _ (by omega))
/-- the tape as numbers -/
theorem gTp_b {c d : gm} (h : gTp c d) : ∃ (T : Nat) (b : Nat → Nat), T ≤ 600 ∧ c.1 1 1 = nI T ∧ d.1 55 1 = nI T ∧ ∀ j, j < T → b j < 256 ∧ c.1 2 j = pBy (b j) ∧ d.1 56 j = nI (b j) := by
  obtain ⟨T, hT, e1, e2, e3⟩ := h
  refine ⟨T, fun j => (d.1 56 j).toNatClampNeg, hT, e1, e2, fun j hj => ?_⟩
  obtain ⟨x, hx, y1, y2⟩ := e3 j hj
  dsimp only
  rw [y1, y2, n_cl (by omega)]
  exact ⟨hx, rfl, rfl⟩
/-- both sides opened: the first k bytes are the text, the tape is empty -/
theorem opened {k T N : Nat} {b : Nat → Nat} {c d : gm} (hk : k ≤ T) (hT : T ≤ 600) (hb : ∀ j, j < T → b j < 256 ∧ c.1 2 j = pBy (b j) ∧ d.1 56 j = nI (b j)) (hN : 700 < N) : ∃ c1 d1, m_X7_open 1 (nI k) c = some c1 ∧ m_X10_starts N 55 (nI k) d = some d1 ∧ (gTc k b c1 ∧ gTd k b d1 ∧ c1.1 1 3 = nI 0 ∧ d1.1 55 4 = nI (pScan (pBl b) k 0) ∧ d1.1 55 5 = 0 ∧ d1.1 55 7 = nI 0 ∧ d1.1 55 8 = nI 0) ∧ (∀ i, i ≠ 1 → c1.1 i = c.1 i) ∧ c1.2 = c.2 ∧ c1.1 1 1 = nI 0 ∧ c1.1 1 7 = -1 ∧ (∀ i, i ≠ 55 → d1.1 i = d.1 i) ∧ d1.2 = d.2 ∧ d1.1 55 1 = nI 0 ∧ ∀ s, s = 0 ∨ s = 3 ∨ 9 ≤ s → d1.1 55 s = d.1 55 s := by
  obtain ⟨c1, e1, f1, f2, g1, g2, g3, g6, g7⟩ := open_c c k
  obtain ⟨d1, e2, f3, f4, h1, h2, h4, h5, h7, h8, hs⟩ := starts_d (k := k) (N := N) (b := b) (d := d) (by omega) (fun j hj => ⟨(hb j (by omega)).1, (hb j (by omega)).2.2⟩) hN
  exact ⟨c1, d1, e1, e2, ⟨⟨by omega, g2, fun j hj => ⟨(hb j (by omega)).1, by rw [f1 2 (by omega)]; exact (hb j (by omega)).2.1⟩⟩, ⟨by omega, h2, fun j hj => ⟨(hb j (by omega)).1, by rw [f3 56 (by omega)]; exact (hb j (by omega)).2.2⟩⟩, g3, h4, h5, h7, h8⟩, f1, f2, g1, g7, f3, f4, h1, hs⟩
theorem ends_d {k : Nat} {d : gm} (h5 : d.1 55 5 = nI k) : m_X10_ends 55 d = some (nI k - 10, gm_r d 55 (upd (d.1 55) 3 (d.1 55 6))) := by
  unfold m_X10_ends
  rw [gc_1 (show gck 55 = 10 from rfl), gv_e, gr_s, up_n _ _ (by omega), h5]
/-- a fault leaves the relation, the tape empty -/
theorem gRl_fm {th m p k : Nat} {c d c1 d1 c3 y : gm} (h : gRl th m p c d) (f1 : ∀ i, i ≠ 1 → c1.1 i = c.1 i) (f2 : c1.2 = c.2) (g1 : c1.1 1 1 = nI 0) (f3 : ∀ i, i ≠ 55 → d1.1 i = d.1 i) (h1 : d1.1 55 1 = nI 0) (hs : ∀ s, s = 0 ∨ s = 3 ∨ 9 ≤ s → d1.1 55 s = d.1 55 s) (fc : fmC c1 c3) (fd : fmD d1 y) (h7 : c3.1 1 7 = y.1 55 6) : gRl th m p c3 (gm_r y 55 (upd (y.1 55) 3 (y.1 55 6))) := by
  have hq := gPt_q h.1
  refine gRl_tp h (by rw [fc.2.1, f2]) (fun i hi => by rw [fc.1 i (by omega) (by omega), f1 i (by omega)]) (by rw [fc.2.2 1 (by omega)]; exact g1) (fun z hz => by rw [gr_s, up_n _ _ (by omega), fd.2.2 z (by omega), hs z (by omega)]) (by rw [gr_s, up_n _ _ (by omega), fd.2.2 1 (by omega)]; exact h1) (fun i hi => by rw [gr_n _ _ (by omega), fd.1 i (by omega) (by omega) (by omega) (by omega), f3 i (by omega)]) (by rw [gr_s, up_s]; exact h7)
theorem market_ok {th m p l th' m' p' k : Nat} {N : Nat} {c d c3 y : gm} (h : gRl th m p c d) (h0 : d.1 55 0 = 0) (hN : 300 < N) (f1 : ∀ i, i ≠ 1 → (i < 9 ∨ 14 < i) → c3.1 i = c.1 i) (f2 : c3.2 = c.2) (g1 : c3.1 1 1 = nI 0) (g7 : c3.1 1 7 = -1) (f3 : ∀ i, i ≠ 55 → i ≠ 58 → i ≠ 60 → (i < 63 ∨ 72 < i) → y.1 i = d.1 i) (h1 : y.1 55 1 = nI 0) (hs : y.1 55 0 = 0) (hM : gMk th' m' l p' c3 y) : ∃ c8 y2, gb (m_X6_copyFrom 3 9 c3) (fun (c23 : gm) => gc (gck (c23.2.2 0) = 3) (gb (m_X3_becomeUsual (c23.2.2 0) c23) (fun (c28 : gm) => gc (gck (c28.2.2 2) = 0) (gv (gm_r c28 (c28.2.2 2) (upd (c28.1 (c28.2.2 2)) 5 0)) (fun (c31 : gm) => gb (m_X5_forget 17 c31) (fun (c36 : gm) => gv (gm_r c36 0 (upd (c36.1 0) 12 0)) (fun (c37 : gm) => some ((c37.1 3 5), c37)))))))) = some (nI th', c8) ∧ gb (m_X10_beginsAnew N 55 (gm_r y 55 (upd (y.1 55) 3 (-1)))) (fun (c25 : gm) => some ((c25.1 59 (0 : Int32).toNatClampNeg), c25)) = some (nI th', y2) ∧ gRl th' m' p' c8 y2 ∧ y2.1 55 0 = 0 := by
  obtain ⟨hP, hp, hR2, hTo, hTp, hCn, hBk, hPs, hIm⟩ := id h
  have hq := gPt_q hP
  obtain ⟨t8, m10, l18, p9, ⟨k5, k6, k7, k8, k9, k10⟩, ⟨e0, e1, e2, e3⟩, hw, hz, hcr⟩ := hM
  obtain ⟨c4, ec4, fr4, g41, g42, g43, g45, g40⟩ := copy_c (t := 3) (a1 := 9) (by omega) c3
  have p4 : c4.2.2 = c.2.2 := by rw [fr4.2, f2]
  have kl : gck (c.2.2 0) = 3 := by rcases hq.1 with q | q <;> rw [q] <;> rfl
  have kb : gck (c.2.2 2) = 0 := by rcases hq.2 with q | q <;> rw [q] <;> rfl
  obtain ⟨c5, ec5, fr5, u4, u5⟩ := usual_c (rl := c.2.2 0) (c := c4) kl
  have p5 : c5.2.2 = c.2.2 := by rw [fr5.2, p4]
  obtain ⟨c8, ec8⟩ : ∃ z, z = gm_r (gm_r (gm_r c5 (c.2.2 2) (upd (c5.1 (c.2.2 2)) 5 0)) 17 (upd (upd (c5.1 17) 3 0) 4 0)) 0 (upd (c5.1 0) 12 0) := ⟨_, rfl⟩
  have c8o : ∀ i, i ≠ c.2.2 2 → i ≠ 17 → i ≠ 0 → c8.1 i = c5.1 i := fun i i1 i2 i3 => by rw [ec8, gr_n _ _ i3, gr_n _ _ i2, gr_n _ _ i1]
  have c8p : ∀ i, 3 ≤ i → i ≤ 8 → c8.1 i = c4.1 i := fun i i1 i2 => by rw [c8o i (by omega) (by omega) (by omega), fr5.1 i (by omega)]
  obtain ⟨y2, ey2, o2, o22, a59, a61, az, acr, a56, a57, a58, a59', as0, ass⟩ := anew_d (d := gm_r y 55 (upd (y.1 55) 3 (-1))) (th := th') (m := m') (N := N) (by rw [gr_n _ _ (by omega)]; exact e0) (by rw [gr_n _ _ (by omega)]; exact e1) t8 m10 hN
  have n58 : (gm_r y 55 (upd (y.1 55) 3 (-1))).1 58 = y.1 58 := gr_n _ _ (by omega)
  have n60 : (gm_r y 55 (upd (y.1 55) 3 (-1))).1 60 = y.1 60 := gr_n _ _ (by omega)
  rw [n58] at a57
  rw [n60] at a61
  have n63 : ∀ z, z < m' → ∀ j, j < 4 → y2.1 503 (16 + 4 * z + j) = y.1 (63 + z) j := fun z hz2 j hj => by rw [acr z hz2 j hj, gr_n _ _ (by omega)]
  refine ⟨c8, y2, ?_, ?_, ?_, ?_⟩
  · rw [gb_x ec4, p4, gc_1 kl, gb_x ec5, p5, gc_1 kb, gv_e]
    unfold m_X5_forget
    rw [gc_1 (show gck 17 = 5 from rfl), gv_e, gv_e, gb_e, gv_e]
    simp (disch := omega) only [gr_s, gr_r, gr_n]
    rw [show gm_r (gm_r (gm_r c5 (c.2.2 2) (upd (c5.1 (c.2.2 2)) 5 0)) 17 (upd (upd (c5.1 17) 3 0) 4 0)) 0 (upd (c5.1 0) 12 0) = c8 from ec8.symm, fr5.1 3 (by omega), g40 5 (by omega) (by omega), k5]
  · rw [gb_x ey2, n_cl0, a59 0 (by omega), n58, e0]
  · have hw2 : ∀ a, a < th' → ∃ w, 1 ≤ w ∧ w ≤ 60 ∧ c3.1 10 a = nI w ∧ c3.1 11 a = nI w ∧ y2.1 503 a = nI w ∧ y2.1 61 a = nI w := fun a ha => by
      obtain ⟨w, w1, w60, x1, x2, x3⟩ := hw a ha
      exact ⟨w, w1, w60, x1, x2, by rw [(a61 a ha).2]; exact x3, by rw [(a61 a ha).1]; exact x3⟩
    refine ⟨?_, p9, ⟨⟨rfl, t8, ?_, ?_, ?_, ?_, ?_, ?_, fun a ha => ?_, fun a ha => ?_, fun j hj => ?_⟩, ⟨m10, a56, fun a ha => ?_, fun z hz2 => ?_, l, l18, by rw [a57]; exact e2⟩, ⟨by rw [a59 0 (by omega), n58]; exact e0, by rw [a59 3 (by omega), n58]; exact e3, t8⟩, ?_⟩, ⟨fun a ha => ?_, by rw [c8o 24 (by omega) (by omega) (by omega), fr5.1 24 (by omega), fr4.1 24 (by omega), f1 24 (by omega) (by omega)]; exact hTo.2⟩, ⟨0, by omega, ?_, ?_, fun j hj => by omega⟩, ⟨?_, ?_, ?_, ?_⟩, ⟨0, by omega, ?_, as0 32 (by omega), fun j hj => by omega⟩, ⟨0, by omega, ?_, as0 33 (by omega), fun j hj => by omega⟩, ⟨0, by omega, ?_, as0 35 (by omega), fun j hj => by omega⟩⟩
    · unfold gPt
      rw [ec8]
      show ((c5.2.2 0 = 33 ∧ c5.2.2 1 = 38) ∨ _) ∧ _
      rw [show (gm_r (gm_r (gm_r c5 (c.2.2 2) (upd (c5.1 (c.2.2 2)) 5 0)) 17 (upd (upd (c5.1 17) 3 0) 4 0)) 0 (upd (c5.1 0) 12 0)).2.2 = c.2.2 from p5, p5]
      exact hP
    · rw [c8p 3 (by omega) (by omega), g40 5 (by omega) (by omega)]; exact k5
    · rw [c8p 3 (by omega) (by omega), g40 6 (by omega) (by omega)]; exact k6
    · rw [c8p 3 (by omega) (by omega), g40 7 (by omega) (by omega), k7, a57, e2]
    · rw [c8p 3 (by omega) (by omega), g40 8 (by omega) (by omega)]; exact k8
    · rw [c8p 3 (by omega) (by omega), g40 9 (by omega) (by omega), k9, a59']
    · rw [c8p 3 (by omega) (by omega), g40 10 (by omega) (by omega), k10, a58]
    · obtain ⟨w, -, -, -, x2, x3, -⟩ := hw2 a ha
      show c8.1 5 a = _
      rw [c8p 5 (by omega) (by omega), show c4.1 5 a = c3.1 11 a from g42 a (by omega), x2, x3]
    · show c8.1 6 a = _
      rw [c8p 6 (by omega) (by omega), show c4.1 6 a = c3.1 12 a from g43 a (by omega), hz a (by omega), az (8 + a) (by omega) (by omega)]
    · show c8.1 8 j = _
      rw [c8p 8 (by omega) (by omega), show c4.1 8 j = c3.1 14 j from g45 j (by omega)]
      obtain ⟨a', n', b', x', -, -, -, -, -, -, -, ⟨z0, z1, z2, z3⟩, ⟨v0, v1, v2, v3⟩⟩ := hcr (j / 4) (by omega)
      have hy := n63 (j / 4) (by omega) (j % 4) (by omega)
      rw [show 16 + 4 * (j / 4) + j % 4 = 16 + j by omega] at hy
      rw [hy]
      rcases (by omega : j % 4 = 0 ∨ j % 4 = 1 ∨ j % 4 = 2 ∨ j % 4 = 3) with q | q | q | q
      · rw [q, v0, ← z0]; exact congrArg (c3.1 14) (by omega)
      · rw [q, v1, ← z1]; exact congrArg (c3.1 14) (by omega)
      · rw [q, v2, ← z2]; exact congrArg (c3.1 14) (by omega)
      · rw [q, v3, ← z3]; exact congrArg (c3.1 14) (by omega)
    · obtain ⟨w, w1, w60, -, -, x3, -⟩ := hw2 a ha
      exact ⟨w, w1, w60, x3⟩
    · obtain ⟨a', n', b', x', r0, r1, r2, r3, r4, r5, r6, -, ⟨v0, v1, v2, v3⟩⟩ := hcr z hz2
      refine ⟨a', n', b', x', r0, r1, r2, r3, r4, r5, r6, ?_, ?_, ?_, ?_⟩
      · rw [← v0]; exact n63 z hz2 0 (by omega)
      · rw [← v1]; exact n63 z hz2 1 (by omega)
      · rw [← v2]; exact n63 z hz2 2 (by omega)
      · rw [← v3]; exact n63 z hz2 3 (by omega)
    · have p8 : c8.2.2 0 = c.2.2 0 := by rw [ec8]; show c5.2.2 0 = _; rw [p5]
      rw [p8]
      exact usual_l kl (by rw [c8o _ (by omega) (by omega) (by omega)]; exact u4) (by rw [c8o (c.2.2 0 + 1) (by omega) (by omega) (by omega), c8o (c.2.2 0 + 2) (by omega) (by omega) (by omega)]; exact u5) (as0 17 (by omega))
    · obtain ⟨w, -, -, x1, -, -, x4⟩ := hw2 a ha
      rw [c8p 4 (by omega) (by omega), show c4.1 4 a = c3.1 10 a from g41 a (by omega), x1, x4]
    · rw [c8o 1 (by omega) (by omega) (by omega), fr5.1 1 (by omega), fr4.1 1 (by omega)]; exact g1
    · rw [ass 1 (by omega), gr_s, up_n _ _ (by omega)]; exact h1
    · rw [c8o 1 (by omega) (by omega) (by omega), fr5.1 1 (by omega), fr4.1 1 (by omega), g7, ass 3 (by omega), gr_s, up_s]
    · rw [ec8, gr_s, up_s, as0 34 (by omega)]
    · rw [ec8, gr_s, up_n _ _ (by omega), fr5.1 0 (by omega), fr4.1 0 (by omega), f1 0 (by omega) (by omega), o2 57 (by omega) (by omega) (by omega) (by omega) (by omega), gr_n _ _ (by omega), f3 57 (by omega) (by omega) (by omega) (by omega)]
      exact hCn.2.2.1
    · rw [ec8, gr_s, up_n _ _ (by omega), fr5.1 0 (by omega), fr4.1 0 (by omega), f1 0 (by omega) (by omega), o2 57 (by omega) (by omega) (by omega) (by omega) (by omega), gr_n _ _ (by omega), f3 57 (by omega) (by omega) (by omega) (by omega)]
      exact hCn.2.2.2
    · have p8 : c8.2.2 2 = c.2.2 2 := by rw [ec8]; show c5.2.2 2 = _; rw [p5]
      rw [p8, ec8, gr_n _ _ (by omega), gr_n _ _ (by omega), gr_s, up_s]; rfl
    · rw [ec8, gr_n _ _ (by omega), gr_s, up_n _ _ (by omega), up_s]; rfl
    · rw [ec8, gr_n _ _ (by omega), gr_s, up_s]; rfl
  · rw [ass 0 (by omega), gr_s, up_n _ _ (by omega)]; exact hs
theorem market_two {th m p n : Nat} {c d : gm} (h : gRl th m p c d) (hn : 700 < n) (a : Int32) : gAns 1 0 (m_X9_market n 0 a c) (m_X10_market n 55 a d) := by
  have hZ := gRl_dZ h
  have z0 := dZ_0 d
  obtain ⟨hP, hp, ⟨hS, hRw, hM, hL⟩, hTo, hTp, hCn, hBk, hPs, hIm⟩ := id hZ
  obtain ⟨hk, h8, h5, h6, h7, h9, h10, h11, hw, hf, hcp⟩ := id hS
  obtain ⟨m0, m3, -⟩ := id hM
  have hm : m ≤ 10 := hRw.1
  have h56 := hRw.2.1
  obtain ⟨T, b, hT6, eT1, eT2, hb⟩ := gTp_b hTp
  by_cases q : 0 ≤ a ∧ a ≤ nI T
  · obtain ⟨k, hkT, rfl⟩ := i_ex (by omega) q
    obtain ⟨c1, d1, eo, es, ⟨tc, td, o3, o4, o5, o7, o8⟩, f1, f2, g1, g7, f3, f4, h1, hs⟩ := opened (k := k) (N := n) hkT hT6 hb hn
    obtain ⟨c2, d2, ee1, ee2, hM, fc, fd, e11, e55⟩ := empty_two (N := n) (c := c1) (d := d1) (by omega)
    obtain ⟨B, y, l1, l2, hB⟩ := market_lp (n := k) (N := n) (b := b) (c := c2) (d := d2) ⟨tc.1, by rw [e11]; exact tc.2.1, fun j hj => by rw [fc.1 2 (by omega) (by omega)]; exact tc.2.2 j hj⟩ ⟨td.1, by rw [e55]; exact td.2.1, fun j hj => by rw [fd.1 56 (by omega) (by omega) (by omega) (by omega)]; exact td.2.2 j hj⟩ (by rw [e11]; exact o3) (by rw [e55]; exact o4) (by rw [e55]; exact o5) (by rw [e55]; exact o7) hM hn
    have X0 : m_X9_market n 0 (nI k) c = gok (gb2 (m_X6_readFrom n 9 1 c1) (fun (r16 : Int32) (c17 : gm) => (if r16 = 0 then some (((c17.1 1 6) - 10), c17) else gb (m_X6_copyFrom 3 9 c17) (fun (c23 : gm) => gc (gck (c23.2.2 0) = 3) (gb (m_X3_becomeUsual (c23.2.2 0) c23) (fun (c28 : gm) => gc (gck (c28.2.2 2) = 0) (gv (gm_r c28 (c28.2.2 2) (upd (c28.1 (c28.2.2 2)) 5 0)) (fun (c31 : gm) => gb (m_X5_forget 17 c31) (fun (c36 : gm) => gv (gm_r c36 0 (upd (c36.1 0) 12 0)) (fun (c37 : gm) => some ((c37.1 3 5), c37))))))))))) := by
      unfold m_X9_market; simp only [gj_e]
      rw [if_neg (i_nlt q.1), gc_1 (show gck 0 = 9 from rfl), eT1, if_neg (i_nlt q.2), gc_1 (show gck 0 = 9 from rfl), gbx_x1 (dm_1 c), gb_x eo]
    have Y0 : m_X10_market n 55 (nI k) d = (if (y.1 55 5) = 0 then gv (gm_r y 55 (upd (y.1 55) 3 (-1))) (fun (c22 : gm) => gb (m_X10_beginsAnew n 55 c22) (fun (c25 : gm) => some ((c25.1 59 (0 : Int32).toNatClampNeg), c25))) else gb2 (m_X10_ends 55 y) (fun (r31 : Int32) (c32 : gm) => some (r31, c32))) := by
      unfold m_X10_market; simp only [gj_e]
      rw [gc_1 (show gck 55 = 10 from rfl), gv_e, show gm_r d 55 (upd (d.1 55) 0 0) = dZ d from rfl, eT2, gb_x (in_1 q), if_neg (by decide), gb2_x (bd_0 z0), if_pos rfl, gb_x es, gb_x ee2, gb_x l2]
    have y0 : d2.1 55 0 = 0 := by rw [e55, hs 0 (by omega)]; exact z0
    rcases hB with ⟨c3, th', m', l', p', rfl, y5, hM3, fc3, fd3, g73⟩ | ⟨c3, rfl, fc3, fd3, kk, qq, aa, k1, k3, hqq, haa, c36, c37, y5, y6, y4⟩
    · obtain ⟨c8, y2, w1, w2, hG, hG0⟩ := market_ok (k := k) (N := n) hZ z0 (by omega) (fun i i1 i2 => by rw [fc3.1 i i1 i2, fc.1 i i1 i2, f1 i i1]) (by rw [fc3.2.1, fc.2.1, f2]) (by rw [fc3.2.2 1 (by omega), e11]; exact g1) (by rw [g73, e11]; exact g7) (fun i i1 i2 i3 i4 => by rw [fd3.1 i i1 i2 i3 i4, fd.1 i i1 i2 i3 i4, f3 i i1]) (by rw [fd3.2.2 1 (by omega), e55]; exact h1) (by rw [fd3.2.2 0 (by omega)]; exact y0) hM3
      have er : m_X6_readFrom n 9 1 c1 = some (1, c3) := by
        unfold m_X6_readFrom
        rw [gc_1 (show gck 9 = 6 from rfl), gb_x ee1, gb_x l1, gsm_e2]
      exact ans_o (r := nI th') hG hG0 (by rw [X0, gb2_x er, if_neg (by decide), w1, gok_e]) (by rw [Y0, if_pos y5, gv_e, w2])
    · have er : m_X6_readFrom n 9 1 c1 = some (0, c3) := by
        unfold m_X6_readFrom
        rw [gc_1 (show gck 9 = 6 from rfl), gb_x ee1, gb_x l1, gsm_e1]
      have y5' : ¬ y.1 55 5 = 0 := by rw [y5, n_l0, n_eq (by omega) (by decide)]; omega
      refine ans_o (r := nI kk - 10) (gRl_fm (k := k) hZ f1 f2 g1 f3 h1 hs (fmC_t fc fc3) (fmD_t fd fd3) (by rw [c37, y6])) ?_ ?_ ?_
      · rw [gr_s, up_n _ _ (by omega), fd3.2.2 0 (by omega)]; exact y0
      · rw [X0, gb2_x er, if_pos rfl, c36, gok_e]
      · rw [Y0, if_neg y5', gb2_x (ends_d y5)]
  · refine ans_i (v := 0) (d := d) hZ (by decide) ?_ ?_
    · unfold m_X9_market; simp only [gj_e]
      rcases i_or q with u | ⟨u, v⟩
      · rw [if_pos u, gc_1 (show gck 0 = 9 from rfl), gbx_x2 (dm_0 c)]
      · rw [if_neg u, gc_1 (show gck 0 = 9 from rfl), eT1, if_pos v, gc_1 (show gck 0 = 9 from rfl), gbx_x2 (dm_0 c)]
    · unfold m_X10_market; simp only [gj_e]
      rw [gc_1 (show gck 55 = 10 from rfl), gv_e, show gm_r d 55 (upd (d.1 55) 0 0) = dZ d from rfl, eT2, gb_x (in_0 q), if_pos rfl, gb2_x (bd_i z0 (by decide)), if_neg (by decide)]
